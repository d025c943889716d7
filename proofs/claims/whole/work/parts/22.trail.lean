/-! ===== Trail ===== -/
/-- the steps that can be undone: the configuration before each, and its kind -/
abbrev Hs : Type := List (Cf × Nat)
def hL (H : Hs) : List Cf := H.map Prod.fst
def kg (H : Hs) (i : Nat) : Nat := (H.getD i (cf0, 0)).2
theorem hL_len {H : Hs} : (hL H).length = H.length := List.length_map _
def RK (n : Nat) (f : Nat → Int32) (H : Hs) : Prop := ∀ i, i < n → f i = nI (kg H i)
/-- a Trail at o: its Configs at o + 1, its kinds at o + 5, its work at o + 6 -/
def RT (M : ev_M) (o : Nat) (H : Hs) : Prop := M[o]? = some (.inr (8, [.ref (o + 1), .ref (o + 5), .ref (o + 6)])) ∧ RQ M (o + 1) 20 (hL H) ∧ (∃ f, M[o + 5]? = some (.inl (0, 20, .inl f)) ∧ RK H.length f H) ∧ ∃ y, RF M (o + 6) y
theorem RT.fr {lo hi : Nat} {M M1 : ev_M} {o : Nat} {H : Hs} (hR : RT M o H) (hf : Fr lo hi M M1) (hd : o + 7 ≤ lo ∨ hi ≤ o) : RT M1 o H := by
  obtain ⟨h1, h2, ⟨f, h3, h4⟩, y, h5⟩ := hR
  exact ⟨(hf.2 o (by omega)).trans h1, h2.fr hf (by omega), ⟨f, (hf.2 _ (by omega)).trans h3, h4⟩, y, h5.fr hf (by omega)⟩
theorem kg_app_l {H R : Hs} {i : Nat} (h : i < H.length) : kg (H ++ R) i = kg H i := by
  unfold kg
  rw [List.getD_eq_getElem?_getD, List.getD_eq_getElem?_getD, List.getElem?_append_left h]
theorem kg_app_r {H : Hs} {p : Cf × Nat} : kg (H ++ [p]) H.length = p.2 := by
  unfold kg
  rw [List.getD_eq_getElem?_getD, List.getElem?_append_right (Nat.le_refl _), Nat.sub_self]; rfl
theorem kg_tail {H : Hs} {i : Nat} : kg H.tail i = kg H (i + 1) := by
  unfold kg
  rw [List.getD_eq_getElem?_getD, List.getD_eq_getElem?_getD, List.getElem?_tail]
theorem kg_dropLast {H : Hs} {i : Nat} (h : i < H.length - 1) : kg H.dropLast i = kg H i := by
  unfold kg
  rw [List.getD_eq_getElem?_getD, List.getD_eq_getElem?_getD, List.getElem?_dropLast, if_pos h]
theorem hL_tail {H : Hs} : hL H.tail = (hL H).tail := List.map_tail
theorem hL_dropLast {H : Hs} : hL H.dropLast = (hL H).dropLast := List.map_dropLast
theorem hL_app {H : Hs} {x : Cf} {k : Nat} : hL (H ++ [(x, k)]) = hL H ++ [x] := by simp [hL]
/-- a step is remembered; at most twenty -/
def rec (H : Hs) (x : Cf) (k : Nat) : Hs := (if H.length < 20 then H else H.tail) ++ [(x, k)]
/-- the first increase -/
def fi (L : List Cf) (x : Cf) : Option (Nat × Nat) := (List.range L.length).findSome? (fun k => (fb L (cg (L ++ [x]) (k + 1)) (k + 1)).map (fun i => (i, k + 1)))
def fiI (r : Option (Nat × Nat)) : Int32 := match r with
  | some p => nI (100 * p.1 + p.2)
  | none => -1
theorem fi_some {L : List Cf} {x : Cf} {i j : Nat} (h0 : 1 ≤ j) (h1 : j ≤ L.length) (h2 : fb L (cg (L ++ [x]) j) j = some i) (h3 : ∀ k, 1 ≤ k → k < j → fb L (cg (L ++ [x]) k) k = none) : fi L x = some (i, j) := by
  unfold fi
  rw [List.findSome?_eq_some_iff]
  refine ⟨List.range (j - 1), j - 1, (List.range (L.length - j)).map (· + j), ?_, ?_, ?_⟩
  · apply List.ext_getElem
    · simp; omega
    · intro n a1 a2
      simp only [List.getElem_range]
      by_cases e : n < j - 1
      · rw [List.getElem_append_left (by simpa using e)]; simp
      · by_cases e2 : n = j - 1
        · subst e2
          rw [List.getElem_append_right (by simp)]; simp
        · rw [List.getElem_append_right (by simp; omega)]
          simp only [List.length_range]
          obtain ⟨d, hd⟩ : ∃ d, n - (j - 1) = d + 1 := ⟨n - (j - 1) - 1, by omega⟩
          simp only [hd, List.getElem_cons_succ, List.getElem_map, List.getElem_range]
          omega
  · rw [show j - 1 + 1 = j by omega, h2]; rfl
  · intro k hk
    have := List.mem_range.mp hk
    rw [h3 (k + 1) (by omega) (by omega)]; rfl
theorem fi_none {L : List Cf} {x : Cf} (h3 : ∀ k, 1 ≤ k → k ≤ L.length → fb L (cg (L ++ [x]) k) k = none) : fi L x = none := by
  unfold fi
  rw [List.findSome?_eq_none_iff]
  intro k hk
  have := List.mem_range.mp hk
  rw [h3 (k + 1) (by omega) (by omega)]; rfl
set_option maxHeartbeats 4000000 in
set_option maxRecDepth 100000 in
theorem c_X8_steps {l : Launch} (hl : l.stackTraces = false) {M : ev_M} (o : Nat) (H : Hs) (hR : RT M o H) : ev_Mt l m_X8_steps [.ref (o)] M (ev_q (.inl (some (.int (nI H.length)))) M) := by
  obtain ⟨hT0, hT1, ⟨f, hT2, hK⟩, y, hT3⟩ := hR
  have eH := hL_len (H := H)
  have h20 := hT1.2.1
  refine ev_body hl rfl (by decide +kernel) (Nat.le_of_ble_eq_true rfl) ?_
  show ev_ l m_X8_steps 0 0 0 [some (.ref (o))] [] M _
  refine ev_blk (B := [(.aload_n 0, 1)]) (pe := 1) (ls' := [some (.ref (o))]) (st' := [.ref (o)]) ⟨dX8_steps_0, rfl⟩ rfl ?_
  refine ev_getf (v := .ref (o + 1)) F_RX8_14 dX8_steps_1 hT0 rfl ?_
  refine ev_cVv Y_X2_size L_RX8_31 dX8_steps_4 ⟨Nat.le_of_ble_eq_true rfl, Nat.le_of_ble_eq_true rfl, Nat.le_of_ble_eq_true rfl, Nat.le_of_ble_eq_true rfl, Nat.le_of_ble_eq_true rfl⟩ hT1.obj (as := []) rfl rfl (c_X2_size hl _ _ _ hT1) ?_
  refine ev_iret dX8_steps_7 rfl (rfl) ⟨Nat.le_of_ble_eq_true rfl, Nat.le_of_ble_eq_true rfl⟩ ?_
  exact ev_q_e (by rw [hL_len])

set_option maxHeartbeats 4000000 in
set_option maxRecDepth 100000 in
theorem c_X8_forget {l : Launch} (hl : l.stackTraces = false) {M : ev_M} (o : Nat) (H : Hs) (hR : RT M o H) : ev_Mt l m_X8_forget [.ref (o)] M (fun r M1 => r = .inl none ∧ RT M1 o [] ∧ Fr o (o + 7) M M1) := by
  obtain ⟨hT0, hT1, ⟨f, hT2, hK⟩, y, hT3⟩ := hR
  have eH := hL_len (H := H)
  have h20 := hT1.2.1
  refine ev_body hl rfl (by decide +kernel) (Nat.le_of_ble_eq_true rfl) ?_
  show ev_ l m_X8_forget 0 0 0 [some (.ref (o))] [] M _
  refine ev_blk (B := [(.aload_n 0, 1)]) (pe := 1) (ls' := [some (.ref (o))]) (st' := [.ref (o)]) ⟨dX8_forget_0, rfl⟩ rfl ?_
  refine ev_getf (v := .ref (o + 1)) F_RX8_14 dX8_forget_1 hT0 rfl ?_
  refine ev_cVn Y_X2_removeAll L_RX8_35 dX8_forget_4 ⟨Nat.le_of_ble_eq_true rfl, Nat.le_of_ble_eq_true rfl, Nat.le_of_ble_eq_true rfl, Nat.le_of_ble_eq_true rfl, Nat.le_of_ble_eq_true rfl⟩ hT1.obj (as := []) rfl rfl (c_X2_removeAll hl _ _ _ hT1) (fun M1 hL1 hB1 => ?_)
  obtain ⟨hB1, hB2⟩ := hB1
  refine ev_vret dX8_forget_7 rfl ⟨Nat.le_of_ble_eq_true rfl, Nat.le_of_ble_eq_true rfl⟩ ?_
  exact ⟨rfl, ⟨(hB2.2 o (by omega)).trans hT0, hB1, ⟨f, (hB2.2 _ (by omega)).trans hT2, fun i hi => absurd hi (Nat.not_lt_zero _)⟩, y, hT3.fr hB2 (by omega)⟩, hB2.to (by omega) (by omega)⟩

set_option maxHeartbeats 4000000 in
set_option maxRecDepth 100000 in
theorem c_X8_dropOldest_l {l : Launch}   (M0 : ev_M) (o : Nat) (g : Nat → Int32) : ∀ (n9 : Nat) (p : Nat) (M : ev_M) (f : Nat → Int32), 1 ≤ p → p ≤ 20 → M[o]? = some (.inr (8, [.ref (o + 1), .ref (o + 5), .ref (o + 6)])) → M[o + 5]? = some (.inl (0, 20, .inl f)) → Fr (o + 5) (o + 6) M0 M → (∀ j, j < p - 1 → f j = g (j + 1)) → (∀ j, p - 1 ≤ j → f j = g j) → 20 - p < n9 → ev_ l m_X8_dropOldest 0 0 9 [some (.ref (o)), some (.int (nI p))] [] M (fun r M1 => r = .inl none ∧ (∃ f1, M1[o + 5]? = some (.inl (0, 20, .inl f1)) ∧ ∀ j, j < 19 → f1 j = g (j + 1)) ∧ Fr (o + 5) (o + 6) M0 M1) := by
  intro n9
  induction n9 with
  | zero => intro p M f hp1 hp hT0 hT2 hFr ha hb hm9; exact absurd hm9 (by omega)
  | succ n9 ih =>
    intro p M f hp1 hp hT0 hT2 hFr ha hb hm9
    refine ev_blk (B := [(.iload_n 1, 1), (.aload_n 0, 1)]) (pe := 11) (ls' := [some (.ref (o)), some (.int (nI p))]) (st' := [.ref (o), .int (nI p)]) ⟨dX8_dropOldest_9, dX8_dropOldest_10, rfl⟩ rfl ?_
    refine ev_getf (v := .ref (o + 5)) F_RX8_20 dX8_dropOldest_11 hT0 rfl ?_
    refine ev_alen (v := nI (20)) dX8_dropOldest_14 hT2 (by decide) rfl ?_
    refine ev_iN_ge dX8_dropOldest_15 (tgt := 38) (by decide) (by omega) (by omega) (fun q15 => ?_) (fun q15 => ?_)
    · refine ev_vret dX8_dropOldest_38 rfl ⟨Nat.le_of_ble_eq_true rfl, Nat.le_of_ble_eq_true rfl⟩ ?_
      exact ⟨rfl, ⟨f, hT2, fun j hj => ha j (by omega)⟩, hFr⟩
    · refine ev_blk (B := [(.aload_n 0, 1)]) (pe := 19) (ls' := [some (.ref (o)), some (.int (nI p))]) (st' := [.ref (o)]) ⟨dX8_dropOldest_18, rfl⟩ rfl ?_
      refine ev_getf (v := .ref (o + 5)) F_RX8_20 dX8_dropOldest_19 hT0 rfl ?_
      refine ev_blk (B := [(.iload_n 1, 1), (.iconst 1, 1), (.isub, 1), (.aload_n 0, 1)]) (pe := 26) (ls' := [some (.ref (o)), some (.int (nI p))]) (st' := [.ref (o), .int (nI (p - 1)), .ref (o + 5)]) ⟨dX8_dropOldest_22, dX8_dropOldest_23, dX8_dropOldest_24, dX8_dropOldest_25, rfl⟩ (by show some (([some (.ref (o)), some (.int (nI p))] : ev_L), ([.ref (o), .int ((nI p) - (nI 1)), .ref (o + 5)] : List Value)) = _; rw [pk_sub (show 1 ≤ p by omega)]) ?_
      refine ev_getf (v := .ref (o + 5)) F_RX8_20 dX8_dropOldest_26 hT0 rfl ?_
      refine ev_blk (B := [(.iload_n 1, 1)]) (pe := 30) (ls' := [some (.ref (o)), some (.int (nI p))]) (st' := [.int (nI p), .ref (o + 5), .int (nI (p - 1)), .ref (o + 5)]) ⟨dX8_dropOldest_29, rfl⟩ rfl ?_
      refine ev_iald dX8_dropOldest_30 hT2 (vp_in_nI (show p < 20 by omega) (by omega)) ?_
      rw [nI_clamp (show p < 2 ^ 31 by omega)]
      refine ev_iast dX8_dropOldest_31 hT2 (vp_in_nI (show p - 1 < 20 by omega) (by omega)) ?_
      rw [nI_clamp (show p - 1 < 2 ^ 31 by omega)]
      refine ev_nm (M0 := M.set (o + 5) (.inl (0, 20, .inl (upd f (p - 1) (f p))))) (fun M1 eM1 => ?_)
      have f2 : M1[o]? = some (.inr (8, [.ref (o + 1), .ref (o + 5), .ref (o + 6)])) := by rw [eM1, ev_sn (by omega)]; exact hT0
      have f3 : M1[o + 5]? = some (.inl (0, 20, .inl (upd f (p - 1) (f p)))) := by rw [eM1]; exact ev_sg hT2
      refine ev_blk (B := [(.iinc 1 1, 3)]) (pe := 35) (ls' := [some (.ref (o)), some (.int (nI (p + 1)))]) (st' := []) ⟨dX8_dropOldest_32, rfl⟩ (by show some (([some (.ref (o)), some (.int ((nI p) + Int32.ofInt (1)))] : ev_L), ([] : List Value)) = _; rw [ev_inc1 p]) ?_
      refine ev_goto (tgt := 9) dX8_dropOldest_35 (by decide) ?_
      refine ih (p + 1) _ _ (by omega) (by omega) f2 f3 (hFr.tr ⟨by rw [eM1]; simp only [List.length_set], fun j hj => by rw [eM1, ev_sn (by omega)]⟩) (fun j hj => ?_) (fun j hj => ?_) (by omega)
      · rw [upd_at]
        by_cases e : j = p - 1
        · subst e; rw [if_pos rfl, show p - 1 + 1 = p by omega]; exact hb p (by omega)
        · rw [if_neg e]; exact ha j (by omega)
      · rw [upd_at, if_neg (by omega)]; exact hb j (by omega)

theorem ev_mono {l : Launch} {mi : ev_MI} {kc ks pc : Nat} {ls : ev_L} {st : List Value} {M : ev_M} {P Q : ev_R → ev_M → Prop} (h : ∀ r M', P r M' → Q r M') (k : ev_ l mi kc ks pc ls st M P) : ev_ l mi kc ks pc ls st M Q := by
  intro p e s m args below meth c D ad0 ad ax cA A H locs lsA L0 hC hS hA hL ha hP hD hK hX hM hO hOL hl hn T hT X
  obtain ⟨t, a1, o, b1, b2, b3⟩ := k p e s m args below meth c D ad0 ad ax cA A H locs lsA L0 hC hS hA hL ha hP hD hK hX hM hO hOL hl hn T hT X
  refine ⟨t, a1, o, b1, b2, ?_⟩
  rcases b3 with ⟨⟨⟨r, M', ad', a1, a2, a3, a4, a5⟩, hF⟩, hL⟩ | ⟨q, hq, E, ce, L, ⟨⟨r, M', ad', a1, a2, a3, a4, a5⟩, hF⟩, b⟩
  · exact Or.inl ⟨⟨⟨r, M', ad', a1, a2, a3, h _ _ a4, a5⟩, hF⟩, hL⟩
  · exact Or.inr ⟨q, hq, E, ce, L, ⟨⟨r, M', ad', a1, a2, a3, h _ _ a4, a5⟩, hF⟩, b⟩
set_option maxHeartbeats 4000000 in
set_option maxRecDepth 100000 in
theorem c_X8_dropOldest {l : Launch} (hl : l.stackTraces = false) {M : ev_M} (o : Nat) (H : Hs) (hR : RT M o H) (hne : 0 < H.length) : ev_Mt l m_X8_dropOldest [.ref (o)] M (fun r M1 => r = .inl none ∧ RT M1 o H.tail ∧ Fr o (o + 7) M M1) := by
  obtain ⟨hT0, hT1, ⟨f, hT2, hK⟩, y, hT3⟩ := hR
  have eH := hL_len (H := H)
  have h20 := hT1.2.1
  refine ev_body hl rfl (by decide +kernel) (Nat.le_of_ble_eq_true rfl) ?_
  show ev_ l m_X8_dropOldest 0 0 0 [some (.ref (o)), none] [] M _
  refine ev_blk (B := [(.aload_n 0, 1)]) (pe := 1) (ls' := [some (.ref (o)), none]) (st' := [.ref (o)]) ⟨dX8_dropOldest_0, rfl⟩ rfl ?_
  refine ev_getf (v := .ref (o + 1)) F_RX8_14 dX8_dropOldest_1 hT0 rfl ?_
  refine ev_cVn Y_X2_removeFirst L_RX8_59 dX8_dropOldest_4 ⟨Nat.le_of_ble_eq_true rfl, Nat.le_of_ble_eq_true rfl, Nat.le_of_ble_eq_true rfl, Nat.le_of_ble_eq_true rfl, Nat.le_of_ble_eq_true rfl⟩ hT1.obj (as := []) rfl rfl (c_X2_removeFirst hl _ _ _ hT1 (by omega)) (fun M1 hL1 hB1 => ?_)
  obtain ⟨hB1, hB2⟩ := hB1
  have hU0 := (hB2.2 o (by omega)).trans hT0
  have hU2 := (hB2.2 (o + 5) (by omega)).trans hT2
  have hU3 := hT3.fr hB2 (by omega)
  refine ev_blk (B := [(.iconst 1, 1), (.istore_n 1, 1)]) (pe := 9) (ls' := [some (.ref (o)), some (.int (nI 1))]) (st' := []) ⟨dX8_dropOldest_7, dX8_dropOldest_8, rfl⟩ rfl ?_
  refine ev_mono ?_ (c_X8_dropOldest_l M1 o f _ 1 M1 f (by omega) (by omega) hU0 hU2 Fr.rf (fun j hj => absurd hj (by omega)) (fun j _ => rfl) (Nat.lt_succ_self _))
  intro r M9 ⟨e1, ⟨f1, e2, e3⟩, e4⟩
  refine ⟨e1, ⟨(e4.2 o (by omega)).trans hU0, by rw [hL_tail]; exact hB1.fr e4 (by omega), ⟨f1, e2, fun i hi => ?_⟩, y, hU3.fr e4 (by omega)⟩, (hB2.to (by omega) (by omega)).tr (e4.to (by omega) (by omega))⟩
  rw [List.length_tail] at hi
  rw [e3 i (by omega), kg_tail]
  exact hK _ (by omega)

set_option maxHeartbeats 4000000 in
set_option maxRecDepth 100000 in
theorem c_X8_takeBack {l : Launch} (hl : l.stackTraces = false) {M : ev_M} (o : Nat) (H : Hs) (hR : RT M o H) (hne : 0 < H.length) (c : Nat) (x : Cf) (hF : RF M c x) (hco : c < o ∨ o + 7 ≤ c) : ev_Mt l m_X8_takeBack [.ref (o), .ref (c)] M (fun r M1 => r = .inl (some (.int (nI (kg H (H.length - 1))))) ∧ RT M1 o H.dropLast ∧ RF M1 c (cg (hL H) (H.length - 1)) ∧ ∀ j, (j < o ∨ o + 7 ≤ j) → j ≠ c → M1[j]? = M[j]?) := by
  obtain ⟨hT0, hT1, ⟨f, hT2, hK⟩, y, hT3⟩ := hR
  have eH := hL_len (H := H)
  have h20 := hT1.2.1
  refine ev_body hl rfl (by decide +kernel) (Nat.le_of_ble_eq_true rfl) ?_
  show ev_ l m_X8_takeBack 0 0 0 [some (.ref (o)), some (.ref (c)), none] [] M _
  refine ev_blk (B := [(.aload_n 0, 1)]) (pe := 1) (ls' := [some (.ref (o)), some (.ref (c)), none]) (st' := [.ref (o)]) ⟨dX8_takeBack_0, rfl⟩ rfl ?_
  refine ev_getf (v := .ref (o + 1)) F_RX8_14 dX8_takeBack_1 hT0 rfl ?_
  refine ev_cVv Y_X2_size L_RX8_31 dX8_takeBack_4 ⟨Nat.le_of_ble_eq_true rfl, Nat.le_of_ble_eq_true rfl, Nat.le_of_ble_eq_true rfl, Nat.le_of_ble_eq_true rfl, Nat.le_of_ble_eq_true rfl⟩ hT1.obj (as := []) rfl rfl (c_X2_size hl _ _ _ hT1) ?_
  refine ev_blk (B := [(.iconst 1, 1), (.isub, 1), (.istore_n 2, 1), (.iload_n 2, 1)]) (pe := 11) (ls' := [some (.ref (o)), some (.ref (c)), some (.int (nI (((hL H).length) - 1)))]) (st' := [.int (nI (((hL H).length) - 1))]) ⟨dX8_takeBack_7, dX8_takeBack_8, dX8_takeBack_9, dX8_takeBack_10, rfl⟩ (by show some (([some (.ref (o)), some (.ref (c)), some (.int ((nI ((hL H).length)) - (nI 1)))] : ev_L), ([.int ((nI ((hL H).length)) - (nI 1))] : List Value)) = _; rw [pk_sub (show 1 ≤ ((hL H).length) by omega)]) ?_
  refine ev_fN_lt dX8_takeBack_11 (tgt := 23) (by decide) (by omega) ?_
  refine ev_blk (B := [(.iload_n 2, 1), (.aload_n 0, 1)]) (pe := 16) (ls' := [some (.ref (o)), some (.ref (c)), some (.int (nI (((hL H).length) - 1)))]) (st' := [.ref (o), .int (nI (((hL H).length) - 1))]) ⟨dX8_takeBack_14, dX8_takeBack_15, rfl⟩ rfl ?_
  refine ev_getf (v := .ref (o + 5)) F_RX8_20 dX8_takeBack_16 hT0 rfl ?_
  refine ev_alen (v := nI (20)) dX8_takeBack_19 hT2 (by decide) rfl ?_
  refine ev_iN_lt dX8_takeBack_20 (tgt := 25) (by decide) (by omega) (by omega) (fun q20 => ?_) (fun q20 => ?_)
  · refine ev_blk (B := [(.aload_n 0, 1)]) (pe := 26) (ls' := [some (.ref (o)), some (.ref (c)), some (.int (nI (((hL H).length) - 1)))]) (st' := [.ref (o)]) ⟨dX8_takeBack_25, rfl⟩ rfl ?_
    refine ev_getf (v := .ref (o + 1)) F_RX8_14 dX8_takeBack_26 hT0 rfl ?_
    refine ev_blk (B := [(.iload_n 2, 1), (.aload_n 1, 1)]) (pe := 31) (ls' := [some (.ref (o)), some (.ref (c)), some (.int (nI (((hL H).length) - 1)))]) (st' := [.ref (c), .int (nI (((hL H).length) - 1)), .ref (o + 1)]) ⟨dX8_takeBack_29, dX8_takeBack_30, rfl⟩ rfl ?_
    refine ev_cVn Y_X2_load L_RX8_45 dX8_takeBack_31 ⟨Nat.le_of_ble_eq_true rfl, Nat.le_of_ble_eq_true rfl, Nat.le_of_ble_eq_true rfl, Nat.le_of_ble_eq_true rfl, Nat.le_of_ble_eq_true rfl⟩ hT1.obj (as := [.int (nI (((hL H).length) - 1)), .ref (c)]) rfl rfl (c_X2_load hl _ _ _ hT1 (((hL H).length) - 1) (by omega) _ _ hF (by omega) (by omega)) (fun M1 hL1 hB1 => ?_)
    obtain ⟨hB1, hB2⟩ := hB1
    have hU0 := (hB2.2 o (by omega)).trans hT0
    have hU1 := hT1.fr hB2 (by omega)
    have hU2 := (hB2.2 (o + 5) (by omega)).trans hT2
    have hU3 := hT3.fr hB2 (by omega)
    refine ev_blk (B := [(.aload_n 0, 1)]) (pe := 35) (ls' := [some (.ref (o)), some (.ref (c)), some (.int (nI (((hL H).length) - 1)))]) (st' := [.ref (o)]) ⟨dX8_takeBack_34, rfl⟩ rfl ?_
    refine ev_getf (v := .ref (o + 1)) F_RX8_14 dX8_takeBack_35 hU0 rfl ?_
    refine ev_cVn Y_X2_removeLast L_RX8_49 dX8_takeBack_38 ⟨Nat.le_of_ble_eq_true rfl, Nat.le_of_ble_eq_true rfl, Nat.le_of_ble_eq_true rfl, Nat.le_of_ble_eq_true rfl, Nat.le_of_ble_eq_true rfl⟩ hU1.obj (as := []) rfl rfl (c_X2_removeLast hl _ _ _ hU1 (by omega)) (fun M2 hL2 hB2 => ?_)
    obtain ⟨hC1, hC2⟩ := hB2
    have hV0 := (hC2.2 o (by omega)).trans hU0
    have hV2 := (hC2.2 (o + 5) (by omega)).trans hU2
    have hV3 := hU3.fr hC2 (by omega)
    refine ev_blk (B := [(.aload_n 0, 1)]) (pe := 42) (ls' := [some (.ref (o)), some (.ref (c)), some (.int (nI (((hL H).length) - 1)))]) (st' := [.ref (o)]) ⟨dX8_takeBack_41, rfl⟩ rfl ?_
    refine ev_getf (v := .ref (o + 5)) F_RX8_20 dX8_takeBack_42 hV0 rfl ?_
    refine ev_blk (B := [(.iload_n 2, 1)]) (pe := 46) (ls' := [some (.ref (o)), some (.ref (c)), some (.int (nI (((hL H).length) - 1)))]) (st' := [.int (nI (((hL H).length) - 1)), .ref (o + 5)]) ⟨dX8_takeBack_45, rfl⟩ rfl ?_
    refine ev_iald dX8_takeBack_46 hV2 (vp_in_nI (show ((hL H).length) - 1 < 20 by omega) (by omega)) ?_
    rw [nI_clamp (show ((hL H).length) - 1 < 2 ^ 31 by omega)]
    rw [show f (((hL H).length) - 1) = nI (kg H (H.length - 1)) from by rw [show (hL H).length - 1 = H.length - 1 by omega]; exact hK _ (by omega)]
    refine ev_iret dX8_takeBack_47 rfl (rfl) ⟨Nat.le_of_ble_eq_true rfl, Nat.le_of_ble_eq_true rfl⟩ ?_
    refine ⟨rfl, ⟨hV0, by rw [hL_dropLast]; exact hC1, ⟨f, hV2, fun i hi => ?_⟩, y, hV3⟩, ?_, fun j hj hc => ?_⟩
    · rw [List.length_dropLast] at hi
      rw [kg_dropLast hi]; exact hK i (by omega)
    · rw [show H.length - 1 = (hL H).length - 1 by omega]; exact hB1.fr hC2 (by omega)
    · rw [hC2.2 j (by omega), hB2.2 j (by omega)]
  · exfalso; omega

