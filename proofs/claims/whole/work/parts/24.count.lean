/-! ===== Counting ===== -/
def em (u v : List Nat) : Nat → Nat → Nat
  | 0, k => if k = 0 then 1 else 0
  | i + 1, k => em u v i k + (if k ≠ 0 ∧ v.getD i 3 = u.getD (k - 1) 4 then em u v i (k - 1) else 0)
def lcR (u v : List Nat) (pr : Nat → Nat) (i : Nat) : Nat → Nat
  | 0 => 0
  | j + 1 => if u.getD i 3 = v.getD j 3 then pr j + 1 else max (pr (j + 1)) (lcR u v pr i j)
def lc (u v : List Nat) : Nat → Nat → Nat
  | 0 => fun _ => 0
  | i + 1 => lcR u v (lc u v i) i
theorem lc_s (u v : List Nat) (i j : Nat) : lc u v (i + 1) (j + 1) = if u.getD i 3 = v.getD j 3 then lc u v i j + 1 else max (lc u v i (j + 1)) (lc u v (i + 1) j) := rfl
theorem lc_0 (u v : List Nat) (i : Nat) : lc u v i 0 = 0 := by cases i <;> rfl
def sw (w : List Nat) : Nat → Nat → Nat
  | 0, _ => 0
  | i + 1, x => if w.getD i 3 = x then 1 + sw w i 0 + sw w i 1 + sw w i 2 else sw w i x
def RGf (M : ev_M) (o : Nat) (f : Nat → Int32) : Prop := M[o]? = some (.inr (3, [.ref (o + 1)])) ∧ M[o + 1]? = some (.inl (0, 11, .inl f))
/-- a Counting at o -/
def RG (M : ev_M) (o : Nat) : Prop := ∃ f, RGf M o f
theorem RG.fr {lo hi : Nat} {M M1 : ev_M} {o : Nat} (hR : RG M o) (hf : Fr lo hi M M1) (hd : o + 2 ≤ lo ∨ hi ≤ o) : RG M1 o := by
  obtain ⟨f, h1, h2⟩ := hR
  exact ⟨f, (hf.2 o (by omega)).trans h1, (hf.2 _ (by omega)).trans h2⟩
theorem gd4 {w : List Nat} {i : Nat} (h : i < w.length) : w.getD i 4 = w[i] := by
  rw [List.getD_eq_getElem?_getD, List.getElem?_eq_getElem h]; rfl
theorem mn10 {n : Nat} (h : n ≤ 10) : (if nI 10 < nI n then nI 10 else nI n) = nI n := if_neg (fun q => by have := (nI_ltI (by decide) (by omega)).mp q; omega)
theorem mxN {a b : Nat} (ha : a < 2 ^ 31) (hb : b < 2 ^ 31) : (if nI a < nI b then nI b else nI a) = nI (max a b) := by
  by_cases h : a < b
  · rw [if_pos ((nI_ltI ha hb).mpr h), Nat.max_eq_right (by omega)]
  · rw [if_neg (fun q => h ((nI_ltI ha hb).mp q)), Nat.max_eq_left (by omega)]
theorem em0 {f1 : Nat → Int32} (hz : ∀ j, j < 11 → f1 j = nI 0) {k n : Nat} (hk : k ≤ n) (hn : n ≤ 10) {u v : List Nat} : upd f1 0 (nI 1) k = nI (em u v 0 k) := by
  rw [upd_at]
  show _ = nI (if k = 0 then 1 else 0)
  by_cases e : k = 0
  · rw [if_pos e, if_pos e]
  · rw [if_neg e, if_neg e]; exact hz k (by omega)
theorem lc_le (u v : List Nat) : ∀ i j, lc u v i j ≤ i := by
  intro i
  induction i with
  | zero => intro j; exact Nat.zero_le _
  | succ i ih =>
    intro j
    induction j with
    | zero => exact Nat.zero_le _
    | succ j ihj =>
      rw [lc_s]
      split
      · have := ih j; omega
      · have := ih (j + 1); omega
set_option maxHeartbeats 4000000 in
set_option maxRecDepth 100000 in
theorem c_X3_empty_l {l : Launch}   (M0 : ev_M) (o : Nat) : ∀ (n9 : Nat) (i : Nat) (M : ev_M) (f : Nat → Int32), i ≤ 11 → RGf M o f → Fr (o + 1) (o + 2) M0 M → (∀ j, j < i → f j = nI 0) → 11 - i < n9 → ev_ l m_X3_empty 0 0 2 [some (.ref (o)), some (.int (nI i))] [] M (fun r M1 => r = .inl none ∧ (∃ f, RGf M1 o f ∧ ∀ j, j < 11 → f j = nI 0) ∧ Fr (o + 1) (o + 2) M0 M1) := by
  intro n9
  induction n9 with
  | zero => intro i M f hi hG hFr ha hm9; exact absurd hm9 (by omega)
  | succ n9 ih =>
    intro i M f hi hG hFr ha hm9
    obtain ⟨hA0, hA1⟩ := hG
    refine ev_blk (B := [(.iload_n 1, 1), (.aload_n 0, 1)]) (pe := 4) (ls' := [some (.ref (o)), some (.int (nI i))]) (st' := [.ref (o), .int (nI i)]) ⟨dX3_empty_2, dX3_empty_3, rfl⟩ rfl ?_
    refine ev_getf (v := .ref (o + 1)) F_RX3_9 dX3_empty_4 hA0 rfl ?_
    refine ev_alen (v := nI (11)) dX3_empty_7 hA1 (by decide) rfl ?_
    refine ev_iN_ge dX3_empty_8 (tgt := 24) (by decide) (by omega) (by omega) (fun q8 => ?_) (fun q8 => ?_)
    · refine ev_vret dX3_empty_24 rfl ⟨Nat.le_of_ble_eq_true rfl, Nat.le_of_ble_eq_true rfl⟩ ?_
      exact ⟨rfl, ⟨f, ⟨hA0, hA1⟩, fun j hj => ha j (by omega)⟩, hFr⟩
    · refine ev_blk (B := [(.aload_n 0, 1)]) (pe := 12) (ls' := [some (.ref (o)), some (.int (nI i))]) (st' := [.ref (o)]) ⟨dX3_empty_11, rfl⟩ rfl ?_
      refine ev_getf (v := .ref (o + 1)) F_RX3_9 dX3_empty_12 hA0 rfl ?_
      refine ev_blk (B := [(.iload_n 1, 1), (.iconst 0, 1)]) (pe := 17) (ls' := [some (.ref (o)), some (.int (nI i))]) (st' := [.int (nI 0), .int (nI i), .ref (o + 1)]) ⟨dX3_empty_15, dX3_empty_16, rfl⟩ rfl ?_
      refine ev_iast dX3_empty_17 hA1 (vp_in_nI (show i < 11 by omega) (by omega)) ?_
      rw [nI_clamp (show i < 2 ^ 31 by omega)]
      refine ev_nm (M0 := M.set (o + 1) (.inl (0, 11, .inl (upd f i (nI 0))))) (fun M1 eM1 => ?_)
      have f2 : M1[o]? = some (.inr (3, [.ref (o + 1)])) := by rw [eM1, ev_sn (by omega)]; exact hA0
      have f3 : M1[o + 1]? = some (.inl (0, 11, .inl (upd f i (nI 0)))) := by rw [eM1]; exact ev_sg hA1
      refine ev_blk (B := [(.iinc 1 1, 3)]) (pe := 21) (ls' := [some (.ref (o)), some (.int (nI (i + 1)))]) (st' := []) ⟨dX3_empty_18, rfl⟩ (by show some (([some (.ref (o)), some (.int ((nI i) + Int32.ofInt (1)))] : ev_L), ([] : List Value)) = _; rw [ev_inc1 i]) ?_
      refine ev_goto (tgt := 2) dX3_empty_21 (by decide) ?_
      refine ih (i + 1) _ _ (by omega) ⟨f2, f3⟩ (hFr.tr ⟨by rw [eM1]; simp only [List.length_set], fun j hj => by rw [eM1, ev_sn (by omega)]⟩) (fun j hj => ?_) (by omega)
      rw [upd_at]
      by_cases e : j = i
      · subst e; rw [if_pos rfl]
      · rw [if_neg e]; exact ha j (by omega)

set_option maxHeartbeats 4000000 in
set_option maxRecDepth 100000 in
theorem c_X3_empty {l : Launch} (hl : l.stackTraces = false) {M : ev_M} (o : Nat) (hG : RG M o) : ev_Mt l m_X3_empty [.ref (o)] M (fun r M1 => r = .inl none ∧ (∃ f, RGf M1 o f ∧ ∀ j, j < 11 → f j = nI 0) ∧ Fr (o + 1) (o + 2) M M1) := by
  obtain ⟨f, hG⟩ := hG
  refine ev_body hl rfl (by decide +kernel) (Nat.le_of_ble_eq_true rfl) ?_
  show ev_ l m_X3_empty 0 0 0 [some (.ref (o)), none] [] M _
  refine ev_blk (B := [(.iconst 0, 1), (.istore_n 1, 1)]) (pe := 2) (ls' := [some (.ref (o)), some (.int (nI 0))]) (st' := []) ⟨dX3_empty_0, dX3_empty_1, rfl⟩ rfl ?_
  exact c_X3_empty_l M o _ 0 M f (by omega) hG Fr.rf (fun j hj => absurd hj (Nat.not_lt_zero _)) (Nat.lt_succ_self _)

set_option maxHeartbeats 4000000 in
set_option maxRecDepth 100000 in
theorem c_X3_places_i {l : Launch} (hl : l.stackTraces = false)  (o : Nat) (u : List Nat) (hu : wk u) (hun : u.length ≤ 10) (v : List Nat) (hv : wk v) (hvn : v.length ≤ 10) (M0 : ev_M) (i : Nat) (hi : i < v.length) (Q : ev_R → ev_M → Prop) (hk : ∀ (M : ev_M) (f : Nat → Int32) (j : Nat), RGf M o f → Fr (o + 1) (o + 2) M0 M → (∀ k, k ≤ u.length → f k = nI (em u v (i + 1) k)) → ev_ l m_X3_places 0 0 86 [some (.ref o), some (.long (e1 u)), none, some (.long (e1 v)), none, some (.int (nI u.length)), some (.int (nI i)), some (.int (nI j))] [] M Q) : ∀ (n9 : Nat) (j : Nat) (M : ev_M) (f : Nat → Int32), j ≤ u.length → RGf M o f → Fr (o + 1) (o + 2) M0 M → (∀ k, k ≤ j → f k = nI (em u v i k)) → (∀ k, j < k → k ≤ u.length → f k = nI (em u v (i + 1) k)) → j < n9 → ev_ l m_X3_places 0 0 38 [some (.ref (o)), some (.long (e1 u)), none, some (.long (e1 v)), none, some (.int (nI (u.length))), some (.int (nI i)), some (.int (nI j))] [] M (Q) := by
  intro n9
  induction n9 with
  | zero => intro j M f hj hG hFr ha hb hm9; exact absurd hm9 (by omega)
  | succ n9 ih =>
    intro j M f hj hG hFr ha hb hm9
    obtain ⟨hA0, hA1⟩ := hG
    refine ev_blk (B := [(.iload 7, 2), (.iconst 1, 1)]) (pe := 41) (ls' := [some (.ref (o)), some (.long (e1 u)), none, some (.long (e1 v)), none, some (.int (nI (u.length))), some (.int (nI i)), some (.int (nI j))]) (st' := [.int (nI 1), .int (nI j)]) ⟨dX3_places_38, dX3_places_40, rfl⟩ rfl ?_
    refine ev_iN_lt dX3_places_41 (tgt := 86) (by decide) (by first | omega | (have := hu _ (List.getElem_mem (show j - 1 < u.length by omega)); omega) | (have := hv _ (List.getElem_mem hi); omega)) (by first | omega | (have := hu _ (List.getElem_mem (show j - 1 < u.length by omega)); omega) | (have := hv _ (List.getElem_mem hi); omega)) (fun q41 => ?_) (fun q41 => ?_)
    · exact hk M f j ⟨hA0, hA1⟩ hFr (fun k hk9 => by
        by_cases e : k = 0
        · subst e; rw [ha 0 (by omega)]; show _ = nI (em u v i 0 + _); rw [if_neg (fun q => q.1 rfl), Nat.add_zero]
        · exact hb k (by omega) hk9)
    · refine ev_blk (B := [(.lload_n 3, 1), (.iload 6, 2)]) (pe := 47) (ls' := [some (.ref (o)), some (.long (e1 u)), none, some (.long (e1 v)), none, some (.int (nI (u.length))), some (.int (nI i)), some (.int (nI j))]) (st' := [.int (nI i), .long (e1 v)]) ⟨dX3_places_44, dX3_places_45, rfl⟩ rfl ?_
      refine ev_cSv Y_X9_at L_RX3_30 dX3_places_47 ⟨Nat.le_of_ble_eq_true rfl, Nat.le_of_ble_eq_true rfl, Nat.le_of_ble_eq_true rfl, Nat.le_of_ble_eq_true rfl, Nat.le_of_ble_eq_true rfl⟩ (as := [.long (e1 v), .int (nI i)]) rfl rfl (c_X9_at hl v hv (by omega) (i) (by omega)) ?_
      refine ev_blk (B := [(.lload_n 1, 1), (.iload 7, 2), (.iconst 1, 1), (.isub, 1)]) (pe := 55) (ls' := [some (.ref (o)), some (.long (e1 u)), none, some (.long (e1 v)), none, some (.int (nI (u.length))), some (.int (nI i)), some (.int (nI j))]) (st' := [.int (nI (j - 1)), .long (e1 u), .int (nI (v[i]))]) ⟨dX3_places_50, dX3_places_51, dX3_places_53, dX3_places_54, rfl⟩ (by show some (([some (.ref (o)), some (.long (e1 u)), none, some (.long (e1 v)), none, some (.int (nI (u.length))), some (.int (nI i)), some (.int (nI j))] : ev_L), ([.int ((nI j) - (nI 1)), .long (e1 u), .int (nI (v[i]))] : List Value)) = _; rw [pk_sub (show 1 ≤ j by omega)]) ?_
      refine ev_cSv Y_X9_at L_RX3_30 dX3_places_55 ⟨Nat.le_of_ble_eq_true rfl, Nat.le_of_ble_eq_true rfl, Nat.le_of_ble_eq_true rfl, Nat.le_of_ble_eq_true rfl, Nat.le_of_ble_eq_true rfl⟩ (as := [.long (e1 u), .int (nI (j - 1))]) rfl rfl (c_X9_at hl u hu (by omega) (j - 1) (by omega)) ?_
      refine ev_iN_ne dX3_places_58 (tgt := 80) (by decide) (by first | omega | (have := hu _ (List.getElem_mem (show j - 1 < u.length by omega)); omega) | (have := hv _ (List.getElem_mem hi); omega)) (by first | omega | (have := hu _ (List.getElem_mem (show j - 1 < u.length by omega)); omega) | (have := hv _ (List.getElem_mem hi); omega)) (fun q58 => ?_) (fun q58 => ?_)
      · refine ev_blk (B := [(.iinc 7 (-1), 3)]) (pe := 83) (ls' := [some (.ref (o)), some (.long (e1 u)), none, some (.long (e1 v)), none, some (.int (nI (u.length))), some (.int (nI i)), some (.int (nI (j - 1)))]) (st' := []) ⟨dX3_places_80, rfl⟩ (by show some (([some (.ref (o)), some (.long (e1 u)), none, some (.long (e1 v)), none, some (.int (nI (u.length))), some (.int (nI i)), some (.int ((nI j) + Int32.ofInt (-1)))] : ev_L), ([] : List Value)) = _; rw [ev_incm (show 0 < j by omega)]) ?_
        refine ev_goto (tgt := 38) dX3_places_83 (by decide) ?_
        refine ih (j - 1) M f (by omega) ⟨hA0, hA1⟩ hFr (fun k h1 => ha k (by omega)) (fun k h1 h2 => ?_) (by omega)
        by_cases e : k = j
        · subst e
          show _ = nI (em u v i k + _)
          rw [if_neg (fun q => q58 (by have := q.2; rwa [gd3 (by omega), gd4 (by omega)] at this)), Nat.add_zero]
          exact ha k (Nat.le_refl _)
        · exact hb k (by omega) h2
      · refine ev_blk (B := [(.aload_n 0, 1)]) (pe := 62) (ls' := [some (.ref (o)), some (.long (e1 u)), none, some (.long (e1 v)), none, some (.int (nI (u.length))), some (.int (nI i)), some (.int (nI j))]) (st' := [.ref (o)]) ⟨dX3_places_61, rfl⟩ rfl ?_
        refine ev_getf (v := .ref (o + 1)) F_RX3_9 dX3_places_62 hA0 rfl ?_
        refine ev_blk (B := [(.iload 7, 2), (.dup2, 1)]) (pe := 68) (ls' := [some (.ref (o)), some (.long (e1 u)), none, some (.long (e1 v)), none, some (.int (nI (u.length))), some (.int (nI i)), some (.int (nI j))]) (st' := [.int (nI j), .ref (o + 1), .int (nI j), .ref (o + 1)]) ⟨dX3_places_65, dX3_places_67, rfl⟩ rfl ?_
        refine ev_iald dX3_places_68 hA1 (vp_in_nI (show j < 11 by omega) (by omega)) ?_
        rw [nI_clamp (show j < 2 ^ 31 by omega)]
        rw [show f j = nI (em u v i j) from ha j (Nat.le_refl _)]
        refine ev_blk (B := [(.aload_n 0, 1)]) (pe := 70) (ls' := [some (.ref (o)), some (.long (e1 u)), none, some (.long (e1 v)), none, some (.int (nI (u.length))), some (.int (nI i)), some (.int (nI j))]) (st' := [.ref (o), .int (nI (em u v i j)), .int (nI j), .ref (o + 1)]) ⟨dX3_places_69, rfl⟩ rfl ?_
        refine ev_getf (v := .ref (o + 1)) F_RX3_9 dX3_places_70 hA0 rfl ?_
        refine ev_blk (B := [(.iload 7, 2), (.iconst 1, 1), (.isub, 1)]) (pe := 77) (ls' := [some (.ref (o)), some (.long (e1 u)), none, some (.long (e1 v)), none, some (.int (nI (u.length))), some (.int (nI i)), some (.int (nI j))]) (st' := [.int (nI (j - 1)), .ref (o + 1), .int (nI (em u v i j)), .int (nI j), .ref (o + 1)]) ⟨dX3_places_73, dX3_places_75, dX3_places_76, rfl⟩ (by show some (([some (.ref (o)), some (.long (e1 u)), none, some (.long (e1 v)), none, some (.int (nI (u.length))), some (.int (nI i)), some (.int (nI j))] : ev_L), ([.int ((nI j) - (nI 1)), .ref (o + 1), .int (nI (em u v i j)), .int (nI j), .ref (o + 1)] : List Value)) = _; rw [pk_sub (show 1 ≤ j by omega)]) ?_
        refine ev_iald dX3_places_77 hA1 (vp_in_nI (show j - 1 < 11 by omega) (by omega)) ?_
        rw [nI_clamp (show j - 1 < 2 ^ 31 by omega)]
        rw [show f (j - 1) = nI (em u v i (j - 1)) from ha (j - 1) (by omega)]
        refine ev_blk (B := [(.iadd, 1)]) (pe := 79) (ls' := [some (.ref (o)), some (.long (e1 u)), none, some (.long (e1 v)), none, some (.int (nI (u.length))), some (.int (nI i)), some (.int (nI j))]) (st' := [.int (nI ((em u v i j) + (em u v i (j - 1)))), .int (nI j), .ref (o + 1)]) ⟨dX3_places_78, rfl⟩ (by show some (([some (.ref (o)), some (.long (e1 u)), none, some (.long (e1 v)), none, some (.int (nI (u.length))), some (.int (nI i)), some (.int (nI j))] : ev_L), ([.int ((nI (em u v i j)) + (nI (em u v i (j - 1)))), .int (nI j), .ref (o + 1)] : List Value)) = _; rw [nI_add (em u v i j) (em u v i (j - 1))]) ?_
        refine ev_iast dX3_places_79 hA1 (vp_in_nI (show j < 11 by omega) (by omega)) ?_
        rw [nI_clamp (show j < 2 ^ 31 by omega)]
        refine ev_nm (M0 := M.set (o + 1) (.inl (0, 11, .inl (upd f j (nI ((em u v i j) + (em u v i (j - 1)))))))) (fun M1 eM1 => ?_)
        have f2 : M1[o]? = some (.inr (3, [.ref (o + 1)])) := by rw [eM1, ev_sn (by omega)]; exact hA0
        have f3 : M1[o + 1]? = some (.inl (0, 11, .inl (upd f j (nI ((em u v i j) + (em u v i (j - 1))))))) := by rw [eM1]; exact ev_sg hA1
        refine ev_blk (B := [(.iinc 7 (-1), 3)]) (pe := 83) (ls' := [some (.ref (o)), some (.long (e1 u)), none, some (.long (e1 v)), none, some (.int (nI (u.length))), some (.int (nI i)), some (.int (nI (j - 1)))]) (st' := []) ⟨dX3_places_80, rfl⟩ (by show some (([some (.ref (o)), some (.long (e1 u)), none, some (.long (e1 v)), none, some (.int (nI (u.length))), some (.int (nI i)), some (.int ((nI j) + Int32.ofInt (-1)))] : ev_L), ([] : List Value)) = _; rw [ev_incm (show 0 < j by omega)]) ?_
        refine ev_goto (tgt := 38) dX3_places_83 (by decide) ?_
        refine ih (j - 1) _ _ (by omega) ⟨f2, f3⟩ (hFr.tr ⟨by rw [eM1]; simp only [List.length_set], fun j hj => by rw [eM1, ev_sn (by omega)]⟩) (fun k h1 => ?_) (fun k h1 h2 => ?_) (by omega)
        · rw [upd_at, if_neg (by omega)]; exact ha k (by omega)
        · rw [upd_at]
          by_cases e : k = j
          · subst e
            rw [if_pos rfl]
            show _ = nI (em u v i k + _)
            rw [if_pos ⟨by omega, by rw [gd3 (by omega), gd4 (by omega)]; exact q58⟩]
          · rw [if_neg e]; exact hb k (by omega) h2

set_option maxHeartbeats 4000000 in
set_option maxRecDepth 100000 in
theorem c_X3_places_l {l : Launch} (hl : l.stackTraces = false)  (o : Nat) (u : List Nat) (hu : wk u) (hun : u.length ≤ 10) (v : List Nat) (hv : wk v) (hvn : v.length ≤ 10) (M0 : ev_M) : ∀ (n9 : Nat) (i : Nat) (M : ev_M) (f : Nat → Int32), i ≤ v.length → RGf M o f → Fr (o + 1) (o + 2) M0 M → (∀ k, k ≤ u.length → f k = nI (em u v i k)) → v.length - i < n9 → ev_ l m_X3_places 0 0 25 [some (.ref (o)), some (.long (e1 u)), none, some (.long (e1 v)), none, some (.int (nI (u.length))), some (.int (nI i)), none] [] M (fun r M1 => r = .inl (some (.int (nI (em u v v.length u.length)))) ∧ RG M1 o ∧ Fr (o + 1) (o + 2) M0 M1) := by
  intro n9
  induction n9 with
  | zero => intro i M f hi hG hFr ha hm9; exact absurd hm9 (by omega)
  | succ n9 ih =>
    intro i M f hi hG hFr ha hm9
    obtain ⟨hA0, hA1⟩ := hG
    refine ev_blk (B := [(.iload 6, 2), (.lload_n 3, 1)]) (pe := 28) (ls' := [some (.ref (o)), some (.long (e1 u)), none, some (.long (e1 v)), none, some (.int (nI (u.length))), some (.int (nI i)), none]) (st' := [.long (e1 v), .int (nI i)]) ⟨dX3_places_25, dX3_places_27, rfl⟩ rfl ?_
    refine ev_cSv Y_X9_size L_RX3_15 dX3_places_28 ⟨Nat.le_of_ble_eq_true rfl, Nat.le_of_ble_eq_true rfl, Nat.le_of_ble_eq_true rfl, Nat.le_of_ble_eq_true rfl, Nat.le_of_ble_eq_true rfl⟩ (as := [.long (e1 v)]) rfl rfl (c_X9_size hl v hv (by omega)) ?_
    refine ev_iN_ge dX3_places_31 (tgt := 92) (by decide) (by omega) (by omega) (fun q31 => ?_) (fun q31 => ?_)
    · refine ev_blk (B := [(.aload_n 0, 1)]) (pe := 93) (ls' := [some (.ref (o)), some (.long (e1 u)), none, some (.long (e1 v)), none, some (.int (nI (u.length))), some (.int (nI i)), none]) (st' := [.ref (o)]) ⟨dX3_places_92, rfl⟩ rfl ?_
      refine ev_getf (v := .ref (o + 1)) F_RX3_9 dX3_places_93 hA0 rfl ?_
      refine ev_blk (B := [(.iload 5, 2)]) (pe := 98) (ls' := [some (.ref (o)), some (.long (e1 u)), none, some (.long (e1 v)), none, some (.int (nI (u.length))), some (.int (nI i)), none]) (st' := [.int (nI (u.length)), .ref (o + 1)]) ⟨dX3_places_96, rfl⟩ rfl ?_
      refine ev_iald dX3_places_98 hA1 (vp_in_nI (show u.length < 11 by omega) (by omega)) ?_
      rw [nI_clamp (show u.length < 2 ^ 31 by omega)]
      rw [show f u.length = nI (em u v v.length u.length) from by rw [ha _ (Nat.le_refl _), show i = v.length by omega]]
      refine ev_iret dX3_places_99 rfl (rfl) ⟨Nat.le_of_ble_eq_true rfl, Nat.le_of_ble_eq_true rfl⟩ ?_
      exact ⟨rfl, ⟨f, hA0, hA1⟩, hFr⟩
    · refine ev_blk (B := [(.iload 5, 2), (.istore 7, 2)]) (pe := 38) (ls' := [some (.ref (o)), some (.long (e1 u)), none, some (.long (e1 v)), none, some (.int (nI (u.length))), some (.int (nI i)), some (.int (nI (u.length)))]) (st' := []) ⟨dX3_places_34, dX3_places_36, rfl⟩ rfl ?_
      refine c_X3_places_i hl o u hu hun v hv hvn M0 i (by omega) _ (fun M1 f1 j hG1 hFr1 ha1 => ?_) _ u.length M f (Nat.le_refl _) ⟨hA0, hA1⟩ hFr ha (fun k h1 h2 => absurd h1 (by omega)) (Nat.lt_succ_self _)
      refine ev_blk (B := [(.iinc 6 1, 3)]) (pe := 89) (ls' := [some (.ref (o)), some (.long (e1 u)), none, some (.long (e1 v)), none, some (.int (nI (u.length))), some (.int (nI (i + 1))), some (.int (nI j))]) (st' := []) ⟨dX3_places_86, rfl⟩ (by show some (([some (.ref (o)), some (.long (e1 u)), none, some (.long (e1 v)), none, some (.int (nI (u.length))), some (.int (nI i + Int32.ofInt 1)), some (.int (nI j))] : ev_L), ([] : List Value)) = _; rw [ev_inc1]) ?_
      refine ev_goto (tgt := 25) dX3_places_89 (by decide) ?_
      refine ev_fgt (ls' := [some (.ref (o)), some (.long (e1 u)), none, some (.long (e1 v)), none, some (.int (nI (u.length))), some (.int (nI (i + 1))), none]) ⟨Or.inr rfl, Or.inr rfl, Or.inl rfl, Or.inr rfl, Or.inl rfl, Or.inr rfl, Or.inr rfl, Or.inl rfl, trivial⟩ ?_
      exact ih (i + 1) M1 f1 (by omega) hG1 hFr1 ha1 (by omega)

set_option maxHeartbeats 4000000 in
set_option maxRecDepth 100000 in
theorem c_X3_places {l : Launch} (hl : l.stackTraces = false) {M : ev_M} (o : Nat) (hG : RG M o) (u : List Nat) (hu : wk u) (hun : u.length ≤ 10) (v : List Nat) (hv : wk v) (hvn : v.length ≤ 10) : ev_Mt l m_X3_places [.ref (o), .long (e1 u), .long (e1 v)] M (fun r M1 => r = .inl (some (.int (nI (em u v v.length u.length)))) ∧ RG M1 o ∧ Fr (o + 1) (o + 2) M M1) := by
  have hG1 := hG
  obtain ⟨f0, hA9, hA8⟩ := hG1
  refine ev_body hl rfl (by decide +kernel) (Nat.le_of_ble_eq_true rfl) ?_
  show ev_ l m_X3_places 0 0 0 [some (.ref (o)), some (.long (e1 u)), none, some (.long (e1 v)), none, none, none, none] [] M _
  refine ev_blk (B := [(.lload_n 1, 1)]) (pe := 1) (ls' := [some (.ref (o)), some (.long (e1 u)), none, some (.long (e1 v)), none, none, none, none]) (st' := [.long (e1 u)]) ⟨dX3_places_0, rfl⟩ rfl ?_
  refine ev_cSv Y_X9_size L_RX3_15 dX3_places_1 ⟨Nat.le_of_ble_eq_true rfl, Nat.le_of_ble_eq_true rfl, Nat.le_of_ble_eq_true rfl, Nat.le_of_ble_eq_true rfl, Nat.le_of_ble_eq_true rfl⟩ (as := [.long (e1 u)]) rfl rfl (c_X9_size hl u hu (by omega)) ?_
  refine ev_blk (B := [(.bipush 10, 2)]) (pe := 6) (ls' := [some (.ref (o)), some (.long (e1 u)), none, some (.long (e1 v)), none, none, none, none]) (st' := [.int (nI 10), .int (nI (u.length))]) ⟨dX3_places_4, rfl⟩ rfl ?_
  refine ev_min L_RX3_21 ev_mmin dX3_places_6 ⟨Nat.le_of_ble_eq_true rfl, Nat.le_of_ble_eq_true rfl, Nat.le_of_ble_eq_true rfl, Nat.le_of_ble_eq_true rfl⟩ ?_
  refine ev_eqst (st := [.int (nI (u.length))]) (congrArg (fun z => (Value.int z :: ([] : List Value))) (mn10 hun)) ?_
  refine ev_blk (B := [(.istore 5, 2), (.aload_n 0, 1)]) (pe := 12) (ls' := [some (.ref (o)), some (.long (e1 u)), none, some (.long (e1 v)), none, some (.int (nI (u.length))), none, none]) (st' := [.ref (o)]) ⟨dX3_places_9, dX3_places_11, rfl⟩ rfl ?_
  refine ev_cVn Y_X3_empty L_RX3_27 dX3_places_12 ⟨Nat.le_of_ble_eq_true rfl, Nat.le_of_ble_eq_true rfl, Nat.le_of_ble_eq_true rfl, Nat.le_of_ble_eq_true rfl, Nat.le_of_ble_eq_true rfl⟩ hA9 (as := []) rfl rfl (c_X3_empty hl o hG) (fun M1 hL1 hB1 => ?_)
  obtain ⟨⟨f1, ⟨hA0, hA1⟩, hz⟩, hFr0⟩ := hB1
  refine ev_blk (B := [(.aload_n 0, 1)]) (pe := 16) (ls' := [some (.ref (o)), some (.long (e1 u)), none, some (.long (e1 v)), none, some (.int (nI (u.length))), none, none]) (st' := [.ref (o)]) ⟨dX3_places_15, rfl⟩ rfl ?_
  refine ev_getf (v := .ref (o + 1)) F_RX3_9 dX3_places_16 hA0 rfl ?_
  refine ev_blk (B := [(.iconst 0, 1), (.iconst 1, 1)]) (pe := 21) (ls' := [some (.ref (o)), some (.long (e1 u)), none, some (.long (e1 v)), none, some (.int (nI (u.length))), none, none]) (st' := [.int (nI 1), .int (nI 0), .ref (o + 1)]) ⟨dX3_places_19, dX3_places_20, rfl⟩ rfl ?_
  refine ev_iast dX3_places_21 hA1 (vp_in_nI (show 0 < 11 by omega) (by omega)) ?_
  rw [nI_clamp (show 0 < 2 ^ 31 by omega)]
  refine ev_nm (M0 := M1.set (o + 1) (.inl (0, 11, .inl (upd f1 0 (nI 1))))) (fun M2 eM2 => ?_)
  have f3 : M2[o]? = some (.inr (3, [.ref (o + 1)])) := by rw [eM2, ev_sn (by omega)]; exact hA0
  have f4 : M2[o + 1]? = some (.inl (0, 11, .inl (upd f1 0 (nI 1)))) := by rw [eM2]; exact ev_sg hA1
  refine ev_blk (B := [(.iconst 0, 1), (.istore 6, 2)]) (pe := 25) (ls' := [some (.ref (o)), some (.long (e1 u)), none, some (.long (e1 v)), none, some (.int (nI (u.length))), some (.int (nI 0)), none]) (st' := []) ⟨dX3_places_22, dX3_places_23, rfl⟩ rfl ?_
  exact c_X3_places_l hl o u hu hun v hv hvn M _ 0 _ _ (Nat.zero_le _) ⟨f3, f4⟩ (hFr0.tr ⟨by rw [eM2]; simp only [List.length_set], fun j hj => by rw [eM2, ev_sn (by omega)]⟩) (fun k hk => em0 hz hk hun) (Nat.lt_succ_self _)

set_option maxHeartbeats 4000000 in
set_option maxRecDepth 100000 in
theorem c_X3_longestCommon_i {l : Launch} (hl : l.stackTraces = false)  (o : Nat) (u : List Nat) (hu : wk u) (hun : u.length ≤ 10) (v : List Nat) (hv : wk v) (hvn : v.length ≤ 10) (M0 : ev_M) (i : Nat) (hi : i < u.length) (Q : ev_R → ev_M → Prop) (hk : ∀ (M : ev_M) (f : Nat → Int32) (d j : Nat), RGf M o f → Fr (o + 1) (o + 2) M0 M → (∀ k, k ≤ v.length → f k = nI (lc u v (i + 1) k)) → ev_ l m_X3_longestCommon 0 0 116 [some (.ref o), some (.long (e1 u)), none, some (.long (e1 v)), none, some (.int (nI v.length)), some (.int (nI i)), some (.int (nI d)), some (.int (nI j)), none, none] [] M Q) : ∀ (n9 : Nat) (jj : Nat) (M : ev_M) (f : Nat → Int32), jj ≤ v.length → RGf M o f → Fr (o + 1) (o + 2) M0 M → (∀ k, k < jj + 1 → f k = nI (lc u v (i + 1) k)) → (∀ k, jj + 1 ≤ k → k ≤ v.length → f k = nI (lc u v i k)) → v.length - jj < n9 → ev_ l m_X3_longestCommon 0 0 33 [some (.ref (o)), some (.long (e1 u)), none, some (.long (e1 v)), none, some (.int (nI (v.length))), some (.int (nI i)), some (.int (nI (lc u v i jj))), some (.int (nI (jj + 1))), none, none] [] M (Q) := by
  intro n9
  induction n9 with
  | zero => intro jj M f hj hG hFr ha hb hm9; exact absurd hm9 (by omega)
  | succ n9 ih =>
    intro jj M f hj hG hFr ha hb hm9
    obtain ⟨hA0, hA1⟩ := hG
    have z1 := lc_le u v i
    have z2 := lc_le u v (i + 1)
    refine ev_blk (B := [(.iload 8, 2), (.iload 5, 2)]) (pe := 37) (ls' := [some (.ref (o)), some (.long (e1 u)), none, some (.long (e1 v)), none, some (.int (nI (v.length))), some (.int (nI i)), some (.int (nI (lc u v i jj))), some (.int (nI (jj + 1))), none, none]) (st' := [.int (nI (v.length)), .int (nI (jj + 1))]) ⟨dX3_longestCommon_33, dX3_longestCommon_35, rfl⟩ rfl ?_
    refine ev_iN_gt dX3_longestCommon_37 (tgt := 116) (by decide) (by first | omega | (have := hu _ (List.getElem_mem hi); omega) | (have := hv _ (List.getElem_mem (show jj < v.length by omega)); omega)) (by first | omega | (have := hu _ (List.getElem_mem hi); omega) | (have := hv _ (List.getElem_mem (show jj < v.length by omega)); omega)) (fun q37 => ?_) (fun q37 => ?_)
    · exact hk M f _ _ ⟨hA0, hA1⟩ hFr (fun k h1 => ha k (by omega))
    · refine ev_blk (B := [(.aload_n 0, 1)]) (pe := 41) (ls' := [some (.ref (o)), some (.long (e1 u)), none, some (.long (e1 v)), none, some (.int (nI (v.length))), some (.int (nI i)), some (.int (nI (lc u v i jj))), some (.int (nI (jj + 1))), none, none]) (st' := [.ref (o)]) ⟨dX3_longestCommon_40, rfl⟩ rfl ?_
      refine ev_getf (v := .ref (o + 1)) F_RX3_9 dX3_longestCommon_41 hA0 rfl ?_
      refine ev_blk (B := [(.iload 8, 2)]) (pe := 46) (ls' := [some (.ref (o)), some (.long (e1 u)), none, some (.long (e1 v)), none, some (.int (nI (v.length))), some (.int (nI i)), some (.int (nI (lc u v i jj))), some (.int (nI (jj + 1))), none, none]) (st' := [.int (nI (jj + 1)), .ref (o + 1)]) ⟨dX3_longestCommon_44, rfl⟩ rfl ?_
      refine ev_iald dX3_longestCommon_46 hA1 (vp_in_nI (show jj + 1 < 11 by omega) (by omega)) ?_
      rw [nI_clamp (show jj + 1 < 2 ^ 31 by omega)]
      rw [show f (jj + 1) = nI (lc u v i (jj + 1)) from hb (jj + 1) (Nat.le_refl _) (by omega)]
      refine ev_blk (B := [(.istore 9, 2), (.lload_n 1, 1), (.iload 6, 2)]) (pe := 52) (ls' := [some (.ref (o)), some (.long (e1 u)), none, some (.long (e1 v)), none, some (.int (nI (v.length))), some (.int (nI i)), some (.int (nI (lc u v i jj))), some (.int (nI (jj + 1))), some (.int (nI (lc u v i (jj + 1)))), none]) (st' := [.int (nI i), .long (e1 u)]) ⟨dX3_longestCommon_47, dX3_longestCommon_49, dX3_longestCommon_50, rfl⟩ rfl ?_
      refine ev_cSv Y_X9_at L_RX3_30 dX3_longestCommon_52 ⟨Nat.le_of_ble_eq_true rfl, Nat.le_of_ble_eq_true rfl, Nat.le_of_ble_eq_true rfl, Nat.le_of_ble_eq_true rfl, Nat.le_of_ble_eq_true rfl⟩ (as := [.long (e1 u), .int (nI i)]) rfl rfl (c_X9_at hl u hu (by omega) (i) (by omega)) ?_
      refine ev_blk (B := [(.lload_n 3, 1), (.iload 8, 2), (.iconst 1, 1), (.isub, 1)]) (pe := 60) (ls' := [some (.ref (o)), some (.long (e1 u)), none, some (.long (e1 v)), none, some (.int (nI (v.length))), some (.int (nI i)), some (.int (nI (lc u v i jj))), some (.int (nI (jj + 1))), some (.int (nI (lc u v i (jj + 1)))), none]) (st' := [.int (nI jj), .long (e1 v), .int (nI (u[i]))]) ⟨dX3_longestCommon_55, dX3_longestCommon_56, dX3_longestCommon_58, dX3_longestCommon_59, rfl⟩ (by show some (([some (.ref (o)), some (.long (e1 u)), none, some (.long (e1 v)), none, some (.int (nI (v.length))), some (.int (nI i)), some (.int (nI (lc u v i jj))), some (.int (nI (jj + 1))), some (.int (nI (lc u v i (jj + 1)))), none] : ev_L), ([.int ((nI (jj + 1)) - (nI 1)), .long (e1 v), .int (nI (u[i]))] : List Value)) = _; rw [show (nI (jj + 1)) - (nI 1) = nI jj from pk_sub (show 1 ≤ jj + 1 by omega)]) ?_
      refine ev_cSv Y_X9_at L_RX3_30 dX3_longestCommon_60 ⟨Nat.le_of_ble_eq_true rfl, Nat.le_of_ble_eq_true rfl, Nat.le_of_ble_eq_true rfl, Nat.le_of_ble_eq_true rfl, Nat.le_of_ble_eq_true rfl⟩ (as := [.long (e1 v), .int (nI jj)]) rfl rfl (c_X9_at hl v hv (by omega) (jj) (by omega)) ?_
      refine ev_iN_ne dX3_longestCommon_63 (tgt := 70) (by decide) (by first | omega | (have := hu _ (List.getElem_mem hi); omega) | (have := hv _ (List.getElem_mem (show jj < v.length by omega)); omega)) (by first | omega | (have := hu _ (List.getElem_mem hi); omega) | (have := hv _ (List.getElem_mem (show jj < v.length by omega)); omega)) (fun q63 => ?_) (fun q63 => ?_)
      · refine ev_blk (B := [(.iconst 0, 1), (.istore 10, 2), (.aload_n 0, 1)]) (pe := 74) (ls' := [some (.ref (o)), some (.long (e1 u)), none, some (.long (e1 v)), none, some (.int (nI (v.length))), some (.int (nI i)), some (.int (nI (lc u v i jj))), some (.int (nI (jj + 1))), some (.int (nI (lc u v i (jj + 1)))), some (.int (nI 0))]) (st' := [.ref (o)]) ⟨dX3_longestCommon_70, dX3_longestCommon_71, dX3_longestCommon_73, rfl⟩ rfl ?_
        refine ev_getf (v := .ref (o + 1)) F_RX3_9 dX3_longestCommon_74 hA0 rfl ?_
        refine ev_blk (B := [(.iload 8, 2), (.iload 10, 2)]) (pe := 81) (ls' := [some (.ref (o)), some (.long (e1 u)), none, some (.long (e1 v)), none, some (.int (nI (v.length))), some (.int (nI i)), some (.int (nI (lc u v i jj))), some (.int (nI (jj + 1))), some (.int (nI (lc u v i (jj + 1)))), some (.int (nI 0))]) (st' := [.int (nI 0), .int (nI (jj + 1)), .ref (o + 1)]) ⟨dX3_longestCommon_77, dX3_longestCommon_79, rfl⟩ rfl ?_
        refine ev_fN_eq dX3_longestCommon_81 (tgt := 91) (by decide) (by first | omega | (have := hu _ (List.getElem_mem hi); omega) | (have := hv _ (List.getElem_mem (show jj < v.length by omega)); omega)) (fun q81 => ?_) (fun q81 => ?_)
        · refine ev_blk (B := [(.iload 9, 2), (.aload_n 0, 1)]) (pe := 94) (ls' := [some (.ref (o)), some (.long (e1 u)), none, some (.long (e1 v)), none, some (.int (nI (v.length))), some (.int (nI i)), some (.int (nI (lc u v i jj))), some (.int (nI (jj + 1))), some (.int (nI (lc u v i (jj + 1)))), some (.int (nI 0))]) (st' := [.ref (o), .int (nI (lc u v i (jj + 1))), .int (nI (jj + 1)), .ref (o + 1)]) ⟨dX3_longestCommon_91, dX3_longestCommon_93, rfl⟩ rfl ?_
          refine ev_getf (v := .ref (o + 1)) F_RX3_9 dX3_longestCommon_94 hA0 rfl ?_
          refine ev_blk (B := [(.iload 8, 2), (.iconst 1, 1), (.isub, 1)]) (pe := 101) (ls' := [some (.ref (o)), some (.long (e1 u)), none, some (.long (e1 v)), none, some (.int (nI (v.length))), some (.int (nI i)), some (.int (nI (lc u v i jj))), some (.int (nI (jj + 1))), some (.int (nI (lc u v i (jj + 1)))), some (.int (nI 0))]) (st' := [.int (nI jj), .ref (o + 1), .int (nI (lc u v i (jj + 1))), .int (nI (jj + 1)), .ref (o + 1)]) ⟨dX3_longestCommon_97, dX3_longestCommon_99, dX3_longestCommon_100, rfl⟩ (by show some (([some (.ref (o)), some (.long (e1 u)), none, some (.long (e1 v)), none, some (.int (nI (v.length))), some (.int (nI i)), some (.int (nI (lc u v i jj))), some (.int (nI (jj + 1))), some (.int (nI (lc u v i (jj + 1)))), some (.int (nI 0))] : ev_L), ([.int ((nI (jj + 1)) - (nI 1)), .ref (o + 1), .int (nI (lc u v i (jj + 1))), .int (nI (jj + 1)), .ref (o + 1)] : List Value)) = _; rw [show (nI (jj + 1)) - (nI 1) = nI jj from pk_sub (show 1 ≤ jj + 1 by omega)]) ?_
          refine ev_iald dX3_longestCommon_101 hA1 (vp_in_nI (show jj < 11 by omega) (by omega)) ?_
          rw [nI_clamp (show jj < 2 ^ 31 by omega)]
          rw [show f jj = nI (lc u v (i + 1) jj) from ha jj (by omega)]
          refine ev_max L_RX3_34 ev_mmax dX3_longestCommon_102 ⟨Nat.le_of_ble_eq_true rfl, Nat.le_of_ble_eq_true rfl, Nat.le_of_ble_eq_true rfl, Nat.le_of_ble_eq_true rfl⟩ ?_
          refine ev_eqst (st := [.int (nI (max (lc u v i (jj + 1)) (lc u v (i + 1) jj))), .int (nI (jj + 1)), .ref (o + 1)]) (congrArg (fun z => (Value.int z :: ([.int (nI (jj + 1)), .ref (o + 1)] : List Value))) (mxN (by have := z1 (jj + 1); omega) (by have := z2 jj; omega))) ?_
          refine ev_iast dX3_longestCommon_105 hA1 (vp_in_nI (show jj + 1 < 11 by omega) (by omega)) ?_
          rw [nI_clamp (show jj + 1 < 2 ^ 31 by omega)]
          refine ev_nm (M0 := M.set (o + 1) (.inl (0, 11, .inl (upd f (jj + 1) (nI (max (lc u v i (jj + 1)) (lc u v (i + 1) jj))))))) (fun M1 eM1 => ?_)
          have f2 : M1[o]? = some (.inr (3, [.ref (o + 1)])) := by rw [eM1, ev_sn (by omega)]; exact hA0
          have f3 : M1[o + 1]? = some (.inl (0, 11, .inl (upd f (jj + 1) (nI (max (lc u v i (jj + 1)) (lc u v (i + 1) jj)))))) := by rw [eM1]; exact ev_sg hA1
          refine ev_blk (B := [(.iload 9, 2), (.istore 7, 2), (.iinc 8 1, 3)]) (pe := 113) (ls' := [some (.ref (o)), some (.long (e1 u)), none, some (.long (e1 v)), none, some (.int (nI (v.length))), some (.int (nI i)), some (.int (nI (lc u v i (jj + 1)))), some (.int (nI ((jj + 1) + 1))), some (.int (nI (lc u v i (jj + 1)))), some (.int (nI 0))]) (st' := []) ⟨dX3_longestCommon_106, dX3_longestCommon_108, dX3_longestCommon_110, rfl⟩ (by show some (([some (.ref (o)), some (.long (e1 u)), none, some (.long (e1 v)), none, some (.int (nI (v.length))), some (.int (nI i)), some (.int (nI (lc u v i (jj + 1)))), some (.int ((nI (jj + 1)) + Int32.ofInt (1))), some (.int (nI (lc u v i (jj + 1)))), some (.int (nI 0))] : ev_L), ([] : List Value)) = _; rw [ev_inc1 (jj + 1)]) ?_
          refine ev_goto (tgt := 33) dX3_longestCommon_113 (by decide) ?_
          refine ev_fgt (ls' := [some (.ref (o)), some (.long (e1 u)), none, some (.long (e1 v)), none, some (.int (nI (v.length))), some (.int (nI i)), some (.int (nI (lc u v i (jj + 1)))), some (.int (nI ((jj + 1) + 1))), none, none]) ⟨Or.inr rfl, Or.inr rfl, Or.inl rfl, Or.inr rfl, Or.inl rfl, Or.inr rfl, Or.inr rfl, Or.inr rfl, Or.inr rfl, Or.inl rfl, Or.inl rfl, trivial⟩ ?_
          refine ih (jj + 1) _ _ (by omega) ⟨f2, f3⟩ (hFr.tr ⟨by rw [eM1]; simp only [List.length_set], fun j hj => by rw [eM1, ev_sn (by omega)]⟩) (fun k h1 => ?_) (fun k h1 h2 => ?_) (by omega)
          · rw [upd_at]
            by_cases e : k = jj + 1
            · subst e
              rw [if_pos rfl, lc_s, gd3 (by omega), gd3 (by omega)]
              first | rw [if_pos q63] | rw [if_neg q63]
            · rw [if_neg e]; exact ha k (by omega)
          · rw [upd_at, if_neg (by omega)]; exact hb k (by omega) h2
        · exact absurd q81 (by decide)
      · refine ev_blk (B := [(.iconst 1, 1)]) (pe := 67) (ls' := [some (.ref (o)), some (.long (e1 u)), none, some (.long (e1 v)), none, some (.int (nI (v.length))), some (.int (nI i)), some (.int (nI (lc u v i jj))), some (.int (nI (jj + 1))), some (.int (nI (lc u v i (jj + 1)))), none]) (st' := [.int (nI 1)]) ⟨dX3_longestCommon_66, rfl⟩ rfl ?_
        refine ev_goto (tgt := 71) dX3_longestCommon_67 (by decide) ?_
        refine ev_blk (B := [(.istore 10, 2), (.aload_n 0, 1)]) (pe := 74) (ls' := [some (.ref (o)), some (.long (e1 u)), none, some (.long (e1 v)), none, some (.int (nI (v.length))), some (.int (nI i)), some (.int (nI (lc u v i jj))), some (.int (nI (jj + 1))), some (.int (nI (lc u v i (jj + 1)))), some (.int (nI 1))]) (st' := [.ref (o)]) ⟨dX3_longestCommon_71, dX3_longestCommon_73, rfl⟩ rfl ?_
        refine ev_getf (v := .ref (o + 1)) F_RX3_9 dX3_longestCommon_74 hA0 rfl ?_
        refine ev_blk (B := [(.iload 8, 2), (.iload 10, 2)]) (pe := 81) (ls' := [some (.ref (o)), some (.long (e1 u)), none, some (.long (e1 v)), none, some (.int (nI (v.length))), some (.int (nI i)), some (.int (nI (lc u v i jj))), some (.int (nI (jj + 1))), some (.int (nI (lc u v i (jj + 1)))), some (.int (nI 1))]) (st' := [.int (nI 1), .int (nI (jj + 1)), .ref (o + 1)]) ⟨dX3_longestCommon_77, dX3_longestCommon_79, rfl⟩ rfl ?_
        refine ev_fN_eq dX3_longestCommon_81 (tgt := 91) (by decide) (by first | omega | (have := hu _ (List.getElem_mem hi); omega) | (have := hv _ (List.getElem_mem (show jj < v.length by omega)); omega)) (fun q81 => ?_) (fun q81 => ?_)
        · exact absurd q81 (by decide)
        · refine ev_blk (B := [(.iload 7, 2), (.iconst 1, 1), (.iadd, 1)]) (pe := 88) (ls' := [some (.ref (o)), some (.long (e1 u)), none, some (.long (e1 v)), none, some (.int (nI (v.length))), some (.int (nI i)), some (.int (nI (lc u v i jj))), some (.int (nI (jj + 1))), some (.int (nI (lc u v i (jj + 1)))), some (.int (nI 1))]) (st' := [.int (nI ((lc u v i jj) + 1)), .int (nI (jj + 1)), .ref (o + 1)]) ⟨dX3_longestCommon_84, dX3_longestCommon_86, dX3_longestCommon_87, rfl⟩ (by show some (([some (.ref (o)), some (.long (e1 u)), none, some (.long (e1 v)), none, some (.int (nI (v.length))), some (.int (nI i)), some (.int (nI (lc u v i jj))), some (.int (nI (jj + 1))), some (.int (nI (lc u v i (jj + 1)))), some (.int (nI 1))] : ev_L), ([.int ((nI (lc u v i jj)) + (nI 1)), .int (nI (jj + 1)), .ref (o + 1)] : List Value)) = _; rw [nI_add (lc u v i jj) 1]) ?_
          refine ev_goto (tgt := 105) dX3_longestCommon_88 (by decide) ?_
          refine ev_iast dX3_longestCommon_105 hA1 (vp_in_nI (show jj + 1 < 11 by omega) (by omega)) ?_
          rw [nI_clamp (show jj + 1 < 2 ^ 31 by omega)]
          refine ev_nm (M0 := M.set (o + 1) (.inl (0, 11, .inl (upd f (jj + 1) (nI ((lc u v i jj) + 1)))))) (fun M4 eM4 => ?_)
          have f5 : M4[o]? = some (.inr (3, [.ref (o + 1)])) := by rw [eM4, ev_sn (by omega)]; exact hA0
          have f6 : M4[o + 1]? = some (.inl (0, 11, .inl (upd f (jj + 1) (nI ((lc u v i jj) + 1))))) := by rw [eM4]; exact ev_sg hA1
          refine ev_blk (B := [(.iload 9, 2), (.istore 7, 2), (.iinc 8 1, 3)]) (pe := 113) (ls' := [some (.ref (o)), some (.long (e1 u)), none, some (.long (e1 v)), none, some (.int (nI (v.length))), some (.int (nI i)), some (.int (nI (lc u v i (jj + 1)))), some (.int (nI ((jj + 1) + 1))), some (.int (nI (lc u v i (jj + 1)))), some (.int (nI 1))]) (st' := []) ⟨dX3_longestCommon_106, dX3_longestCommon_108, dX3_longestCommon_110, rfl⟩ (by show some (([some (.ref (o)), some (.long (e1 u)), none, some (.long (e1 v)), none, some (.int (nI (v.length))), some (.int (nI i)), some (.int (nI (lc u v i (jj + 1)))), some (.int ((nI (jj + 1)) + Int32.ofInt (1))), some (.int (nI (lc u v i (jj + 1)))), some (.int (nI 1))] : ev_L), ([] : List Value)) = _; rw [ev_inc1 (jj + 1)]) ?_
          refine ev_goto (tgt := 33) dX3_longestCommon_113 (by decide) ?_
          refine ev_fgt (ls' := [some (.ref (o)), some (.long (e1 u)), none, some (.long (e1 v)), none, some (.int (nI (v.length))), some (.int (nI i)), some (.int (nI (lc u v i (jj + 1)))), some (.int (nI ((jj + 1) + 1))), none, none]) ⟨Or.inr rfl, Or.inr rfl, Or.inl rfl, Or.inr rfl, Or.inl rfl, Or.inr rfl, Or.inr rfl, Or.inr rfl, Or.inr rfl, Or.inl rfl, Or.inl rfl, trivial⟩ ?_
          refine ih (jj + 1) _ _ (by omega) ⟨f5, f6⟩ (hFr.tr ⟨by rw [eM4]; simp only [List.length_set], fun j hj => by rw [eM4, ev_sn (by omega)]⟩) (fun k h1 => ?_) (fun k h1 h2 => ?_) (by omega)
          · rw [upd_at]
            by_cases e : k = jj + 1
            · subst e
              rw [if_pos rfl, lc_s, gd3 (by omega), gd3 (by omega)]
              first | rw [if_pos q63] | rw [if_neg q63]
            · rw [if_neg e]; exact ha k (by omega)
          · rw [upd_at, if_neg (by omega)]; exact hb k (by omega) h2

set_option maxHeartbeats 4000000 in
set_option maxRecDepth 100000 in
theorem c_X3_longestCommon_l {l : Launch} (hl : l.stackTraces = false)  (o : Nat) (u : List Nat) (hu : wk u) (hun : u.length ≤ 10) (v : List Nat) (hv : wk v) (hvn : v.length ≤ 10) (M0 : ev_M) : ∀ (n9 : Nat) (i : Nat) (M : ev_M) (f : Nat → Int32), i ≤ u.length → RGf M o f → Fr (o + 1) (o + 2) M0 M → (∀ k, k ≤ v.length → f k = nI (lc u v i k)) → u.length - i < n9 → ev_ l m_X3_longestCommon 0 0 18 [some (.ref (o)), some (.long (e1 u)), none, some (.long (e1 v)), none, some (.int (nI (v.length))), some (.int (nI i)), none, none, none, none] [] M (fun r M1 => r = .inl (some (.int (nI (lc u v u.length v.length)))) ∧ RG M1 o ∧ Fr (o + 1) (o + 2) M0 M1) := by
  intro n9
  induction n9 with
  | zero => intro i M f hi hG hFr ha hm9; exact absurd hm9 (by omega)
  | succ n9 ih =>
    intro i M f hi hG hFr ha hm9
    obtain ⟨hA0, hA1⟩ := hG
    refine ev_blk (B := [(.iload 6, 2), (.lload_n 1, 1)]) (pe := 21) (ls' := [some (.ref (o)), some (.long (e1 u)), none, some (.long (e1 v)), none, some (.int (nI (v.length))), some (.int (nI i)), none, none, none, none]) (st' := [.long (e1 u), .int (nI i)]) ⟨dX3_longestCommon_18, dX3_longestCommon_20, rfl⟩ rfl ?_
    refine ev_cSv Y_X9_size L_RX3_15 dX3_longestCommon_21 ⟨Nat.le_of_ble_eq_true rfl, Nat.le_of_ble_eq_true rfl, Nat.le_of_ble_eq_true rfl, Nat.le_of_ble_eq_true rfl, Nat.le_of_ble_eq_true rfl⟩ (as := [.long (e1 u)]) rfl rfl (c_X9_size hl u hu (by omega)) ?_
    refine ev_iN_ge dX3_longestCommon_24 (tgt := 122) (by decide) (by omega) (by omega) (fun q24 => ?_) (fun q24 => ?_)
    · refine ev_blk (B := [(.aload_n 0, 1)]) (pe := 123) (ls' := [some (.ref (o)), some (.long (e1 u)), none, some (.long (e1 v)), none, some (.int (nI (v.length))), some (.int (nI i)), none, none, none, none]) (st' := [.ref (o)]) ⟨dX3_longestCommon_122, rfl⟩ rfl ?_
      refine ev_getf (v := .ref (o + 1)) F_RX3_9 dX3_longestCommon_123 hA0 rfl ?_
      refine ev_blk (B := [(.iload 5, 2)]) (pe := 128) (ls' := [some (.ref (o)), some (.long (e1 u)), none, some (.long (e1 v)), none, some (.int (nI (v.length))), some (.int (nI i)), none, none, none, none]) (st' := [.int (nI (v.length)), .ref (o + 1)]) ⟨dX3_longestCommon_126, rfl⟩ rfl ?_
      refine ev_iald dX3_longestCommon_128 hA1 (vp_in_nI (show v.length < 11 by omega) (by omega)) ?_
      rw [nI_clamp (show v.length < 2 ^ 31 by omega)]
      rw [show f v.length = nI (lc u v u.length v.length) from by rw [ha _ (Nat.le_refl _), show i = u.length by omega]]
      refine ev_iret dX3_longestCommon_129 rfl (rfl) ⟨Nat.le_of_ble_eq_true rfl, Nat.le_of_ble_eq_true rfl⟩ ?_
      exact ⟨rfl, ⟨f, hA0, hA1⟩, hFr⟩
    · refine ev_blk (B := [(.iconst 0, 1), (.istore 7, 2), (.iconst 1, 1), (.istore 8, 2)]) (pe := 33) (ls' := [some (.ref (o)), some (.long (e1 u)), none, some (.long (e1 v)), none, some (.int (nI (v.length))), some (.int (nI i)), some (.int (nI 0)), some (.int (nI 1)), none, none]) (st' := []) ⟨dX3_longestCommon_27, dX3_longestCommon_28, dX3_longestCommon_30, dX3_longestCommon_31, rfl⟩ rfl ?_
      refine ev_eqls (ls := [some (.ref (o)), some (.long (e1 u)), none, some (.long (e1 v)), none, some (.int (nI (v.length))), some (.int (nI i)), some (.int (nI (lc u v i 0))), some (.int (nI (0 + 1))), none, none]) (by rw [lc_0]) ?_
      refine c_X3_longestCommon_i hl o u hu hun v hv hvn M0 i (by omega) _ (fun M1 f1 d j hG1 hFr1 ha1 => ?_) _ 0 M f (Nat.zero_le _) ⟨hA0, hA1⟩ hFr (fun k h1 => by rw [show k = 0 by omega, ha 0 (Nat.zero_le _), lc_0, lc_0]) (fun k h1 h2 => ha k h2) (Nat.lt_succ_self _)
      refine ev_blk (B := [(.iinc 6 1, 3)]) (pe := 119) (ls' := [some (.ref (o)), some (.long (e1 u)), none, some (.long (e1 v)), none, some (.int (nI (v.length))), some (.int (nI (i + 1))), some (.int (nI d)), some (.int (nI j)), none, none]) (st' := []) ⟨dX3_longestCommon_116, rfl⟩ (by show some (([some (.ref (o)), some (.long (e1 u)), none, some (.long (e1 v)), none, some (.int (nI (v.length))), some (.int (nI i + Int32.ofInt 1)), some (.int (nI d)), some (.int (nI j)), none, none] : ev_L), ([] : List Value)) = _; rw [ev_inc1]) ?_
      refine ev_goto (tgt := 18) dX3_longestCommon_119 (by decide) ?_
      refine ev_fgt (ls' := [some (.ref (o)), some (.long (e1 u)), none, some (.long (e1 v)), none, some (.int (nI (v.length))), some (.int (nI (i + 1))), none, none, none, none]) ⟨Or.inr rfl, Or.inr rfl, Or.inl rfl, Or.inr rfl, Or.inl rfl, Or.inr rfl, Or.inr rfl, Or.inl rfl, Or.inl rfl, Or.inl rfl, Or.inl rfl, trivial⟩ ?_
      exact ih (i + 1) M1 f1 (by omega) hG1 hFr1 ha1 (by omega)

set_option maxHeartbeats 4000000 in
set_option maxRecDepth 100000 in
theorem c_X3_longestCommon {l : Launch} (hl : l.stackTraces = false) {M : ev_M} (o : Nat) (hG : RG M o) (u : List Nat) (hu : wk u) (hun : u.length ≤ 10) (v : List Nat) (hv : wk v) (hvn : v.length ≤ 10) : ev_Mt l m_X3_longestCommon [.ref (o), .long (e1 u), .long (e1 v)] M (fun r M1 => r = .inl (some (.int (nI (lc u v u.length v.length)))) ∧ RG M1 o ∧ Fr (o + 1) (o + 2) M M1) := by
  have hG1 := hG
  obtain ⟨f0, hA9, hA8⟩ := hG1
  refine ev_body hl rfl (by decide +kernel) (Nat.le_of_ble_eq_true rfl) ?_
  show ev_ l m_X3_longestCommon 0 0 0 [some (.ref (o)), some (.long (e1 u)), none, some (.long (e1 v)), none, none, none, none, none, none, none] [] M _
  refine ev_blk (B := [(.lload_n 3, 1)]) (pe := 1) (ls' := [some (.ref (o)), some (.long (e1 u)), none, some (.long (e1 v)), none, none, none, none, none, none, none]) (st' := [.long (e1 v)]) ⟨dX3_longestCommon_0, rfl⟩ rfl ?_
  refine ev_cSv Y_X9_size L_RX3_15 dX3_longestCommon_1 ⟨Nat.le_of_ble_eq_true rfl, Nat.le_of_ble_eq_true rfl, Nat.le_of_ble_eq_true rfl, Nat.le_of_ble_eq_true rfl, Nat.le_of_ble_eq_true rfl⟩ (as := [.long (e1 v)]) rfl rfl (c_X9_size hl v hv (by omega)) ?_
  refine ev_blk (B := [(.bipush 10, 2)]) (pe := 6) (ls' := [some (.ref (o)), some (.long (e1 u)), none, some (.long (e1 v)), none, none, none, none, none, none, none]) (st' := [.int (nI 10), .int (nI (v.length))]) ⟨dX3_longestCommon_4, rfl⟩ rfl ?_
  refine ev_min L_RX3_21 ev_mmin dX3_longestCommon_6 ⟨Nat.le_of_ble_eq_true rfl, Nat.le_of_ble_eq_true rfl, Nat.le_of_ble_eq_true rfl, Nat.le_of_ble_eq_true rfl⟩ ?_
  refine ev_eqst (st := [.int (nI (v.length))]) (congrArg (fun z => (Value.int z :: ([] : List Value))) (mn10 hvn)) ?_
  refine ev_blk (B := [(.istore 5, 2), (.aload_n 0, 1)]) (pe := 12) (ls' := [some (.ref (o)), some (.long (e1 u)), none, some (.long (e1 v)), none, some (.int (nI (v.length))), none, none, none, none, none]) (st' := [.ref (o)]) ⟨dX3_longestCommon_9, dX3_longestCommon_11, rfl⟩ rfl ?_
  refine ev_cVn Y_X3_empty L_RX3_27 dX3_longestCommon_12 ⟨Nat.le_of_ble_eq_true rfl, Nat.le_of_ble_eq_true rfl, Nat.le_of_ble_eq_true rfl, Nat.le_of_ble_eq_true rfl, Nat.le_of_ble_eq_true rfl⟩ hA9 (as := []) rfl rfl (c_X3_empty hl o hG) (fun M1 hL1 hB1 => ?_)
  obtain ⟨⟨f1, ⟨hA0, hA1⟩, hz⟩, hFr0⟩ := hB1
  refine ev_blk (B := [(.iconst 0, 1), (.istore 6, 2)]) (pe := 18) (ls' := [some (.ref (o)), some (.long (e1 u)), none, some (.long (e1 v)), none, some (.int (nI (v.length))), some (.int (nI 0)), none, none, none, none]) (st' := []) ⟨dX3_longestCommon_15, dX3_longestCommon_16, rfl⟩ rfl ?_
  exact c_X3_longestCommon_l hl o u hu hun v hv hvn M _ 0 _ _ (Nat.zero_le _) ⟨hA0, hA1⟩ hFr0 (fun k hk => hz k (by omega)) (Nat.lt_succ_self _)

set_option maxHeartbeats 4000000 in
set_option maxRecDepth 100000 in
theorem c_X3_wordsBelow_l {l : Launch} (hl : l.stackTraces = false)  (o : Nat) (w : List Nat) (hw : wk w) (hwn : w.length ≤ 10) (M0 : ev_M) : ∀ (n9 : Nat) (i : Nat) (M : ev_M) (f : Nat → Int32), i ≤ w.length → RGf M o f → Fr (o + 1) (o + 2) M0 M → (∀ k, k < 3 → f k = nI (sw w i k)) → w.length - i < n9 → ev_ l m_X3_wordsBelow 0 0 6 [some (.ref (o)), some (.long (e1 w)), none, some (.int (nI i)), none] [] M (fun r M1 => r = .inl (some (.int (nI (1 + sw w w.length 0 + sw w w.length 1 + sw w w.length 2)))) ∧ RG M1 o ∧ Fr (o + 1) (o + 2) M0 M1) := by
  intro n9
  induction n9 with
  | zero => intro i M f hi hG hFr ha hm9; exact absurd hm9 (by omega)
  | succ n9 ih =>
    intro i M f hi hG hFr ha hm9
    obtain ⟨hA0, hA1⟩ := hG
    refine ev_blk (B := [(.iload_n 3, 1), (.lload_n 1, 1)]) (pe := 8) (ls' := [some (.ref (o)), some (.long (e1 w)), none, some (.int (nI i)), none]) (st' := [.long (e1 w), .int (nI i)]) ⟨dX3_wordsBelow_6, dX3_wordsBelow_7, rfl⟩ rfl ?_
    refine ev_cSv Y_X9_size L_RX3_15 dX3_wordsBelow_8 ⟨Nat.le_of_ble_eq_true rfl, Nat.le_of_ble_eq_true rfl, Nat.le_of_ble_eq_true rfl, Nat.le_of_ble_eq_true rfl, Nat.le_of_ble_eq_true rfl⟩ (as := [.long (e1 w)]) rfl rfl (c_X9_size hl w hw (by omega)) ?_
    refine ev_iN_ge dX3_wordsBelow_11 (tgt := 62) (by decide) (by omega) (by omega) (fun q11 => ?_) (fun q11 => ?_)
    · refine ev_blk (B := [(.iconst 1, 1), (.aload_n 0, 1)]) (pe := 64) (ls' := [some (.ref (o)), some (.long (e1 w)), none, some (.int (nI i)), none]) (st' := [.ref (o), .int (nI 1)]) ⟨dX3_wordsBelow_62, dX3_wordsBelow_63, rfl⟩ rfl ?_
      refine ev_getf (v := .ref (o + 1)) F_RX3_9 dX3_wordsBelow_64 hA0 rfl ?_
      refine ev_blk (B := [(.iconst 0, 1)]) (pe := 68) (ls' := [some (.ref (o)), some (.long (e1 w)), none, some (.int (nI i)), none]) (st' := [.int (nI 0), .ref (o + 1), .int (nI 1)]) ⟨dX3_wordsBelow_67, rfl⟩ rfl ?_
      refine ev_iald dX3_wordsBelow_68 hA1 (vp_in_nI (show 0 < 11 by omega) (by omega)) ?_
      rw [nI_clamp (show 0 < 2 ^ 31 by omega)]
      rw [show f 0 = nI (sw w i 0) from ha 0 (by omega)]
      refine ev_blk (B := [(.iadd, 1), (.aload_n 0, 1)]) (pe := 71) (ls' := [some (.ref (o)), some (.long (e1 w)), none, some (.int (nI i)), none]) (st' := [.ref (o), .int (nI (1 + (sw w i 0)))]) ⟨dX3_wordsBelow_69, dX3_wordsBelow_70, rfl⟩ (by show some (([some (.ref (o)), some (.long (e1 w)), none, some (.int (nI i)), none] : ev_L), ([.ref (o), .int ((nI 1) + (nI (sw w i 0)))] : List Value)) = _; rw [nI_add 1 (sw w i 0)]) ?_
      refine ev_getf (v := .ref (o + 1)) F_RX3_9 dX3_wordsBelow_71 hA0 rfl ?_
      refine ev_blk (B := [(.iconst 1, 1)]) (pe := 75) (ls' := [some (.ref (o)), some (.long (e1 w)), none, some (.int (nI i)), none]) (st' := [.int (nI 1), .ref (o + 1), .int (nI (1 + (sw w i 0)))]) ⟨dX3_wordsBelow_74, rfl⟩ rfl ?_
      refine ev_iald dX3_wordsBelow_75 hA1 (vp_in_nI (show 1 < 11 by omega) (by omega)) ?_
      rw [nI_clamp (show 1 < 2 ^ 31 by omega)]
      rw [show f 1 = nI (sw w i 1) from ha 1 (by omega)]
      refine ev_blk (B := [(.iadd, 1), (.aload_n 0, 1)]) (pe := 78) (ls' := [some (.ref (o)), some (.long (e1 w)), none, some (.int (nI i)), none]) (st' := [.ref (o), .int (nI ((1 + (sw w i 0)) + (sw w i 1)))]) ⟨dX3_wordsBelow_76, dX3_wordsBelow_77, rfl⟩ (by show some (([some (.ref (o)), some (.long (e1 w)), none, some (.int (nI i)), none] : ev_L), ([.ref (o), .int ((nI (1 + (sw w i 0))) + (nI (sw w i 1)))] : List Value)) = _; rw [nI_add (1 + (sw w i 0)) (sw w i 1)]) ?_
      refine ev_getf (v := .ref (o + 1)) F_RX3_9 dX3_wordsBelow_78 hA0 rfl ?_
      refine ev_blk (B := [(.iconst 2, 1)]) (pe := 82) (ls' := [some (.ref (o)), some (.long (e1 w)), none, some (.int (nI i)), none]) (st' := [.int (nI 2), .ref (o + 1), .int (nI ((1 + (sw w i 0)) + (sw w i 1)))]) ⟨dX3_wordsBelow_81, rfl⟩ rfl ?_
      refine ev_iald dX3_wordsBelow_82 hA1 (vp_in_nI (show 2 < 11 by omega) (by omega)) ?_
      rw [nI_clamp (show 2 < 2 ^ 31 by omega)]
      rw [show f 2 = nI (sw w i 2) from ha 2 (by omega)]
      refine ev_blk (B := [(.iadd, 1)]) (pe := 84) (ls' := [some (.ref (o)), some (.long (e1 w)), none, some (.int (nI i)), none]) (st' := [.int (nI (((1 + (sw w i 0)) + (sw w i 1)) + (sw w i 2)))]) ⟨dX3_wordsBelow_83, rfl⟩ (by show some (([some (.ref (o)), some (.long (e1 w)), none, some (.int (nI i)), none] : ev_L), ([.int ((nI ((1 + (sw w i 0)) + (sw w i 1))) + (nI (sw w i 2)))] : List Value)) = _; rw [nI_add ((1 + (sw w i 0)) + (sw w i 1)) (sw w i 2)]) ?_
      refine ev_iret dX3_wordsBelow_84 rfl (rfl) ⟨Nat.le_of_ble_eq_true rfl, Nat.le_of_ble_eq_true rfl⟩ ?_
      have e7 : i = w.length := by omega
      rw [← e7]
      exact ⟨rfl, ⟨f, hA0, hA1⟩, hFr⟩
    · refine ev_blk (B := [(.lload_n 1, 1), (.iload_n 3, 1)]) (pe := 16) (ls' := [some (.ref (o)), some (.long (e1 w)), none, some (.int (nI i)), none]) (st' := [.int (nI i), .long (e1 w)]) ⟨dX3_wordsBelow_14, dX3_wordsBelow_15, rfl⟩ rfl ?_
      refine ev_cSv Y_X9_at L_RX3_30 dX3_wordsBelow_16 ⟨Nat.le_of_ble_eq_true rfl, Nat.le_of_ble_eq_true rfl, Nat.le_of_ble_eq_true rfl, Nat.le_of_ble_eq_true rfl, Nat.le_of_ble_eq_true rfl⟩ (as := [.long (e1 w), .int (nI i)]) rfl rfl (c_X9_at hl w hw (by omega) (i) (by omega)) ?_
      refine ev_blk (B := [(.istore 4, 2)]) (pe := 21) (ls' := [some (.ref (o)), some (.long (e1 w)), none, some (.int (nI i)), some (.int (nI (w[i])))]) (st' := []) ⟨dX3_wordsBelow_19, rfl⟩ rfl ?_
      have b3 : w[i] < 3 := hw _ (List.getElem_mem _)
      refine ev_blk (B := [(.iload 4, 2), (.iconst 3, 1)]) (pe := 24) (ls' := [some (.ref (o)), some (.long (e1 w)), none, some (.int (nI i)), some (.int (nI (w[i])))]) (st' := [.int (nI 3), .int (nI (w[i]))]) ⟨dX3_wordsBelow_21, dX3_wordsBelow_23, rfl⟩ rfl ?_
      refine ev_iN_ge dX3_wordsBelow_24 (tgt := 56) (by decide) (by omega) (by omega) (fun q24 => ?_) (fun q24 => ?_)
      · exfalso; omega
      · refine ev_blk (B := [(.aload_n 0, 1)]) (pe := 28) (ls' := [some (.ref (o)), some (.long (e1 w)), none, some (.int (nI i)), some (.int (nI (w[i])))]) (st' := [.ref (o)]) ⟨dX3_wordsBelow_27, rfl⟩ rfl ?_
        refine ev_getf (v := .ref (o + 1)) F_RX3_9 dX3_wordsBelow_28 hA0 rfl ?_
        refine ev_blk (B := [(.iload 4, 2), (.iconst 1, 1), (.aload_n 0, 1)]) (pe := 35) (ls' := [some (.ref (o)), some (.long (e1 w)), none, some (.int (nI i)), some (.int (nI (w[i])))]) (st' := [.ref (o), .int (nI 1), .int (nI (w[i])), .ref (o + 1)]) ⟨dX3_wordsBelow_31, dX3_wordsBelow_33, dX3_wordsBelow_34, rfl⟩ rfl ?_
        refine ev_getf (v := .ref (o + 1)) F_RX3_9 dX3_wordsBelow_35 hA0 rfl ?_
        refine ev_blk (B := [(.iconst 0, 1)]) (pe := 39) (ls' := [some (.ref (o)), some (.long (e1 w)), none, some (.int (nI i)), some (.int (nI (w[i])))]) (st' := [.int (nI 0), .ref (o + 1), .int (nI 1), .int (nI (w[i])), .ref (o + 1)]) ⟨dX3_wordsBelow_38, rfl⟩ rfl ?_
        refine ev_iald dX3_wordsBelow_39 hA1 (vp_in_nI (show 0 < 11 by omega) (by omega)) ?_
        rw [nI_clamp (show 0 < 2 ^ 31 by omega)]
        rw [show f 0 = nI (sw w i 0) from ha 0 (by omega)]
        refine ev_blk (B := [(.iadd, 1), (.aload_n 0, 1)]) (pe := 42) (ls' := [some (.ref (o)), some (.long (e1 w)), none, some (.int (nI i)), some (.int (nI (w[i])))]) (st' := [.ref (o), .int (nI (1 + (sw w i 0))), .int (nI (w[i])), .ref (o + 1)]) ⟨dX3_wordsBelow_40, dX3_wordsBelow_41, rfl⟩ (by show some (([some (.ref (o)), some (.long (e1 w)), none, some (.int (nI i)), some (.int (nI (w[i])))] : ev_L), ([.ref (o), .int ((nI 1) + (nI (sw w i 0))), .int (nI (w[i])), .ref (o + 1)] : List Value)) = _; rw [nI_add 1 (sw w i 0)]) ?_
        refine ev_getf (v := .ref (o + 1)) F_RX3_9 dX3_wordsBelow_42 hA0 rfl ?_
        refine ev_blk (B := [(.iconst 1, 1)]) (pe := 46) (ls' := [some (.ref (o)), some (.long (e1 w)), none, some (.int (nI i)), some (.int (nI (w[i])))]) (st' := [.int (nI 1), .ref (o + 1), .int (nI (1 + (sw w i 0))), .int (nI (w[i])), .ref (o + 1)]) ⟨dX3_wordsBelow_45, rfl⟩ rfl ?_
        refine ev_iald dX3_wordsBelow_46 hA1 (vp_in_nI (show 1 < 11 by omega) (by omega)) ?_
        rw [nI_clamp (show 1 < 2 ^ 31 by omega)]
        rw [show f 1 = nI (sw w i 1) from ha 1 (by omega)]
        refine ev_blk (B := [(.iadd, 1), (.aload_n 0, 1)]) (pe := 49) (ls' := [some (.ref (o)), some (.long (e1 w)), none, some (.int (nI i)), some (.int (nI (w[i])))]) (st' := [.ref (o), .int (nI ((1 + (sw w i 0)) + (sw w i 1))), .int (nI (w[i])), .ref (o + 1)]) ⟨dX3_wordsBelow_47, dX3_wordsBelow_48, rfl⟩ (by show some (([some (.ref (o)), some (.long (e1 w)), none, some (.int (nI i)), some (.int (nI (w[i])))] : ev_L), ([.ref (o), .int ((nI (1 + (sw w i 0))) + (nI (sw w i 1))), .int (nI (w[i])), .ref (o + 1)] : List Value)) = _; rw [nI_add (1 + (sw w i 0)) (sw w i 1)]) ?_
        refine ev_getf (v := .ref (o + 1)) F_RX3_9 dX3_wordsBelow_49 hA0 rfl ?_
        refine ev_blk (B := [(.iconst 2, 1)]) (pe := 53) (ls' := [some (.ref (o)), some (.long (e1 w)), none, some (.int (nI i)), some (.int (nI (w[i])))]) (st' := [.int (nI 2), .ref (o + 1), .int (nI ((1 + (sw w i 0)) + (sw w i 1))), .int (nI (w[i])), .ref (o + 1)]) ⟨dX3_wordsBelow_52, rfl⟩ rfl ?_
        refine ev_iald dX3_wordsBelow_53 hA1 (vp_in_nI (show 2 < 11 by omega) (by omega)) ?_
        rw [nI_clamp (show 2 < 2 ^ 31 by omega)]
        rw [show f 2 = nI (sw w i 2) from ha 2 (by omega)]
        refine ev_blk (B := [(.iadd, 1)]) (pe := 55) (ls' := [some (.ref (o)), some (.long (e1 w)), none, some (.int (nI i)), some (.int (nI (w[i])))]) (st' := [.int (nI (((1 + (sw w i 0)) + (sw w i 1)) + (sw w i 2))), .int (nI (w[i])), .ref (o + 1)]) ⟨dX3_wordsBelow_54, rfl⟩ (by show some (([some (.ref (o)), some (.long (e1 w)), none, some (.int (nI i)), some (.int (nI (w[i])))] : ev_L), ([.int ((nI ((1 + (sw w i 0)) + (sw w i 1))) + (nI (sw w i 2))), .int (nI (w[i])), .ref (o + 1)] : List Value)) = _; rw [nI_add ((1 + (sw w i 0)) + (sw w i 1)) (sw w i 2)]) ?_
        refine ev_iast dX3_wordsBelow_55 hA1 (vp_in_nI (show w[i] < 11 by omega) (by omega)) ?_
        rw [nI_clamp (show w[i] < 2 ^ 31 by omega)]
        refine ev_nm (M0 := M.set (o + 1) (.inl (0, 11, .inl (upd f (w[i]) (nI (((1 + (sw w i 0)) + (sw w i 1)) + (sw w i 2))))))) (fun M1 eM1 => ?_)
        have f2 : M1[o]? = some (.inr (3, [.ref (o + 1)])) := by rw [eM1, ev_sn (by omega)]; exact hA0
        have f3 : M1[o + 1]? = some (.inl (0, 11, .inl (upd f (w[i]) (nI (((1 + (sw w i 0)) + (sw w i 1)) + (sw w i 2)))))) := by rw [eM1]; exact ev_sg hA1
        refine ev_blk (B := [(.iinc 3 1, 3)]) (pe := 59) (ls' := [some (.ref (o)), some (.long (e1 w)), none, some (.int (nI (i + 1))), some (.int (nI (w[i])))]) (st' := []) ⟨dX3_wordsBelow_56, rfl⟩ (by show some (([some (.ref (o)), some (.long (e1 w)), none, some (.int ((nI i) + Int32.ofInt (1))), some (.int (nI (w[i])))] : ev_L), ([] : List Value)) = _; rw [ev_inc1 i]) ?_
        refine ev_goto (tgt := 6) dX3_wordsBelow_59 (by decide) ?_
        refine ev_fgt (ls' := [some (.ref (o)), some (.long (e1 w)), none, some (.int (nI (i + 1))), none]) ⟨Or.inr rfl, Or.inr rfl, Or.inl rfl, Or.inr rfl, Or.inl rfl, trivial⟩ ?_
        refine ih (i + 1) _ _ (by omega) ⟨f2, f3⟩ (hFr.tr ⟨by rw [eM1]; simp only [List.length_set], fun j hj => by rw [eM1, ev_sn (by omega)]⟩) (fun k h1 => ?_) (by omega)
        rw [upd_at]
        show _ = nI (if w.getD i 3 = k then _ else _)
        by_cases e : k = w[i]
        · rw [if_pos e, if_pos (by rw [gd3 (by omega)]; exact e.symm)]
        · rw [if_neg e, if_neg (fun q => e (by rw [gd3 (by omega)] at q; exact q.symm))]; exact ha k h1

set_option maxHeartbeats 4000000 in
set_option maxRecDepth 100000 in
theorem c_X3_wordsBelow {l : Launch} (hl : l.stackTraces = false) {M : ev_M} (o : Nat) (hG : RG M o) (w : List Nat) (hw : wk w) (hwn : w.length ≤ 10) : ev_Mt l m_X3_wordsBelow [.ref (o), .long (e1 w)] M (fun r M1 => r = .inl (some (.int (nI (1 + sw w w.length 0 + sw w w.length 1 + sw w w.length 2)))) ∧ RG M1 o ∧ Fr (o + 1) (o + 2) M M1) := by
  have hG1 := hG
  obtain ⟨f0, hA9, hA8⟩ := hG1
  refine ev_body hl rfl (by decide +kernel) (Nat.le_of_ble_eq_true rfl) ?_
  show ev_ l m_X3_wordsBelow 0 0 0 [some (.ref (o)), some (.long (e1 w)), none, none, none] [] M _
  refine ev_blk (B := [(.aload_n 0, 1)]) (pe := 1) (ls' := [some (.ref (o)), some (.long (e1 w)), none, none, none]) (st' := [.ref (o)]) ⟨dX3_wordsBelow_0, rfl⟩ rfl ?_
  refine ev_cVn Y_X3_empty L_RX3_27 dX3_wordsBelow_1 ⟨Nat.le_of_ble_eq_true rfl, Nat.le_of_ble_eq_true rfl, Nat.le_of_ble_eq_true rfl, Nat.le_of_ble_eq_true rfl, Nat.le_of_ble_eq_true rfl⟩ hA9 (as := []) rfl rfl (c_X3_empty hl o hG) (fun M1 hL1 hB1 => ?_)
  obtain ⟨⟨f1, ⟨hA0, hA1⟩, hz⟩, hFr0⟩ := hB1
  refine ev_blk (B := [(.iconst 0, 1), (.istore_n 3, 1)]) (pe := 6) (ls' := [some (.ref (o)), some (.long (e1 w)), none, some (.int (nI 0)), none]) (st' := []) ⟨dX3_wordsBelow_4, dX3_wordsBelow_5, rfl⟩ rfl ?_
  exact c_X3_wordsBelow_l hl o w hw hwn M _ 0 _ _ (Nat.zero_le _) ⟨hA0, hA1⟩ hFr0 (fun k hk => hz k (by omega)) (Nat.lt_succ_self _)

