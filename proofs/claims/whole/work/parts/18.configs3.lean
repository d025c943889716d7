set_option maxHeartbeats 4000000 in
set_option maxRecDepth 100000 in
theorem c_X2_insertMinimal_l {l : Launch} (hl : l.stackTraces = false)  (M0 : ev_M) (o cap : Nat) (L : List Cf) (hlen : L.length < cap) (hcap : cap < 2000) (hL : cfs 25 L) (c : Nat) (x : Cf) (hx : cfO x) (hco : c < o ∨ o + 4 ≤ c) : ∀ (n9 : Nat) (p : Nat) (M : ev_M) (f : Nat → Int32) (g : Nat → Int64) (h : Nat → Int64), p ≤ L.length → (∀ j, p ≤ j → j < L.length → cl x (cg L j) = true) → RC M o cap (L.length + 1) f g h → RF M c x → Fr o (o + 4) M0 M → (∀ j, j < p → f j = nI (cg L j).1 ∧ g j = e1 (cg L j).2.1 ∧ h j = e1 (cg L j).2.2) → (∀ j, p < j → j ≤ L.length → f j = nI (cg L (j - 1)).1 ∧ g j = e1 (cg L (j - 1)).2.1 ∧ h j = e1 (cg L (j - 1)).2.2) → p < n9 → ev_ l m_X2_insertMinimal 0 0 48 [some (.ref (o)), some (.ref (c)), some (.int (nI p))] [] M (fun r M1 => r = .inl (some (.int (ev_b true))) ∧ RQ M1 o cap (ins x L) ∧ Fr o (o + 4) M0 M1) := by
  intro n9
  induction n9 with
  | zero => intro p M f g h hp hcl hR hF hFr hlo hhi hm9; exact absurd hm9 (by omega)
  | succ n9 ih =>
    intro p M f g h hp hcl hR hF hFr hlo hhi hm9
    obtain ⟨hC0, hC1, hC2, hC3⟩ := hR
    refine ev_blk (B := [(.iload_n 2, 1)]) (pe := 49) (ls' := [some (.ref (o)), some (.ref (c)), some (.int (nI p))]) (st' := [.int (nI p)]) ⟨dX2_insertMinimal_48, rfl⟩ rfl ?_
    refine ev_fN_le dX2_insertMinimal_49 (tgt := 77) (by decide) (by omega) (fun q49 => ?_) (fun q49 => ?_)
    · refine ev_blk (B := [(.aload_n 0, 1), (.iload_n 2, 1), (.aload_n 1, 1)]) (pe := 80) (ls' := [some (.ref (o)), some (.ref (c)), some (.int (nI p))]) (st' := [.ref (c), .int (nI p), .ref (o)]) ⟨dX2_insertMinimal_77, dX2_insertMinimal_78, dX2_insertMinimal_79, rfl⟩ rfl ?_
      refine ev_cVn Y_X2_store L_RX2_48 dX2_insertMinimal_80 ⟨Nat.le_of_ble_eq_true rfl, Nat.le_of_ble_eq_true rfl, Nat.le_of_ble_eq_true rfl, Nat.le_of_ble_eq_true rfl, Nat.le_of_ble_eq_true rfl⟩ hC0 (as := [.int (nI p), .ref (c)]) rfl rfl (c_X2_store hl _ _ _ _ _ _ ⟨hC0, hC1, hC2, hC3⟩ (by omega) hcap (p) (by omega) _ _ hF hco) (fun M1 hL1 hB1 => ?_)
      obtain ⟨hR9, hFr9⟩ := hB1
      refine ev_blk (B := [(.iconst 1, 1)]) (pe := 84) (ls' := [some (.ref (o)), some (.ref (c)), some (.int (nI p))]) (st' := [.int (nI 1)]) ⟨dX2_insertMinimal_83, rfl⟩ rfl ?_
      refine ev_iret dX2_insertMinimal_84 rfl (rfl) ⟨Nat.le_of_ble_eq_true rfl, Nat.le_of_ble_eq_true rfl⟩ ?_
      have e9 := ins_at hp hcl (by first | exact Or.inl q49 | exact Or.inr (Bool.eq_false_iff.mpr (fun e => Int32.not_lt.mpr q60 (oc_lt.mpr e))))
      have e8 : (ins x L).length = L.length + 1 := by rw [e9, List.length_append, List.length_take, List.length_cons, List.length_drop]; omega
      refine ⟨rfl, ⟨hcap, by rw [e8]; exact hlen, _, _, _, by rw [e8]; exact hR9, ?_⟩, hFr.tr hFr9⟩
      rw [e8, e9]
      exact RP.ins rfl hp hlo hhi
    · refine ev_blk (B := [(.aload_n 0, 1), (.aload_n 1, 1), (.iload_n 2, 1), (.iconst 1, 1), (.isub, 1)]) (pe := 57) (ls' := [some (.ref (o)), some (.ref (c)), some (.int (nI p))]) (st' := [.int (nI (p - 1)), .ref (c), .ref (o)]) ⟨dX2_insertMinimal_52, dX2_insertMinimal_53, dX2_insertMinimal_54, dX2_insertMinimal_55, dX2_insertMinimal_56, rfl⟩ (by show some (([some (.ref (o)), some (.ref (c)), some (.int (nI p))] : ev_L), ([.int ((nI p) - (nI 1)), .ref (c), .ref (o)] : List Value)) = _; rw [pk_sub (show 1 ≤ p by omega)]) ?_
      refine ev_cVv Y_X2_order L_RX2_66 dX2_insertMinimal_57 ⟨Nat.le_of_ble_eq_true rfl, Nat.le_of_ble_eq_true rfl, Nat.le_of_ble_eq_true rfl, Nat.le_of_ble_eq_true rfl, Nat.le_of_ble_eq_true rfl⟩ hC0 (as := [.ref (c), .int (nI (p - 1))]) rfl rfl (c_X2_order hl _ _ _ _ _ _ ⟨hC0, hC1, hC2, hC3⟩ hlen hcap (p - 1) (by omega) _ _ hF hx (cg L (p - 1)) (cfs_cg hL (by omega)) (hlo (p - 1) (by omega))) ?_
      refine ev_if_ge dX2_insertMinimal_60 (tgt := 77) (by decide) (fun q60 => ?_) (fun q60 => ?_)
      · refine ev_blk (B := [(.aload_n 0, 1), (.iload_n 2, 1), (.aload_n 1, 1)]) (pe := 80) (ls' := [some (.ref (o)), some (.ref (c)), some (.int (nI p))]) (st' := [.ref (c), .int (nI p), .ref (o)]) ⟨dX2_insertMinimal_77, dX2_insertMinimal_78, dX2_insertMinimal_79, rfl⟩ rfl ?_
        refine ev_cVn Y_X2_store L_RX2_48 dX2_insertMinimal_80 ⟨Nat.le_of_ble_eq_true rfl, Nat.le_of_ble_eq_true rfl, Nat.le_of_ble_eq_true rfl, Nat.le_of_ble_eq_true rfl, Nat.le_of_ble_eq_true rfl⟩ hC0 (as := [.int (nI p), .ref (c)]) rfl rfl (c_X2_store hl _ _ _ _ _ _ ⟨hC0, hC1, hC2, hC3⟩ (by omega) hcap (p) (by omega) _ _ hF hco) (fun M2 hL2 hB2 => ?_)
        obtain ⟨hR9, hFr9⟩ := hB2
        refine ev_blk (B := [(.iconst 1, 1)]) (pe := 84) (ls' := [some (.ref (o)), some (.ref (c)), some (.int (nI p))]) (st' := [.int (nI 1)]) ⟨dX2_insertMinimal_83, rfl⟩ rfl ?_
        refine ev_iret dX2_insertMinimal_84 rfl (rfl) ⟨Nat.le_of_ble_eq_true rfl, Nat.le_of_ble_eq_true rfl⟩ ?_
        have e9 := ins_at hp hcl (by first | exact Or.inl q49 | exact Or.inr (Bool.eq_false_iff.mpr (fun e => Int32.not_lt.mpr q60 (oc_lt.mpr e))))
        have e8 : (ins x L).length = L.length + 1 := by rw [e9, List.length_append, List.length_take, List.length_cons, List.length_drop]; omega
        refine ⟨rfl, ⟨hcap, by rw [e8]; exact hlen, _, _, _, by rw [e8]; exact hR9, ?_⟩, hFr.tr hFr9⟩
        rw [e8, e9]
        exact RP.ins rfl hp hlo hhi
      · refine ev_blk (B := [(.aload_n 0, 1), (.iload_n 2, 1), (.iconst 1, 1), (.isub, 1), (.iload_n 2, 1)]) (pe := 68) (ls' := [some (.ref (o)), some (.ref (c)), some (.int (nI p))]) (st' := [.int (nI p), .int (nI (p - 1)), .ref (o)]) ⟨dX2_insertMinimal_63, dX2_insertMinimal_64, dX2_insertMinimal_65, dX2_insertMinimal_66, dX2_insertMinimal_67, rfl⟩ (by show some (([some (.ref (o)), some (.ref (c)), some (.int (nI p))] : ev_L), ([.int (nI p), .int ((nI p) - (nI 1)), .ref (o)] : List Value)) = _; rw [pk_sub (show 1 ≤ p by omega)]) ?_
        refine ev_cVn Y_X2_move L_RX2_59 dX2_insertMinimal_68 ⟨Nat.le_of_ble_eq_true rfl, Nat.le_of_ble_eq_true rfl, Nat.le_of_ble_eq_true rfl, Nat.le_of_ble_eq_true rfl, Nat.le_of_ble_eq_true rfl⟩ hC0 (as := [.int (nI (p - 1)), .int (nI p)]) rfl rfl (c_X2_move hl _ _ _ _ _ _ ⟨hC0, hC1, hC2, hC3⟩ (by omega) hcap (p - 1) (p) (by omega) (by omega)) (fun M3 hL3 hB3 => ?_)
        obtain ⟨⟨k0, k1, k2, k3⟩, hFr9⟩ := hB3
        have hF9 := RF.fr hF hFr9 (by omega)
        refine ev_blk (B := [(.iinc 2 (-1), 3)]) (pe := 74) (ls' := [some (.ref (o)), some (.ref (c)), some (.int (nI (p - 1)))]) (st' := []) ⟨dX2_insertMinimal_71, rfl⟩ (by show some (([some (.ref (o)), some (.ref (c)), some (.int ((nI p) + Int32.ofInt (-1)))] : ev_L), ([] : List Value)) = _; rw [ev_incm (show 0 < p by omega)]) ?_
        refine ev_goto (tgt := 48) dX2_insertMinimal_74 (by decide) ?_
        refine ih (p - 1) _ _ _ _ (by omega) (fun j h1 h2 => ?_) ⟨k0, k1, k2, k3⟩ hF9 (hFr.tr hFr9) (fun j hj => ?_) (fun j h1 h2 => ?_) (by omega)
        · by_cases e : j = p - 1
          · subst e; exact oc_lt.mp (Int32.not_le.mp q60)
          · exact hcl j (by omega) h2
        · rw [upd_at, updL_at, updL_at, if_neg (by omega), if_neg (by omega), if_neg (by omega)]
          exact hlo j (by omega)
        · rw [upd_at, updL_at, updL_at]
          by_cases e : j = p
          · subst e
            rw [if_pos rfl, if_pos rfl, if_pos rfl]
            exact hlo (j - 1) (by omega)
          · rw [if_neg e, if_neg e, if_neg e]
            exact hhi j (by omega) h2

set_option maxHeartbeats 4000000 in
set_option maxRecDepth 100000 in
theorem c_X2_insertMinimal {l : Launch} (hl : l.stackTraces = false) {M : ev_M} (o cap : Nat) (L : List Cf) (hR : RQ M o cap L) (hlt : L.length < cap) (hL : cfs 25 L) (c : Nat) (x : Cf) (hF : RF M c x) (hx : cfO x) (hco : c < o ∨ o + 4 ≤ c) : ev_Mt l m_X2_insertMinimal [.ref (o), .ref (c)] M (fun r M1 => r = .inl (some (.int (ev_b (im L x).1))) ∧ RQ M1 o cap (im L x).2 ∧ Fr o (o + 4) M M1) := by
  obtain ⟨hcap, hlen, f, g, h, ⟨hC0, hC1, hC2, hC3⟩, hP⟩ := hR
  refine ev_body hl rfl (by decide +kernel) (Nat.le_of_ble_eq_true rfl) ?_
  show ev_ l m_X2_insertMinimal 0 0 0 [some (.ref (o)), some (.ref (c)), none] [] M _
  refine ev_blk (B := [(.aload_n 0, 1), (.aload_n 1, 1), (.aload_n 0, 1)]) (pe := 3) (ls' := [some (.ref (o)), some (.ref (c)), none]) (st' := [.ref (o), .ref (c), .ref (o)]) ⟨dX2_insertMinimal_0, dX2_insertMinimal_1, dX2_insertMinimal_2, rfl⟩ rfl ?_
  refine ev_getf (v := .int (nI (L.length))) F_RX2_26 dX2_insertMinimal_3 hC0 rfl ?_
  refine ev_cVv Y_X2_firstBelow L_RX2_74 dX2_insertMinimal_6 ⟨Nat.le_of_ble_eq_true rfl, Nat.le_of_ble_eq_true rfl, Nat.le_of_ble_eq_true rfl, Nat.le_of_ble_eq_true rfl, Nat.le_of_ble_eq_true rfl⟩ hC0 (as := [.ref (c), .int (nI (L.length))]) rfl rfl (c_X2_firstBelow hl o cap L ⟨hcap, hlen, f, g, h, ⟨hC0, hC1, hC2, hC3⟩, hP⟩ hL c x hF hx _ (by omega)) ?_
  refine ev_if_lt dX2_insertMinimal_9 (tgt := 14) (by decide) (fun q9 => ?_) (fun q9 => ?_)
  · refine ev_blk (B := [(.aload_n 0, 1), (.aload_n 1, 1)]) (pe := 16) (ls' := [some (.ref (o)), some (.ref (c)), none]) (st' := [.ref (c), .ref (o)]) ⟨dX2_insertMinimal_14, dX2_insertMinimal_15, rfl⟩ rfl ?_
    refine ev_cVn Y_X2_removeAbove L_RX2_77 dX2_insertMinimal_16 ⟨Nat.le_of_ble_eq_true rfl, Nat.le_of_ble_eq_true rfl, Nat.le_of_ble_eq_true rfl, Nat.le_of_ble_eq_true rfl, Nat.le_of_ble_eq_true rfl⟩ hC0 (as := [.ref (c)]) rfl rfl (c_X2_removeAbove hl o cap L ⟨hcap, hlen, f, g, h, ⟨hC0, hC1, hC2, hC3⟩, hP⟩ hL c x hF hx hco) (fun M1 hL1 hB1 => ?_)
    have z0 : ¬ L.any (fun y => cb y x) = true := fun q => by rw [← fb_iff] at q; exact Int32.not_le.mpr q9 ((oI_ge (fun i h => by have := fb_lt h; omega)).mpr q)
    have z1 : im L x = (true, ins x (L.filter (fun y => !cb x y))) := by unfold im; rw [if_neg z0]
    rw [z1]
    have hL2 : cfs 25 (L.filter (fun y => !cb x y)) := fun y hy => hL y (List.mem_filter.mp hy).1
    have hz := List.length_filter_le (fun y => !cb x y) L
    generalize L.filter (fun y => !cb x y) = L2 at * 
    obtain ⟨⟨-, hlen2, sf, sg, sh, ⟨k0, k1, k2, k3⟩, hP2⟩, hFr2⟩ := hB1
    have hF2 := RF.fr hF hFr2 (by omega)
    refine ev_blk (B := [(.aload_n 0, 1)]) (pe := 20) (ls' := [some (.ref (o)), some (.ref (c)), none]) (st' := [.ref (o)]) ⟨dX2_insertMinimal_19, rfl⟩ rfl ?_
    refine ev_getf (v := .int (nI (L2.length))) F_RX2_26 dX2_insertMinimal_20 k0 rfl ?_
    refine ev_blk (B := [(.aload_n 0, 1)]) (pe := 24) (ls' := [some (.ref (o)), some (.ref (c)), none]) (st' := [.ref (o), .int (nI (L2.length))]) ⟨dX2_insertMinimal_23, rfl⟩ rfl ?_
    refine ev_getf (v := .ref (o + 1)) F_RX2_13 dX2_insertMinimal_24 k0 rfl ?_
    refine ev_alen (v := nI (cap)) dX2_insertMinimal_27 k1 (by decide) rfl ?_
    refine ev_iN_lt dX2_insertMinimal_28 (tgt := 33) (by decide) (by omega) (by omega) (fun q28 => ?_) (fun q28 => ?_)
    · refine ev_blk (B := [(.aload_n 0, 1)]) (pe := 34) (ls' := [some (.ref (o)), some (.ref (c)), none]) (st' := [.ref (o)]) ⟨dX2_insertMinimal_33, rfl⟩ rfl ?_
      refine ev_getf (v := .int (nI (L2.length))) F_RX2_26 dX2_insertMinimal_34 k0 rfl ?_
      refine ev_blk (B := [(.istore_n 2, 1), (.aload_n 0, 1), (.dup, 1)]) (pe := 40) (ls' := [some (.ref (o)), some (.ref (c)), some (.int (nI (L2.length)))]) (st' := [.ref (o), .ref (o)]) ⟨dX2_insertMinimal_37, dX2_insertMinimal_38, dX2_insertMinimal_39, rfl⟩ rfl ?_
      refine ev_getf (v := .int (nI (L2.length))) F_RX2_26 dX2_insertMinimal_40 k0 rfl ?_
      refine ev_blk (B := [(.iconst 1, 1), (.iadd, 1)]) (pe := 45) (ls' := [some (.ref (o)), some (.ref (c)), some (.int (nI (L2.length)))]) (st' := [.int (nI ((L2.length) + 1)), .ref (o)]) ⟨dX2_insertMinimal_43, dX2_insertMinimal_44, rfl⟩ (by show some (([some (.ref (o)), some (.ref (c)), some (.int (nI (L2.length)))] : ev_L), ([.int ((nI (L2.length)) + (nI 1)), .ref (o)] : List Value)) = _; rw [nI_add (L2.length) 1]) ?_
      refine ev_put F_RX2_26 dX2_insertMinimal_45 k0 (Nat.le_of_ble_eq_true rfl) (fun _ _ => ⟨rfl, rfl⟩) ?_
      refine ev_nm (M0 := M1.set (o) (.inr (2, [.ref (o + 1), .ref (o + 2), .ref (o + 3), .int (nI ((L2.length) + 1))]))) (fun M2 eM2 => ?_)
      have f3 : M2[o]? = some (.inr (2, [.ref (o + 1), .ref (o + 2), .ref (o + 3), .int (nI ((L2.length) + 1))])) := by rw [eM2]; exact ev_sg k0
      have f4 : M2[o + 1]? = some (.inl (0, cap, .inl (sf))) := by rw [eM2, ev_sn (by omega)]; exact k1
      have f5 : M2[o + 2]? = some (.inl (1, cap, .inr (.inl (sg)))) := by rw [eM2, ev_sn (by omega)]; exact k2
      have f6 : M2[o + 3]? = some (.inl (1, cap, .inr (.inl (sh)))) := by rw [eM2, ev_sn (by omega)]; exact k3
      have f7 : M2[c]? = some (.inr (1, [.int (nI (x.1)), .long (e1 x.2.1), .long (e1 x.2.2)])) := by rw [eM2, ev_sn (by omega)]; exact hF2
      exact c_X2_insertMinimal_l hl M o cap L2 (by omega) hcap hL2 c x hx hco _ L2.length _ sf sg sh (Nat.le_refl _) (fun j h1 h2 => absurd h2 (by omega)) ⟨f3, f4, f5, f6⟩ f7 (hFr2.tr ⟨by rw [eM2]; simp only [List.length_set], fun j hj => by rw [eM2, ev_sn (by omega)]⟩) (fun j hj => hP2 j hj) (fun j h1 h2 => absurd h1 (by omega)) (Nat.lt_succ_self _)
    · exfalso; omega
  · refine ev_blk (B := [(.iconst 0, 1)]) (pe := 13) (ls' := [some (.ref (o)), some (.ref (c)), none]) (st' := [.int (nI 0)]) ⟨dX2_insertMinimal_12, rfl⟩ rfl ?_
    refine ev_iret dX2_insertMinimal_13 rfl (rfl) ⟨Nat.le_of_ble_eq_true rfl, Nat.le_of_ble_eq_true rfl⟩ ?_
    have z0 : L.any (fun y => cb y x) = true := by rw [← fb_iff]; exact (oI_ge (fun i h => by have := fb_lt h; omega)).mp (Int32.not_lt.mp q9)
    have z1 : im L x = (false, L) := by unfold im; rw [if_pos z0]
    rw [z1]
    exact ⟨rfl, ⟨hcap, hlen, f, g, h, ⟨hC0, hC1, hC2, hC3⟩, hP⟩, Fr.rf⟩

set_option maxHeartbeats 4000000 in
set_option maxRecDepth 100000 in
theorem c_X2_removeFirst_l {l : Launch} (hl : l.stackTraces = false)  (M0 : ev_M) (o cap : Nat) (L : List Cf) (hlen : L.length ≤ cap) (hcap : cap < 2000) (hne : 0 < L.length) : ∀ (n9 : Nat) (i : Nat) (M : ev_M) (f : Nat → Int32) (g : Nat → Int64) (h : Nat → Int64), 1 ≤ i → i ≤ L.length → RC M o cap L.length f g h → Fr o (o + 4) M0 M → (∀ j, j < i - 1 → f j = nI (cg L (j + 1)).1 ∧ g j = e1 (cg L (j + 1)).2.1 ∧ h j = e1 (cg L (j + 1)).2.2) → (∀ j, i - 1 ≤ j → j < L.length → f j = nI (cg L j).1 ∧ g j = e1 (cg L j).2.1 ∧ h j = e1 (cg L j).2.2) → L.length - i < n9 → ev_ l m_X2_removeFirst 0 0 2 [some (.ref (o)), some (.int (nI i))] [] M (fun r M1 => r = .inl none ∧ RQ M1 o cap L.tail ∧ Fr o (o + 4) M0 M1) := by
  intro n9
  induction n9 with
  | zero => intro i M f g h hi1 hi hR hFr hlo hhi hm9; exact absurd hm9 (by omega)
  | succ n9 ih =>
    intro i M f g h hi1 hi hR hFr hlo hhi hm9
    obtain ⟨hC0, hC1, hC2, hC3⟩ := hR
    refine ev_blk (B := [(.iload_n 1, 1), (.aload_n 0, 1)]) (pe := 4) (ls' := [some (.ref (o)), some (.int (nI i))]) (st' := [.ref (o), .int (nI i)]) ⟨dX2_removeFirst_2, dX2_removeFirst_3, rfl⟩ rfl ?_
    refine ev_getf (v := .int (nI (L.length))) F_RX2_26 dX2_removeFirst_4 hC0 rfl ?_
    refine ev_iN_ge dX2_removeFirst_7 (tgt := 24) (by decide) (by omega) (by omega) (fun q7 => ?_) (fun q7 => ?_)
    · have e7 : i = L.length := by omega
      have eL : (L.tail ++ [cg L (L.length - 1)]).length = L.length := by rw [List.length_append, List.length_tail]; show L.length - 1 + 1 = _; omega
      have hPL : RP (L.tail ++ [cg L (L.length - 1)]).length f g h (L.tail ++ [cg L (L.length - 1)]) := by
        rw [eL]
        intro j hj
        by_cases e : j = L.length - 1
        · subst e
          have := cg_app_r (L := L.tail) (R := [cg L (L.length - 1)]) (i := 0)
          rw [List.length_tail, Nat.add_zero] at this
          rw [this]
          exact hhi _ (by omega) (by omega)
        · rw [cg_app_l (by rw [List.length_tail]; omega), cg_tail]
          exact hlo j (by omega)
      refine ev_blk (B := [(.aload_n 0, 1)]) (pe := 25) (ls' := [some (.ref (o)), some (.int (nI i))]) (st' := [.ref (o)]) ⟨dX2_removeFirst_24, rfl⟩ rfl ?_
      refine ev_cVn Y_X2_removeLast L_RX2_63 dX2_removeFirst_25 ⟨Nat.le_of_ble_eq_true rfl, Nat.le_of_ble_eq_true rfl, Nat.le_of_ble_eq_true rfl, Nat.le_of_ble_eq_true rfl, Nat.le_of_ble_eq_true rfl⟩ hC0 (as := []) rfl rfl (c_X2_removeLast hl o cap (L.tail ++ [cg L (L.length - 1)]) ⟨hcap, by rw [eL]; exact hlen, f, g, h, by rw [eL]; exact ⟨hC0, hC1, hC2, hC3⟩, hPL⟩ (by rw [eL]; exact hne)) (fun M1 hL1 hB1 => ?_)
      obtain ⟨hB1, hB2⟩ := hB1
      refine ev_vret dX2_removeFirst_28 rfl ⟨Nat.le_of_ble_eq_true rfl, Nat.le_of_ble_eq_true rfl⟩ ?_
      rw [List.dropLast_concat] at hB1
      exact ⟨rfl, hB1, hFr.tr hB2⟩
    · refine ev_blk (B := [(.aload_n 0, 1), (.iload_n 1, 1), (.iload_n 1, 1), (.iconst 1, 1), (.isub, 1)]) (pe := 15) (ls' := [some (.ref (o)), some (.int (nI i))]) (st' := [.int (nI (i - 1)), .int (nI i), .ref (o)]) ⟨dX2_removeFirst_10, dX2_removeFirst_11, dX2_removeFirst_12, dX2_removeFirst_13, dX2_removeFirst_14, rfl⟩ (by show some (([some (.ref (o)), some (.int (nI i))] : ev_L), ([.int ((nI i) - (nI 1)), .int (nI i), .ref (o)] : List Value)) = _; rw [pk_sub (show 1 ≤ i by omega)]) ?_
      refine ev_cVn Y_X2_move L_RX2_59 dX2_removeFirst_15 ⟨Nat.le_of_ble_eq_true rfl, Nat.le_of_ble_eq_true rfl, Nat.le_of_ble_eq_true rfl, Nat.le_of_ble_eq_true rfl, Nat.le_of_ble_eq_true rfl⟩ hC0 (as := [.int (nI i), .int (nI (i - 1))]) rfl rfl (c_X2_move hl _ _ _ _ _ _ ⟨hC0, hC1, hC2, hC3⟩ (by omega) hcap (i) (i - 1) (by omega) (by omega)) (fun M2 hL2 hB2 => ?_)
      obtain ⟨⟨k0, k1, k2, k3⟩, hFr9⟩ := hB2
      refine ev_blk (B := [(.iinc 1 1, 3)]) (pe := 21) (ls' := [some (.ref (o)), some (.int (nI (i + 1)))]) (st' := []) ⟨dX2_removeFirst_18, rfl⟩ (by show some (([some (.ref (o)), some (.int ((nI i) + Int32.ofInt (1)))] : ev_L), ([] : List Value)) = _; rw [ev_inc1 i]) ?_
      refine ev_goto (tgt := 2) dX2_removeFirst_21 (by decide) ?_
      refine ih (i + 1) _ _ _ _ (by omega) (by omega) ⟨k0, k1, k2, k3⟩ (hFr.tr hFr9) (fun j hj => ?_) (fun j h1 h2 => ?_) (by omega)
      · rw [upd_at, updL_at, updL_at]
        by_cases e : j = i - 1
        · subst e
          rw [if_pos rfl, if_pos rfl, if_pos rfl, show i - 1 + 1 = i by omega]
          exact hhi i (by omega) (by omega)
        · rw [if_neg e, if_neg e, if_neg e]
          exact hlo j (by omega)
      · rw [upd_at, updL_at, updL_at, if_neg (by omega), if_neg (by omega), if_neg (by omega)]
        exact hhi j (by omega) h2

set_option maxHeartbeats 4000000 in
set_option maxRecDepth 100000 in
theorem c_X2_removeFirst {l : Launch} (hl : l.stackTraces = false) {M : ev_M} (o cap : Nat) (L : List Cf) (hR : RQ M o cap L) (hne : 0 < L.length) : ev_Mt l m_X2_removeFirst [.ref (o)] M (fun r M1 => r = .inl none ∧ RQ M1 o cap L.tail ∧ Fr o (o + 4) M M1) := by
  obtain ⟨hcap, hlen, f, g, h, ⟨hC0, hC1, hC2, hC3⟩, hP⟩ := hR
  refine ev_body hl rfl (by decide +kernel) (Nat.le_of_ble_eq_true rfl) ?_
  show ev_ l m_X2_removeFirst 0 0 0 [some (.ref (o)), none] [] M _
  refine ev_blk (B := [(.iconst 1, 1), (.istore_n 1, 1)]) (pe := 2) (ls' := [some (.ref (o)), some (.int (nI 1))]) (st' := []) ⟨dX2_removeFirst_0, dX2_removeFirst_1, rfl⟩ rfl ?_
  exact c_X2_removeFirst_l hl M o cap L hlen hcap hne _ 1 M f g h (Nat.le_refl _) hne ⟨hC0, hC1, hC2, hC3⟩ Fr.rf (fun j hj => absurd hj (by omega)) (fun j _ hj => hP j hj) (Nat.lt_succ_self _)

set_option maxHeartbeats 4000000 in
set_option maxRecDepth 100000 in
theorem c_X2_addAll_l {l : Launch}   (M0 : ev_M) (o cap o2 cap2 : Nat) (L S9 : List Cf) (hcap : cap < 2000) (hfit : L.length + S9.length ≤ cap) (hoo : o2 + 4 ≤ o ∨ o + 4 ≤ o2) : ∀ (n9 : Nat) (i : Nat) (M : ev_M), i ≤ S9.length → RQ M o cap (L ++ S9.take i) → RQ M o2 cap2 S9 → Fr o (o + 4) M0 M → S9.length - i < n9 → ev_ l m_X2_addAll 0 0 2 [some (.ref (o)), some (.ref (o2)), some (.int (nI i))] [] M (fun r M1 => r = .inl none ∧ RQ M1 o cap (L ++ S9) ∧ Fr o (o + 4) M0 M1) := by
  intro n9
  induction n9 with
  | zero => intro i M hi hR1 hR2 hFr hm9; exact absurd hm9 (by omega)
  | succ n9 ih =>
    intro i M hi hR1 hR2 hFr hm9
    obtain ⟨-, hlen1, f, g, h, ⟨hC0, hC1, hC2, hC3⟩, hP⟩ := hR1
    have eN : (L ++ S9.take i).length = L.length + i := by rw [List.length_append, List.length_take]; omega
    rw [eN] at hC0 hlen1 hP
    have hR2c := hR2
    obtain ⟨hcap2, hlen2, sf, sg, sh, ⟨hD0, hD1, hD2, hD3⟩, hP2⟩ := hR2
    refine ev_blk (B := [(.iload_n 2, 1), (.aload_n 1, 1)]) (pe := 4) (ls' := [some (.ref (o)), some (.ref (o2)), some (.int (nI i))]) (st' := [.ref (o2), .int (nI i)]) ⟨dX2_addAll_2, dX2_addAll_3, rfl⟩ rfl ?_
    refine ev_getf (v := .int (nI (S9.length))) F_RX2_26 dX2_addAll_4 hD0 rfl ?_
    refine ev_iN_ge dX2_addAll_7 (tgt := 83) (by decide) (by omega) (by omega) (fun q7 => ?_) (fun q7 => ?_)
    · refine ev_vret dX2_addAll_83 rfl ⟨Nat.le_of_ble_eq_true rfl, Nat.le_of_ble_eq_true rfl⟩ ?_
      have e7 : i = S9.length := by omega
      subst e7
      rw [List.take_length] at hP eN
      exact ⟨rfl, ⟨hcap, by rw [eN]; exact hfit, f, g, h, by rw [eN]; exact ⟨hC0, hC1, hC2, hC3⟩, by rw [eN]; exact hP⟩, hFr⟩
    · refine ev_blk (B := [(.aload_n 0, 1)]) (pe := 11) (ls' := [some (.ref (o)), some (.ref (o2)), some (.int (nI i))]) (st' := [.ref (o)]) ⟨dX2_addAll_10, rfl⟩ rfl ?_
      refine ev_getf (v := .int (nI (L.length + i))) F_RX2_26 dX2_addAll_11 hC0 rfl ?_
      refine ev_blk (B := [(.aload_n 0, 1)]) (pe := 15) (ls' := [some (.ref (o)), some (.ref (o2)), some (.int (nI i))]) (st' := [.ref (o), .int (nI (L.length + i))]) ⟨dX2_addAll_14, rfl⟩ rfl ?_
      refine ev_getf (v := .ref (o + 1)) F_RX2_13 dX2_addAll_15 hC0 rfl ?_
      refine ev_alen (v := nI (cap)) dX2_addAll_18 hC1 (by decide) rfl ?_
      refine ev_iN_ge dX2_addAll_19 (tgt := 83) (by decide) (by omega) (by omega) (fun q19 => ?_) (fun q19 => ?_)
      · exfalso; omega
      · refine ev_blk (B := [(.aload_n 0, 1)]) (pe := 23) (ls' := [some (.ref (o)), some (.ref (o2)), some (.int (nI i))]) (st' := [.ref (o)]) ⟨dX2_addAll_22, rfl⟩ rfl ?_
        refine ev_getf (v := .ref (o + 1)) F_RX2_13 dX2_addAll_23 hC0 rfl ?_
        refine ev_blk (B := [(.aload_n 0, 1)]) (pe := 27) (ls' := [some (.ref (o)), some (.ref (o2)), some (.int (nI i))]) (st' := [.ref (o), .ref (o + 1)]) ⟨dX2_addAll_26, rfl⟩ rfl ?_
        refine ev_getf (v := .int (nI (L.length + i))) F_RX2_26 dX2_addAll_27 hC0 rfl ?_
        refine ev_blk (B := [(.aload_n 1, 1)]) (pe := 31) (ls' := [some (.ref (o)), some (.ref (o2)), some (.int (nI i))]) (st' := [.ref (o2), .int (nI (L.length + i)), .ref (o + 1)]) ⟨dX2_addAll_30, rfl⟩ rfl ?_
        refine ev_getf (v := .ref (o2 + 1)) F_RX2_13 dX2_addAll_31 hD0 rfl ?_
        refine ev_blk (B := [(.iload_n 2, 1)]) (pe := 35) (ls' := [some (.ref (o)), some (.ref (o2)), some (.int (nI i))]) (st' := [.int (nI i), .ref (o2 + 1), .int (nI (L.length + i)), .ref (o + 1)]) ⟨dX2_addAll_34, rfl⟩ rfl ?_
        refine ev_iald dX2_addAll_35 hD1 (vp_in_nI (show i < cap2 by omega) (by omega)) ?_
        rw [nI_clamp (show i < 2 ^ 31 by omega)]
        rw [show sf i = nI ((cg S9 i).1) from (hP2 i (by omega)).1]
        refine ev_iast dX2_addAll_36 hC1 (vp_in_nI (show L.length + i < cap by omega) (by omega)) ?_
        rw [nI_clamp (show L.length + i < 2 ^ 31 by omega)]
        refine ev_nm (M0 := M.set (o + 1) (.inl (0, cap, .inl (upd f (L.length + i) (nI ((cg S9 i).1)))))) (fun M1 eM1 => ?_)
        have f2 : M1[o]? = some (.inr (2, [.ref (o + 1), .ref (o + 2), .ref (o + 3), .int (nI (L.length + i))])) := by rw [eM1, ev_sn (by omega)]; exact hC0
        have f3 : M1[o + 1]? = some (.inl (0, cap, .inl (upd f (L.length + i) (nI ((cg S9 i).1))))) := by rw [eM1]; exact ev_sg hC1
        have f4 : M1[o + 2]? = some (.inl (1, cap, .inr (.inl (g)))) := by rw [eM1, ev_sn (by omega)]; exact hC2
        have f5 : M1[o + 3]? = some (.inl (1, cap, .inr (.inl (h)))) := by rw [eM1, ev_sn (by omega)]; exact hC3
        have f6 : M1[o2]? = some (.inr (2, [.ref (o2 + 1), .ref (o2 + 2), .ref (o2 + 3), .int (nI (S9.length))])) := by rw [eM1, ev_sn (by omega)]; exact hD0
        have f7 : M1[o2 + 1]? = some (.inl (0, cap2, .inl (sf))) := by rw [eM1, ev_sn (by omega)]; exact hD1
        have f8 : M1[o2 + 2]? = some (.inl (1, cap2, .inr (.inl (sg)))) := by rw [eM1, ev_sn (by omega)]; exact hD2
        have f9 : M1[o2 + 3]? = some (.inl (1, cap2, .inr (.inl (sh)))) := by rw [eM1, ev_sn (by omega)]; exact hD3
        refine ev_blk (B := [(.aload_n 0, 1)]) (pe := 38) (ls' := [some (.ref (o)), some (.ref (o2)), some (.int (nI i))]) (st' := [.ref (o)]) ⟨dX2_addAll_37, rfl⟩ rfl ?_
        refine ev_getf (v := .ref (o + 2)) F_RX2_19 dX2_addAll_38 f2 rfl ?_
        refine ev_blk (B := [(.aload_n 0, 1)]) (pe := 42) (ls' := [some (.ref (o)), some (.ref (o2)), some (.int (nI i))]) (st' := [.ref (o), .ref (o + 2)]) ⟨dX2_addAll_41, rfl⟩ rfl ?_
        refine ev_getf (v := .int (nI (L.length + i))) F_RX2_26 dX2_addAll_42 f2 rfl ?_
        refine ev_blk (B := [(.aload_n 1, 1)]) (pe := 46) (ls' := [some (.ref (o)), some (.ref (o2)), some (.int (nI i))]) (st' := [.ref (o2), .int (nI (L.length + i)), .ref (o + 2)]) ⟨dX2_addAll_45, rfl⟩ rfl ?_
        refine ev_getf (v := .ref (o2 + 2)) F_RX2_19 dX2_addAll_46 f6 rfl ?_
        refine ev_blk (B := [(.iload_n 2, 1)]) (pe := 50) (ls' := [some (.ref (o)), some (.ref (o2)), some (.int (nI i))]) (st' := [.int (nI i), .ref (o2 + 2), .int (nI (L.length + i)), .ref (o + 2)]) ⟨dX2_addAll_49, rfl⟩ rfl ?_
        refine ev_lald dX2_addAll_50 f8 (vp_in_nI (show i < cap2 by omega) (by omega)) ?_
        rw [nI_clamp (show i < 2 ^ 31 by omega)]
        rw [show sg i = e1 (cg S9 i).2.1 from (hP2 i (by omega)).2.1]
        refine ev_last dX2_addAll_51 f4 (vp_in_nI (show L.length + i < cap by omega) (by omega)) ?_
        rw [nI_clamp (show L.length + i < 2 ^ 31 by omega)]
        refine ev_nm (M0 := M1.set (o + 2) (.inl (1, cap, .inr (.inl (vp_updL g (L.length + i) (e1 (cg S9 i).2.1)))))) (fun M10 eM10 => ?_)
        have f11 : M10[o]? = some (.inr (2, [.ref (o + 1), .ref (o + 2), .ref (o + 3), .int (nI (L.length + i))])) := by rw [eM10, ev_sn (by omega)]; exact f2
        have f12 : M10[o + 1]? = some (.inl (0, cap, .inl (upd f (L.length + i) (nI ((cg S9 i).1))))) := by rw [eM10, ev_sn (by omega)]; exact f3
        have f13 : M10[o + 2]? = some (.inl (1, cap, .inr (.inl (vp_updL g (L.length + i) (e1 (cg S9 i).2.1))))) := by rw [eM10]; exact ev_sg f4
        have f14 : M10[o + 3]? = some (.inl (1, cap, .inr (.inl (h)))) := by rw [eM10, ev_sn (by omega)]; exact f5
        have f15 : M10[o2]? = some (.inr (2, [.ref (o2 + 1), .ref (o2 + 2), .ref (o2 + 3), .int (nI (S9.length))])) := by rw [eM10, ev_sn (by omega)]; exact f6
        have f16 : M10[o2 + 1]? = some (.inl (0, cap2, .inl (sf))) := by rw [eM10, ev_sn (by omega)]; exact f7
        have f17 : M10[o2 + 2]? = some (.inl (1, cap2, .inr (.inl (sg)))) := by rw [eM10, ev_sn (by omega)]; exact f8
        have f18 : M10[o2 + 3]? = some (.inl (1, cap2, .inr (.inl (sh)))) := by rw [eM10, ev_sn (by omega)]; exact f9
        refine ev_blk (B := [(.aload_n 0, 1)]) (pe := 53) (ls' := [some (.ref (o)), some (.ref (o2)), some (.int (nI i))]) (st' := [.ref (o)]) ⟨dX2_addAll_52, rfl⟩ rfl ?_
        refine ev_getf (v := .ref (o + 3)) F_RX2_23 dX2_addAll_53 f11 rfl ?_
        refine ev_blk (B := [(.aload_n 0, 1)]) (pe := 57) (ls' := [some (.ref (o)), some (.ref (o2)), some (.int (nI i))]) (st' := [.ref (o), .ref (o + 3)]) ⟨dX2_addAll_56, rfl⟩ rfl ?_
        refine ev_getf (v := .int (nI (L.length + i))) F_RX2_26 dX2_addAll_57 f11 rfl ?_
        refine ev_blk (B := [(.aload_n 1, 1)]) (pe := 61) (ls' := [some (.ref (o)), some (.ref (o2)), some (.int (nI i))]) (st' := [.ref (o2), .int (nI (L.length + i)), .ref (o + 3)]) ⟨dX2_addAll_60, rfl⟩ rfl ?_
        refine ev_getf (v := .ref (o2 + 3)) F_RX2_23 dX2_addAll_61 f15 rfl ?_
        refine ev_blk (B := [(.iload_n 2, 1)]) (pe := 65) (ls' := [some (.ref (o)), some (.ref (o2)), some (.int (nI i))]) (st' := [.int (nI i), .ref (o2 + 3), .int (nI (L.length + i)), .ref (o + 3)]) ⟨dX2_addAll_64, rfl⟩ rfl ?_
        refine ev_lald dX2_addAll_65 f18 (vp_in_nI (show i < cap2 by omega) (by omega)) ?_
        rw [nI_clamp (show i < 2 ^ 31 by omega)]
        rw [show sh i = e1 (cg S9 i).2.2 from (hP2 i (by omega)).2.2]
        refine ev_last dX2_addAll_66 f14 (vp_in_nI (show L.length + i < cap by omega) (by omega)) ?_
        rw [nI_clamp (show L.length + i < 2 ^ 31 by omega)]
        refine ev_nm (M0 := M10.set (o + 3) (.inl (1, cap, .inr (.inl (vp_updL h (L.length + i) (e1 (cg S9 i).2.2)))))) (fun M19 eM19 => ?_)
        have f20 : M19[o]? = some (.inr (2, [.ref (o + 1), .ref (o + 2), .ref (o + 3), .int (nI (L.length + i))])) := by rw [eM19, ev_sn (by omega)]; exact f11
        have f21 : M19[o + 1]? = some (.inl (0, cap, .inl (upd f (L.length + i) (nI ((cg S9 i).1))))) := by rw [eM19, ev_sn (by omega)]; exact f12
        have f22 : M19[o + 2]? = some (.inl (1, cap, .inr (.inl (vp_updL g (L.length + i) (e1 (cg S9 i).2.1))))) := by rw [eM19, ev_sn (by omega)]; exact f13
        have f23 : M19[o + 3]? = some (.inl (1, cap, .inr (.inl (vp_updL h (L.length + i) (e1 (cg S9 i).2.2))))) := by rw [eM19]; exact ev_sg f14
        have f24 : M19[o2]? = some (.inr (2, [.ref (o2 + 1), .ref (o2 + 2), .ref (o2 + 3), .int (nI (S9.length))])) := by rw [eM19, ev_sn (by omega)]; exact f15
        have f25 : M19[o2 + 1]? = some (.inl (0, cap2, .inl (sf))) := by rw [eM19, ev_sn (by omega)]; exact f16
        have f26 : M19[o2 + 2]? = some (.inl (1, cap2, .inr (.inl (sg)))) := by rw [eM19, ev_sn (by omega)]; exact f17
        have f27 : M19[o2 + 3]? = some (.inl (1, cap2, .inr (.inl (sh)))) := by rw [eM19, ev_sn (by omega)]; exact f18
        refine ev_blk (B := [(.aload_n 0, 1), (.dup, 1)]) (pe := 69) (ls' := [some (.ref (o)), some (.ref (o2)), some (.int (nI i))]) (st' := [.ref (o), .ref (o)]) ⟨dX2_addAll_67, dX2_addAll_68, rfl⟩ rfl ?_
        refine ev_getf (v := .int (nI (L.length + i))) F_RX2_26 dX2_addAll_69 f20 rfl ?_
        refine ev_blk (B := [(.iconst 1, 1), (.iadd, 1)]) (pe := 74) (ls' := [some (.ref (o)), some (.ref (o2)), some (.int (nI i))]) (st' := [.int (nI ((L.length + i) + 1)), .ref (o)]) ⟨dX2_addAll_72, dX2_addAll_73, rfl⟩ (by show some (([some (.ref (o)), some (.ref (o2)), some (.int (nI i))] : ev_L), ([.int ((nI (L.length + i)) + (nI 1)), .ref (o)] : List Value)) = _; rw [nI_add (L.length + i) 1]) ?_
        refine ev_put F_RX2_26 dX2_addAll_74 f20 (Nat.le_of_ble_eq_true rfl) (fun _ _ => ⟨rfl, rfl⟩) ?_
        refine ev_nm (M0 := M19.set (o) (.inr (2, [.ref (o + 1), .ref (o + 2), .ref (o + 3), .int (nI ((L.length + i) + 1))]))) (fun M28 eM28 => ?_)
        have f29 : M28[o]? = some (.inr (2, [.ref (o + 1), .ref (o + 2), .ref (o + 3), .int (nI ((L.length + i) + 1))])) := by rw [eM28]; exact ev_sg f20
        have f30 : M28[o + 1]? = some (.inl (0, cap, .inl (upd f (L.length + i) (nI ((cg S9 i).1))))) := by rw [eM28, ev_sn (by omega)]; exact f21
        have f31 : M28[o + 2]? = some (.inl (1, cap, .inr (.inl (vp_updL g (L.length + i) (e1 (cg S9 i).2.1))))) := by rw [eM28, ev_sn (by omega)]; exact f22
        have f32 : M28[o + 3]? = some (.inl (1, cap, .inr (.inl (vp_updL h (L.length + i) (e1 (cg S9 i).2.2))))) := by rw [eM28, ev_sn (by omega)]; exact f23
        have f33 : M28[o2]? = some (.inr (2, [.ref (o2 + 1), .ref (o2 + 2), .ref (o2 + 3), .int (nI (S9.length))])) := by rw [eM28, ev_sn (by omega)]; exact f24
        have f34 : M28[o2 + 1]? = some (.inl (0, cap2, .inl (sf))) := by rw [eM28, ev_sn (by omega)]; exact f25
        have f35 : M28[o2 + 2]? = some (.inl (1, cap2, .inr (.inl (sg)))) := by rw [eM28, ev_sn (by omega)]; exact f26
        have f36 : M28[o2 + 3]? = some (.inl (1, cap2, .inr (.inl (sh)))) := by rw [eM28, ev_sn (by omega)]; exact f27
        refine ev_blk (B := [(.iinc 2 1, 3)]) (pe := 80) (ls' := [some (.ref (o)), some (.ref (o2)), some (.int (nI (i + 1)))]) (st' := []) ⟨dX2_addAll_77, rfl⟩ (by show some (([some (.ref (o)), some (.ref (o2)), some (.int ((nI i) + Int32.ofInt (1)))] : ev_L), ([] : List Value)) = _; rw [ev_inc1 i]) ?_
        refine ev_goto (tgt := 2) dX2_addAll_80 (by decide) ?_
        have e9 : L ++ S9.take (i + 1) = (L ++ S9.take i) ++ [cg S9 i] := by rw [List.take_succ_eq_append_getElem (by omega), cg_get (by omega), List.append_assoc]
        have hF9 : Fr o (o + 4) M M28 := ⟨by rw [eM28, eM19, eM10, eM1]; simp only [List.length_set], fun j hj => by rw [eM28, ev_sn (by omega), eM19, ev_sn (by omega), eM10, ev_sn (by omega), eM1, ev_sn (by omega)]⟩
        refine ih (i + 1) _ (by omega) ?_ (hR2c.fr hF9 (by omega)) (hFr.tr hF9) (by omega)
        rw [e9]
        have e8 : ((L ++ S9.take i) ++ [cg S9 i]).length = L.length + i + 1 := by rw [List.length_append, eN]; rfl
        exact ⟨hcap, by rw [e8]; omega, _, _, _, by rw [e8]; exact ⟨f29, f30, f31, f32⟩, by rw [e8]; exact RP.pushN eN.symm hP⟩

set_option maxHeartbeats 4000000 in
set_option maxRecDepth 100000 in
theorem c_X2_addAll {l : Launch} (hl : l.stackTraces = false) {M : ev_M} (o cap o2 cap2 : Nat) (L S9 : List Cf) (hR : RQ M o cap L) (hR2 : RQ M o2 cap2 S9) (hfit : L.length + S9.length ≤ cap) (hoo : o2 + 4 ≤ o ∨ o + 4 ≤ o2) : ev_Mt l m_X2_addAll [.ref (o), .ref (o2)] M (fun r M1 => r = .inl none ∧ RQ M1 o cap (L ++ S9) ∧ Fr o (o + 4) M M1) := by
  refine ev_body hl rfl (by decide +kernel) (Nat.le_of_ble_eq_true rfl) ?_
  show ev_ l m_X2_addAll 0 0 0 [some (.ref (o)), some (.ref (o2)), none] [] M _
  refine ev_blk (B := [(.iconst 0, 1), (.istore_n 2, 1)]) (pe := 2) (ls' := [some (.ref (o)), some (.ref (o2)), some (.int (nI 0))]) (st' := []) ⟨dX2_addAll_0, dX2_addAll_1, rfl⟩ rfl ?_
  exact c_X2_addAll_l M o cap o2 cap2 L S9 hR.1 hfit hoo _ 0 M (Nat.zero_le _) (by rw [List.take_zero, List.append_nil]; exact hR) hR2 Fr.rf (Nat.lt_succ_self _)

set_option maxHeartbeats 4000000 in
set_option maxRecDepth 100000 in
theorem c_X2_copyFrom {l : Launch} (hl : l.stackTraces = false) {M : ev_M} (o cap o2 cap2 : Nat) (L S9 : List Cf) (hR : RQ M o cap L) (hR2 : RQ M o2 cap2 S9) (hfit : S9.length ≤ cap) (hoo : o2 + 4 ≤ o ∨ o + 4 ≤ o2) : ev_Mt l m_X2_copyFrom [.ref (o), .ref (o2)] M (fun r M1 => r = .inl none ∧ RQ M1 o cap S9 ∧ Fr o (o + 4) M M1) := by
  refine ev_body hl rfl (by decide +kernel) (Nat.le_of_ble_eq_true rfl) ?_
  show ev_ l m_X2_copyFrom 0 0 0 [some (.ref (o)), some (.ref (o2))] [] M _
  refine ev_blk (B := [(.aload_n 0, 1)]) (pe := 1) (ls' := [some (.ref (o)), some (.ref (o2))]) (st' := [.ref (o)]) ⟨dX2_copyFrom_0, rfl⟩ rfl ?_
  refine ev_cVn Y_X2_removeAll L_RX2_52 dX2_copyFrom_1 ⟨Nat.le_of_ble_eq_true rfl, Nat.le_of_ble_eq_true rfl, Nat.le_of_ble_eq_true rfl, Nat.le_of_ble_eq_true rfl, Nat.le_of_ble_eq_true rfl⟩ hR.obj (as := []) rfl rfl (c_X2_removeAll hl o cap L hR) (fun M1 hL1 hB1 => ?_)
  obtain ⟨hB1, hB2⟩ := hB1
  have hS2 := hR2.fr hB2 (by omega)
  refine ev_blk (B := [(.aload_n 0, 1), (.aload_n 1, 1)]) (pe := 6) (ls' := [some (.ref (o)), some (.ref (o2))]) (st' := [.ref (o2), .ref (o)]) ⟨dX2_copyFrom_4, dX2_copyFrom_5, rfl⟩ rfl ?_
  refine ev_cVn Y_X2_addAll L_RX2_55 dX2_copyFrom_6 ⟨Nat.le_of_ble_eq_true rfl, Nat.le_of_ble_eq_true rfl, Nat.le_of_ble_eq_true rfl, Nat.le_of_ble_eq_true rfl, Nat.le_of_ble_eq_true rfl⟩ hB1.obj (as := [.ref (o2)]) rfl rfl (c_X2_addAll hl o cap o2 cap2 [] S9 hB1 hS2 (by simpa using hfit) hoo) (fun M2 hL2 hB2 => ?_)
  obtain ⟨hD1, hD2⟩ := hB2
  refine ev_vret dX2_copyFrom_9 rfl ⟨Nat.le_of_ble_eq_true rfl, Nat.le_of_ble_eq_true rfl⟩ ?_
  exact ⟨rfl, hD1, hB2.tr hD2⟩

