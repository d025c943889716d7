/-! ===== the reference: a whole text ===== -/
def csT (cs : List (Tr ⊕ Cf)) : List Tr := cs.filterMap (fun x => match x with | .inl t => some t | .inr _ => none)
def csG (cs : List (Tr ⊕ Cf)) : List Cf := cs.filterMap (fun x => match x with | .inl _ => none | .inr g => some g)
theorem csT_l (cs : List (Tr ⊕ Cf)) (t : Tr) : csT (cs ++ [.inl t]) = csT cs ++ [t] := by unfold csT; rw [List.filterMap_append]; rfl
theorem csT_r (cs : List (Tr ⊕ Cf)) (g : Cf) : csT (cs ++ [.inr g]) = csT cs := by unfold csT; rw [List.filterMap_append]; exact List.append_nil _
theorem csG_l (cs : List (Tr ⊕ Cf)) (t : Tr) : csG (cs ++ [.inl t]) = csG cs := by unfold csG; rw [List.filterMap_append]; exact List.append_nil _
theorem csG_r (cs : List (Tr ⊕ Cf)) (g : Cf) : csG (cs ++ [.inr g]) = csG cs ++ [g] := by unfold csG; rw [List.filterMap_append]; rfl
theorem cs_len (cs : List (Tr ⊕ Cf)) : (csT cs).length + (csG cs).length = cs.length := by
  induction cs with
  | nil => rfl
  | cons x r ih =>
    cases x with
    | inl t => show ((csT r).length + 1) + (csG r).length = r.length + 1; omega
    | inr g => show (csT r).length + ((csG r).length + 1) = r.length + 1; omega
/-- the rows hold these commands -/
def CRs (cs : List (Tr ⊕ Cf)) (kd tld : Nat → Int32) (tf t2 : Nat → Int64) : Prop := ∀ i x, cs[i]? = some x → CR x i kd tld tf t2
theorem CRs.snoc {cs : List (Tr ⊕ Cf)} {x : Tr ⊕ Cf} {kd tld kd' tld' : Nat → Int32} {tf t2 tf' t2' : Nat → Int64} (h : CRs cs kd tld tf t2) (he : KEq cs.length kd tld kd' tld' tf t2 tf' t2') (hx : CR x cs.length kd' tld' tf' t2') : CRs (cs ++ [x]) kd' tld' tf' t2' := by
  intro i y hy
  by_cases e : i < cs.length
  · rw [List.getElem?_append_left e] at hy
    obtain ⟨a, b, c, d⟩ := he i e
    exact (h i y hy).eq a b c d
  · rw [List.getElem?_append_right (by omega)] at hy
    have e2 : i = cs.length := by
      have := (List.getElem?_eq_some_iff.mp hy).1
      rw [List.length_singleton] at this; omega
    subst e2
    rw [Nat.sub_self] at hy
    cases hy
    exact hx
theorem pl_s {t : Nat → Nat} {n k p : Nat} {T : List Tr} {G : List Cf} {c : Nat} : pl t n (k + 1) p T G c = bif (!(cm t n p).1.2 && decide ((cm t n p).1.1 < n)) then pl t n k (cm t n p).1.1 (cT (cm t n p).2 T) (cG (cm t n p).2 G) (c + 1) else (cT (cm t n p).2 T, cG (cm t n p).2 G, c + 1, (cm t n p).1.1, (cm t n p).1.2) := rfl
theorem cT_x {cs : List (Tr ⊕ Cf)} {x : Tr ⊕ Cf} : cT (some x) (csT cs) = csT (cs ++ [x]) := by
  cases x with
  | inl t => rw [csT_l]; rfl
  | inr g => rw [csT_r]; rfl
theorem cG_x {cs : List (Tr ⊕ Cf)} {x : Tr ⊕ Cf} : cG (some x) (csG cs) = csG (cs ++ [x]) := by
  cases x with
  | inl t => rw [csG_l]; rfl
  | inr g => rw [csG_r]; rfl
set_option maxHeartbeats 4000000 in
set_option maxRecDepth 100000 in
theorem c_R_text_l {l : Launch} (hl : l.stackTraces = false)  (o : Nat) (zl : Nat → Int64) (zi0 : Nat → Int32) (t : Nat → Nat) (ht : tOk t) (n : Nat) (hn : n ≤ 80) (M0 : ev_M) : ∀ (n9 : Nat) (k0 : Nat) (p : Nat) (cs : List (Tr ⊕ Cf)) (M : ev_M) (zi : Nat → Int32) (kd : Nat → Int32) (tld : Nat → Int32) (tf : Nat → Int64) (t2 : Nat → Int64), M[o]? = some (.inr (10, zo o zi zl)) → zi 42 = nI n → zi 43 = nI p → zi 44 = nI cs.length → Px M o t → p ≤ n → 10 * cs.length ≤ p → (∀ j, j ≠ 43 → j ≠ 44 → zi j = zi0 j) → FX o (o + 23) (o + 27) M0 M → KRw M o kd tld tf t2 → CRs cs kd tld tf t2 → (((cs.length = 0 ∨ p < n) ∧ n - p < k0 ∧ pl t n k0 p (csT cs) (csG cs) cs.length = (pl t n 81 0 [] [] 0)) ∨ (0 < cs.length ∧ n ≤ p ∧ (pl t n 81 0 [] [] 0) = (csT cs, csG cs, cs.length, p, false))) → n + 1 - p < n9 → ev_ l m_X11_takesText 0 0 10 [some (.ref (o))] [] M (fun r M1 => r = .inl (some (.int (ev_b (!(pl t n 81 0 [] [] 0).2.2.2.2)))) ∧ ∃ zi', M1[o]? = some (.inr (10, zo o zi' zl)) ∧ zi' 43 = nI (pl t n 81 0 [] [] 0).2.2.2.1 ∧ (∀ j, j ≠ 43 → j ≠ 44 → zi' j = zi0 j) ∧ FX o (o + 23) (o + 27) M0 M1 ∧ ∃ kd tld tf t2, KRw M1 o kd tld tf t2 ∧ ((pl t n 81 0 [] [] 0).2.2.2.2 = false → ∃ cs, zi' 44 = nI cs.length ∧ cs.length ≤ 8 ∧ csT cs = (pl t n 81 0 [] [] 0).1 ∧ csG cs = (pl t n 81 0 [] [] 0).2.1 ∧ cs.length = (pl t n 81 0 [] [] 0).2.2.1 ∧ CRs cs kd tld tf t2)) := by
  intro n9
  induction n9 with
  | zero => intro k0 p cs M zi kd tld tf t2 hO h42 h43 h44 hx hp hc8 hz hF hK hC hst hm9; exact absurd hm9 (by omega)
  | succ n9 ih =>
    intro k0 p cs M zi kd tld tf t2 hO h42 h43 h44 hx hp hc8 hz hF hK hC hst hm9
    refine ev_blk (B := [(.aload_n 0, 1)]) (pe := 11) (ls' := [some (.ref (o))]) (st' := [.ref (o)]) ⟨dX11_takesText_10, rfl⟩ rfl ?_
    refine ev_getf (v := .int (nI (cs.length))) F_RX11_322 dX11_takesText_11 hO (congrArg (fun q => some (Value.int q)) h44) ?_
    refine ev_fN_eq dX11_takesText_14 (tgt := 28) (by decide) (by omega) (fun q14 => ?_) (fun q14 => ?_)
    · refine ev_blk (B := [(.aload_n 0, 1)]) (pe := 29) (ls' := [some (.ref (o))]) (st' := [.ref (o)]) ⟨dX11_takesText_28, rfl⟩ rfl ?_
      have hpn : cs.length = 0 ∨ p < n := by omega
      have hA : n - p < k0 ∧ pl t n k0 p (csT cs) (csG cs) cs.length = (pl t n 81 0 [] [] 0) := by
        rcases hst with h | h
        · exact h.2
        · exact absurd h.2.1 (by omega)
      obtain ⟨k1, rfl⟩ : ∃ k1, k0 = k1 + 1 := ⟨k0 - 1, by omega⟩
      have hpl := hA.2
      rw [pl_s] at hpl
      have hcl := cm_le (t := t) hp
      refine ev_cVw Y_X11_takesCommand L_RX11_340 dX11_takesText_29 ⟨Nat.le_of_ble_eq_true rfl, Nat.le_of_ble_eq_true rfl, Nat.le_of_ble_eq_true rfl, Nat.le_of_ble_eq_true rfl, Nat.le_of_ble_eq_true rfl⟩ hO (as := []) rfl rfl (c_R_takesCommand hl o (zi) (zl) hO t ht n p hn hp h42 h43 hx cs.length (by omega) h44 kd tld tf t2 hK) (fun M1 hL1 hB1 => ?_)
      obtain ⟨Ci, Cz, C43, CK, kd', tld', tf', t2', CKr, CE, Cx, CF⟩ := hB1
      refine ev_ifB_ne dX11_takesText_32 (tgt := 37) (by decide) (fun q32 => ?_) (fun q32 => ?_)
      · refine ev_blk (B := [(.aload_n 0, 1), (.dup, 1)]) (pe := 39) (ls' := [some (.ref (o))]) (st' := [.ref (o), .ref (o)]) ⟨dX11_takesText_37, dX11_takesText_38, rfl⟩ rfl ?_
        refine ev_getf (v := .int (nI (cs.length))) F_RX11_322 dX11_takesText_39 Cz (congrArg (fun q => some (Value.int q)) ((CK 44 (by decide)).trans h44)) ?_
        refine ev_blk (B := [(.iconst 1, 1), (.iadd, 1)]) (pe := 44) (ls' := [some (.ref (o))]) (st' := [.int (nI ((cs.length) + 1)), .ref (o)]) ⟨dX11_takesText_42, dX11_takesText_43, rfl⟩ (by show some (([some (.ref (o))] : ev_L), ([.int ((nI (cs.length)) + (nI 1)), .ref (o)] : List Value)) = _; rw [nI_add (cs.length) 1]) ?_
        refine ev_put F_RX11_322 dX11_takesText_44 Cz (Nat.le_of_ble_eq_true rfl) (fun _ _ => ⟨rfl, rfl⟩) ?_
        rw [zs_44]
        refine ev_nm (M0 := M1.set (o) (.inr (10, zo o (ui (Ci) 44 (nI ((cs.length) + 1))) (zl)))) (fun M2 eM2 => ?_)
        have f3 : M2[o]? = some (.inr (10, zo o (ui (Ci) 44 (nI ((cs.length) + 1))) (zl))) := by rw [eM2]; exact ev_sg Cz
        refine ev_goto (tgt := 10) dX11_takesText_47 (by decide) ?_
        have W4 : FX o (o + 31) (o + 31) M1 M2 := ⟨by rw [eM2]; simp only [List.length_set], fun j hj1 hj2 => by rw [eM2, ev_sn (by omega)]⟩
        have hcf : (cm t n p).1.2 = false := by
          cases z : (cm t n p).1.2 with
          | false => rfl
          | true => rw [z] at q32; cases q32
        obtain ⟨x, hx1, hx2⟩ := Cx hcf
        have hadv := cm_adv hp hcf
        rw [hcf, hx1, cT_x, cG_x] at hpl
        have hel : (cs ++ [x]).length = cs.length + 1 := by rw [List.length_append]; rfl
        refine ih k1 (cm t n p).1.1 (cs ++ [x]) _ _ kd' tld' tf' t2' f3 ((ui_ne (by decide)).trans ((CK 42 (by decide)).trans h42)) ((ui_ne (by decide)).trans C43) (by rw [hel]; rfl) ((hx.fx CF (by omega)).fx W4 (by omega)) hcl (by rw [hel]; omega) (fun j a b => (ui_ne b).trans ((CK j a).trans (hz j a b))) (hF.tr (CF.tr (W4.em (by omega)))) (CKr.fx W4 (by omega)) (hC.snoc CE hx2) ?_ (by omega)
        rw [hel]
        by_cases z : (cm t n p).1.1 < n
        · rw [decide_eq_true z] at hpl
          exact Or.inl ⟨Or.inr z, by omega, hpl⟩
        · rw [decide_eq_false z] at hpl
          exact Or.inr ⟨Nat.succ_pos _, by omega, hpl.symm⟩
      · refine ev_blk (B := [(.iconst 0, 1)]) (pe := 36) (ls' := [some (.ref (o))]) (st' := [.int (nI 0)]) ⟨dX11_takesText_35, rfl⟩ rfl ?_
        refine ev_iret dX11_takesText_36 rfl (rfl) ⟨Nat.le_of_ble_eq_true rfl, Nat.le_of_ble_eq_true rfl⟩ ?_
        have hcf : (cm t n p).1.2 = true := by
          cases z : (cm t n p).1.2 with
          | true => rfl
          | false => rw [z] at q32; cases q32
        rw [hcf] at hpl
        have hpl : (cT (cm t n p).2 (csT cs), cG (cm t n p).2 (csG cs), cs.length + 1, (cm t n p).1.1, true) = (pl t n 81 0 [] [] 0) := hpl
        rw [← hpl]
        exact ⟨rfl, Ci, Cz, C43, fun j a b => (CK j a).trans (hz j a b), hF.tr CF, kd', tld', tf', t2', CKr, fun z => by cases z⟩
    · refine ev_blk (B := [(.aload_n 0, 1)]) (pe := 18) (ls' := [some (.ref (o))]) (st' := [.ref (o)]) ⟨dX11_takesText_17, rfl⟩ rfl ?_
      refine ev_getf (v := .int (nI p)) F_RX11_299 dX11_takesText_18 hO (congrArg (fun q => some (Value.int q)) h43) ?_
      refine ev_blk (B := [(.aload_n 0, 1)]) (pe := 22) (ls' := [some (.ref (o))]) (st' := [.ref (o), .int (nI p)]) ⟨dX11_takesText_21, rfl⟩ rfl ?_
      refine ev_getf (v := .int (nI n)) F_RX11_296 dX11_takesText_22 hO (congrArg (fun q => some (Value.int q)) h42) ?_
      refine ev_iN_ge dX11_takesText_25 (tgt := 50) (by decide) (by omega) (by omega) (fun q25 => ?_) (fun q25 => ?_)
      · refine ev_blk (B := [(.iconst 1, 1)]) (pe := 51) (ls' := [some (.ref (o))]) (st' := [.int (nI 1)]) ⟨dX11_takesText_50, rfl⟩ rfl ?_
        refine ev_iret dX11_takesText_51 rfl (rfl) ⟨Nat.le_of_ble_eq_true rfl, Nat.le_of_ble_eq_true rfl⟩ ?_
        have hB : 0 < cs.length ∧ n ≤ p ∧ (pl t n 81 0 [] [] 0) = (csT cs, csG cs, cs.length, p, false) := by
          rcases hst with h | h
          · exact absurd h.1 (by omega)
          · exact h
        rw [hB.2.2]
        exact ⟨rfl, zi, hO, h43, hz, hF, kd, tld, tf, t2, hK, fun _ => ⟨cs, h44, by omega, rfl, rfl, rfl, hC⟩⟩
      · refine ev_blk (B := [(.aload_n 0, 1)]) (pe := 29) (ls' := [some (.ref (o))]) (st' := [.ref (o)]) ⟨dX11_takesText_28, rfl⟩ rfl ?_
        have hpn : cs.length = 0 ∨ p < n := by omega
        have hA : n - p < k0 ∧ pl t n k0 p (csT cs) (csG cs) cs.length = (pl t n 81 0 [] [] 0) := by
          rcases hst with h | h
          · exact h.2
          · exact absurd h.2.1 (by omega)
        obtain ⟨k1, rfl⟩ : ∃ k1, k0 = k1 + 1 := ⟨k0 - 1, by omega⟩
        have hpl := hA.2
        rw [pl_s] at hpl
        have hcl := cm_le (t := t) hp
        refine ev_cVw Y_X11_takesCommand L_RX11_340 dX11_takesText_29 ⟨Nat.le_of_ble_eq_true rfl, Nat.le_of_ble_eq_true rfl, Nat.le_of_ble_eq_true rfl, Nat.le_of_ble_eq_true rfl, Nat.le_of_ble_eq_true rfl⟩ hO (as := []) rfl rfl (c_R_takesCommand hl o (zi) (zl) hO t ht n p hn hp h42 h43 hx cs.length (by omega) h44 kd tld tf t2 hK) (fun M5 hL5 hB5 => ?_)
        obtain ⟨Ci, Cz, C43, CK, kd', tld', tf', t2', CKr, CE, Cx, CF⟩ := hB5
        refine ev_ifB_ne dX11_takesText_32 (tgt := 37) (by decide) (fun q32 => ?_) (fun q32 => ?_)
        · refine ev_blk (B := [(.aload_n 0, 1), (.dup, 1)]) (pe := 39) (ls' := [some (.ref (o))]) (st' := [.ref (o), .ref (o)]) ⟨dX11_takesText_37, dX11_takesText_38, rfl⟩ rfl ?_
          refine ev_getf (v := .int (nI (cs.length))) F_RX11_322 dX11_takesText_39 Cz (congrArg (fun q => some (Value.int q)) ((CK 44 (by decide)).trans h44)) ?_
          refine ev_blk (B := [(.iconst 1, 1), (.iadd, 1)]) (pe := 44) (ls' := [some (.ref (o))]) (st' := [.int (nI ((cs.length) + 1)), .ref (o)]) ⟨dX11_takesText_42, dX11_takesText_43, rfl⟩ (by show some (([some (.ref (o))] : ev_L), ([.int ((nI (cs.length)) + (nI 1)), .ref (o)] : List Value)) = _; rw [nI_add (cs.length) 1]) ?_
          refine ev_put F_RX11_322 dX11_takesText_44 Cz (Nat.le_of_ble_eq_true rfl) (fun _ _ => ⟨rfl, rfl⟩) ?_
          rw [zs_44]
          refine ev_nm (M0 := M5.set (o) (.inr (10, zo o (ui (Ci) 44 (nI ((cs.length) + 1))) (zl)))) (fun M6 eM6 => ?_)
          have f7 : M6[o]? = some (.inr (10, zo o (ui (Ci) 44 (nI ((cs.length) + 1))) (zl))) := by rw [eM6]; exact ev_sg Cz
          refine ev_goto (tgt := 10) dX11_takesText_47 (by decide) ?_
          have W8 : FX o (o + 31) (o + 31) M5 M6 := ⟨by rw [eM6]; simp only [List.length_set], fun j hj1 hj2 => by rw [eM6, ev_sn (by omega)]⟩
          have hcf : (cm t n p).1.2 = false := by
            cases z : (cm t n p).1.2 with
            | false => rfl
            | true => rw [z] at q32; cases q32
          obtain ⟨x, hx1, hx2⟩ := Cx hcf
          have hadv := cm_adv hp hcf
          rw [hcf, hx1, cT_x, cG_x] at hpl
          have hel : (cs ++ [x]).length = cs.length + 1 := by rw [List.length_append]; rfl
          refine ih k1 (cm t n p).1.1 (cs ++ [x]) _ _ kd' tld' tf' t2' f7 ((ui_ne (by decide)).trans ((CK 42 (by decide)).trans h42)) ((ui_ne (by decide)).trans C43) (by rw [hel]; rfl) ((hx.fx CF (by omega)).fx W8 (by omega)) hcl (by rw [hel]; omega) (fun j a b => (ui_ne b).trans ((CK j a).trans (hz j a b))) (hF.tr (CF.tr (W8.em (by omega)))) (CKr.fx W8 (by omega)) (hC.snoc CE hx2) ?_ (by omega)
          rw [hel]
          by_cases z : (cm t n p).1.1 < n
          · rw [decide_eq_true z] at hpl
            exact Or.inl ⟨Or.inr z, by omega, hpl⟩
          · rw [decide_eq_false z] at hpl
            exact Or.inr ⟨Nat.succ_pos _, by omega, hpl.symm⟩
        · refine ev_blk (B := [(.iconst 0, 1)]) (pe := 36) (ls' := [some (.ref (o))]) (st' := [.int (nI 0)]) ⟨dX11_takesText_35, rfl⟩ rfl ?_
          refine ev_iret dX11_takesText_36 rfl (rfl) ⟨Nat.le_of_ble_eq_true rfl, Nat.le_of_ble_eq_true rfl⟩ ?_
          have hcf : (cm t n p).1.2 = true := by
            cases z : (cm t n p).1.2 with
            | true => rfl
            | false => rw [z] at q32; cases q32
          rw [hcf] at hpl
          have hpl : (cT (cm t n p).2 (csT cs), cG (cm t n p).2 (csG cs), cs.length + 1, (cm t n p).1.1, true) = (pl t n 81 0 [] [] 0) := hpl
          rw [← hpl]
          exact ⟨rfl, Ci, Cz, C43, fun j a b => (CK j a).trans (hz j a b), hF.tr CF, kd', tld', tf', t2', CKr, fun z => by cases z⟩

set_option maxHeartbeats 4000000 in
set_option maxRecDepth 100000 in
theorem c_R_takesText {l : Launch} (hl : l.stackTraces = false) {M : ev_M} (o : Nat) (zi : Nat → Int32) (zl : Nat → Int64) (hO : M[o]? = some (.inr (10, zo o zi zl))) (t : Nat → Nat) (ht : tOk t) (n : Nat) (hn : n ≤ 80) (h42 : zi 42 = nI n) (hx : Px M o t) (kd tld : Nat → Int32) (tf t2 : Nat → Int64) (hK : KRw M o kd tld tf t2) : ev_Mt l m_X11_takesText [.ref (o)] M (fun r M1 => r = .inl (some (.int (ev_b (!(pl t n 81 0 [] [] 0).2.2.2.2)))) ∧ ∃ zi', M1[o]? = some (.inr (10, zo o zi' zl)) ∧ zi' 43 = nI (pl t n 81 0 [] [] 0).2.2.2.1 ∧ (∀ j, j ≠ 43 → j ≠ 44 → zi' j = zi j) ∧ FX o (o + 23) (o + 27) M M1 ∧ ∃ kd tld tf t2, KRw M1 o kd tld tf t2 ∧ ((pl t n 81 0 [] [] 0).2.2.2.2 = false → ∃ cs, zi' 44 = nI cs.length ∧ cs.length ≤ 8 ∧ csT cs = (pl t n 81 0 [] [] 0).1 ∧ csG cs = (pl t n 81 0 [] [] 0).2.1 ∧ cs.length = (pl t n 81 0 [] [] 0).2.2.1 ∧ CRs cs kd tld tf t2)) := by
  refine ev_body hl rfl (by decide +kernel) (Nat.le_of_ble_eq_true rfl) ?_
  show ev_ l m_X11_takesText 0 0 0 [some (.ref (o))] [] M _
  refine ev_blk (B := [(.aload_n 0, 1), (.iconst 0, 1)]) (pe := 2) (ls' := [some (.ref (o))]) (st' := [.int (nI 0), .ref (o)]) ⟨dX11_takesText_0, dX11_takesText_1, rfl⟩ rfl ?_
  refine ev_put F_RX11_299 dX11_takesText_2 hO (Nat.le_of_ble_eq_true rfl) (fun _ _ => ⟨rfl, rfl⟩) ?_
  rw [zs_43]
  refine ev_nm (M0 := M.set (o) (.inr (10, zo o (ui (zi) 43 (nI 0)) (zl)))) (fun M1 eM1 => ?_)
  have f2 : M1[o]? = some (.inr (10, zo o (ui (zi) 43 (nI 0)) (zl))) := by rw [eM1]; exact ev_sg hO
  refine ev_blk (B := [(.aload_n 0, 1), (.iconst 0, 1)]) (pe := 7) (ls' := [some (.ref (o))]) (st' := [.int (nI 0), .ref (o)]) ⟨dX11_takesText_5, dX11_takesText_6, rfl⟩ rfl ?_
  refine ev_put F_RX11_322 dX11_takesText_7 f2 (Nat.le_of_ble_eq_true rfl) (fun _ _ => ⟨rfl, rfl⟩) ?_
  rw [zs_44]
  refine ev_nm (M0 := M1.set (o) (.inr (10, zo o (ui (ui (zi) 43 (nI 0)) 44 (nI 0)) (zl)))) (fun M3 eM3 => ?_)
  have f4 : M3[o]? = some (.inr (10, zo o (ui (ui (zi) 43 (nI 0)) 44 (nI 0)) (zl))) := by rw [eM3]; exact ev_sg f2
  have W5 : FX o (o + 31) (o + 31) M M3 := ⟨by rw [eM3, eM1]; simp only [List.length_set], fun j hj1 hj2 => by rw [eM3, ev_sn (by omega), eM1, ev_sn (by omega)]⟩
  refine ev_mono (fun r M9 hq => ?_) (c_R_text_l hl o zl zi t ht n hn M _ 81 0 [] _ _ kd tld tf t2 f4 ((ui_ne (by decide)).trans ((ui_ne (by decide)).trans h42)) ((ui_ne (by decide)).trans rfl) rfl (hx.fx W5 (by omega)) (Nat.zero_le _) (Nat.zero_le _) (fun j a b => (ui_ne b).trans (ui_ne a)) (W5.em (by omega)) (hK.fx W5 (by omega)) (fun i x h => by cases h) (Or.inl ⟨Or.inl rfl, by omega, rfl⟩) (Nat.lt_succ_self _))
  exact hq

theorem csT_take {cs : List (Tr ⊕ Cf)} {i : Nat} {t : Tr} (h : cs[i]? = some (.inl t)) : csT (cs.take (i + 1)) = csT (cs.take i) ++ [t] ∧ csG (cs.take (i + 1)) = csG (cs.take i) := by
  have hi := (List.getElem?_eq_some_iff.mp h).1
  have e : cs.take (i + 1) = cs.take i ++ [.inl t] := by
    rw [List.take_succ_eq_append_getElem hi]
    have := (List.getElem?_eq_some_iff.mp h).2
    rw [this]
  rw [e, csT_l, csG_l]; exact ⟨rfl, rfl⟩
theorem csG_take {cs : List (Tr ⊕ Cf)} {i : Nat} {g : Cf} (h : cs[i]? = some (.inr g)) : csG (cs.take (i + 1)) = csG (cs.take i) ++ [g] ∧ csT (cs.take (i + 1)) = csT (cs.take i) := by
  have hi := (List.getElem?_eq_some_iff.mp h).1
  have e : cs.take (i + 1) = cs.take i ++ [.inr g] := by
    rw [List.take_succ_eq_append_getElem hi]
    have := (List.getElem?_eq_some_iff.mp h).2
    rw [this]
  rw [e, csG_r, csT_r]; exact ⟨rfl, rfl⟩
theorem csT_le {cs : List (Tr ⊕ Cf)} (i : Nat) : (csT (cs.take i)).length ≤ (csT cs).length := by
  unfold csT
  exact (List.Sublist.filterMap _ (List.take_sublist i cs)).length_le
theorem csG_le {cs : List (Tr ⊕ Cf)} (i : Nat) : (csG (cs.take i)).length ≤ (csG cs).length := by
  unfold csG
  exact (List.Sublist.filterMap _ (List.take_sublist i cs)).length_le
theorem csT_m {cs : List (Tr ⊕ Cf)} {i : Nat} {t : Tr} (h : cs[i]? = some (.inl t)) : t ∈ csT cs := by
  unfold csT
  exact List.mem_filterMap.mpr ⟨.inl t, List.mem_of_getElem? h, rfl⟩
theorem kc_le (a : Nat) : kc a ≤ 2 := by
  unfold kc; split; decide; split <;> decide
theorem kc_3 {a : Nat} (h : a < 3) : (if kc a = 2 then 0 else if kc a = 0 then 1 else 2) = a := by
  match a, h with
  | 0, _ => rfl
  | 1, _ => rfl
  | 2, _ => rfl
set_option maxHeartbeats 4000000 in
set_option maxRecDepth 100000 in
theorem c_R_rd_c {l : Launch}  {M : ev_M} (o : Nat) (zi : Nat → Int32) (zl : Nat → Int64) (hO : M[o]? = some (.inr (10, zo o zi zl))) (cs : List (Tr ⊕ Cf)) (hc8 : cs.length ≤ 8) (h44 : zi 44 = nI cs.length) (kd tld : Nat → Int32) (tf t2 : Nat → Int64) (h23 : M[o + 23]? = some (.inl (0, 12, .inl kd))) (hC : CRs cs kd tld tf t2) (Q : ev_R → ev_M → Prop) (hk : ∀ i, ev_ l m_X11_read 0 0 72 [some (.ref (o)), some (.int (ev_b (true))), some (.int (nI ((csG cs).length))), some (.int (nI i)), none] [] M Q) : ∀ (n9 : Nat) (i : Nat), i ≤ cs.length → cs.length - i < n9 → ev_ l m_X11_read 0 0 40 [some (.ref (o)), some (.int (ev_b (true))), some (.int (nI ((csG (cs.take i)).length))), some (.int (nI i)), none] [] M (Q) := by
  intro n9
  induction n9 with
  | zero => intro i hi hm9; exact absurd hm9 (by omega)
  | succ n9 ih =>
    intro i hi hm9
    refine ev_blk (B := [(.iload_n 3, 1), (.aload_n 0, 1)]) (pe := 42) (ls' := [some (.ref (o)), some (.int (ev_b (true))), some (.int (nI ((csG (cs.take i)).length))), some (.int (nI i)), none]) (st' := [.ref (o), .int (nI i)]) ⟨dX11_read_40, dX11_read_41, rfl⟩ rfl ?_
    refine ev_getf (v := .int (nI (cs.length))) F_RX11_322 dX11_read_42 hO (congrArg (fun q => some (Value.int q)) h44) ?_
    refine ev_iN_ge dX11_read_45 (tgt := 72) (by decide) (by omega) (by omega) (fun q45 => ?_) (fun q45 => ?_)
    · have e7 : i = cs.length := by omega
      subst e7
      have e8 := hk cs.length
      rw [← List.take_length (l := cs)] at e8
      rw [List.take_length] at e8 ⊢
      exact e8
    · obtain ⟨x, hxi⟩ : ∃ x, cs[i]? = some x := ⟨cs[i], List.getElem?_eq_getElem (by omega)⟩
      have hcx := hC i x hxi
      refine ev_blk (B := [(.iload_n 2, 1), (.aload_n 0, 1)]) (pe := 50) (ls' := [some (.ref (o)), some (.int (ev_b (true))), some (.int (nI ((csG (cs.take i)).length))), some (.int (nI i)), none]) (st' := [.ref (o), .int (nI ((csG (cs.take i)).length))]) ⟨dX11_read_48, dX11_read_49, rfl⟩ rfl ?_
      refine ev_getf (v := .ref (o + 23)) F_RX11_78 dX11_read_50 hO rfl ?_
      refine ev_blk (B := [(.iload_n 3, 1)]) (pe := 54) (ls' := [some (.ref (o)), some (.int (ev_b (true))), some (.int (nI ((csG (cs.take i)).length))), some (.int (nI i)), none]) (st' := [.int (nI i), .ref (o + 23), .int (nI ((csG (cs.take i)).length))]) ⟨dX11_read_53, rfl⟩ rfl ?_
      refine ev_iald dX11_read_54 h23 (vp_in_nI (show i < 12 by omega) (by omega)) ?_
      rw [nI_clamp (show i < 2 ^ 31 by omega)]
      refine ev_blk (B := [(.iconst 3, 1)]) (pe := 56) (ls' := [some (.ref (o)), some (.int (ev_b (true))), some (.int (nI ((csG (cs.take i)).length))), some (.int (nI i)), none]) (st' := [.int (nI 3), .int (kd i), .int (nI ((csG (cs.take i)).length))]) ⟨dX11_read_55, rfl⟩ rfl ?_
      refine ev_ic_ne dX11_read_56 (tgt := 63) (by decide) (fun q56 => ?_) (fun q56 => ?_)
      · refine ev_blk (B := [(.iconst 0, 1), (.iadd, 1), (.istore_n 2, 1), (.iinc 3 1, 3)]) (pe := 69) (ls' := [some (.ref (o)), some (.int (ev_b (true))), some (.int (nI (((csG (cs.take i)).length) + 0))), some (.int (nI (i + 1))), none]) (st' := []) ⟨dX11_read_63, dX11_read_64, dX11_read_65, dX11_read_66, rfl⟩ (by show some (([some (.ref (o)), some (.int (ev_b (true))), some (.int ((nI ((csG (cs.take i)).length)) + (nI 0))), some (.int ((nI i) + Int32.ofInt (1))), none] : ev_L), ([] : List Value)) = _; rw [nI_add ((csG (cs.take i)).length) 0, ev_inc1 i]) ?_
        refine ev_goto (tgt := 40) dX11_read_69 (by decide) ?_
        have e9 : (csG (cs.take (i + 1))).length = (csG (cs.take i)).length + 0 := by
          cases x with
          | inl t => rw [(csT_take hxi).2]; rfl
          | inr g => exact absurd hcx.1 q56
        have e8 := ih (i + 1) (by omega) (by omega)
        rw [e9] at e8
        exact e8
      · refine ev_blk (B := [(.iconst 1, 1)]) (pe := 60) (ls' := [some (.ref (o)), some (.int (ev_b (true))), some (.int (nI ((csG (cs.take i)).length))), some (.int (nI i)), none]) (st' := [.int (nI 1), .int (nI ((csG (cs.take i)).length))]) ⟨dX11_read_59, rfl⟩ rfl ?_
        refine ev_goto (tgt := 64) dX11_read_60 (by decide) ?_
        refine ev_blk (B := [(.iadd, 1), (.istore_n 2, 1), (.iinc 3 1, 3)]) (pe := 69) (ls' := [some (.ref (o)), some (.int (ev_b (true))), some (.int (nI (((csG (cs.take i)).length) + 1))), some (.int (nI (i + 1))), none]) (st' := []) ⟨dX11_read_64, dX11_read_65, dX11_read_66, rfl⟩ (by show some (([some (.ref (o)), some (.int (ev_b (true))), some (.int ((nI ((csG (cs.take i)).length)) + (nI 1))), some (.int ((nI i) + Int32.ofInt (1))), none] : ev_L), ([] : List Value)) = _; rw [nI_add ((csG (cs.take i)).length) 1, ev_inc1 i]) ?_
        refine ev_goto (tgt := 40) dX11_read_69 (by decide) ?_
        have e9 : (csG (cs.take (i + 1))).length = (csG (cs.take i)).length + 1 := by
          cases x with
          | inl t => exact absurd ((nI_inj (by have := kc_le t.2.2.1; omega) (by decide)).mp (hcx.1.symm.trans q56)) (by have := kc_le t.2.2.1; omega)
          | inr g => rw [(csG_take hxi).1, List.length_append]; rfl
        have e8 := ih (i + 1) (by omega) (by omega)
        rw [e9] at e8
        exact e8

set_option maxHeartbeats 4000000 in
set_option maxRecDepth 100000 in
theorem c_R_rd_x {l : Launch} (hl : l.stackTraces = false)  (o : Nat) (S : St) (fv : Int32) (cs : List (Tr ⊕ Cf)) (hc8 : cs.length ≤ 8) (hTr : ∀ t, t ∈ csT cs → trO t) (hT10 : S.T.length + (csT cs).length ≤ 10) (hG3 : S.G.length + (csG cs).length ≤ 3) (kd tld : Nat → Int32) (tf t2 : Nat → Int64) (hC : CRs cs kd tld tf t2) (M0 : ev_M) : ∀ (n9 : Nat) (i : Nat) (M : ev_M) (zi : Nat → Int32) (zl : Nat → Int64), i ≤ cs.length → RR M o (St.mk (S.T ++ csT (cs.take i)) S.x (S.G ++ csG (cs.take i)) S.H 0 S.t fv S.tk S.T9 S.x9 S.G9) zi zl → zi 44 = nI cs.length → zi 0 = nI 0 → KRw M o kd tld tf t2 → Fr o (o + 31) M0 M → cs.length - i < n9 → ev_ l m_X11_read 0 0 111 [some (.ref (o)), some (.int (ev_b (true))), some (.int (nI ((csG cs).length))), some (.int (nI i)), none] [] M (fun r M1 => r = .inl (some (.int (nI cs.length))) ∧ ∃ zi' zl', RR M1 o (St.mk (S.T ++ csT (cs.take cs.length)) S.x (S.G ++ csG (cs.take cs.length)) S.H 0 S.t fv S.tk S.T9 S.x9 S.G9) zi' zl' ∧ zi' 0 = nI 0 ∧ Fr o (o + 31) M0 M1) := by
  intro n9
  induction n9 with
  | zero => intro i M zi zl hi hR h44 h0 hK hF hm9; exact absurd hm9 (by omega)
  | succ n9 ih =>
    intro i M zi zl hi hR h44 h0 hK hF hm9
    refine ev_blk (B := [(.iload_n 3, 1), (.aload_n 0, 1)]) (pe := 113) (ls' := [some (.ref (o)), some (.int (ev_b (true))), some (.int (nI ((csG cs).length))), some (.int (nI i)), none]) (st' := [.ref (o), .int (nI i)]) ⟨dX11_read_111, dX11_read_112, rfl⟩ rfl ?_
    refine ev_getf (v := .int (nI (cs.length))) F_RX11_322 dX11_read_113 hR.z (congrArg (fun q => some (Value.int q)) h44) ?_
    refine ev_iN_ge dX11_read_116 (tgt := 232) (by decide) (by omega) (by omega) (fun q116 => ?_) (fun q116 => ?_)
    · refine ev_blk (B := [(.aload_n 0, 1)]) (pe := 233) (ls' := [some (.ref (o)), some (.int (ev_b (true))), some (.int (nI ((csG cs).length))), some (.int (nI i)), none]) (st' := [.ref (o)]) ⟨dX11_read_232, rfl⟩ rfl ?_
      refine ev_getf (v := .int (nI (cs.length))) F_RX11_322 dX11_read_233 hR.z (congrArg (fun q => some (Value.int q)) h44) ?_
      refine ev_iret dX11_read_236 rfl (rfl) ⟨Nat.le_of_ble_eq_true rfl, Nat.le_of_ble_eq_true rfl⟩ ?_
      have e7 : i = cs.length := by omega
      subst e7
      exact ⟨rfl, zi, zl, hR, h0, hF⟩
    · obtain ⟨x, hxi⟩ : ∃ x, cs[i]? = some x := ⟨cs[i], List.getElem?_eq_getElem (by omega)⟩
      have hcx := hC i x hxi
      obtain ⟨k23, k24, k25, k26⟩ := hK
      rcases x with t | g
      · have hto : trO t := hTr t (csT_m hxi)
        have hkc := kc_le t.2.2.1
        have hy1 := hto.1
        have hy2 := hto.2.1
        have hy3 := hto.2.2.1
        have hk3 := kc_3 hto.2.2.1
        have hK : KRw M o kd tld tf t2 := ⟨k23, k24, k25, k26⟩
        refine ev_blk (B := [(.iconst 4, 1), (.iload_n 3, 1), (.imul, 1), (.istore 4, 2), (.aload_n 0, 1)]) (pe := 125) (ls' := [some (.ref (o)), some (.int (ev_b (true))), some (.int (nI ((csG cs).length))), some (.int (nI i)), some (.int (nI (4 * i)))]) (st' := [.ref (o)]) ⟨dX11_read_119, dX11_read_120, dX11_read_121, dX11_read_122, dX11_read_124, rfl⟩ (by show some (([some (.ref (o)), some (.int (ev_b (true))), some (.int (nI ((csG cs).length))), some (.int (nI i)), some (.int ((nI 4) * (nI i)))] : ev_L), ([.ref (o)] : List Value)) = _; rw [pk_mul 4 i]) ?_
        refine ev_getf (v := .ref (o + 23)) F_RX11_78 dX11_read_125 hR.z rfl ?_
        refine ev_blk (B := [(.iload_n 3, 1)]) (pe := 129) (ls' := [some (.ref (o)), some (.int (ev_b (true))), some (.int (nI ((csG cs).length))), some (.int (nI i)), some (.int (nI (4 * i)))]) (st' := [.int (nI i), .ref (o + 23)]) ⟨dX11_read_128, rfl⟩ rfl ?_
        refine ev_iald dX11_read_129 k23 (vp_in_nI (show i < 12 by omega) (by omega)) ?_
        rw [nI_clamp (show i < 2 ^ 31 by omega)]
        rw [show kd i = nI (kc t.2.2.1) from hcx.1]
        refine ev_blk (B := [(.iconst 3, 1)]) (pe := 131) (ls' := [some (.ref (o)), some (.int (ev_b (true))), some (.int (nI ((csG cs).length))), some (.int (nI i)), some (.int (nI (4 * i)))]) (st' := [.int (nI 3), .int (nI (kc t.2.2.1))]) ⟨dX11_read_130, rfl⟩ rfl ?_
        refine ev_iN_ne dX11_read_131 (tgt := 160) (by decide) (by omega) (by omega) (fun q131 => ?_) (fun q131 => ?_)
        · refine ev_blk (B := [(.aload_n 0, 1), (.aload_n 0, 1)]) (pe := 162) (ls' := [some (.ref (o)), some (.int (ev_b (true))), some (.int (nI ((csG cs).length))), some (.int (nI i)), some (.int (nI (4 * i)))]) (st' := [.ref (o), .ref (o)]) ⟨dX11_read_160, dX11_read_161, rfl⟩ rfl ?_
          refine ev_getf (v := .ref (o + 24)) F_RX11_81 dX11_read_162 hR.z rfl ?_
          refine ev_blk (B := [(.iload 4, 2)]) (pe := 167) (ls' := [some (.ref (o)), some (.int (ev_b (true))), some (.int (nI ((csG cs).length))), some (.int (nI i)), some (.int (nI (4 * i)))]) (st' := [.int (nI (4 * i)), .ref (o + 24), .ref (o)]) ⟨dX11_read_165, rfl⟩ rfl ?_
          refine ev_iald dX11_read_167 k24 (vp_in_nI (show 4 * i < 48 by omega) (by omega)) ?_
          rw [nI_clamp (show 4 * i < 2 ^ 31 by omega)]
          rw [show tld (4 * i) = nI (t.1) from hcx.2.1]
          refine ev_blk (B := [(.aload_n 0, 1)]) (pe := 169) (ls' := [some (.ref (o)), some (.int (ev_b (true))), some (.int (nI ((csG cs).length))), some (.int (nI i)), some (.int (nI (4 * i)))]) (st' := [.ref (o), .int (nI (t.1)), .ref (o)]) ⟨dX11_read_168, rfl⟩ rfl ?_
          refine ev_getf (v := .ref (o + 24)) F_RX11_81 dX11_read_169 hR.z rfl ?_
          refine ev_blk (B := [(.iload 4, 2), (.iconst 1, 1), (.iadd, 1)]) (pe := 176) (ls' := [some (.ref (o)), some (.int (ev_b (true))), some (.int (nI ((csG cs).length))), some (.int (nI i)), some (.int (nI (4 * i)))]) (st' := [.int (nI ((4 * i) + 1)), .ref (o + 24), .int (nI (t.1)), .ref (o)]) ⟨dX11_read_172, dX11_read_174, dX11_read_175, rfl⟩ (by show some (([some (.ref (o)), some (.int (ev_b (true))), some (.int (nI ((csG cs).length))), some (.int (nI i)), some (.int (nI (4 * i)))] : ev_L), ([.int ((nI (4 * i)) + (nI 1)), .ref (o + 24), .int (nI (t.1)), .ref (o)] : List Value)) = _; rw [nI_add (4 * i) 1]) ?_
          refine ev_iald dX11_read_176 k24 (vp_in_nI (show (4 * i) + 1 < 48 by omega) (by omega)) ?_
          rw [nI_clamp (show (4 * i) + 1 < 2 ^ 31 by omega)]
          rw [show tld ((4 * i) + 1) = nI (t.2.1) from hcx.2.2.1]
          refine ev_blk (B := [(.aload_n 0, 1)]) (pe := 178) (ls' := [some (.ref (o)), some (.int (ev_b (true))), some (.int (nI ((csG cs).length))), some (.int (nI i)), some (.int (nI (4 * i)))]) (st' := [.ref (o), .int (nI (t.2.1)), .int (nI (t.1)), .ref (o)]) ⟨dX11_read_177, rfl⟩ rfl ?_
          refine ev_getf (v := .ref (o + 23)) F_RX11_78 dX11_read_178 hR.z rfl ?_
          refine ev_blk (B := [(.iload_n 3, 1)]) (pe := 182) (ls' := [some (.ref (o)), some (.int (ev_b (true))), some (.int (nI ((csG cs).length))), some (.int (nI i)), some (.int (nI (4 * i)))]) (st' := [.int (nI i), .ref (o + 23), .int (nI (t.2.1)), .int (nI (t.1)), .ref (o)]) ⟨dX11_read_181, rfl⟩ rfl ?_
          refine ev_iald dX11_read_182 k23 (vp_in_nI (show i < 12 by omega) (by omega)) ?_
          rw [nI_clamp (show i < 2 ^ 31 by omega)]
          rw [show kd i = nI (kc t.2.2.1) from hcx.1]
          refine ev_blk (B := [(.iconst 2, 1)]) (pe := 184) (ls' := [some (.ref (o)), some (.int (ev_b (true))), some (.int (nI ((csG cs).length))), some (.int (nI i)), some (.int (nI (4 * i)))]) (st' := [.int (nI 2), .int (nI (kc t.2.2.1)), .int (nI (t.2.1)), .int (nI (t.1)), .ref (o)]) ⟨dX11_read_183, rfl⟩ rfl ?_
          refine ev_iN_ne dX11_read_184 (tgt := 191) (by decide) (by omega) (by omega) (fun q184 => ?_) (fun q184 => ?_)
          · refine ev_blk (B := [(.aload_n 0, 1)]) (pe := 192) (ls' := [some (.ref (o)), some (.int (ev_b (true))), some (.int (nI ((csG cs).length))), some (.int (nI i)), some (.int (nI (4 * i)))]) (st' := [.ref (o), .int (nI (t.2.1)), .int (nI (t.1)), .ref (o)]) ⟨dX11_read_191, rfl⟩ rfl ?_
            refine ev_getf (v := .ref (o + 23)) F_RX11_78 dX11_read_192 hR.z rfl ?_
            refine ev_blk (B := [(.iload_n 3, 1)]) (pe := 196) (ls' := [some (.ref (o)), some (.int (ev_b (true))), some (.int (nI ((csG cs).length))), some (.int (nI i)), some (.int (nI (4 * i)))]) (st' := [.int (nI i), .ref (o + 23), .int (nI (t.2.1)), .int (nI (t.1)), .ref (o)]) ⟨dX11_read_195, rfl⟩ rfl ?_
            refine ev_iald dX11_read_196 k23 (vp_in_nI (show i < 12 by omega) (by omega)) ?_
            rw [nI_clamp (show i < 2 ^ 31 by omega)]
            rw [show kd i = nI (kc t.2.2.1) from hcx.1]
            refine ev_fN_ne dX11_read_197 (tgt := 204) (by decide) (by omega) (fun q197 => ?_) (fun q197 => ?_)
            · refine ev_blk (B := [(.iconst 2, 1)]) (pe := 205) (ls' := [some (.ref (o)), some (.int (ev_b (true))), some (.int (nI ((csG cs).length))), some (.int (nI i)), some (.int (nI (4 * i)))]) (st' := [.int (nI 2), .int (nI (t.2.1)), .int (nI (t.1)), .ref (o)]) ⟨dX11_read_204, rfl⟩ rfl ?_
              refine ev_eqst (st := [.int (nI (t.2.2.1)), .int (nI (t.2.1)), .int (nI (t.1)), .ref (o)]) (congrArg (fun z => (Value.int z :: ([.int (nI (t.2.1)), .int (nI (t.1)), .ref (o)] : List Value))) (show nI 2 = nI t.2.2.1 from congrArg nI (by rw [← hk3]; first | rw [if_pos q184] | (rw [if_neg q184, if_pos q197]) | (rw [if_neg q184, if_neg q197])))) ?_
              refine ev_blk (B := [(.aload_n 0, 1)]) (pe := 206) (ls' := [some (.ref (o)), some (.int (ev_b (true))), some (.int (nI ((csG cs).length))), some (.int (nI i)), some (.int (nI (4 * i)))]) (st' := [.ref (o), .int (nI (t.2.2.1)), .int (nI (t.2.1)), .int (nI (t.1)), .ref (o)]) ⟨dX11_read_205, rfl⟩ rfl ?_
              refine ev_getf (v := .ref (o + 24)) F_RX11_81 dX11_read_206 hR.z rfl ?_
              refine ev_blk (B := [(.iload 4, 2), (.iconst 2, 1), (.iadd, 1)]) (pe := 213) (ls' := [some (.ref (o)), some (.int (ev_b (true))), some (.int (nI ((csG cs).length))), some (.int (nI i)), some (.int (nI (4 * i)))]) (st' := [.int (nI ((4 * i) + 2)), .ref (o + 24), .int (nI (t.2.2.1)), .int (nI (t.2.1)), .int (nI (t.1)), .ref (o)]) ⟨dX11_read_209, dX11_read_211, dX11_read_212, rfl⟩ (by show some (([some (.ref (o)), some (.int (ev_b (true))), some (.int (nI ((csG cs).length))), some (.int (nI i)), some (.int (nI (4 * i)))] : ev_L), ([.int ((nI (4 * i)) + (nI 2)), .ref (o + 24), .int (nI (t.2.2.1)), .int (nI (t.2.1)), .int (nI (t.1)), .ref (o)] : List Value)) = _; rw [nI_add (4 * i) 2]) ?_
              refine ev_iald dX11_read_213 k24 (vp_in_nI (show (4 * i) + 2 < 48 by omega) (by omega)) ?_
              rw [nI_clamp (show (4 * i) + 2 < 2 ^ 31 by omega)]
              refine ev_blk (B := [(.aload_n 0, 1)]) (pe := 215) (ls' := [some (.ref (o)), some (.int (ev_b (true))), some (.int (nI ((csG cs).length))), some (.int (nI i)), some (.int (nI (4 * i)))]) (st' := [.ref (o), .int (tld ((4 * i) + 2)), .int (nI (t.2.2.1)), .int (nI (t.2.1)), .int (nI (t.1)), .ref (o)]) ⟨dX11_read_214, rfl⟩ rfl ?_
              refine ev_getf (v := .ref (o + 24)) F_RX11_81 dX11_read_215 hR.z rfl ?_
              refine ev_blk (B := [(.iload 4, 2), (.iconst 3, 1), (.iadd, 1)]) (pe := 222) (ls' := [some (.ref (o)), some (.int (ev_b (true))), some (.int (nI ((csG cs).length))), some (.int (nI i)), some (.int (nI (4 * i)))]) (st' := [.int (nI ((4 * i) + 3)), .ref (o + 24), .int (tld ((4 * i) + 2)), .int (nI (t.2.2.1)), .int (nI (t.2.1)), .int (nI (t.1)), .ref (o)]) ⟨dX11_read_218, dX11_read_220, dX11_read_221, rfl⟩ (by show some (([some (.ref (o)), some (.int (ev_b (true))), some (.int (nI ((csG cs).length))), some (.int (nI i)), some (.int (nI (4 * i)))] : ev_L), ([.int ((nI (4 * i)) + (nI 3)), .ref (o + 24), .int (tld ((4 * i) + 2)), .int (nI (t.2.2.1)), .int (nI (t.2.1)), .int (nI (t.1)), .ref (o)] : List Value)) = _; rw [nI_add (4 * i) 3]) ?_
              refine ev_iald dX11_read_222 k24 (vp_in_nI (show (4 * i) + 3 < 48 by omega) (by omega)) ?_
              rw [nI_clamp (show (4 * i) + 3 < 2 ^ 31 by omega)]
              refine ev_cVn Y_X11_adds L_RX11_148 dX11_read_223 ⟨Nat.le_of_ble_eq_true rfl, Nat.le_of_ble_eq_true rfl, Nat.le_of_ble_eq_true rfl, Nat.le_of_ble_eq_true rfl, Nat.le_of_ble_eq_true rfl⟩ hR.z (as := [.int (nI (t.1)), .int (nI (t.2.1)), .int (nI (t.2.2.1)), .int (tld ((4 * i) + 2)), .int (tld ((4 * i) + 3))]) rfl rfl (c_R_adds hl o zi zl hR.z (S.T ++ csT (cs.take i)) (by rw [List.length_append]; have := csT_take hxi; have h9 := csT_le (cs := cs) (i + 1); rw [this.1, List.length_append] at h9; have h8 : [t].length = 1 := rfl; omega) hR.p.1 hR.T t (tld (4 * i + 2)) (tld (4 * i + 3)) (fun z => (hcx.2.2.2 z).1.trans (tp3 z).symm) (fun z => (hcx.2.2.2 z).2.trans (tp4 z).symm) hto) (fun M1 hL1 hB1 => ?_)
              obtain ⟨Ai, Az, A1, A2, AK, AT, AF⟩ := hB1
              refine ev_blk (B := [(.iinc 3 1, 3)]) (pe := 229) (ls' := [some (.ref (o)), some (.int (ev_b (true))), some (.int (nI ((csG cs).length))), some (.int (nI (i + 1))), some (.int (nI (4 * i)))]) (st' := []) ⟨dX11_read_226, rfl⟩ (by show some (([some (.ref (o)), some (.int (ev_b (true))), some (.int (nI ((csG cs).length))), some (.int ((nI i) + Int32.ofInt (1))), some (.int (nI (4 * i)))] : ev_L), ([] : List Value)) = _; rw [ev_inc1 i]) ?_
              refine ev_goto (tgt := 111) dX11_read_229 (by decide) ?_
              refine ev_fgt (ls' := [some (.ref (o)), some (.int (ev_b (true))), some (.int (nI ((csG cs).length))), some (.int (nI (i + 1))), none]) ⟨Or.inr rfl, Or.inr rfl, Or.inr rfl, Or.inr rfl, Or.inl rfl, trivial⟩ ?_
              have e9 := csT_take hxi
              refine ih (i + 1) _ _ _ (by omega) (by rw [e9.1, e9.2, ← List.append_assoc]; exact hR.nT Az AF AT A1 A2 (fun q hq => AK q (nm hq (by decide)) (nm hq (by decide))) (fun q hq => rfl)) ((AK 44 (by decide) (by decide)).trans h44) ((AK 0 (by decide) (by decide)).trans h0) (hK.fx AF (by omega)) (hF.tr (FX.fr (lo := o + 1) (hi := o + 31) (AF.to (by omega) (by omega)) (by omega) (by omega))) (by omega)
            · refine ev_blk (B := [(.iconst 1, 1)]) (pe := 201) (ls' := [some (.ref (o)), some (.int (ev_b (true))), some (.int (nI ((csG cs).length))), some (.int (nI i)), some (.int (nI (4 * i)))]) (st' := [.int (nI 1), .int (nI (t.2.1)), .int (nI (t.1)), .ref (o)]) ⟨dX11_read_200, rfl⟩ rfl ?_
              refine ev_goto (tgt := 205) dX11_read_201 (by decide) ?_
              refine ev_eqst (st := [.int (nI (t.2.2.1)), .int (nI (t.2.1)), .int (nI (t.1)), .ref (o)]) (congrArg (fun z => (Value.int z :: ([.int (nI (t.2.1)), .int (nI (t.1)), .ref (o)] : List Value))) (show nI 1 = nI t.2.2.1 from congrArg nI (by rw [← hk3]; first | rw [if_pos q184] | (rw [if_neg q184, if_pos q197]) | (rw [if_neg q184, if_neg q197])))) ?_
              refine ev_blk (B := [(.aload_n 0, 1)]) (pe := 206) (ls' := [some (.ref (o)), some (.int (ev_b (true))), some (.int (nI ((csG cs).length))), some (.int (nI i)), some (.int (nI (4 * i)))]) (st' := [.ref (o), .int (nI (t.2.2.1)), .int (nI (t.2.1)), .int (nI (t.1)), .ref (o)]) ⟨dX11_read_205, rfl⟩ rfl ?_
              refine ev_getf (v := .ref (o + 24)) F_RX11_81 dX11_read_206 hR.z rfl ?_
              refine ev_blk (B := [(.iload 4, 2), (.iconst 2, 1), (.iadd, 1)]) (pe := 213) (ls' := [some (.ref (o)), some (.int (ev_b (true))), some (.int (nI ((csG cs).length))), some (.int (nI i)), some (.int (nI (4 * i)))]) (st' := [.int (nI ((4 * i) + 2)), .ref (o + 24), .int (nI (t.2.2.1)), .int (nI (t.2.1)), .int (nI (t.1)), .ref (o)]) ⟨dX11_read_209, dX11_read_211, dX11_read_212, rfl⟩ (by show some (([some (.ref (o)), some (.int (ev_b (true))), some (.int (nI ((csG cs).length))), some (.int (nI i)), some (.int (nI (4 * i)))] : ev_L), ([.int ((nI (4 * i)) + (nI 2)), .ref (o + 24), .int (nI (t.2.2.1)), .int (nI (t.2.1)), .int (nI (t.1)), .ref (o)] : List Value)) = _; rw [nI_add (4 * i) 2]) ?_
              refine ev_iald dX11_read_213 k24 (vp_in_nI (show (4 * i) + 2 < 48 by omega) (by omega)) ?_
              rw [nI_clamp (show (4 * i) + 2 < 2 ^ 31 by omega)]
              refine ev_blk (B := [(.aload_n 0, 1)]) (pe := 215) (ls' := [some (.ref (o)), some (.int (ev_b (true))), some (.int (nI ((csG cs).length))), some (.int (nI i)), some (.int (nI (4 * i)))]) (st' := [.ref (o), .int (tld ((4 * i) + 2)), .int (nI (t.2.2.1)), .int (nI (t.2.1)), .int (nI (t.1)), .ref (o)]) ⟨dX11_read_214, rfl⟩ rfl ?_
              refine ev_getf (v := .ref (o + 24)) F_RX11_81 dX11_read_215 hR.z rfl ?_
              refine ev_blk (B := [(.iload 4, 2), (.iconst 3, 1), (.iadd, 1)]) (pe := 222) (ls' := [some (.ref (o)), some (.int (ev_b (true))), some (.int (nI ((csG cs).length))), some (.int (nI i)), some (.int (nI (4 * i)))]) (st' := [.int (nI ((4 * i) + 3)), .ref (o + 24), .int (tld ((4 * i) + 2)), .int (nI (t.2.2.1)), .int (nI (t.2.1)), .int (nI (t.1)), .ref (o)]) ⟨dX11_read_218, dX11_read_220, dX11_read_221, rfl⟩ (by show some (([some (.ref (o)), some (.int (ev_b (true))), some (.int (nI ((csG cs).length))), some (.int (nI i)), some (.int (nI (4 * i)))] : ev_L), ([.int ((nI (4 * i)) + (nI 3)), .ref (o + 24), .int (tld ((4 * i) + 2)), .int (nI (t.2.2.1)), .int (nI (t.2.1)), .int (nI (t.1)), .ref (o)] : List Value)) = _; rw [nI_add (4 * i) 3]) ?_
              refine ev_iald dX11_read_222 k24 (vp_in_nI (show (4 * i) + 3 < 48 by omega) (by omega)) ?_
              rw [nI_clamp (show (4 * i) + 3 < 2 ^ 31 by omega)]
              refine ev_cVn Y_X11_adds L_RX11_148 dX11_read_223 ⟨Nat.le_of_ble_eq_true rfl, Nat.le_of_ble_eq_true rfl, Nat.le_of_ble_eq_true rfl, Nat.le_of_ble_eq_true rfl, Nat.le_of_ble_eq_true rfl⟩ hR.z (as := [.int (nI (t.1)), .int (nI (t.2.1)), .int (nI (t.2.2.1)), .int (tld ((4 * i) + 2)), .int (tld ((4 * i) + 3))]) rfl rfl (c_R_adds hl o zi zl hR.z (S.T ++ csT (cs.take i)) (by rw [List.length_append]; have := csT_take hxi; have h9 := csT_le (cs := cs) (i + 1); rw [this.1, List.length_append] at h9; have h8 : [t].length = 1 := rfl; omega) hR.p.1 hR.T t (tld (4 * i + 2)) (tld (4 * i + 3)) (fun z => (hcx.2.2.2 z).1.trans (tp3 z).symm) (fun z => (hcx.2.2.2 z).2.trans (tp4 z).symm) hto) (fun M2 hL2 hB2 => ?_)
              obtain ⟨Ai, Az, A1, A2, AK, AT, AF⟩ := hB2
              refine ev_blk (B := [(.iinc 3 1, 3)]) (pe := 229) (ls' := [some (.ref (o)), some (.int (ev_b (true))), some (.int (nI ((csG cs).length))), some (.int (nI (i + 1))), some (.int (nI (4 * i)))]) (st' := []) ⟨dX11_read_226, rfl⟩ (by show some (([some (.ref (o)), some (.int (ev_b (true))), some (.int (nI ((csG cs).length))), some (.int ((nI i) + Int32.ofInt (1))), some (.int (nI (4 * i)))] : ev_L), ([] : List Value)) = _; rw [ev_inc1 i]) ?_
              refine ev_goto (tgt := 111) dX11_read_229 (by decide) ?_
              refine ev_fgt (ls' := [some (.ref (o)), some (.int (ev_b (true))), some (.int (nI ((csG cs).length))), some (.int (nI (i + 1))), none]) ⟨Or.inr rfl, Or.inr rfl, Or.inr rfl, Or.inr rfl, Or.inl rfl, trivial⟩ ?_
              have e9 := csT_take hxi
              refine ih (i + 1) _ _ _ (by omega) (by rw [e9.1, e9.2, ← List.append_assoc]; exact hR.nT Az AF AT A1 A2 (fun q hq => AK q (nm hq (by decide)) (nm hq (by decide))) (fun q hq => rfl)) ((AK 44 (by decide) (by decide)).trans h44) ((AK 0 (by decide) (by decide)).trans h0) (hK.fx AF (by omega)) (hF.tr (FX.fr (lo := o + 1) (hi := o + 31) (AF.to (by omega) (by omega)) (by omega) (by omega))) (by omega)
          · refine ev_blk (B := [(.iconst 0, 1)]) (pe := 188) (ls' := [some (.ref (o)), some (.int (ev_b (true))), some (.int (nI ((csG cs).length))), some (.int (nI i)), some (.int (nI (4 * i)))]) (st' := [.int (nI 0), .int (nI (t.2.1)), .int (nI (t.1)), .ref (o)]) ⟨dX11_read_187, rfl⟩ rfl ?_
            refine ev_goto (tgt := 205) dX11_read_188 (by decide) ?_
            refine ev_eqst (st := [.int (nI (t.2.2.1)), .int (nI (t.2.1)), .int (nI (t.1)), .ref (o)]) (congrArg (fun z => (Value.int z :: ([.int (nI (t.2.1)), .int (nI (t.1)), .ref (o)] : List Value))) (show nI 0 = nI t.2.2.1 from congrArg nI (by rw [← hk3]; first | rw [if_pos q184] | (rw [if_neg q184, if_pos q197]) | (rw [if_neg q184, if_neg q197])))) ?_
            refine ev_blk (B := [(.aload_n 0, 1)]) (pe := 206) (ls' := [some (.ref (o)), some (.int (ev_b (true))), some (.int (nI ((csG cs).length))), some (.int (nI i)), some (.int (nI (4 * i)))]) (st' := [.ref (o), .int (nI (t.2.2.1)), .int (nI (t.2.1)), .int (nI (t.1)), .ref (o)]) ⟨dX11_read_205, rfl⟩ rfl ?_
            refine ev_getf (v := .ref (o + 24)) F_RX11_81 dX11_read_206 hR.z rfl ?_
            refine ev_blk (B := [(.iload 4, 2), (.iconst 2, 1), (.iadd, 1)]) (pe := 213) (ls' := [some (.ref (o)), some (.int (ev_b (true))), some (.int (nI ((csG cs).length))), some (.int (nI i)), some (.int (nI (4 * i)))]) (st' := [.int (nI ((4 * i) + 2)), .ref (o + 24), .int (nI (t.2.2.1)), .int (nI (t.2.1)), .int (nI (t.1)), .ref (o)]) ⟨dX11_read_209, dX11_read_211, dX11_read_212, rfl⟩ (by show some (([some (.ref (o)), some (.int (ev_b (true))), some (.int (nI ((csG cs).length))), some (.int (nI i)), some (.int (nI (4 * i)))] : ev_L), ([.int ((nI (4 * i)) + (nI 2)), .ref (o + 24), .int (nI (t.2.2.1)), .int (nI (t.2.1)), .int (nI (t.1)), .ref (o)] : List Value)) = _; rw [nI_add (4 * i) 2]) ?_
            refine ev_iald dX11_read_213 k24 (vp_in_nI (show (4 * i) + 2 < 48 by omega) (by omega)) ?_
            rw [nI_clamp (show (4 * i) + 2 < 2 ^ 31 by omega)]
            refine ev_blk (B := [(.aload_n 0, 1)]) (pe := 215) (ls' := [some (.ref (o)), some (.int (ev_b (true))), some (.int (nI ((csG cs).length))), some (.int (nI i)), some (.int (nI (4 * i)))]) (st' := [.ref (o), .int (tld ((4 * i) + 2)), .int (nI (t.2.2.1)), .int (nI (t.2.1)), .int (nI (t.1)), .ref (o)]) ⟨dX11_read_214, rfl⟩ rfl ?_
            refine ev_getf (v := .ref (o + 24)) F_RX11_81 dX11_read_215 hR.z rfl ?_
            refine ev_blk (B := [(.iload 4, 2), (.iconst 3, 1), (.iadd, 1)]) (pe := 222) (ls' := [some (.ref (o)), some (.int (ev_b (true))), some (.int (nI ((csG cs).length))), some (.int (nI i)), some (.int (nI (4 * i)))]) (st' := [.int (nI ((4 * i) + 3)), .ref (o + 24), .int (tld ((4 * i) + 2)), .int (nI (t.2.2.1)), .int (nI (t.2.1)), .int (nI (t.1)), .ref (o)]) ⟨dX11_read_218, dX11_read_220, dX11_read_221, rfl⟩ (by show some (([some (.ref (o)), some (.int (ev_b (true))), some (.int (nI ((csG cs).length))), some (.int (nI i)), some (.int (nI (4 * i)))] : ev_L), ([.int ((nI (4 * i)) + (nI 3)), .ref (o + 24), .int (tld ((4 * i) + 2)), .int (nI (t.2.2.1)), .int (nI (t.2.1)), .int (nI (t.1)), .ref (o)] : List Value)) = _; rw [nI_add (4 * i) 3]) ?_
            refine ev_iald dX11_read_222 k24 (vp_in_nI (show (4 * i) + 3 < 48 by omega) (by omega)) ?_
            rw [nI_clamp (show (4 * i) + 3 < 2 ^ 31 by omega)]
            refine ev_cVn Y_X11_adds L_RX11_148 dX11_read_223 ⟨Nat.le_of_ble_eq_true rfl, Nat.le_of_ble_eq_true rfl, Nat.le_of_ble_eq_true rfl, Nat.le_of_ble_eq_true rfl, Nat.le_of_ble_eq_true rfl⟩ hR.z (as := [.int (nI (t.1)), .int (nI (t.2.1)), .int (nI (t.2.2.1)), .int (tld ((4 * i) + 2)), .int (tld ((4 * i) + 3))]) rfl rfl (c_R_adds hl o zi zl hR.z (S.T ++ csT (cs.take i)) (by rw [List.length_append]; have := csT_take hxi; have h9 := csT_le (cs := cs) (i + 1); rw [this.1, List.length_append] at h9; have h8 : [t].length = 1 := rfl; omega) hR.p.1 hR.T t (tld (4 * i + 2)) (tld (4 * i + 3)) (fun z => (hcx.2.2.2 z).1.trans (tp3 z).symm) (fun z => (hcx.2.2.2 z).2.trans (tp4 z).symm) hto) (fun M3 hL3 hB3 => ?_)
            obtain ⟨Ai, Az, A1, A2, AK, AT, AF⟩ := hB3
            refine ev_blk (B := [(.iinc 3 1, 3)]) (pe := 229) (ls' := [some (.ref (o)), some (.int (ev_b (true))), some (.int (nI ((csG cs).length))), some (.int (nI (i + 1))), some (.int (nI (4 * i)))]) (st' := []) ⟨dX11_read_226, rfl⟩ (by show some (([some (.ref (o)), some (.int (ev_b (true))), some (.int (nI ((csG cs).length))), some (.int ((nI i) + Int32.ofInt (1))), some (.int (nI (4 * i)))] : ev_L), ([] : List Value)) = _; rw [ev_inc1 i]) ?_
            refine ev_goto (tgt := 111) dX11_read_229 (by decide) ?_
            refine ev_fgt (ls' := [some (.ref (o)), some (.int (ev_b (true))), some (.int (nI ((csG cs).length))), some (.int (nI (i + 1))), none]) ⟨Or.inr rfl, Or.inr rfl, Or.inr rfl, Or.inr rfl, Or.inl rfl, trivial⟩ ?_
            have e9 := csT_take hxi
            refine ih (i + 1) _ _ _ (by omega) (by rw [e9.1, e9.2, ← List.append_assoc]; exact hR.nT Az AF AT A1 A2 (fun q hq => AK q (nm hq (by decide)) (nm hq (by decide))) (fun q hq => rfl)) ((AK 44 (by decide) (by decide)).trans h44) ((AK 0 (by decide) (by decide)).trans h0) (hK.fx AF (by omega)) (hF.tr (FX.fr (lo := o + 1) (hi := o + 31) (AF.to (by omega) (by omega)) (by omega) (by omega))) (by omega)
        · exfalso; omega
      · have hK : KRw M o kd tld tf t2 := ⟨k23, k24, k25, k26⟩
        refine ev_blk (B := [(.iconst 4, 1), (.iload_n 3, 1), (.imul, 1), (.istore 4, 2), (.aload_n 0, 1)]) (pe := 125) (ls' := [some (.ref (o)), some (.int (ev_b (true))), some (.int (nI ((csG cs).length))), some (.int (nI i)), some (.int (nI (4 * i)))]) (st' := [.ref (o)]) ⟨dX11_read_119, dX11_read_120, dX11_read_121, dX11_read_122, dX11_read_124, rfl⟩ (by show some (([some (.ref (o)), some (.int (ev_b (true))), some (.int (nI ((csG cs).length))), some (.int (nI i)), some (.int ((nI 4) * (nI i)))] : ev_L), ([.ref (o)] : List Value)) = _; rw [pk_mul 4 i]) ?_
        refine ev_getf (v := .ref (o + 23)) F_RX11_78 dX11_read_125 hR.z rfl ?_
        refine ev_blk (B := [(.iload_n 3, 1)]) (pe := 129) (ls' := [some (.ref (o)), some (.int (ev_b (true))), some (.int (nI ((csG cs).length))), some (.int (nI i)), some (.int (nI (4 * i)))]) (st' := [.int (nI i), .ref (o + 23)]) ⟨dX11_read_128, rfl⟩ rfl ?_
        refine ev_iald dX11_read_129 k23 (vp_in_nI (show i < 12 by omega) (by omega)) ?_
        rw [nI_clamp (show i < 2 ^ 31 by omega)]
        rw [show kd i = nI 3 from hcx.1]
        refine ev_blk (B := [(.iconst 3, 1)]) (pe := 131) (ls' := [some (.ref (o)), some (.int (ev_b (true))), some (.int (nI ((csG cs).length))), some (.int (nI i)), some (.int (nI (4 * i)))]) (st' := [.int (nI 3), .int (nI 3)]) ⟨dX11_read_130, rfl⟩ rfl ?_
        refine ev_iN_ne dX11_read_131 (tgt := 160) (by decide) (by omega) (by omega) (fun q131 => ?_) (fun q131 => ?_)
        · exact absurd rfl q131
        · refine ev_blk (B := [(.aload_n 0, 1), (.aload_n 0, 1)]) (pe := 136) (ls' := [some (.ref (o)), some (.int (ev_b (true))), some (.int (nI ((csG cs).length))), some (.int (nI i)), some (.int (nI (4 * i)))]) (st' := [.ref (o), .ref (o)]) ⟨dX11_read_134, dX11_read_135, rfl⟩ rfl ?_
          refine ev_getf (v := .ref (o + 24)) F_RX11_81 dX11_read_136 hR.z rfl ?_
          refine ev_blk (B := [(.iload 4, 2)]) (pe := 141) (ls' := [some (.ref (o)), some (.int (ev_b (true))), some (.int (nI ((csG cs).length))), some (.int (nI i)), some (.int (nI (4 * i)))]) (st' := [.int (nI (4 * i)), .ref (o + 24), .ref (o)]) ⟨dX11_read_139, rfl⟩ rfl ?_
          refine ev_iald dX11_read_141 k24 (vp_in_nI (show 4 * i < 48 by omega) (by omega)) ?_
          rw [nI_clamp (show 4 * i < 2 ^ 31 by omega)]
          rw [show tld (4 * i) = nI (g.1) from hcx.2.1]
          refine ev_blk (B := [(.aload_n 0, 1)]) (pe := 143) (ls' := [some (.ref (o)), some (.int (ev_b (true))), some (.int (nI ((csG cs).length))), some (.int (nI i)), some (.int (nI (4 * i)))]) (st' := [.ref (o), .int (nI (g.1)), .ref (o)]) ⟨dX11_read_142, rfl⟩ rfl ?_
          refine ev_getf (v := .ref (o + 25)) F_RX11_84 dX11_read_143 hR.z rfl ?_
          refine ev_blk (B := [(.iload_n 3, 1)]) (pe := 147) (ls' := [some (.ref (o)), some (.int (ev_b (true))), some (.int (nI ((csG cs).length))), some (.int (nI i)), some (.int (nI (4 * i)))]) (st' := [.int (nI i), .ref (o + 25), .int (nI (g.1)), .ref (o)]) ⟨dX11_read_146, rfl⟩ rfl ?_
          refine ev_lald dX11_read_147 k25 (vp_in_nI (show i < 12 by omega) (by omega)) ?_
          rw [nI_clamp (show i < 2 ^ 31 by omega)]
          rw [show tf i = e2 g.2.1 from hcx.2.2.1]
          refine ev_blk (B := [(.aload_n 0, 1)]) (pe := 149) (ls' := [some (.ref (o)), some (.int (ev_b (true))), some (.int (nI ((csG cs).length))), some (.int (nI i)), some (.int (nI (4 * i)))]) (st' := [.ref (o), .long (e2 g.2.1), .int (nI (g.1)), .ref (o)]) ⟨dX11_read_148, rfl⟩ rfl ?_
          refine ev_getf (v := .ref (o + 26)) F_RX11_87 dX11_read_149 hR.z rfl ?_
          refine ev_blk (B := [(.iload_n 3, 1)]) (pe := 153) (ls' := [some (.ref (o)), some (.int (ev_b (true))), some (.int (nI ((csG cs).length))), some (.int (nI i)), some (.int (nI (4 * i)))]) (st' := [.int (nI i), .ref (o + 26), .long (e2 g.2.1), .int (nI (g.1)), .ref (o)]) ⟨dX11_read_152, rfl⟩ rfl ?_
          refine ev_lald dX11_read_153 k26 (vp_in_nI (show i < 12 by omega) (by omega)) ?_
          rw [nI_clamp (show i < 2 ^ 31 by omega)]
          rw [show t2 i = e2 g.2.2 from hcx.2.2.2]
          refine ev_cVn Y_X11_addsGoal L_RX11_228 dX11_read_154 ⟨Nat.le_of_ble_eq_true rfl, Nat.le_of_ble_eq_true rfl, Nat.le_of_ble_eq_true rfl, Nat.le_of_ble_eq_true rfl, Nat.le_of_ble_eq_true rfl⟩ hR.z (as := [.int (nI (g.1)), .long (e2 g.2.1), .long (e2 g.2.2)]) rfl rfl (c_R_addsGoal hl o zi zl hR.z (S.G ++ csG (cs.take i)) (by rw [List.length_append]; have := csG_take hxi; have h9 := csG_le (cs := cs) (i + 1); rw [this.1, List.length_append] at h9; have h8 : [g].length = 1 := rfl; omega) hR.p.2.2.2.2.2.1 hR.G g) (fun M4 hL4 hB4 => ?_)
          obtain ⟨Ai, Az, A1, A2, AK, AG, AF⟩ := hB4
          refine ev_goto (tgt := 226) dX11_read_157 (by decide) ?_
          refine ev_blk (B := [(.iinc 3 1, 3)]) (pe := 229) (ls' := [some (.ref (o)), some (.int (ev_b (true))), some (.int (nI ((csG cs).length))), some (.int (nI (i + 1))), some (.int (nI (4 * i)))]) (st' := []) ⟨dX11_read_226, rfl⟩ (by show some (([some (.ref (o)), some (.int (ev_b (true))), some (.int (nI ((csG cs).length))), some (.int ((nI i) + Int32.ofInt (1))), some (.int (nI (4 * i)))] : ev_L), ([] : List Value)) = _; rw [ev_inc1 i]) ?_
          refine ev_goto (tgt := 111) dX11_read_229 (by decide) ?_
          refine ev_fgt (ls' := [some (.ref (o)), some (.int (ev_b (true))), some (.int (nI ((csG cs).length))), some (.int (nI (i + 1))), none]) ⟨Or.inr rfl, Or.inr rfl, Or.inr rfl, Or.inr rfl, Or.inl rfl, trivial⟩ ?_
          have e9 := csG_take hxi
          refine ih (i + 1) _ _ _ (by omega) (by rw [e9.1, e9.2, ← List.append_assoc]; exact hR.nG Az AF AG A1 A2 (fun q hq => AK q (nm hq (by decide)) (nm hq (by decide))) (fun q hq => rfl)) ((AK 44 (by decide) (by decide)).trans h44) ((AK 0 (by decide) (by decide)).trans h0) (hK.fx AF (by omega)) (hF.tr (FX.fr (lo := o + 1) (hi := o + 31) (AF.to (by omega) (by omega)) (by omega) (by omega))) (by omega)

/-- the text is gone, the fault told, and rows of reading are new -/
theorem RR.nXk {M M1 : ev_M} {o : Nat} {S : St} {zi zi' : Nat → Int32} {zl zl' : Nat → Int64} (h : RR M o S zi zl) {n : Nat} {f : Int32} (h1 : M1[o]? = some (.inr (10, zo o zi' zl'))) (hf : FX o (o + 23) (o + 27) M M1) (hx : Px M1 o S.t) (hk : PK M1 o) (p42 : zi' 42 = nI n) (p45 : zi' 45 = f) (ki : ∀ k, k ∈ [2, 3, 4, 20, 29, 30, 31, 50, 51, 52, 55] → zi' k = zi k) (kl : ∀ k, k ∈ [5, 6, 53, 54] → zl' k = zl k) : RR M1 o (St.mk S.T S.x S.G S.H n S.t f S.tk S.T9 S.x9 S.G9) zi' zl' := by
  obtain ⟨a1, a2, a3, a4, a5, a6, a7, a8, a9, a10⟩ := h.p
  refine ⟨h1, ⟨(ki 2 (by decide)).trans a1, (ki 3 (by decide)).trans a2, (ki 4 (by decide)).trans a3, (kl 5 (by decide)).trans a4, (kl 6 (by decide)).trans a5, (ki 20 (by decide)).trans a6, p42, p45, (ki 55 (by decide)).trans a9, fun z => ?_⟩, h.T.fx hf (by omega) (by omega), h.H.fx hf (by omega), h.y.fx hf (by omega), h.G.fx hf (by omega) (by omega), ?_, h.u.fx hf (by omega), hx, hk, h.s.fx hf (by omega)⟩
  · rw [ki 50 (by decide), ki 51 (by decide), ki 52 (by decide), kl 53 (by decide), kl 54 (by decide)]
    exact a10 z
  · rw [ki 29 (by decide), ki 30 (by decide), ki 31 (by decide)]
    exact h.a.fx hf (by omega)
set_option maxHeartbeats 4000000 in
set_option maxRecDepth 100000 in
theorem r_read {l : Launch} (hl : l.stackTraces = false) {M : ev_M} (o : Nat) (S : St) (hS : okS S) (hT10 : S.T.length ≤ 10) (hG3 : S.G.length ≤ 3) (hH20 : S.H.length ≤ 20) (zi : Nat → Int32) (zl : Nat → Int64) (hR : RR M o S zi zl) : ev_Mt l m_X11_read [.ref (o)] M (fun r M1 => r = .inl (some (.int (sRea S).1.2)) ∧ ∃ zi' zl', RR M1 o (sRea S).2 zi' zl' ∧ zi' 0 = nI (sRea S).1.1 ∧ Fr o (o + 31) M M1) := by
  have hn80 := hS.n
  refine ev_body hl rfl (by decide +kernel) (Nat.le_of_ble_eq_true rfl) ?_
  show ev_ l m_X11_read 0 0 0 [some (.ref (o)), none, none, none, none] [] M _
  refine ev_blk (B := [(.aload_n 0, 1)]) (pe := 1) (ls' := [some (.ref (o)), none, none, none, none]) (st' := [.ref (o)]) ⟨dX11_read_0, rfl⟩ rfl ?_
  obtain ⟨kd0, tld0, tf0, t20, k23, k24, k25, k26⟩ := hR.k
  refine ev_cVw Y_X11_takesText L_RX11_343 dX11_read_1 ⟨Nat.le_of_ble_eq_true rfl, Nat.le_of_ble_eq_true rfl, Nat.le_of_ble_eq_true rfl, Nat.le_of_ble_eq_true rfl, Nat.le_of_ble_eq_true rfl⟩ hR.z (as := []) rfl rfl (c_R_takesText hl o zi zl hR.z S.t hS.t S.n hS.n hR.p.2.2.2.2.2.2.1 hR.x kd0 tld0 tf0 t20 ⟨k23, k24, k25, k26⟩) (fun M1 hL1 hB1 => ?_)
  obtain ⟨Ti, Tz, T43, TK, TF, kd, tld, tf, t2, TKr, Tcs⟩ := hB1
  refine ev_blk (B := [(.istore_n 1, 1), (.aload_n 0, 1), (.iconst 0, 1)]) (pe := 7) (ls' := [some (.ref (o)), some (.int (ev_b (!(rdP S).2.2.2.2))), none, none, none]) (st' := [.int (nI 0), .ref (o)]) ⟨dX11_read_4, dX11_read_5, dX11_read_6, rfl⟩ rfl ?_
  refine ev_put F_RX11_296 dX11_read_7 Tz (Nat.le_of_ble_eq_true rfl) (fun _ _ => ⟨rfl, rfl⟩) ?_
  rw [zs_42]
  refine ev_nm (M0 := M1.set (o) (.inr (10, zo o (ui (Ti) 42 (nI 0)) (zl)))) (fun M2 eM2 => ?_)
  have f3 : M2[o]? = some (.inr (10, zo o (ui (Ti) 42 (nI 0)) (zl))) := by rw [eM2]; exact ev_sg Tz
  refine ev_blk (B := [(.aload_n 0, 1), (.iload_n 1, 1)]) (pe := 12) (ls' := [some (.ref (o)), some (.int (ev_b (!(rdP S).2.2.2.2))), none, none, none]) (st' := [.int (ev_b (!(rdP S).2.2.2.2)), .ref (o)]) ⟨dX11_read_10, dX11_read_11, rfl⟩ rfl ?_
  refine ev_ifB_eq dX11_read_12 (tgt := 19) (by decide) (fun q12 => ?_) (fun q12 => ?_)
  · refine ev_blk (B := [(.aload_n 0, 1)]) (pe := 20) (ls' := [some (.ref (o)), some (.int (ev_b (!(rdP S).2.2.2.2))), none, none, none]) (st' := [.ref (o), .ref (o)]) ⟨dX11_read_19, rfl⟩ rfl ?_
    refine ev_getf (v := .int (nI ((rdP S).2.2.2.1))) F_RX11_299 dX11_read_20 f3 (congrArg (fun q => some (Value.int q)) T43) ?_
    refine ev_put F_RX11_90 dX11_read_23 f3 (Nat.le_of_ble_eq_true rfl) (fun _ _ => ⟨rfl, rfl⟩) ?_
    rw [zs_45]
    refine ev_nm (M0 := M2.set (o) (.inr (10, zo o (ui (ui (Ti) 42 (nI 0)) 45 (nI ((rdP S).2.2.2.1))) (zl)))) (fun M4 eM4 => ?_)
    have f5 : M4[o]? = some (.inr (10, zo o (ui (ui (Ti) 42 (nI 0)) 45 (nI ((rdP S).2.2.2.1))) (zl))) := by rw [eM4]; exact ev_sg f3
    refine ev_blk (B := [(.iload_n 1, 1)]) (pe := 27) (ls' := [some (.ref (o)), some (.int (ev_b (!(rdP S).2.2.2.2))), none, none, none]) (st' := [.int (ev_b (!(rdP S).2.2.2.2))]) ⟨dX11_read_26, rfl⟩ rfl ?_
    refine ev_ifB_ne dX11_read_27 (tgt := 36) (by decide) (fun q27 => ?_) (fun q27 => ?_)
    · exact absurd (q12.symm.trans q27) (by decide)
    · refine ev_blk (B := [(.aload_n 0, 1), (.iconst 1, 1)]) (pe := 32) (ls' := [some (.ref (o)), some (.int (ev_b (!(rdP S).2.2.2.2))), none, none, none]) (st' := [.int (nI 1), .ref (o)]) ⟨dX11_read_30, dX11_read_31, rfl⟩ rfl ?_
      refine ev_cVv Y_X11_fails L_RX11_144 dX11_read_32 ⟨Nat.le_of_ble_eq_true rfl, Nat.le_of_ble_eq_true rfl, Nat.le_of_ble_eq_true rfl, Nat.le_of_ble_eq_true rfl, Nat.le_of_ble_eq_true rfl⟩ f5 (as := [.int (nI 1)]) rfl rfl (c_R_fails hl o (ui (ui (Ti) 42 (nI 0)) 45 (nI ((rdP S).2.2.2.1))) (zl) f5 1) ?_
      refine ev_nm (M0 := M4.set o (.inr (10, zo o (ui (ui (ui (Ti) 42 (nI 0)) 45 (nI ((rdP S).2.2.2.1))) 0 (nI 1)) (zl)))) (fun Mf eMf => ?_)
      have ff : Mf[o]? = some (.inr (10, zo o (ui (ui (ui (Ti) 42 (nI 0)) 45 (nI ((rdP S).2.2.2.1))) 0 (nI 1)) (zl))) := by rw [eMf]; exact ev_sg f5
      refine ev_iret dX11_read_35 rfl (rfl) ⟨Nat.le_of_ble_eq_true rfl, Nat.le_of_ble_eq_true rfl⟩ ?_
      have W6 : FX o (o + 31) (o + 31) M1 Mf := ⟨by rw [eMf, eM4, eM2]; simp only [List.length_set], fun j hj1 hj2 => by rw [eMf, ev_sn (by omega), eM4, ev_sn (by omega), eM2, ev_sn (by omega)]⟩
      have hfl : (rdP S).2.2.2.2 = true := by
        cases z : (rdP S).2.2.2.2 with
        | true => rfl
        | false => rw [z] at q27; cases q27
      have hfv : rdF S = nI (rdP S).2.2.2.1 := if_pos hfl
      have e9 : sRea S = ((1, 0), St.mk S.T S.x S.G S.H 0 S.t (rdF S) S.tk S.T9 S.x9 S.G9) := if_pos hfl
      rw [e9]
      exact ⟨rfl, _, _, hR.nXk ff (TF.tr (W6.em (by omega))) (hR.x.fx (TF.tr (W6.em (by omega))) (by omega)) ⟨_, _, _, _, TKr.fx W6 (by omega)⟩ rfl hfv.symm (fun q hq => (ui_ne (nm hq (by decide))).trans ((ui_ne (nm hq (by decide))).trans ((ui_ne (nm hq (by decide))).trans (TK q (nm hq (by decide)) (nm hq (by decide)))))) (fun q hq => rfl), rfl, FX.fr (lo := o + 1) (hi := o + 31) ((TF.to (by omega) (by omega)).tr (W6.to (by omega) (by omega))) (by omega) (by omega)⟩
  · refine ev_blk (B := [(.iconst (-1), 1)]) (pe := 16) (ls' := [some (.ref (o)), some (.int (ev_b (!(rdP S).2.2.2.2))), none, none, none]) (st' := [.int ((-1)), .ref (o)]) ⟨dX11_read_15, rfl⟩ rfl ?_
    refine ev_goto (tgt := 23) dX11_read_16 (by decide) ?_
    refine ev_put F_RX11_90 dX11_read_23 f3 (Nat.le_of_ble_eq_true rfl) (fun _ _ => ⟨rfl, rfl⟩) ?_
    rw [zs_45]
    refine ev_nm (M0 := M2.set (o) (.inr (10, zo o (ui (ui (Ti) 42 (nI 0)) 45 ((-1))) (zl)))) (fun M7 eM7 => ?_)
    have f8 : M7[o]? = some (.inr (10, zo o (ui (ui (Ti) 42 (nI 0)) 45 ((-1))) (zl))) := by rw [eM7]; exact ev_sg f3
    refine ev_blk (B := [(.iload_n 1, 1)]) (pe := 27) (ls' := [some (.ref (o)), some (.int (ev_b (!(rdP S).2.2.2.2))), none, none, none]) (st' := [.int (ev_b (!(rdP S).2.2.2.2))]) ⟨dX11_read_26, rfl⟩ rfl ?_
    refine ev_ifB_ne dX11_read_27 (tgt := 36) (by decide) (fun q27 => ?_) (fun q27 => ?_)
    · have hfl : (rdP S).2.2.2.2 = false := by
        cases z : (rdP S).2.2.2.2 with
        | false => rfl
        | true => rw [z] at q27; cases q27
      have hfv : rdF S = -1 := if_neg (by rw [hfl]; decide)
      obtain ⟨cs, hc44, hcl8, hcT, hcG, hcC, hcR⟩ := Tcs hfl
      have hcs := cs_len cs
      have hcT2 : (rdP S).1.length = (csT cs).length := by rw [hcT]; rfl
      have hcG2 : (rdP S).2.1.length = (csG cs).length := by rw [hcG]; rfl
      rw [show (!(rdP S).2.2.2.2) = true from by rw [hfl]; rfl]
      refine ev_blk (B := [(.iconst 0, 1), (.istore_n 2, 1), (.iconst 0, 1), (.istore_n 3, 1)]) (pe := 40) (ls' := [some (.ref (o)), some (.int (ev_b (true))), some (.int (nI 0)), some (.int (nI 0)), none]) (st' := []) ⟨dX11_read_36, dX11_read_37, dX11_read_38, dX11_read_39, rfl⟩ rfl ?_
      have W9 : FX o (o + 31) (o + 31) M1 M7 := ⟨by rw [eM7, eM2]; simp only [List.length_set], fun j hj1 hj2 => by rw [eM7, ev_sn (by omega), eM2, ev_sn (by omega)]⟩
      refine c_R_rd_c o (ui (ui (Ti) 42 (nI 0)) 45 ((-1))) (zl) f8 cs hcl8 hc44 kd tld tf t2 (W9.at TKr.1 (by omega) (by omega)) hcR _ (fun i9 => ?_) _ 0 (Nat.zero_le _) (Nat.lt_succ_self _)
      refine ev_blk (B := [(.aload_n 0, 1)]) (pe := 73) (ls' := [some (.ref (o)), some (.int (ev_b (true))), some (.int (nI ((csG cs).length))), some (.int (nI i9)), none]) (st' := [.ref (o)]) ⟨dX11_read_72, rfl⟩ rfl ?_
      refine ev_getf (v := .int (nI (S.G.length))) F_RX11_225 dX11_read_73 f8 (congrArg (fun q => some (Value.int q)) ((TK 20 (by decide) (by decide)).trans hR.p.2.2.2.2.2.1)) ?_
      refine ev_blk (B := [(.iload_n 2, 1), (.iadd, 1), (.iconst 3, 1)]) (pe := 79) (ls' := [some (.ref (o)), some (.int (ev_b (true))), some (.int (nI ((csG cs).length))), some (.int (nI i9)), none]) (st' := [.int (nI 3), .int (nI ((S.G.length) + ((csG cs).length)))]) ⟨dX11_read_76, dX11_read_77, dX11_read_78, rfl⟩ (by show some (([some (.ref (o)), some (.int (ev_b (true))), some (.int (nI ((csG cs).length))), some (.int (nI i9)), none] : ev_L), ([.int (nI 3), .int ((nI (S.G.length)) + (nI ((csG cs).length)))] : List Value)) = _; rw [nI_add (S.G.length) ((csG cs).length)]) ?_
      refine ev_iN_gt dX11_read_79 (tgt := 98) (by decide) (by omega) (by omega) (fun q79 => ?_) (fun q79 => ?_)
      · refine ev_blk (B := [(.aload_n 0, 1), (.iconst 2, 1)]) (pe := 100) (ls' := [some (.ref (o)), some (.int (ev_b (true))), some (.int (nI ((csG cs).length))), some (.int (nI i9)), none]) (st' := [.int (nI 2), .ref (o)]) ⟨dX11_read_98, dX11_read_99, rfl⟩ rfl ?_
        refine ev_cVv Y_X11_fails L_RX11_144 dX11_read_100 ⟨Nat.le_of_ble_eq_true rfl, Nat.le_of_ble_eq_true rfl, Nat.le_of_ble_eq_true rfl, Nat.le_of_ble_eq_true rfl, Nat.le_of_ble_eq_true rfl⟩ f8 (as := [.int (nI 2)]) rfl rfl (c_R_fails hl o (ui (ui (Ti) 42 (nI 0)) 45 ((-1))) (zl) f8 2) ?_
        refine ev_nm (M0 := M7.set o (.inr (10, zo o (ui (ui (ui (Ti) 42 (nI 0)) 45 ((-1))) 0 (nI 2)) (zl)))) (fun Mf eMf => ?_)
        have ff : Mf[o]? = some (.inr (10, zo o (ui (ui (ui (Ti) 42 (nI 0)) 45 ((-1))) 0 (nI 2)) (zl))) := by rw [eMf]; exact ev_sg f8
        refine ev_iret dX11_read_103 rfl (rfl) ⟨Nat.le_of_ble_eq_true rfl, Nat.le_of_ble_eq_true rfl⟩ ?_
        have W10 : FX o (o + 31) (o + 31) M7 Mf := ⟨by rw [eMf]; simp only [List.length_set], fun j hj1 hj2 => by rw [eMf, ev_sn (by omega)]⟩
        have e9 : sRea S = ((2, 0), St.mk S.T S.x S.G S.H 0 S.t (rdF S) S.tk S.T9 S.x9 S.G9) := by
          unfold sRea
          rw [if_neg (show ¬ (rdP S).2.2.2.2 = true by rw [hfl]; decide)]
          by_cases z : 10 < S.T.length + (rdP S).1.length
          · rw [if_pos z]
          · rw [if_neg z, if_pos (by omega)]
        rw [e9]
        exact ⟨rfl, _, _, hR.nXk ff (TF.tr ((W9.tr W10).em (by omega))) (hR.x.fx (TF.tr ((W9.tr W10).em (by omega))) (by omega)) ⟨_, _, _, _, TKr.fx (W9.tr W10) (by omega)⟩ rfl hfv.symm (fun q hq => (ui_ne (nm hq (by decide))).trans ((ui_ne (nm hq (by decide))).trans ((ui_ne (nm hq (by decide))).trans (TK q (nm hq (by decide)) (nm hq (by decide)))))) (fun q hq => rfl), rfl, FX.fr (lo := o + 1) (hi := o + 31) ((TF.to (by omega) (by omega)).tr ((W9.tr W10).to (by omega) (by omega))) (by omega) (by omega)⟩
      · refine ev_blk (B := [(.aload_n 0, 1)]) (pe := 83) (ls' := [some (.ref (o)), some (.int (ev_b (true))), some (.int (nI ((csG cs).length))), some (.int (nI i9)), none]) (st' := [.ref (o)]) ⟨dX11_read_82, rfl⟩ rfl ?_
        refine ev_getf (v := .int (nI (S.T.length))) F_RX11_123 dX11_read_83 f8 (congrArg (fun q => some (Value.int q)) ((TK 2 (by decide) (by decide)).trans hR.p.1)) ?_
        refine ev_blk (B := [(.aload_n 0, 1)]) (pe := 87) (ls' := [some (.ref (o)), some (.int (ev_b (true))), some (.int (nI ((csG cs).length))), some (.int (nI i9)), none]) (st' := [.ref (o), .int (nI (S.T.length))]) ⟨dX11_read_86, rfl⟩ rfl ?_
        refine ev_getf (v := .int (nI (cs.length))) F_RX11_322 dX11_read_87 f8 (congrArg (fun q => some (Value.int q)) hc44) ?_
        refine ev_blk (B := [(.iadd, 1), (.iload_n 2, 1), (.isub, 1), (.bipush 10, 2)]) (pe := 95) (ls' := [some (.ref (o)), some (.int (ev_b (true))), some (.int (nI ((csG cs).length))), some (.int (nI i9)), none]) (st' := [.int (nI 10), .int (nI (((S.T.length) + (cs.length)) - ((csG cs).length)))]) ⟨dX11_read_90, dX11_read_91, dX11_read_92, dX11_read_93, rfl⟩ (by show some (([some (.ref (o)), some (.int (ev_b (true))), some (.int (nI ((csG cs).length))), some (.int (nI i9)), none] : ev_L), ([.int (nI 10), .int (((nI (S.T.length)) + (nI (cs.length))) - (nI ((csG cs).length)))] : List Value)) = _; rw [nI_add (S.T.length) (cs.length), pk_sub (show ((csG cs).length) ≤ ((S.T.length) + (cs.length)) by omega)]) ?_
        refine ev_iN_le dX11_read_95 (tgt := 104) (by decide) (by omega) (by omega) (fun q95 => ?_) (fun q95 => ?_)
        · refine ev_blk (B := [(.aload_n 0, 1), (.iconst 0, 1)]) (pe := 106) (ls' := [some (.ref (o)), some (.int (ev_b (true))), some (.int (nI ((csG cs).length))), some (.int (nI i9)), none]) (st' := [.int (nI 0), .ref (o)]) ⟨dX11_read_104, dX11_read_105, rfl⟩ rfl ?_
          refine ev_put F_RX11_106 dX11_read_106 f8 (Nat.le_of_ble_eq_true rfl) (fun _ _ => ⟨rfl, rfl⟩) ?_
          rw [zs_0]
          refine ev_nm (M0 := M7.set (o) (.inr (10, zo o (ui (ui (ui (Ti) 42 (nI 0)) 45 ((-1))) 0 (nI 0)) (zl)))) (fun M11 eM11 => ?_)
          have f12 : M11[o]? = some (.inr (10, zo o (ui (ui (ui (Ti) 42 (nI 0)) 45 ((-1))) 0 (nI 0)) (zl))) := by rw [eM11]; exact ev_sg f8
          refine ev_blk (B := [(.iconst 0, 1), (.istore_n 3, 1)]) (pe := 111) (ls' := [some (.ref (o)), some (.int (ev_b (true))), some (.int (nI ((csG cs).length))), some (.int (nI 0)), none]) (st' := []) ⟨dX11_read_109, dX11_read_110, rfl⟩ rfl ?_
          have W13 : FX o (o + 31) (o + 31) M7 M11 := ⟨by rw [eM11]; simp only [List.length_set], fun j hj1 hj2 => by rw [eM11, ev_sn (by omega)]⟩
          have hRX := hR.nXk f12 (TF.tr ((W9.tr W13).em (by omega))) (hR.x.fx (TF.tr ((W9.tr W13).em (by omega))) (by omega)) ⟨_, _, _, _, TKr.fx (W9.tr W13) (by omega)⟩ rfl hfv.symm (fun q hq => (ui_ne (nm hq (by decide))).trans ((ui_ne (nm hq (by decide))).trans ((ui_ne (nm hq (by decide))).trans (TK q (nm hq (by decide)) (nm hq (by decide)))))) (fun q hq => rfl)
          have e9 : sRea S = ((0, nI cs.length), St.mk (S.T ++ csT cs) S.x (S.G ++ csG cs) S.H 0 S.t (rdF S) S.tk S.T9 S.x9 S.G9) := by
            unfold sRea
            rw [if_neg (show ¬ (rdP S).2.2.2.2 = true by rw [hfl]; decide), if_neg (by omega), if_neg (by omega), hcT, hcG, hcC]
            rfl
          rw [e9]
          have hTr : ∀ t, t ∈ csT cs → trO t := fun t ht => by
            rw [hcT] at ht
            exact (pl_ok 81 0 [] [] 0 (Nat.zero_le _) (fun _ h => absurd h List.not_mem_nil) cfs_nil).1 t ht
          refine ev_mono (fun r M9 hq => ?_) (c_R_rd_x hl o S (rdF S) cs hcl8 hTr (by omega) (by omega) kd tld tf t2 hcR M11 _ 0 _ (ui (ui (ui (Ti) 42 (nI 0)) 45 ((-1))) 0 (nI 0)) (zl) (Nat.zero_le _) (by
            rw [List.take_zero]
            show RR _ o (St.mk (S.T ++ []) S.x (S.G ++ []) S.H 0 S.t (rdF S) S.tk S.T9 S.x9 S.G9) _ _
            rw [List.append_nil, List.append_nil]
            exact hRX) hc44 rfl ((TKr.fx W9 (by omega)).fx W13 (by omega)) Fr.rf (Nat.lt_succ_self _))
          obtain ⟨q1, zi9, zl9, q2, q3, q4⟩ := hq
          rw [List.take_length] at q2
          exact ⟨q1, zi9, zl9, q2, q3, (FX.fr (lo := o + 1) (hi := o + 31) ((TF.to (by omega) (by omega)).tr ((W9.to (by omega) (by omega)).tr (W13.to (by omega) (by omega)))) (by omega) (by omega)).tr q4⟩
        · refine ev_blk (B := [(.aload_n 0, 1), (.iconst 2, 1)]) (pe := 100) (ls' := [some (.ref (o)), some (.int (ev_b (true))), some (.int (nI ((csG cs).length))), some (.int (nI i9)), none]) (st' := [.int (nI 2), .ref (o)]) ⟨dX11_read_98, dX11_read_99, rfl⟩ rfl ?_
          refine ev_cVv Y_X11_fails L_RX11_144 dX11_read_100 ⟨Nat.le_of_ble_eq_true rfl, Nat.le_of_ble_eq_true rfl, Nat.le_of_ble_eq_true rfl, Nat.le_of_ble_eq_true rfl, Nat.le_of_ble_eq_true rfl⟩ f8 (as := [.int (nI 2)]) rfl rfl (c_R_fails hl o (ui (ui (Ti) 42 (nI 0)) 45 ((-1))) (zl) f8 2) ?_
          refine ev_nm (M0 := M7.set o (.inr (10, zo o (ui (ui (ui (Ti) 42 (nI 0)) 45 ((-1))) 0 (nI 2)) (zl)))) (fun Mf eMf => ?_)
          have ff : Mf[o]? = some (.inr (10, zo o (ui (ui (ui (Ti) 42 (nI 0)) 45 ((-1))) 0 (nI 2)) (zl))) := by rw [eMf]; exact ev_sg f8
          refine ev_iret dX11_read_103 rfl (rfl) ⟨Nat.le_of_ble_eq_true rfl, Nat.le_of_ble_eq_true rfl⟩ ?_
          have W14 : FX o (o + 31) (o + 31) M7 Mf := ⟨by rw [eMf]; simp only [List.length_set], fun j hj1 hj2 => by rw [eMf, ev_sn (by omega)]⟩
          have e9 : sRea S = ((2, 0), St.mk S.T S.x S.G S.H 0 S.t (rdF S) S.tk S.T9 S.x9 S.G9) := by
            unfold sRea
            rw [if_neg (show ¬ (rdP S).2.2.2.2 = true by rw [hfl]; decide)]
            by_cases z : 10 < S.T.length + (rdP S).1.length
            · rw [if_pos z]
            · rw [if_neg z, if_pos (by omega)]
          rw [e9]
          exact ⟨rfl, _, _, hR.nXk ff (TF.tr ((W9.tr W14).em (by omega))) (hR.x.fx (TF.tr ((W9.tr W14).em (by omega))) (by omega)) ⟨_, _, _, _, TKr.fx (W9.tr W14) (by omega)⟩ rfl hfv.symm (fun q hq => (ui_ne (nm hq (by decide))).trans ((ui_ne (nm hq (by decide))).trans ((ui_ne (nm hq (by decide))).trans (TK q (nm hq (by decide)) (nm hq (by decide)))))) (fun q hq => rfl), rfl, FX.fr (lo := o + 1) (hi := o + 31) ((TF.to (by omega) (by omega)).tr ((W9.tr W14).to (by omega) (by omega))) (by omega) (by omega)⟩
    · exact absurd (q12.symm.trans q27) (by decide)

