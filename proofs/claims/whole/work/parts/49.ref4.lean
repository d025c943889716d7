set_option maxHeartbeats 4000000 in
set_option maxRecDepth 100000 in
theorem r_state {l : Launch} (hl : l.stackTraces = false) {M : ev_M} (o : Nat) (S : St) (hS : okS S) (hT10 : S.T.length ≤ 10) (hG3 : S.G.length ≤ 3) (hH20 : S.H.length ≤ 20) (zi : Nat → Int32) (zl : Nat → Int64) (hR : RR M o S zi zl) : ev_Mt l m_X11_state [.ref (o)] M (fun r M1 => r = .inl (some (.int (sSta S).2)) ∧ ∃ zi' zl', RR M1 o S zi' zl' ∧ zi' 0 = nI (sSta S).1 ∧ Fr o (o + 31) M M1) := by
  refine ev_body hl rfl (by decide +kernel) (Nat.le_of_ble_eq_true rfl) ?_
  show ev_ l m_X11_state 0 0 0 [some (.ref (o))] [] M _
  refine ev_blk (B := [(.aload_n 0, 1), (.iconst 0, 1)]) (pe := 2) (ls' := [some (.ref (o))]) (st' := [.int (nI 0), .ref (o)]) ⟨dX11_state_0, dX11_state_1, rfl⟩ rfl ?_
  refine ev_put F_RX11_106 dX11_state_2 hR.z (Nat.le_of_ble_eq_true rfl) (fun _ _ => ⟨rfl, rfl⟩) ?_
  rw [zs_0]
  refine ev_nm (M0 := M.set (o) (.inr (10, zo o (ui (zi) 0 (nI 0)) (zl)))) (fun M1 eM1 => ?_)
  have f2 : M1[o]? = some (.inr (10, zo o (ui (zi) 0 (nI 0)) (zl))) := by rw [eM1]; exact ev_sg hR.z
  refine ev_blk (B := [(.aload_n 0, 1)]) (pe := 6) (ls' := [some (.ref (o))]) (st' := [.ref (o)]) ⟨dX11_state_5, rfl⟩ rfl ?_
  refine ev_getf (v := .int (nI (S.x.1))) F_RX11_169 dX11_state_6 f2 (congrArg (fun q => some (Value.int q)) hR.p.2.1) ?_
  refine ev_iret dX11_state_9 rfl (rfl) ⟨Nat.le_of_ble_eq_true rfl, Nat.le_of_ble_eq_true rfl⟩ ?_
  have W3 : FX o (o + 31) (o + 31) M M1 := ⟨by rw [eM1]; simp only [List.length_set], fun j hj1 hj2 => by rw [eM1, ev_sn (by omega)]⟩
  have e9 : sSta S = (0, nI S.x.1) := by simp [sSta]
  rw [e9]
  exact ⟨rfl, _, _, ⟨f2, ⟨hR.p.1, hR.p.2.1, hR.p.2.2.1, hR.p.2.2.2.1, hR.p.2.2.2.2.1, hR.p.2.2.2.2.2.1, hR.p.2.2.2.2.2.2.1, hR.p.2.2.2.2.2.2.2.1, hR.p.2.2.2.2.2.2.2.2.1, hR.p.2.2.2.2.2.2.2.2.2⟩, (hR.T.fx W3 (by omega) (by omega)), (hR.H.fx W3 (by omega)), (hR.y.fx W3 (by omega)), (hR.G.fx W3 (by omega) (by omega)), (hR.a.fx W3 (by omega)), (hR.u.fx W3 (by omega)), (hR.x.fx W3 (by omega)), (hR.k.fx W3 (by omega)), (hR.s.fx W3 (by omega))⟩, rfl, (FX.fr (lo := o + 1) (hi := o + 31) (W3.to (by omega) (by omega)) (by omega) (by omega))⟩

set_option maxHeartbeats 4000000 in
set_option maxRecDepth 100000 in
theorem r_transitionCount {l : Launch} (hl : l.stackTraces = false) {M : ev_M} (o : Nat) (S : St) (hS : okS S) (hT10 : S.T.length ≤ 10) (hG3 : S.G.length ≤ 3) (hH20 : S.H.length ≤ 20) (zi : Nat → Int32) (zl : Nat → Int64) (hR : RR M o S zi zl) : ev_Mt l m_X11_transitionCount [.ref (o)] M (fun r M1 => r = .inl (some (.int (sCnt S).2)) ∧ ∃ zi' zl', RR M1 o S zi' zl' ∧ zi' 0 = nI (sCnt S).1 ∧ Fr o (o + 31) M M1) := by
  refine ev_body hl rfl (by decide +kernel) (Nat.le_of_ble_eq_true rfl) ?_
  show ev_ l m_X11_transitionCount 0 0 0 [some (.ref (o))] [] M _
  refine ev_blk (B := [(.aload_n 0, 1), (.iconst 0, 1)]) (pe := 2) (ls' := [some (.ref (o))]) (st' := [.int (nI 0), .ref (o)]) ⟨dX11_transitionCount_0, dX11_transitionCount_1, rfl⟩ rfl ?_
  refine ev_put F_RX11_106 dX11_transitionCount_2 hR.z (Nat.le_of_ble_eq_true rfl) (fun _ _ => ⟨rfl, rfl⟩) ?_
  rw [zs_0]
  refine ev_nm (M0 := M.set (o) (.inr (10, zo o (ui (zi) 0 (nI 0)) (zl)))) (fun M1 eM1 => ?_)
  have f2 : M1[o]? = some (.inr (10, zo o (ui (zi) 0 (nI 0)) (zl))) := by rw [eM1]; exact ev_sg hR.z
  refine ev_blk (B := [(.aload_n 0, 1)]) (pe := 6) (ls' := [some (.ref (o))]) (st' := [.ref (o)]) ⟨dX11_transitionCount_5, rfl⟩ rfl ?_
  refine ev_getf (v := .int (nI (S.T.length))) F_RX11_123 dX11_transitionCount_6 f2 (congrArg (fun q => some (Value.int q)) hR.p.1) ?_
  refine ev_iret dX11_transitionCount_9 rfl (rfl) ⟨Nat.le_of_ble_eq_true rfl, Nat.le_of_ble_eq_true rfl⟩ ?_
  have W3 : FX o (o + 31) (o + 31) M M1 := ⟨by rw [eM1]; simp only [List.length_set], fun j hj1 hj2 => by rw [eM1, ev_sn (by omega)]⟩
  have e9 : sCnt S = (0, nI S.T.length) := by simp [sCnt]
  rw [e9]
  exact ⟨rfl, _, _, ⟨f2, ⟨hR.p.1, hR.p.2.1, hR.p.2.2.1, hR.p.2.2.2.1, hR.p.2.2.2.2.1, hR.p.2.2.2.2.2.1, hR.p.2.2.2.2.2.2.1, hR.p.2.2.2.2.2.2.2.1, hR.p.2.2.2.2.2.2.2.2.1, hR.p.2.2.2.2.2.2.2.2.2⟩, (hR.T.fx W3 (by omega) (by omega)), (hR.H.fx W3 (by omega)), (hR.y.fx W3 (by omega)), (hR.G.fx W3 (by omega) (by omega)), (hR.a.fx W3 (by omega)), (hR.u.fx W3 (by omega)), (hR.x.fx W3 (by omega)), (hR.k.fx W3 (by omega)), (hR.s.fx W3 (by omega))⟩, rfl, (FX.fr (lo := o + 1) (hi := o + 31) (W3.to (by omega) (by omega)) (by omega) (by omega))⟩

set_option maxHeartbeats 4000000 in
set_option maxRecDepth 100000 in
theorem r_faultPosition {l : Launch} (hl : l.stackTraces = false) {M : ev_M} (o : Nat) (S : St) (hS : okS S) (hT10 : S.T.length ≤ 10) (hG3 : S.G.length ≤ 3) (hH20 : S.H.length ≤ 20) (zi : Nat → Int32) (zl : Nat → Int64) (hR : RR M o S zi zl) : ev_Mt l m_X11_faultPosition [.ref (o)] M (fun r M1 => r = .inl (some (.int (sFau S).2)) ∧ ∃ zi' zl', RR M1 o S zi' zl' ∧ zi' 0 = nI (sFau S).1 ∧ Fr o (o + 31) M M1) := by
  refine ev_body hl rfl (by decide +kernel) (Nat.le_of_ble_eq_true rfl) ?_
  show ev_ l m_X11_faultPosition 0 0 0 [some (.ref (o))] [] M _
  refine ev_blk (B := [(.aload_n 0, 1), (.iconst 0, 1)]) (pe := 2) (ls' := [some (.ref (o))]) (st' := [.int (nI 0), .ref (o)]) ⟨dX11_faultPosition_0, dX11_faultPosition_1, rfl⟩ rfl ?_
  refine ev_put F_RX11_106 dX11_faultPosition_2 hR.z (Nat.le_of_ble_eq_true rfl) (fun _ _ => ⟨rfl, rfl⟩) ?_
  rw [zs_0]
  refine ev_nm (M0 := M.set (o) (.inr (10, zo o (ui (zi) 0 (nI 0)) (zl)))) (fun M1 eM1 => ?_)
  have f2 : M1[o]? = some (.inr (10, zo o (ui (zi) 0 (nI 0)) (zl))) := by rw [eM1]; exact ev_sg hR.z
  refine ev_blk (B := [(.aload_n 0, 1)]) (pe := 6) (ls' := [some (.ref (o))]) (st' := [.ref (o)]) ⟨dX11_faultPosition_5, rfl⟩ rfl ?_
  refine ev_getf (v := .int (S.f)) F_RX11_90 dX11_faultPosition_6 f2 (congrArg (fun q => some (Value.int q)) hR.p.2.2.2.2.2.2.2.1) ?_
  refine ev_iret dX11_faultPosition_9 rfl (rfl) ⟨Nat.le_of_ble_eq_true rfl, Nat.le_of_ble_eq_true rfl⟩ ?_
  have W3 : FX o (o + 31) (o + 31) M M1 := ⟨by rw [eM1]; simp only [List.length_set], fun j hj1 hj2 => by rw [eM1, ev_sn (by omega)]⟩
  have e9 : sFau S = (0, S.f) := by simp [sFau]
  rw [e9]
  exact ⟨rfl, _, _, ⟨f2, ⟨hR.p.1, hR.p.2.1, hR.p.2.2.1, hR.p.2.2.2.1, hR.p.2.2.2.2.1, hR.p.2.2.2.2.2.1, hR.p.2.2.2.2.2.2.1, hR.p.2.2.2.2.2.2.2.1, hR.p.2.2.2.2.2.2.2.2.1, hR.p.2.2.2.2.2.2.2.2.2⟩, (hR.T.fx W3 (by omega) (by omega)), (hR.H.fx W3 (by omega)), (hR.y.fx W3 (by omega)), (hR.G.fx W3 (by omega) (by omega)), (hR.a.fx W3 (by omega)), (hR.u.fx W3 (by omega)), (hR.x.fx W3 (by omega)), (hR.k.fx W3 (by omega)), (hR.s.fx W3 (by omega))⟩, rfl, (FX.fr (lo := o + 1) (hi := o + 31) (W3.to (by omega) (by omega)) (by omega) (by omega))⟩

theorem PH.nil {M : ev_M} {o : Nat} {H : Hs} (h : PH M o H) : PH M o [] := by
  obtain ⟨f, k, g, h, a1, a2, a3, a4, a5⟩ := h
  exact ⟨f, k, g, h, a1, a2, a3, a4, fun i hi => absurd hi (Nat.not_lt_zero _), fun i hi => absurd hi (Nat.not_lt_zero _)⟩
theorem sw_zl {zl zl2 : Nat → Int64} {k : Nat} {w : List Nat} {x : Cf} (h : zl2 = (if k = 0 then ul zl 5 (e2 w) else ul zl 6 (e2 w))) (h5 : zl 5 = e2 x.2.1) (h6 : zl 6 = e2 x.2.2) : zl2 5 = e2 (cset x k w).2.1 ∧ zl2 6 = e2 (cset x k w).2.2 ∧ ∀ j, j ≠ 5 → j ≠ 6 → zl2 j = zl j := by
  by_cases q : k = 0
  · rw [if_pos q] at h
    subst h
    rw [cst_0 q]
    exact ⟨rfl, h6, fun j a b => ul_ne a⟩
  · rw [if_neg q] at h
    subst h
    rw [cst_1 q]
    exact ⟨h5, rfl, fun j a b => ul_ne b⟩
theorem sw_3 {z : Int32} {x : Cf} {k : Nat} {w : List Nat} (h : z = nI x.1) : z = nI (cset x k w).1 := by
  rw [h]; unfold cset; split <;> rfl
theorem pz_l {A B C : Prop} {a b a' b' c d : Int64} (h : A ∧ B ∧ C ∧ a = c ∧ b = d) (h1 : a' = a) (h2 : b' = b) : A ∧ B ∧ C ∧ a' = c ∧ b' = d := ⟨h.1, h.2.1, h.2.2.1, h1.trans h.2.2.2.1, h2.trans h.2.2.2.2⟩
theorem c_R_isBT {l : Launch} (hl : l.stackTraces = false) {M : ev_M} (a lo hi : Int32) (h1 : lo ≤ a) (h2 : a ≤ hi) : ev_Mt l m_X11_isBetween [.int a, .int lo, .int hi] M (ev_q (.inl (some (.int (ev_b true)))) M) := by
  have h := c_R_isBetween (M := M) hl a lo hi
  rw [decide_eq_true ⟨h1, h2⟩] at h; exact h
theorem c_R_isBF {l : Launch} (hl : l.stackTraces = false) {M : ev_M} (a lo hi : Int32) (h1 : ¬ (lo ≤ a ∧ a ≤ hi)) : ev_Mt l m_X11_isBetween [.int a, .int lo, .int hi] M (ev_q (.inl (some (.int (ev_b false)))) M) := by
  have h := c_R_isBetween (M := M) hl a lo hi
  rw [decide_eq_false h1] at h; exact h
theorem isb_no {a : Int32} {n : Nat} (hn : n < 2 ^ 30) (h : inR a n = false) : ¬ (nI 0 ≤ a ∧ a ≤ nI n - nI 1) := by
  rintro ⟨h1, h2⟩
  have h3 : ¬ a < nI n := fun z => inR_no h (Int32.not_lt.mpr h1) z
  have h4 := Int32.le_iff_toInt_le.mp h2
  rw [pk_sub_toInt hn (by decide)] at h4
  have h5 := Int32.le_iff_toInt_le.mp (Int32.not_lt.mp h3)
  rw [nI_toInt (by omega)] at h5
  omega
theorem isb_c {a : Int32} {n m : Nat} (hn : n < 2 ^ 30) (hm : n = m + 1) (h : inR a n = false) : ¬ (nI 0 ≤ a ∧ a ≤ nI m) := by
  have h1 := isb_no hn h
  rw [hm, pk_sub (show 1 ≤ m + 1 by omega)] at h1
  exact h1
set_option maxHeartbeats 4000000 in
set_option maxRecDepth 100000 in
theorem r_setState {l : Launch} (hl : l.stackTraces = false) {M : ev_M} (o : Nat) (S : St) (hS : okS S) (hT10 : S.T.length ≤ 10) (hG3 : S.G.length ≤ 3) (hH20 : S.H.length ≤ 20) (zi : Nat → Int32) (zl : Nat → Int64) (hR : RR M o S zi zl) (a : Int32) : ev_Mt l m_X11_setState [.ref (o), .int (a)] M (fun r M1 => r = .inl (some (.int (sSet S a).1.2)) ∧ ∃ zi' zl', RR M1 o (sSet S a).2 zi' zl' ∧ zi' 0 = nI (sSet S a).1.1 ∧ Fr o (o + 31) M M1) := by
  rcases inR_c a 6 (by omega) with ⟨k, hk, rfl⟩ | ia
  · have jk : inR (nI k) 6 = true := inR_n hk (by omega)
    have tk : (nI k).toNatClampNeg = k := nI_clamp (by omega)
    refine ev_body hl rfl (by decide +kernel) (Nat.le_of_ble_eq_true rfl) ?_
    show ev_ l m_X11_setState 0 0 0 [some (.ref (o)), some (.int (nI k)), none] [] M _
    refine ev_blk (B := [(.iload_n 1, 1)]) (pe := 1) (ls' := [some (.ref (o)), some (.int (nI k)), none]) (st' := [.int (nI k)]) ⟨dX11_setState_0, rfl⟩ rfl ?_
    refine ev_cSv Y_X11_isState L_RX11_130 dX11_setState_1 ⟨Nat.le_of_ble_eq_true rfl, Nat.le_of_ble_eq_true rfl, Nat.le_of_ble_eq_true rfl, Nat.le_of_ble_eq_true rfl, Nat.le_of_ble_eq_true rfl⟩ (as := [.int (nI k)]) rfl rfl (c_R_isState hl (nI k)) ?_
    refine ev_ifB_ne dX11_setState_4 (tgt := 13) (by decide) (fun q4 => ?_) (fun q4 => ?_)
    · refine ev_blk (B := [(.aload_n 0, 1), (.iconst 0, 1)]) (pe := 15) (ls' := [some (.ref (o)), some (.int (nI k)), none]) (st' := [.int (nI 0), .ref (o)]) ⟨dX11_setState_13, dX11_setState_14, rfl⟩ rfl ?_
      refine ev_put F_RX11_106 dX11_setState_15 hR.z (Nat.le_of_ble_eq_true rfl) (fun _ _ => ⟨rfl, rfl⟩) ?_
      rw [zs_0]
      refine ev_nm (M0 := M.set (o) (.inr (10, zo o (ui (zi) 0 (nI 0)) (zl)))) (fun M1 eM1 => ?_)
      have f2 : M1[o]? = some (.inr (10, zo o (ui (zi) 0 (nI 0)) (zl))) := by rw [eM1]; exact ev_sg hR.z
      refine ev_blk (B := [(.aload_n 0, 1)]) (pe := 19) (ls' := [some (.ref (o)), some (.int (nI k)), none]) (st' := [.ref (o)]) ⟨dX11_setState_18, rfl⟩ rfl ?_
      refine ev_getf (v := .int (nI (S.x.1))) F_RX11_169 dX11_setState_19 f2 (congrArg (fun q => some (Value.int q)) hR.p.2.1) ?_
      refine ev_blk (B := [(.istore_n 2, 1), (.aload_n 0, 1), (.iload_n 1, 1)]) (pe := 25) (ls' := [some (.ref (o)), some (.int (nI k)), some (.int (nI (S.x.1)))]) (st' := [.int (nI k), .ref (o)]) ⟨dX11_setState_22, dX11_setState_23, dX11_setState_24, rfl⟩ rfl ?_
      refine ev_put F_RX11_169 dX11_setState_25 f2 (Nat.le_of_ble_eq_true rfl) (fun _ _ => ⟨rfl, rfl⟩) ?_
      rw [zs_3]
      refine ev_nm (M0 := M1.set (o) (.inr (10, zo o (ui (ui (zi) 0 (nI 0)) 3 (nI k)) (zl)))) (fun M3 eM3 => ?_)
      have f4 : M3[o]? = some (.inr (10, zo o (ui (ui (zi) 0 (nI 0)) 3 (nI k)) (zl))) := by rw [eM3]; exact ev_sg f2
      refine ev_blk (B := [(.aload_n 0, 1), (.iconst 0, 1)]) (pe := 30) (ls' := [some (.ref (o)), some (.int (nI k)), some (.int (nI (S.x.1)))]) (st' := [.int (nI 0), .ref (o)]) ⟨dX11_setState_28, dX11_setState_29, rfl⟩ rfl ?_
      refine ev_put F_RX11_166 dX11_setState_30 f4 (Nat.le_of_ble_eq_true rfl) (fun _ _ => ⟨rfl, rfl⟩) ?_
      rw [zs_4]
      refine ev_nm (M0 := M3.set (o) (.inr (10, zo o (ui (ui (ui (zi) 0 (nI 0)) 3 (nI k)) 4 (nI 0)) (zl)))) (fun M5 eM5 => ?_)
      have f6 : M5[o]? = some (.inr (10, zo o (ui (ui (ui (zi) 0 (nI 0)) 3 (nI k)) 4 (nI 0)) (zl))) := by rw [eM5]; exact ev_sg f4
      refine ev_blk (B := [(.iload_n 2, 1)]) (pe := 34) (ls' := [some (.ref (o)), some (.int (nI k)), some (.int (nI (S.x.1)))]) (st' := [.int (nI (S.x.1))]) ⟨dX11_setState_33, rfl⟩ rfl ?_
      refine ev_iret dX11_setState_34 rfl (rfl) ⟨Nat.le_of_ble_eq_true rfl, Nat.le_of_ble_eq_true rfl⟩ ?_
      have W7 : FX o (o + 31) (o + 31) M M5 := ⟨by rw [eM5, eM3, eM1]; simp only [List.length_set], fun j hj1 hj2 => by rw [eM5, ev_sn (by omega), eM3, ev_sn (by omega), eM1, ev_sn (by omega)]⟩
      have e9 : sSet S (nI k) = ((0, nI S.x.1), (St.mk S.T ((k, S.x.2)) S.G ([]) S.n S.t S.f S.tk S.T9 S.x9 S.G9)) := by simp [sSet, jk, tk, q4]
      rw [e9]
      exact ⟨rfl, _, _, ⟨f6, ⟨hR.p.1, rfl, rfl, hR.p.2.2.2.1, hR.p.2.2.2.2.1, hR.p.2.2.2.2.2.1, hR.p.2.2.2.2.2.2.1, hR.p.2.2.2.2.2.2.2.1, hR.p.2.2.2.2.2.2.2.2.1, hR.p.2.2.2.2.2.2.2.2.2⟩, (hR.T.fx W7 (by omega) (by omega)), PH.nil (hR.H.fx W7 (by omega)), (hR.y.fx W7 (by omega)), (hR.G.fx W7 (by omega) (by omega)), (hR.a.fx W7 (by omega)), (hR.u.fx W7 (by omega)), (hR.x.fx W7 (by omega)), (hR.k.fx W7 (by omega)), (hR.s.fx W7 (by omega))⟩, rfl, (FX.fr (lo := o + 1) (hi := o + 31) (W7.to (by omega) (by omega)) (by omega) (by omega))⟩
    · exact absurd (jk.symm.trans q4) (by decide)
  · have ia9 := ia
    refine ev_body hl rfl (by decide +kernel) (Nat.le_of_ble_eq_true rfl) ?_
    show ev_ l m_X11_setState 0 0 0 [some (.ref (o)), some (.int (a)), none] [] M _
    refine ev_blk (B := [(.iload_n 1, 1)]) (pe := 1) (ls' := [some (.ref (o)), some (.int (a)), none]) (st' := [.int (a)]) ⟨dX11_setState_0, rfl⟩ rfl ?_
    refine ev_cSv Y_X11_isState L_RX11_130 dX11_setState_1 ⟨Nat.le_of_ble_eq_true rfl, Nat.le_of_ble_eq_true rfl, Nat.le_of_ble_eq_true rfl, Nat.le_of_ble_eq_true rfl, Nat.le_of_ble_eq_true rfl⟩ (as := [.int (a)]) rfl rfl (c_R_isState hl a) ?_
    refine ev_ifB_ne dX11_setState_4 (tgt := 13) (by decide) (fun q4 => ?_) (fun q4 => ?_)
    · exact absurd (ia.symm.trans q4) (by decide)
    · refine ev_blk (B := [(.aload_n 0, 1), (.iconst 1, 1)]) (pe := 9) (ls' := [some (.ref (o)), some (.int (a)), none]) (st' := [.int (nI 1), .ref (o)]) ⟨dX11_setState_7, dX11_setState_8, rfl⟩ rfl ?_
      refine ev_cVv Y_X11_fails L_RX11_144 dX11_setState_9 ⟨Nat.le_of_ble_eq_true rfl, Nat.le_of_ble_eq_true rfl, Nat.le_of_ble_eq_true rfl, Nat.le_of_ble_eq_true rfl, Nat.le_of_ble_eq_true rfl⟩ hR.z (as := [.int (nI 1)]) rfl rfl (c_R_fails hl o (zi) (zl) hR.z 1) ?_
      refine ev_nm (M0 := M.set o (.inr (10, zo o (ui (zi) 0 (nI 1)) (zl)))) (fun Mf eMf => ?_)
      have ff : Mf[o]? = some (.inr (10, zo o (ui (zi) 0 (nI 1)) (zl))) := by rw [eMf]; exact ev_sg hR.z
      refine ev_iret dX11_setState_12 rfl (rfl) ⟨Nat.le_of_ble_eq_true rfl, Nat.le_of_ble_eq_true rfl⟩ ?_
      have W8 : FX o (o + 31) (o + 31) M Mf := ⟨by rw [eMf]; simp only [List.length_set], fun j hj1 hj2 => by rw [eMf, ev_sn (by omega)]⟩
      have e9 : sSet S a = ((1, 0), S) := by simp [sSet, ia, q4]
      rw [e9]
      exact ⟨rfl, _, _, ⟨ff, ⟨hR.p.1, hR.p.2.1, hR.p.2.2.1, hR.p.2.2.2.1, hR.p.2.2.2.2.1, hR.p.2.2.2.2.2.1, hR.p.2.2.2.2.2.2.1, hR.p.2.2.2.2.2.2.2.1, hR.p.2.2.2.2.2.2.2.2.1, hR.p.2.2.2.2.2.2.2.2.2⟩, (hR.T.fx W8 (by omega) (by omega)), (hR.H.fx W8 (by omega)), (hR.y.fx W8 (by omega)), (hR.G.fx W8 (by omega) (by omega)), (hR.a.fx W8 (by omega)), (hR.u.fx W8 (by omega)), (hR.x.fx W8 (by omega)), (hR.k.fx W8 (by omega)), (hR.s.fx W8 (by omega))⟩, rfl, (FX.fr (lo := o + 1) (hi := o + 31) (W8.to (by omega) (by omega)) (by omega) (by omega))⟩

set_option maxHeartbeats 4000000 in
set_option maxRecDepth 100000 in
theorem r_length {l : Launch} (hl : l.stackTraces = false) {M : ev_M} (o : Nat) (S : St) (hS : okS S) (hT10 : S.T.length ≤ 10) (hG3 : S.G.length ≤ 3) (hH20 : S.H.length ≤ 20) (zi : Nat → Int32) (zl : Nat → Int64) (hR : RR M o S zi zl) (a : Int32) : ev_Mt l m_X11_length [.ref (o), .int (a)] M (fun r M1 => r = .inl (some (.int (sLen S a).2)) ∧ ∃ zi' zl', RR M1 o S zi' zl' ∧ zi' 0 = nI (sLen S a).1 ∧ Fr o (o + 31) M M1) := by
  rcases inR_c a 2 (by omega) with ⟨k, hk, rfl⟩ | ia
  · have jk : inR (nI k) 2 = true := inR_n hk (by omega)
    have tk : (nI k).toNatClampNeg = k := nI_clamp (by omega)
    have hcw := cw_ok hS.x k
    have hcw9 : (cw S.x k).length ≤ 10 := hcw.2
    have hcv := cw_ok hS.x (1 - k)
    have hcv9 : (cw S.x (1 - k)).length ≤ 10 := hcv.2
    refine ev_body hl rfl (by decide +kernel) (Nat.le_of_ble_eq_true rfl) ?_
    show ev_ l m_X11_length 0 0 0 [some (.ref (o)), some (.int (nI k))] [] M _
    refine ev_blk (B := [(.iload_n 1, 1)]) (pe := 1) (ls' := [some (.ref (o)), some (.int (nI k))]) (st' := [.int (nI k)]) ⟨dX11_length_0, rfl⟩ rfl ?_
    refine ev_cSv Y_X11_isChannel L_RX11_138 dX11_length_1 ⟨Nat.le_of_ble_eq_true rfl, Nat.le_of_ble_eq_true rfl, Nat.le_of_ble_eq_true rfl, Nat.le_of_ble_eq_true rfl, Nat.le_of_ble_eq_true rfl⟩ (as := [.int (nI k)]) rfl rfl (c_R_isChannel hl (nI k)) ?_
    refine ev_ifB_ne dX11_length_4 (tgt := 13) (by decide) (fun q4 => ?_) (fun q4 => ?_)
    · refine ev_blk (B := [(.aload_n 0, 1), (.iconst 0, 1)]) (pe := 15) (ls' := [some (.ref (o)), some (.int (nI k))]) (st' := [.int (nI 0), .ref (o)]) ⟨dX11_length_13, dX11_length_14, rfl⟩ rfl ?_
      refine ev_put F_RX11_106 dX11_length_15 hR.z (Nat.le_of_ble_eq_true rfl) (fun _ _ => ⟨rfl, rfl⟩) ?_
      rw [zs_0]
      refine ev_nm (M0 := M.set (o) (.inr (10, zo o (ui (zi) 0 (nI 0)) (zl)))) (fun M1 eM1 => ?_)
      have f2 : M1[o]? = some (.inr (10, zo o (ui (zi) 0 (nI 0)) (zl))) := by rw [eM1]; exact ev_sg hR.z
      refine ev_blk (B := [(.aload_n 0, 1), (.iload_n 1, 1)]) (pe := 20) (ls' := [some (.ref (o)), some (.int (nI k))]) (st' := [.int (nI k), .ref (o)]) ⟨dX11_length_18, dX11_length_19, rfl⟩ rfl ?_
      refine ev_cVv Y_X11_wordOf L_RX11_172 dX11_length_20 ⟨Nat.le_of_ble_eq_true rfl, Nat.le_of_ble_eq_true rfl, Nat.le_of_ble_eq_true rfl, Nat.le_of_ble_eq_true rfl, Nat.le_of_ble_eq_true rfl⟩ f2 (as := [.int (nI k)]) rfl rfl (c_R_wordOf hl o (ui (zi) 0 (nI 0)) (zl) f2 S.x hR.p.2.2.2.1 hR.p.2.2.2.2.1 k hk) ?_
      refine ev_cSv Y_X11_lengthOf L_RX11_111 dX11_length_23 ⟨Nat.le_of_ble_eq_true rfl, Nat.le_of_ble_eq_true rfl, Nat.le_of_ble_eq_true rfl, Nat.le_of_ble_eq_true rfl, Nat.le_of_ble_eq_true rfl⟩ (as := [.long (e2 (cw S.x k))]) rfl rfl (c_R_lengthOf hl ((cw S.x k)) hcw.1 (Nat.le_trans hcw.2 (by decide))) ?_
      refine ev_iret dX11_length_26 rfl (rfl) ⟨Nat.le_of_ble_eq_true rfl, Nat.le_of_ble_eq_true rfl⟩ ?_
      have W3 : FX o (o + 31) (o + 31) M M1 := ⟨by rw [eM1]; simp only [List.length_set], fun j hj1 hj2 => by rw [eM1, ev_sn (by omega)]⟩
      have e9 : sLen S (nI k) = (0, nI (cw S.x k).length) := by simp [sLen, jk, tk, q4]
      rw [e9]
      exact ⟨rfl, _, _, ⟨f2, ⟨hR.p.1, hR.p.2.1, hR.p.2.2.1, hR.p.2.2.2.1, hR.p.2.2.2.2.1, hR.p.2.2.2.2.2.1, hR.p.2.2.2.2.2.2.1, hR.p.2.2.2.2.2.2.2.1, hR.p.2.2.2.2.2.2.2.2.1, hR.p.2.2.2.2.2.2.2.2.2⟩, (hR.T.fx W3 (by omega) (by omega)), (hR.H.fx W3 (by omega)), (hR.y.fx W3 (by omega)), (hR.G.fx W3 (by omega) (by omega)), (hR.a.fx W3 (by omega)), (hR.u.fx W3 (by omega)), (hR.x.fx W3 (by omega)), (hR.k.fx W3 (by omega)), (hR.s.fx W3 (by omega))⟩, rfl, (FX.fr (lo := o + 1) (hi := o + 31) (W3.to (by omega) (by omega)) (by omega) (by omega))⟩
    · exact absurd (jk.symm.trans q4) (by decide)
  · have ia9 := ia
    refine ev_body hl rfl (by decide +kernel) (Nat.le_of_ble_eq_true rfl) ?_
    show ev_ l m_X11_length 0 0 0 [some (.ref (o)), some (.int (a))] [] M _
    refine ev_blk (B := [(.iload_n 1, 1)]) (pe := 1) (ls' := [some (.ref (o)), some (.int (a))]) (st' := [.int (a)]) ⟨dX11_length_0, rfl⟩ rfl ?_
    refine ev_cSv Y_X11_isChannel L_RX11_138 dX11_length_1 ⟨Nat.le_of_ble_eq_true rfl, Nat.le_of_ble_eq_true rfl, Nat.le_of_ble_eq_true rfl, Nat.le_of_ble_eq_true rfl, Nat.le_of_ble_eq_true rfl⟩ (as := [.int (a)]) rfl rfl (c_R_isChannel hl a) ?_
    refine ev_ifB_ne dX11_length_4 (tgt := 13) (by decide) (fun q4 => ?_) (fun q4 => ?_)
    · exact absurd (ia.symm.trans q4) (by decide)
    · refine ev_blk (B := [(.aload_n 0, 1), (.iconst 1, 1)]) (pe := 9) (ls' := [some (.ref (o)), some (.int (a))]) (st' := [.int (nI 1), .ref (o)]) ⟨dX11_length_7, dX11_length_8, rfl⟩ rfl ?_
      refine ev_cVv Y_X11_fails L_RX11_144 dX11_length_9 ⟨Nat.le_of_ble_eq_true rfl, Nat.le_of_ble_eq_true rfl, Nat.le_of_ble_eq_true rfl, Nat.le_of_ble_eq_true rfl, Nat.le_of_ble_eq_true rfl⟩ hR.z (as := [.int (nI 1)]) rfl rfl (c_R_fails hl o (zi) (zl) hR.z 1) ?_
      refine ev_nm (M0 := M.set o (.inr (10, zo o (ui (zi) 0 (nI 1)) (zl)))) (fun Mf eMf => ?_)
      have ff : Mf[o]? = some (.inr (10, zo o (ui (zi) 0 (nI 1)) (zl))) := by rw [eMf]; exact ev_sg hR.z
      refine ev_iret dX11_length_12 rfl (rfl) ⟨Nat.le_of_ble_eq_true rfl, Nat.le_of_ble_eq_true rfl⟩ ?_
      have W4 : FX o (o + 31) (o + 31) M Mf := ⟨by rw [eMf]; simp only [List.length_set], fun j hj1 hj2 => by rw [eMf, ev_sn (by omega)]⟩
      have e9 : sLen S a = (1, 0) := by simp [sLen, ia, q4]
      rw [e9]
      exact ⟨rfl, _, _, ⟨ff, ⟨hR.p.1, hR.p.2.1, hR.p.2.2.1, hR.p.2.2.2.1, hR.p.2.2.2.2.1, hR.p.2.2.2.2.2.1, hR.p.2.2.2.2.2.2.1, hR.p.2.2.2.2.2.2.2.1, hR.p.2.2.2.2.2.2.2.2.1, hR.p.2.2.2.2.2.2.2.2.2⟩, (hR.T.fx W4 (by omega) (by omega)), (hR.H.fx W4 (by omega)), (hR.y.fx W4 (by omega)), (hR.G.fx W4 (by omega) (by omega)), (hR.a.fx W4 (by omega)), (hR.u.fx W4 (by omega)), (hR.x.fx W4 (by omega)), (hR.k.fx W4 (by omega)), (hR.s.fx W4 (by omega))⟩, rfl, (FX.fr (lo := o + 1) (hi := o + 31) (W4.to (by omega) (by omega)) (by omega) (by omega))⟩

set_option maxHeartbeats 4000000 in
set_option maxRecDepth 100000 in
theorem r_clear {l : Launch} (hl : l.stackTraces = false) {M : ev_M} (o : Nat) (S : St) (hS : okS S) (hT10 : S.T.length ≤ 10) (hG3 : S.G.length ≤ 3) (hH20 : S.H.length ≤ 20) (zi : Nat → Int32) (zl : Nat → Int64) (hR : RR M o S zi zl) (a : Int32) : ev_Mt l m_X11_clear [.ref (o), .int (a)] M (fun r M1 => r = .inl (some (.int (sClr S a).1.2)) ∧ ∃ zi' zl', RR M1 o (sClr S a).2 zi' zl' ∧ zi' 0 = nI (sClr S a).1.1 ∧ Fr o (o + 31) M M1) := by
  rcases inR_c a 2 (by omega) with ⟨k, hk, rfl⟩ | ia
  · have jk : inR (nI k) 2 = true := inR_n hk (by omega)
    have tk : (nI k).toNatClampNeg = k := nI_clamp (by omega)
    have hcw := cw_ok hS.x k
    have hcw9 : (cw S.x k).length ≤ 10 := hcw.2
    have hcv := cw_ok hS.x (1 - k)
    have hcv9 : (cw S.x (1 - k)).length ≤ 10 := hcv.2
    refine ev_body hl rfl (by decide +kernel) (Nat.le_of_ble_eq_true rfl) ?_
    show ev_ l m_X11_clear 0 0 0 [some (.ref (o)), some (.int (nI k)), none] [] M _
    refine ev_blk (B := [(.iload_n 1, 1)]) (pe := 1) (ls' := [some (.ref (o)), some (.int (nI k)), none]) (st' := [.int (nI k)]) ⟨dX11_clear_0, rfl⟩ rfl ?_
    refine ev_cSv Y_X11_isChannel L_RX11_138 dX11_clear_1 ⟨Nat.le_of_ble_eq_true rfl, Nat.le_of_ble_eq_true rfl, Nat.le_of_ble_eq_true rfl, Nat.le_of_ble_eq_true rfl, Nat.le_of_ble_eq_true rfl⟩ (as := [.int (nI k)]) rfl rfl (c_R_isChannel hl (nI k)) ?_
    refine ev_ifB_ne dX11_clear_4 (tgt := 13) (by decide) (fun q4 => ?_) (fun q4 => ?_)
    · refine ev_blk (B := [(.aload_n 0, 1), (.iconst 0, 1)]) (pe := 15) (ls' := [some (.ref (o)), some (.int (nI k)), none]) (st' := [.int (nI 0), .ref (o)]) ⟨dX11_clear_13, dX11_clear_14, rfl⟩ rfl ?_
      refine ev_put F_RX11_106 dX11_clear_15 hR.z (Nat.le_of_ble_eq_true rfl) (fun _ _ => ⟨rfl, rfl⟩) ?_
      rw [zs_0]
      refine ev_nm (M0 := M.set (o) (.inr (10, zo o (ui (zi) 0 (nI 0)) (zl)))) (fun M1 eM1 => ?_)
      have f2 : M1[o]? = some (.inr (10, zo o (ui (zi) 0 (nI 0)) (zl))) := by rw [eM1]; exact ev_sg hR.z
      refine ev_blk (B := [(.aload_n 0, 1), (.iload_n 1, 1)]) (pe := 20) (ls' := [some (.ref (o)), some (.int (nI k)), none]) (st' := [.int (nI k), .ref (o)]) ⟨dX11_clear_18, dX11_clear_19, rfl⟩ rfl ?_
      refine ev_cVv Y_X11_wordOf L_RX11_172 dX11_clear_20 ⟨Nat.le_of_ble_eq_true rfl, Nat.le_of_ble_eq_true rfl, Nat.le_of_ble_eq_true rfl, Nat.le_of_ble_eq_true rfl, Nat.le_of_ble_eq_true rfl⟩ f2 (as := [.int (nI k)]) rfl rfl (c_R_wordOf hl o (ui (zi) 0 (nI 0)) (zl) f2 S.x hR.p.2.2.2.1 hR.p.2.2.2.2.1 k hk) ?_
      refine ev_cSv Y_X11_lengthOf L_RX11_111 dX11_clear_23 ⟨Nat.le_of_ble_eq_true rfl, Nat.le_of_ble_eq_true rfl, Nat.le_of_ble_eq_true rfl, Nat.le_of_ble_eq_true rfl, Nat.le_of_ble_eq_true rfl⟩ (as := [.long (e2 (cw S.x k))]) rfl rfl (c_R_lengthOf hl ((cw S.x k)) hcw.1 (Nat.le_trans hcw.2 (by decide))) ?_
      refine ev_blk (B := [(.istore_n 2, 1), (.aload_n 0, 1), (.iload_n 1, 1), (.lconst 0, 1)]) (pe := 30) (ls' := [some (.ref (o)), some (.int (nI k)), some (.int (nI (((cw S.x k)).length)))]) (st' := [.long (0), .int (nI k), .ref (o)]) ⟨dX11_clear_26, dX11_clear_27, dX11_clear_28, dX11_clear_29, rfl⟩ rfl ?_
      rw [show (0 : Int64) = e2 [] from by decide]
      refine ev_cV0 Y_X11_setsWord L_RX11_175 dX11_clear_30 ⟨Nat.le_of_ble_eq_true rfl, Nat.le_of_ble_eq_true rfl, Nat.le_of_ble_eq_true rfl, Nat.le_of_ble_eq_true rfl, Nat.le_of_ble_eq_true rfl⟩ f2 (as := [.int (nI k), .long (e2 [])]) rfl rfl (c_R_setsWord hl o (ui (zi) 0 (nI 0)) (zl) f2 k hk ([])) ?_
      obtain ⟨zl2, hz2⟩ : ∃ z, z = (if k = 0 then ul (zl) 5 (e2 ([])) else ul (zl) 6 (e2 ([]))) := ⟨_, rfl⟩
      rw [← hz2]
      refine ev_nm (M0 := M1.set o (.inr (10, zo o (ui (zi) 0 (nI 0)) zl2))) (fun Mf eMf => ?_)
      have ff : Mf[o]? = some (.inr (10, zo o (ui (zi) 0 (nI 0)) zl2)) := by rw [eMf]; exact ev_sg f2
      obtain ⟨z25, z26, z2n⟩ := sw_zl hz2 hR.p.2.2.2.1 hR.p.2.2.2.2.1
      refine ev_blk (B := [(.aload_n 0, 1), (.iconst 0, 1)]) (pe := 35) (ls' := [some (.ref (o)), some (.int (nI k)), some (.int (nI (((cw S.x k)).length)))]) (st' := [.int (nI 0), .ref (o)]) ⟨dX11_clear_33, dX11_clear_34, rfl⟩ rfl ?_
      refine ev_put F_RX11_166 dX11_clear_35 ff (Nat.le_of_ble_eq_true rfl) (fun _ _ => ⟨rfl, rfl⟩) ?_
      rw [zs_4]
      refine ev_nm (M0 := Mf.set (o) (.inr (10, zo o (ui (ui (zi) 0 (nI 0)) 4 (nI 0)) (zl2)))) (fun M3 eM3 => ?_)
      have f4 : M3[o]? = some (.inr (10, zo o (ui (ui (zi) 0 (nI 0)) 4 (nI 0)) (zl2))) := by rw [eM3]; exact ev_sg ff
      refine ev_blk (B := [(.iload_n 2, 1)]) (pe := 39) (ls' := [some (.ref (o)), some (.int (nI k)), some (.int (nI (((cw S.x k)).length)))]) (st' := [.int (nI (((cw S.x k)).length))]) ⟨dX11_clear_38, rfl⟩ rfl ?_
      refine ev_iret dX11_clear_39 rfl (rfl) ⟨Nat.le_of_ble_eq_true rfl, Nat.le_of_ble_eq_true rfl⟩ ?_
      have W5 : FX o (o + 31) (o + 31) M M3 := ⟨by rw [eM3, eMf, eM1]; simp only [List.length_set], fun j hj1 hj2 => by rw [eM3, ev_sn (by omega), eMf, ev_sn (by omega), eM1, ev_sn (by omega)]⟩
      have e9 : sClr S (nI k) = ((0, nI (cw S.x k).length), (St.mk S.T (cset S.x k []) S.G ([]) S.n S.t S.f S.tk S.T9 S.x9 S.G9)) := by simp [sClr, jk, tk, q4]
      rw [e9]
      exact ⟨rfl, _, _, ⟨f4, ⟨hR.p.1, (sw_3 hR.p.2.1), rfl, z25, z26, hR.p.2.2.2.2.2.1, hR.p.2.2.2.2.2.2.1, hR.p.2.2.2.2.2.2.2.1, hR.p.2.2.2.2.2.2.2.2.1, (fun z => pz_l (hR.p.2.2.2.2.2.2.2.2.2 z) (z2n 53 (by decide) (by decide)) (z2n 54 (by decide) (by decide)))⟩, (hR.T.fx W5 (by omega) (by omega)), PH.nil (hR.H.fx W5 (by omega)), (hR.y.fx W5 (by omega)), (hR.G.fx W5 (by omega) (by omega)), (hR.a.fx W5 (by omega)), (hR.u.fx W5 (by omega)), (hR.x.fx W5 (by omega)), (hR.k.fx W5 (by omega)), (hR.s.fx W5 (by omega))⟩, rfl, (FX.fr (lo := o + 1) (hi := o + 31) (W5.to (by omega) (by omega)) (by omega) (by omega))⟩
    · exact absurd (jk.symm.trans q4) (by decide)
  · have ia9 := ia
    refine ev_body hl rfl (by decide +kernel) (Nat.le_of_ble_eq_true rfl) ?_
    show ev_ l m_X11_clear 0 0 0 [some (.ref (o)), some (.int (a)), none] [] M _
    refine ev_blk (B := [(.iload_n 1, 1)]) (pe := 1) (ls' := [some (.ref (o)), some (.int (a)), none]) (st' := [.int (a)]) ⟨dX11_clear_0, rfl⟩ rfl ?_
    refine ev_cSv Y_X11_isChannel L_RX11_138 dX11_clear_1 ⟨Nat.le_of_ble_eq_true rfl, Nat.le_of_ble_eq_true rfl, Nat.le_of_ble_eq_true rfl, Nat.le_of_ble_eq_true rfl, Nat.le_of_ble_eq_true rfl⟩ (as := [.int (a)]) rfl rfl (c_R_isChannel hl a) ?_
    refine ev_ifB_ne dX11_clear_4 (tgt := 13) (by decide) (fun q4 => ?_) (fun q4 => ?_)
    · exact absurd (ia.symm.trans q4) (by decide)
    · refine ev_blk (B := [(.aload_n 0, 1), (.iconst 1, 1)]) (pe := 9) (ls' := [some (.ref (o)), some (.int (a)), none]) (st' := [.int (nI 1), .ref (o)]) ⟨dX11_clear_7, dX11_clear_8, rfl⟩ rfl ?_
      refine ev_cVv Y_X11_fails L_RX11_144 dX11_clear_9 ⟨Nat.le_of_ble_eq_true rfl, Nat.le_of_ble_eq_true rfl, Nat.le_of_ble_eq_true rfl, Nat.le_of_ble_eq_true rfl, Nat.le_of_ble_eq_true rfl⟩ hR.z (as := [.int (nI 1)]) rfl rfl (c_R_fails hl o (zi) (zl) hR.z 1) ?_
      refine ev_nm (M0 := M.set o (.inr (10, zo o (ui (zi) 0 (nI 1)) (zl)))) (fun Mf eMf => ?_)
      have ff : Mf[o]? = some (.inr (10, zo o (ui (zi) 0 (nI 1)) (zl))) := by rw [eMf]; exact ev_sg hR.z
      refine ev_iret dX11_clear_12 rfl (rfl) ⟨Nat.le_of_ble_eq_true rfl, Nat.le_of_ble_eq_true rfl⟩ ?_
      have W6 : FX o (o + 31) (o + 31) M Mf := ⟨by rw [eMf]; simp only [List.length_set], fun j hj1 hj2 => by rw [eMf, ev_sn (by omega)]⟩
      have e9 : sClr S a = ((1, 0), S) := by simp [sClr, ia, q4]
      rw [e9]
      exact ⟨rfl, _, _, ⟨ff, ⟨hR.p.1, hR.p.2.1, hR.p.2.2.1, hR.p.2.2.2.1, hR.p.2.2.2.2.1, hR.p.2.2.2.2.2.1, hR.p.2.2.2.2.2.2.1, hR.p.2.2.2.2.2.2.2.1, hR.p.2.2.2.2.2.2.2.2.1, hR.p.2.2.2.2.2.2.2.2.2⟩, (hR.T.fx W6 (by omega) (by omega)), (hR.H.fx W6 (by omega)), (hR.y.fx W6 (by omega)), (hR.G.fx W6 (by omega) (by omega)), (hR.a.fx W6 (by omega)), (hR.u.fx W6 (by omega)), (hR.x.fx W6 (by omega)), (hR.k.fx W6 (by omega)), (hR.s.fx W6 (by omega))⟩, rfl, (FX.fr (lo := o + 1) (hi := o + 31) (W6.to (by omega) (by omega)) (by omega) (by omega))⟩

