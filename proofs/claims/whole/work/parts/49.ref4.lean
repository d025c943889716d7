set_option maxHeartbeats 4000000 in
set_option maxRecDepth 100000 in
theorem r_state {l : Launch} (hl : l.stackTraces = false) {M : ev_M} (o : Nat) (S : St) (hS : okS S) (hT10 : S.T.length ≤ 10) (hG3 : S.G.length ≤ 3) (hH20 : S.H.length ≤ 20) (zi : Nat → Int32) (zl : Nat → Int64) (hR : RR M o S zi zl) : ev_Mt l m_X11_state [.ref (o)] M (fun r M1 => r = .inl (some (.int (sSta S).2)) ∧ ∃ zi' zl', RR M1 o S zi' zl' ∧ zi' 0 = nI (sSta S).1 ∧ Fr o (o + 31) M M1) := by
  refine ev_body hl rfl (by decide +kernel) (Nat.le_of_ble_eq_true rfl) ?_
  show ev_ l m_X11_state 0 0 0 [some (.ref (o))] [] M _
  refine ev_blk (B := [(.aload_n 0, 1), (.iconst 0, 1)]) (pe := 2) (ls' := [some (.ref (o))]) (st' := [.int (nI 0), .ref (o)]) ⟨dX11_state_0, dX11_state_1, rfl⟩ rfl ?_
  refine ev_put F_RX11_106 dX11_state_2 hR.z (Nat.le_of_ble_eq_true rfl) (fun _ _ => ⟨rfl, rfl⟩) ?_
  rw [zs_0]
  refine ev_nm (M0 := M.set (o) (.inr (10, zo o (ui (zi) 0 (nI 0)) (zl)))) (fun M1 eM1 => ?_)
  have f2 : M1[o]? = some (.inr (10, zo o (ui (zi) 0 (nI 0)) (zl))) := by rw [eM1]; exact ev_sg hR.z
  refine ev_blk (B := [(.aload_n 0, 1)]) (pe := 6) (ls' := [some (.ref (o))]) (st' := [.ref (o)]) ⟨dX11_state_5, rfl⟩ rfl ?_
  refine ev_getf (v := .int (nI (S.x.1))) F_RX11_169 dX11_state_6 f2 (congrArg (fun q => some (Value.int q)) hR.p.2.1) ?_
  refine ev_iret dX11_state_9 rfl (rfl) ⟨Nat.le_of_ble_eq_true rfl, Nat.le_of_ble_eq_true rfl⟩ ?_
  have W3 : FX o (o + 31) (o + 31) M M1 := ⟨by rw [eM1]; simp only [List.length_set], fun j hj1 hj2 => by rw [eM1, ev_sn (by omega)]⟩
  have e9 : sSta S = (0, nI S.x.1) := by simp [sSta]
  rw [e9]
  exact ⟨rfl, _, _, ⟨f2, ⟨hR.p.1, hR.p.2.1, hR.p.2.2.1, hR.p.2.2.2.1, hR.p.2.2.2.2.1, hR.p.2.2.2.2.2.1, hR.p.2.2.2.2.2.2.1, hR.p.2.2.2.2.2.2.2.1, hR.p.2.2.2.2.2.2.2.2.1, hR.p.2.2.2.2.2.2.2.2.2⟩, (hR.T.fx W3 (by omega) (by omega)), (hR.H.fx W3 (by omega)), (hR.y.fx W3 (by omega)), (hR.G.fx W3 (by omega) (by omega)), (hR.a.fx W3 (by omega)), (hR.u.fx W3 (by omega)), (hR.x.fx W3 (by omega)), (hR.k.fx W3 (by omega)), (hR.s.fx W3 (by omega))⟩, rfl, (FX.fr (lo := o + 1) (hi := o + 31) (W3.to (by omega) (by omega)) (by omega))⟩

set_option maxHeartbeats 4000000 in
set_option maxRecDepth 100000 in
theorem r_transitionCount {l : Launch} (hl : l.stackTraces = false) {M : ev_M} (o : Nat) (S : St) (hS : okS S) (hT10 : S.T.length ≤ 10) (hG3 : S.G.length ≤ 3) (hH20 : S.H.length ≤ 20) (zi : Nat → Int32) (zl : Nat → Int64) (hR : RR M o S zi zl) : ev_Mt l m_X11_transitionCount [.ref (o)] M (fun r M1 => r = .inl (some (.int (sCnt S).2)) ∧ ∃ zi' zl', RR M1 o S zi' zl' ∧ zi' 0 = nI (sCnt S).1 ∧ Fr o (o + 31) M M1) := by
  refine ev_body hl rfl (by decide +kernel) (Nat.le_of_ble_eq_true rfl) ?_
  show ev_ l m_X11_transitionCount 0 0 0 [some (.ref (o))] [] M _
  refine ev_blk (B := [(.aload_n 0, 1), (.iconst 0, 1)]) (pe := 2) (ls' := [some (.ref (o))]) (st' := [.int (nI 0), .ref (o)]) ⟨dX11_transitionCount_0, dX11_transitionCount_1, rfl⟩ rfl ?_
  refine ev_put F_RX11_106 dX11_transitionCount_2 hR.z (Nat.le_of_ble_eq_true rfl) (fun _ _ => ⟨rfl, rfl⟩) ?_
  rw [zs_0]
  refine ev_nm (M0 := M.set (o) (.inr (10, zo o (ui (zi) 0 (nI 0)) (zl)))) (fun M1 eM1 => ?_)
  have f2 : M1[o]? = some (.inr (10, zo o (ui (zi) 0 (nI 0)) (zl))) := by rw [eM1]; exact ev_sg hR.z
  refine ev_blk (B := [(.aload_n 0, 1)]) (pe := 6) (ls' := [some (.ref (o))]) (st' := [.ref (o)]) ⟨dX11_transitionCount_5, rfl⟩ rfl ?_
  refine ev_getf (v := .int (nI (S.T.length))) F_RX11_123 dX11_transitionCount_6 f2 (congrArg (fun q => some (Value.int q)) hR.p.1) ?_
  refine ev_iret dX11_transitionCount_9 rfl (rfl) ⟨Nat.le_of_ble_eq_true rfl, Nat.le_of_ble_eq_true rfl⟩ ?_
  have W3 : FX o (o + 31) (o + 31) M M1 := ⟨by rw [eM1]; simp only [List.length_set], fun j hj1 hj2 => by rw [eM1, ev_sn (by omega)]⟩
  have e9 : sCnt S = (0, nI S.T.length) := by simp [sCnt]
  rw [e9]
  exact ⟨rfl, _, _, ⟨f2, ⟨hR.p.1, hR.p.2.1, hR.p.2.2.1, hR.p.2.2.2.1, hR.p.2.2.2.2.1, hR.p.2.2.2.2.2.1, hR.p.2.2.2.2.2.2.1, hR.p.2.2.2.2.2.2.2.1, hR.p.2.2.2.2.2.2.2.2.1, hR.p.2.2.2.2.2.2.2.2.2⟩, (hR.T.fx W3 (by omega) (by omega)), (hR.H.fx W3 (by omega)), (hR.y.fx W3 (by omega)), (hR.G.fx W3 (by omega) (by omega)), (hR.a.fx W3 (by omega)), (hR.u.fx W3 (by omega)), (hR.x.fx W3 (by omega)), (hR.k.fx W3 (by omega)), (hR.s.fx W3 (by omega))⟩, rfl, (FX.fr (lo := o + 1) (hi := o + 31) (W3.to (by omega) (by omega)) (by omega))⟩

set_option maxHeartbeats 4000000 in
set_option maxRecDepth 100000 in
theorem r_faultPosition {l : Launch} (hl : l.stackTraces = false) {M : ev_M} (o : Nat) (S : St) (hS : okS S) (hT10 : S.T.length ≤ 10) (hG3 : S.G.length ≤ 3) (hH20 : S.H.length ≤ 20) (zi : Nat → Int32) (zl : Nat → Int64) (hR : RR M o S zi zl) : ev_Mt l m_X11_faultPosition [.ref (o)] M (fun r M1 => r = .inl (some (.int (sFau S).2)) ∧ ∃ zi' zl', RR M1 o S zi' zl' ∧ zi' 0 = nI (sFau S).1 ∧ Fr o (o + 31) M M1) := by
  refine ev_body hl rfl (by decide +kernel) (Nat.le_of_ble_eq_true rfl) ?_
  show ev_ l m_X11_faultPosition 0 0 0 [some (.ref (o))] [] M _
  refine ev_blk (B := [(.aload_n 0, 1), (.iconst 0, 1)]) (pe := 2) (ls' := [some (.ref (o))]) (st' := [.int (nI 0), .ref (o)]) ⟨dX11_faultPosition_0, dX11_faultPosition_1, rfl⟩ rfl ?_
  refine ev_put F_RX11_106 dX11_faultPosition_2 hR.z (Nat.le_of_ble_eq_true rfl) (fun _ _ => ⟨rfl, rfl⟩) ?_
  rw [zs_0]
  refine ev_nm (M0 := M.set (o) (.inr (10, zo o (ui (zi) 0 (nI 0)) (zl)))) (fun M1 eM1 => ?_)
  have f2 : M1[o]? = some (.inr (10, zo o (ui (zi) 0 (nI 0)) (zl))) := by rw [eM1]; exact ev_sg hR.z
  refine ev_blk (B := [(.aload_n 0, 1)]) (pe := 6) (ls' := [some (.ref (o))]) (st' := [.ref (o)]) ⟨dX11_faultPosition_5, rfl⟩ rfl ?_
  refine ev_getf (v := .int (S.f)) F_RX11_90 dX11_faultPosition_6 f2 (congrArg (fun q => some (Value.int q)) hR.p.2.2.2.2.2.2.2.1) ?_
  refine ev_iret dX11_faultPosition_9 rfl (rfl) ⟨Nat.le_of_ble_eq_true rfl, Nat.le_of_ble_eq_true rfl⟩ ?_
  have W3 : FX o (o + 31) (o + 31) M M1 := ⟨by rw [eM1]; simp only [List.length_set], fun j hj1 hj2 => by rw [eM1, ev_sn (by omega)]⟩
  have e9 : sFau S = (0, S.f) := by simp [sFau]
  rw [e9]
  exact ⟨rfl, _, _, ⟨f2, ⟨hR.p.1, hR.p.2.1, hR.p.2.2.1, hR.p.2.2.2.1, hR.p.2.2.2.2.1, hR.p.2.2.2.2.2.1, hR.p.2.2.2.2.2.2.1, hR.p.2.2.2.2.2.2.2.1, hR.p.2.2.2.2.2.2.2.2.1, hR.p.2.2.2.2.2.2.2.2.2⟩, (hR.T.fx W3 (by omega) (by omega)), (hR.H.fx W3 (by omega)), (hR.y.fx W3 (by omega)), (hR.G.fx W3 (by omega) (by omega)), (hR.a.fx W3 (by omega)), (hR.u.fx W3 (by omega)), (hR.x.fx W3 (by omega)), (hR.k.fx W3 (by omega)), (hR.s.fx W3 (by omega))⟩, rfl, (FX.fr (lo := o + 1) (hi := o + 31) (W3.to (by omega) (by omega)) (by omega))⟩

set_option maxHeartbeats 4000000 in
set_option maxRecDepth 100000 in
theorem r_setState {l : Launch} (hl : l.stackTraces = false) {M : ev_M} (o : Nat) (S : St) (hS : okS S) (hT10 : S.T.length ≤ 10) (hG3 : S.G.length ≤ 3) (hH20 : S.H.length ≤ 20) (zi : Nat → Int32) (zl : Nat → Int64) (hR : RR M o S zi zl) (a : Int32) : ev_Mt l m_X11_setState [.ref (o), .int (a)] M (fun r M1 => r = .inl (some (.int (sSet S a).1.2)) ∧ ∃ zi' zl', RR M1 o (sSet S a).2 zi' zl' ∧ zi' 0 = nI (sSet S a).1.1 ∧ Fr o (o + 31) M M1) := by
  rcases inR_c a 6 (by omega) with ⟨k, hk, rfl⟩ | ia
  · have jk : inR (nI k) 6 = true := inR_n hk (by omega)
    have tk : (nI k).toNatClampNeg = k := nI_clamp (by omega)
    refine ev_body hl rfl (by decide +kernel) (Nat.le_of_ble_eq_true rfl) ?_
    show ev_ l m_X11_setState 0 0 0 [some (.ref (o)), some (.int (nI k)), none] [] M _
    refine ev_blk (B := [(.iload_n 1, 1)]) (pe := 1) (ls' := [some (.ref (o)), some (.int (nI k)), none]) (st' := [.int (nI k)]) ⟨dX11_setState_0, rfl⟩ rfl ?_
    refine ev_cSv Y_X11_isState L_RX11_130 dX11_setState_1 ⟨Nat.le_of_ble_eq_true rfl, Nat.le_of_ble_eq_true rfl, Nat.le_of_ble_eq_true rfl, Nat.le_of_ble_eq_true rfl, Nat.le_of_ble_eq_true rfl⟩ (as := [.int (nI k)]) rfl rfl (c_R_isState hl (nI k)) ?_
    refine ev_ifB_ne dX11_setState_4 (tgt := 13) (by decide) (fun q4 => ?_) (fun q4 => ?_)
    · refine ev_blk (B := [(.aload_n 0, 1), (.iconst 0, 1)]) (pe := 15) (ls' := [some (.ref (o)), some (.int (nI k)), none]) (st' := [.int (nI 0), .ref (o)]) ⟨dX11_setState_13, dX11_setState_14, rfl⟩ rfl ?_
      refine ev_put F_RX11_106 dX11_setState_15 hR.z (Nat.le_of_ble_eq_true rfl) (fun _ _ => ⟨rfl, rfl⟩) ?_
      rw [zs_0]
      refine ev_nm (M0 := M.set (o) (.inr (10, zo o (ui (zi) 0 (nI 0)) (zl)))) (fun M1 eM1 => ?_)
      have f2 : M1[o]? = some (.inr (10, zo o (ui (zi) 0 (nI 0)) (zl))) := by rw [eM1]; exact ev_sg hR.z
      refine ev_blk (B := [(.aload_n 0, 1)]) (pe := 19) (ls' := [some (.ref (o)), some (.int (nI k)), none]) (st' := [.ref (o)]) ⟨dX11_setState_18, rfl⟩ rfl ?_
      refine ev_getf (v := .int (nI (S.x.1))) F_RX11_169 dX11_setState_19 f2 (congrArg (fun q => some (Value.int q)) hR.p.2.1) ?_
      refine ev_blk (B := [(.istore_n 2, 1), (.aload_n 0, 1), (.iload_n 1, 1)]) (pe := 25) (ls' := [some (.ref (o)), some (.int (nI k)), some (.int (nI (S.x.1)))]) (st' := [.int (nI k), .ref (o)]) ⟨dX11_setState_22, dX11_setState_23, dX11_setState_24, rfl⟩ rfl ?_
      refine ev_put F_RX11_169 dX11_setState_25 f2 (Nat.le_of_ble_eq_true rfl) (fun _ _ => ⟨rfl, rfl⟩) ?_
      rw [zs_3]
      refine ev_nm (M0 := M1.set (o) (.inr (10, zo o (ui (ui (zi) 0 (nI 0)) 3 (nI k)) (zl)))) (fun M3 eM3 => ?_)
      have f4 : M3[o]? = some (.inr (10, zo o (ui (ui (zi) 0 (nI 0)) 3 (nI k)) (zl))) := by rw [eM3]; exact ev_sg f2
      refine ev_blk (B := [(.aload_n 0, 1), (.iconst 0, 1)]) (pe := 30) (ls' := [some (.ref (o)), some (.int (nI k)), some (.int (nI (S.x.1)))]) (st' := [.int (nI 0), .ref (o)]) ⟨dX11_setState_28, dX11_setState_29, rfl⟩ rfl ?_
      refine ev_put F_RX11_166 dX11_setState_30 f4 (Nat.le_of_ble_eq_true rfl) (fun _ _ => ⟨rfl, rfl⟩) ?_
      rw [zs_4]
      refine ev_nm (M0 := M3.set (o) (.inr (10, zo o (ui (ui (ui (zi) 0 (nI 0)) 3 (nI k)) 4 (nI 0)) (zl)))) (fun M5 eM5 => ?_)
      have f6 : M5[o]? = some (.inr (10, zo o (ui (ui (ui (zi) 0 (nI 0)) 3 (nI k)) 4 (nI 0)) (zl))) := by rw [eM5]; exact ev_sg f4
      refine ev_blk (B := [(.iload_n 2, 1)]) (pe := 34) (ls' := [some (.ref (o)), some (.int (nI k)), some (.int (nI (S.x.1)))]) (st' := [.int (nI (S.x.1))]) ⟨dX11_setState_33, rfl⟩ rfl ?_
      refine ev_iret dX11_setState_34 rfl (rfl) ⟨Nat.le_of_ble_eq_true rfl, Nat.le_of_ble_eq_true rfl⟩ ?_
      have W7 : FX o (o + 31) (o + 31) M M5 := ⟨by rw [eM5, eM3, eM1]; simp only [List.length_set], fun j hj1 hj2 => by rw [eM5, ev_sn (by omega), eM3, ev_sn (by omega), eM1, ev_sn (by omega)]⟩
      have e9 : sSet S (nI k) = ((0, nI S.x.1), (St.mk S.T ((k, S.x.2)) S.G ([]) S.n S.t S.f S.tk S.T9 S.x9 S.G9)) := by simp [sSet, jk, tk, q4]
      rw [e9]
      exact ⟨rfl, _, _, ⟨f6, ⟨hR.p.1, rfl, rfl, hR.p.2.2.2.1, hR.p.2.2.2.2.1, hR.p.2.2.2.2.2.1, hR.p.2.2.2.2.2.2.1, hR.p.2.2.2.2.2.2.2.1, hR.p.2.2.2.2.2.2.2.2.1, hR.p.2.2.2.2.2.2.2.2.2⟩, (hR.T.fx W7 (by omega) (by omega)), (hR.H.fx W7 (by omega)), (hR.y.fx W7 (by omega)), (hR.G.fx W7 (by omega) (by omega)), (hR.a.fx W7 (by omega)), (hR.u.fx W7 (by omega)), (hR.x.fx W7 (by omega)), (hR.k.fx W7 (by omega)), (hR.s.fx W7 (by omega))⟩, rfl, (FX.fr (lo := o + 1) (hi := o + 31) (W7.to (by omega) (by omega)) (by omega))⟩
    · exact absurd (jk.symm.trans q4) (by decide)
  · have ia9 := ia
    refine ev_body hl rfl (by decide +kernel) (Nat.le_of_ble_eq_true rfl) ?_
    show ev_ l m_X11_setState 0 0 0 [some (.ref (o)), some (.int (a)), none] [] M _
    refine ev_blk (B := [(.iload_n 1, 1)]) (pe := 1) (ls' := [some (.ref (o)), some (.int (a)), none]) (st' := [.int (a)]) ⟨dX11_setState_0, rfl⟩ rfl ?_
    refine ev_cSv Y_X11_isState L_RX11_130 dX11_setState_1 ⟨Nat.le_of_ble_eq_true rfl, Nat.le_of_ble_eq_true rfl, Nat.le_of_ble_eq_true rfl, Nat.le_of_ble_eq_true rfl, Nat.le_of_ble_eq_true rfl⟩ (as := [.int (a)]) rfl rfl (c_R_isState hl a) ?_
    refine ev_ifB_ne dX11_setState_4 (tgt := 13) (by decide) (fun q4 => ?_) (fun q4 => ?_)
    · exact absurd (ia.symm.trans q4) (by decide)
    · refine ev_blk (B := [(.aload_n 0, 1), (.iconst 1, 1)]) (pe := 9) (ls' := [some (.ref (o)), some (.int (a)), none]) (st' := [.int (nI 1), .ref (o)]) ⟨dX11_setState_7, dX11_setState_8, rfl⟩ rfl ?_
      refine ev_cVv Y_X11_fails L_RX11_144 dX11_setState_9 ⟨Nat.le_of_ble_eq_true rfl, Nat.le_of_ble_eq_true rfl, Nat.le_of_ble_eq_true rfl, Nat.le_of_ble_eq_true rfl, Nat.le_of_ble_eq_true rfl⟩ hR.z (as := [.int (nI 1)]) rfl rfl (c_R_fails hl o (zi) (zl) hR.z 1) ?_
      refine ev_nm (M0 := M.set o (.inr (10, zo o (ui (zi) 0 (nI 1)) (zl)))) (fun Mf eMf => ?_)
      have ff : Mf[o]? = some (.inr (10, zo o (ui (zi) 0 (nI 1)) (zl))) := by rw [eMf]; exact ev_sg hR.z
      refine ev_iret dX11_setState_12 rfl (rfl) ⟨Nat.le_of_ble_eq_true rfl, Nat.le_of_ble_eq_true rfl⟩ ?_
      have W8 : FX o (o + 31) (o + 31) M Mf := ⟨by rw [eMf]; simp only [List.length_set], fun j hj1 hj2 => by rw [eMf, ev_sn (by omega)]⟩
      have e9 : sSet S a = ((1, 0), S) := by simp [sSet, ia, q4]
      rw [e9]
      exact ⟨rfl, _, _, ⟨ff, ⟨hR.p.1, hR.p.2.1, hR.p.2.2.1, hR.p.2.2.2.1, hR.p.2.2.2.2.1, hR.p.2.2.2.2.2.1, hR.p.2.2.2.2.2.2.1, hR.p.2.2.2.2.2.2.2.1, hR.p.2.2.2.2.2.2.2.2.1, hR.p.2.2.2.2.2.2.2.2.2⟩, (hR.T.fx W8 (by omega) (by omega)), (hR.H.fx W8 (by omega)), (hR.y.fx W8 (by omega)), (hR.G.fx W8 (by omega) (by omega)), (hR.a.fx W8 (by omega)), (hR.u.fx W8 (by omega)), (hR.x.fx W8 (by omega)), (hR.k.fx W8 (by omega)), (hR.s.fx W8 (by omega))⟩, rfl, (FX.fr (lo := o + 1) (hi := o + 31) (W8.to (by omega) (by omega)) (by omega))⟩

