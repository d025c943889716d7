theorem cw_set {x : Cf} {k : Nat} {w : List Nat} : cw (cset x k w) k = w := by
  unfold cw cset
  by_cases h : k = 0
  · rw [if_pos h, if_pos h]
  · rw [if_neg h, if_neg h]
set_option maxHeartbeats 4000000 in
set_option maxRecDepth 100000 in
theorem r_put {l : Launch} (hl : l.stackTraces = false) {M : ev_M} (o : Nat) (S : St) (hS : okS S) (hT10 : S.T.length ≤ 10) (hG3 : S.G.length ≤ 3) (hH20 : S.H.length ≤ 20) (zi : Nat → Int32) (zl : Nat → Int64) (hR : RR M o S zi zl) (a : Int32) (b : Int32) : ev_Mt l m_X11_put [.ref (o), .int (a), .int (b)] M (fun r M1 => r = .inl (some (.int (sPut S a b).1.2)) ∧ ∃ zi' zl', RR M1 o (sPut S a b).2 zi' zl' ∧ zi' 0 = nI (sPut S a b).1.1 ∧ Fr o (o + 31) M M1) := by
  rcases inR_c a 2 (by omega) with ⟨k, hk, rfl⟩ | ia
  · have jk : inR (nI k) 2 = true := inR_n hk (by omega)
    have tk : (nI k).toNatClampNeg = k := nI_clamp (by omega)
    have hcw := cw_ok hS.x k
    have hcw9 : (cw S.x k).length ≤ 10 := hcw.2
    have hcv := cw_ok hS.x (1 - k)
    have hcv9 : (cw S.x (1 - k)).length ≤ 10 := hcv.2
    rcases inR_c b 3 (by omega) with ⟨j, hj, rfl⟩ | ib
    · have jj : inR (nI j) 3 = true := inR_n hj (by omega)
      have tj : (nI j).toNatClampNeg = j := nI_clamp (by omega)
      refine ev_body hl rfl (by decide +kernel) (Nat.le_of_ble_eq_true rfl) ?_
      show ev_ l m_X11_put 0 0 0 [some (.ref (o)), some (.int (nI k)), some (.int (nI j))] [] M _
      refine ev_blk (B := [(.iload_n 1, 1)]) (pe := 1) (ls' := [some (.ref (o)), some (.int (nI k)), some (.int (nI j))]) (st' := [.int (nI k)]) ⟨dX11_put_0, rfl⟩ rfl ?_
      refine ev_cSv Y_X11_isChannel L_RX11_138 dX11_put_1 ⟨Nat.le_of_ble_eq_true rfl, Nat.le_of_ble_eq_true rfl, Nat.le_of_ble_eq_true rfl, Nat.le_of_ble_eq_true rfl, Nat.le_of_ble_eq_true rfl⟩ (as := [.int (nI k)]) rfl rfl (c_R_isChannel hl (nI k)) ?_
      refine ev_ifB_ne dX11_put_4 (tgt := 13) (by decide) (fun q4 => ?_) (fun q4 => ?_)
      · refine ev_blk (B := [(.iload_n 2, 1)]) (pe := 14) (ls' := [some (.ref (o)), some (.int (nI k)), some (.int (nI j))]) (st' := [.int (nI j)]) ⟨dX11_put_13, rfl⟩ rfl ?_
        refine ev_cSv Y_X11_isLetter L_RX11_141 dX11_put_14 ⟨Nat.le_of_ble_eq_true rfl, Nat.le_of_ble_eq_true rfl, Nat.le_of_ble_eq_true rfl, Nat.le_of_ble_eq_true rfl, Nat.le_of_ble_eq_true rfl⟩ (as := [.int (nI j)]) rfl rfl (c_R_isLetter hl (nI j)) ?_
        refine ev_ifB_ne dX11_put_17 (tgt := 26) (by decide) (fun q17 => ?_) (fun q17 => ?_)
        · refine ev_blk (B := [(.aload_n 0, 1), (.iload_n 1, 1)]) (pe := 28) (ls' := [some (.ref (o)), some (.int (nI k)), some (.int (nI j))]) (st' := [.int (nI k), .ref (o)]) ⟨dX11_put_26, dX11_put_27, rfl⟩ rfl ?_
          refine ev_cVv Y_X11_wordOf L_RX11_172 dX11_put_28 ⟨Nat.le_of_ble_eq_true rfl, Nat.le_of_ble_eq_true rfl, Nat.le_of_ble_eq_true rfl, Nat.le_of_ble_eq_true rfl, Nat.le_of_ble_eq_true rfl⟩ hR.z (as := [.int (nI k)]) rfl rfl (c_R_wordOf hl o (zi) (zl) hR.z S.x hR.p.2.2.2.1 hR.p.2.2.2.2.1 k hk) ?_
          refine ev_cSv Y_X11_lengthOf L_RX11_111 dX11_put_31 ⟨Nat.le_of_ble_eq_true rfl, Nat.le_of_ble_eq_true rfl, Nat.le_of_ble_eq_true rfl, Nat.le_of_ble_eq_true rfl, Nat.le_of_ble_eq_true rfl⟩ (as := [.long (e2 (cw S.x k))]) rfl rfl (c_R_lengthOf hl ((cw S.x k)) hcw.1 (Nat.le_trans hcw.2 (by decide))) ?_
          refine ev_blk (B := [(.bipush 10, 2)]) (pe := 36) (ls' := [some (.ref (o)), some (.int (nI k)), some (.int (nI j))]) (st' := [.int (nI 10), .int (nI (((cw S.x k)).length))]) ⟨dX11_put_34, rfl⟩ rfl ?_
          refine ev_iN_ne dX11_put_36 (tgt := 45) (by decide) (by omega) (by omega) (fun q36 => ?_) (fun q36 => ?_)
          · refine ev_blk (B := [(.aload_n 0, 1), (.iconst 0, 1)]) (pe := 47) (ls' := [some (.ref (o)), some (.int (nI k)), some (.int (nI j))]) (st' := [.int (nI 0), .ref (o)]) ⟨dX11_put_45, dX11_put_46, rfl⟩ rfl ?_
            refine ev_put F_RX11_106 dX11_put_47 hR.z (Nat.le_of_ble_eq_true rfl) (fun _ _ => ⟨rfl, rfl⟩) ?_
            rw [zs_0]
            refine ev_nm (M0 := M.set (o) (.inr (10, zo o (ui (zi) 0 (nI 0)) (zl)))) (fun M1 eM1 => ?_)
            have f2 : M1[o]? = some (.inr (10, zo o (ui (zi) 0 (nI 0)) (zl))) := by rw [eM1]; exact ev_sg hR.z
            refine ev_blk (B := [(.aload_n 0, 1), (.iload_n 1, 1)]) (pe := 52) (ls' := [some (.ref (o)), some (.int (nI k)), some (.int (nI j))]) (st' := [.int (nI k), .ref (o)]) ⟨dX11_put_50, dX11_put_51, rfl⟩ rfl ?_
            refine ev_ldc2 K_RX11_109 dX11_put_52 ?_
            refine ev_blk (B := [(.aload_n 0, 1), (.iload_n 1, 1)]) (pe := 57) (ls' := [some (.ref (o)), some (.int (nI k)), some (.int (nI j))]) (st' := [.int (nI k), .ref (o), .long (4), .int (nI k), .ref (o)]) ⟨dX11_put_55, dX11_put_56, rfl⟩ rfl ?_
            refine ev_cVv Y_X11_wordOf L_RX11_172 dX11_put_57 ⟨Nat.le_of_ble_eq_true rfl, Nat.le_of_ble_eq_true rfl, Nat.le_of_ble_eq_true rfl, Nat.le_of_ble_eq_true rfl, Nat.le_of_ble_eq_true rfl⟩ f2 (as := [.int (nI k)]) rfl rfl (c_R_wordOf hl o (ui (zi) 0 (nI 0)) (zl) f2 S.x hR.p.2.2.2.1 hR.p.2.2.2.2.1 k hk) ?_
            refine ev_blk (B := [(.lmul, 1), (.iload_n 2, 1), (.i2l, 1), (.ladd, 1), (.lconst 1, 1), (.ladd, 1)]) (pe := 66) (ls' := [some (.ref (o)), some (.int (nI k)), some (.int (nI j))]) (st' := [.long (e2 (cw S.x k ++ [j])), .int (nI k), .ref (o)]) ⟨dX11_put_60, dX11_put_61, dX11_put_62, dX11_put_63, dX11_put_64, dX11_put_65, rfl⟩ (by show some (([some (.ref (o)), some (.int (nI k)), some (.int (nI j))] : ev_L), ([.long ((((4) * (e2 (cw S.x k))) + ((nI j).toInt64)) + (1)), .int (nI k), .ref (o)] : List Value)) = _; rw [nI_l (show j < 2 ^ 31 by omega), show (((4) * (e2 (cw S.x k))) + (lN (j))) + (1) = e2 (cw S.x k ++ [j]) from rs_c hj]) ?_
            refine ev_cV0 Y_X11_setsWord L_RX11_175 dX11_put_66 ⟨Nat.le_of_ble_eq_true rfl, Nat.le_of_ble_eq_true rfl, Nat.le_of_ble_eq_true rfl, Nat.le_of_ble_eq_true rfl, Nat.le_of_ble_eq_true rfl⟩ f2 (as := [.int (nI k), .long (e2 (cw S.x k ++ [j]))]) rfl rfl (c_R_setsWord hl o (ui (zi) 0 (nI 0)) (zl) f2 k hk ((cw S.x k ++ [j]))) ?_
            obtain ⟨zl2, hz2⟩ : ∃ z, z = (if k = 0 then ul (zl) 5 (e2 ((cw S.x k ++ [j]))) else ul (zl) 6 (e2 ((cw S.x k ++ [j])))) := ⟨_, rfl⟩
            rw [← hz2]
            refine ev_nm (M0 := M1.set o (.inr (10, zo o (ui (zi) 0 (nI 0)) zl2))) (fun Mf eMf => ?_)
            have ff : Mf[o]? = some (.inr (10, zo o (ui (zi) 0 (nI 0)) zl2)) := by rw [eMf]; exact ev_sg f2
            obtain ⟨z25, z26, z2n⟩ := sw_zl hz2 hR.p.2.2.2.1 hR.p.2.2.2.2.1
            refine ev_blk (B := [(.aload_n 0, 1), (.iconst 0, 1)]) (pe := 71) (ls' := [some (.ref (o)), some (.int (nI k)), some (.int (nI j))]) (st' := [.int (nI 0), .ref (o)]) ⟨dX11_put_69, dX11_put_70, rfl⟩ rfl ?_
            refine ev_put F_RX11_166 dX11_put_71 ff (Nat.le_of_ble_eq_true rfl) (fun _ _ => ⟨rfl, rfl⟩) ?_
            rw [zs_4]
            refine ev_nm (M0 := Mf.set (o) (.inr (10, zo o (ui (ui (zi) 0 (nI 0)) 4 (nI 0)) (zl2)))) (fun M3 eM3 => ?_)
            have f4 : M3[o]? = some (.inr (10, zo o (ui (ui (zi) 0 (nI 0)) 4 (nI 0)) (zl2))) := by rw [eM3]; exact ev_sg ff
            refine ev_blk (B := [(.aload_n 0, 1), (.iload_n 1, 1)]) (pe := 76) (ls' := [some (.ref (o)), some (.int (nI k)), some (.int (nI j))]) (st' := [.int (nI k), .ref (o)]) ⟨dX11_put_74, dX11_put_75, rfl⟩ rfl ?_
            refine ev_cVv Y_X11_wordOf L_RX11_172 dX11_put_76 ⟨Nat.le_of_ble_eq_true rfl, Nat.le_of_ble_eq_true rfl, Nat.le_of_ble_eq_true rfl, Nat.le_of_ble_eq_true rfl, Nat.le_of_ble_eq_true rfl⟩ f4 (as := [.int (nI k)]) rfl rfl (c_R_wordOf hl o (ui (ui (zi) 0 (nI 0)) 4 (nI 0)) (zl2) f4 (cset S.x k ((cw S.x k ++ [j]))) z25 z26 k hk) ?_
            have hcz : wk (cw (cset S.x k (cw S.x k ++ [j])) k) ∧ (cw (cset S.x k (cw S.x k ++ [j])) k).length ≤ 25 := by
              rw [cw_set]
              refine ⟨fun z hz => ?_, by rw [List.length_append, List.length_singleton]; omega⟩
              rcases List.mem_append.mp hz with q | q
              · exact hcw.1 z q
              · rw [List.mem_singleton.mp q]; exact hj
            refine ev_cSv Y_X11_lengthOf L_RX11_111 dX11_put_79 ⟨Nat.le_of_ble_eq_true rfl, Nat.le_of_ble_eq_true rfl, Nat.le_of_ble_eq_true rfl, Nat.le_of_ble_eq_true rfl, Nat.le_of_ble_eq_true rfl⟩ (as := [.long (e2 (cw (cset S.x k ((cw S.x k ++ [j]))) k))]) rfl rfl (c_R_lengthOf hl ((cw (cset S.x k ((cw S.x k ++ [j]))) k)) hcz.1 hcz.2) ?_
            refine ev_iret dX11_put_82 rfl (rfl) ⟨Nat.le_of_ble_eq_true rfl, Nat.le_of_ble_eq_true rfl⟩ ?_
            have W5 : FX o (o + 31) (o + 31) M M3 := ⟨by rw [eM3, eMf, eM1]; simp only [List.length_set], fun j hj1 hj2 => by rw [eM3, ev_sn (by omega), eMf, ev_sn (by omega), eM1, ev_sn (by omega)]⟩
            have e9 : sPut S (nI k) (nI j) = ((0, nI ((cw S.x k).length + 1)), (St.mk S.T (cset S.x k (cw S.x k ++ [j])) S.G ([]) S.n S.t S.f S.tk S.T9 S.x9 S.G9)) := by
              unfold sPut tN
              rw [tk, tj, if_neg (show ¬ inR (nI k) 2 = false by rw [jk]; decide), if_neg (show ¬ inR (nI j) 3 = false by rw [jj]; decide), if_neg (show ¬ 10 ≤ (cw S.x k).length by omega)]
            rw [e9]
            exact ⟨(by rw [cw_set, List.length_append]; rfl), _, _, ⟨f4, ⟨hR.p.1, (sw_3 hR.p.2.1), rfl, z25, z26, hR.p.2.2.2.2.2.1, hR.p.2.2.2.2.2.2.1, hR.p.2.2.2.2.2.2.2.1, hR.p.2.2.2.2.2.2.2.2.1, (fun z => pz_l (hR.p.2.2.2.2.2.2.2.2.2 z) (z2n 53 (by decide) (by decide)) (z2n 54 (by decide) (by decide)))⟩, (hR.T.fx W5 (by omega) (by omega)), PH.nil (hR.H.fx W5 (by omega)), (hR.y.fx W5 (by omega)), (hR.G.fx W5 (by omega) (by omega)), (hR.a.fx W5 (by omega)), (hR.u.fx W5 (by omega)), (hR.x.fx W5 (by omega)), (hR.k.fx W5 (by omega)), (hR.s.fx W5 (by omega))⟩, rfl, (FX.fr (lo := o + 1) (hi := o + 31) (W5.to (by omega) (by omega)) (by omega) (by omega))⟩
          · refine ev_blk (B := [(.aload_n 0, 1), (.iconst 3, 1)]) (pe := 41) (ls' := [some (.ref (o)), some (.int (nI k)), some (.int (nI j))]) (st' := [.int (nI 3), .ref (o)]) ⟨dX11_put_39, dX11_put_40, rfl⟩ rfl ?_
            refine ev_cVv Y_X11_fails L_RX11_144 dX11_put_41 ⟨Nat.le_of_ble_eq_true rfl, Nat.le_of_ble_eq_true rfl, Nat.le_of_ble_eq_true rfl, Nat.le_of_ble_eq_true rfl, Nat.le_of_ble_eq_true rfl⟩ hR.z (as := [.int (nI 3)]) rfl rfl (c_R_fails hl o (zi) (zl) hR.z 3) ?_
            refine ev_nm (M0 := M.set o (.inr (10, zo o (ui (zi) 0 (nI 3)) (zl)))) (fun Mf eMf => ?_)
            have ff : Mf[o]? = some (.inr (10, zo o (ui (zi) 0 (nI 3)) (zl))) := by rw [eMf]; exact ev_sg hR.z
            refine ev_iret dX11_put_44 rfl (rfl) ⟨Nat.le_of_ble_eq_true rfl, Nat.le_of_ble_eq_true rfl⟩ ?_
            have W6 : FX o (o + 31) (o + 31) M Mf := ⟨by rw [eMf]; simp only [List.length_set], fun j hj1 hj2 => by rw [eMf, ev_sn (by omega)]⟩
            have e9 : sPut S (nI k) (nI j) = ((3, 0), S) := by
              unfold sPut tN
              rw [tk, tj, if_neg (show ¬ inR (nI k) 2 = false by rw [jk]; decide), if_neg (show ¬ inR (nI j) 3 = false by rw [jj]; decide), if_pos (show 10 ≤ (cw S.x k).length by omega)]
            rw [e9]
            exact ⟨rfl, _, _, ⟨ff, ⟨hR.p.1, hR.p.2.1, hR.p.2.2.1, hR.p.2.2.2.1, hR.p.2.2.2.2.1, hR.p.2.2.2.2.2.1, hR.p.2.2.2.2.2.2.1, hR.p.2.2.2.2.2.2.2.1, hR.p.2.2.2.2.2.2.2.2.1, hR.p.2.2.2.2.2.2.2.2.2⟩, (hR.T.fx W6 (by omega) (by omega)), (hR.H.fx W6 (by omega)), (hR.y.fx W6 (by omega)), (hR.G.fx W6 (by omega) (by omega)), (hR.a.fx W6 (by omega)), (hR.u.fx W6 (by omega)), (hR.x.fx W6 (by omega)), (hR.k.fx W6 (by omega)), (hR.s.fx W6 (by omega))⟩, rfl, (FX.fr (lo := o + 1) (hi := o + 31) (W6.to (by omega) (by omega)) (by omega) (by omega))⟩
        · exact absurd (jj.symm.trans q17) (by decide)
      · exact absurd (jk.symm.trans q4) (by decide)
    · have ib9 := ib
      refine ev_body hl rfl (by decide +kernel) (Nat.le_of_ble_eq_true rfl) ?_
      show ev_ l m_X11_put 0 0 0 [some (.ref (o)), some (.int (nI k)), some (.int (b))] [] M _
      refine ev_blk (B := [(.iload_n 1, 1)]) (pe := 1) (ls' := [some (.ref (o)), some (.int (nI k)), some (.int (b))]) (st' := [.int (nI k)]) ⟨dX11_put_0, rfl⟩ rfl ?_
      refine ev_cSv Y_X11_isChannel L_RX11_138 dX11_put_1 ⟨Nat.le_of_ble_eq_true rfl, Nat.le_of_ble_eq_true rfl, Nat.le_of_ble_eq_true rfl, Nat.le_of_ble_eq_true rfl, Nat.le_of_ble_eq_true rfl⟩ (as := [.int (nI k)]) rfl rfl (c_R_isChannel hl (nI k)) ?_
      refine ev_ifB_ne dX11_put_4 (tgt := 13) (by decide) (fun q4 => ?_) (fun q4 => ?_)
      · refine ev_blk (B := [(.iload_n 2, 1)]) (pe := 14) (ls' := [some (.ref (o)), some (.int (nI k)), some (.int (b))]) (st' := [.int (b)]) ⟨dX11_put_13, rfl⟩ rfl ?_
        refine ev_cSv Y_X11_isLetter L_RX11_141 dX11_put_14 ⟨Nat.le_of_ble_eq_true rfl, Nat.le_of_ble_eq_true rfl, Nat.le_of_ble_eq_true rfl, Nat.le_of_ble_eq_true rfl, Nat.le_of_ble_eq_true rfl⟩ (as := [.int (b)]) rfl rfl (c_R_isLetter hl b) ?_
        refine ev_ifB_ne dX11_put_17 (tgt := 26) (by decide) (fun q17 => ?_) (fun q17 => ?_)
        · exact absurd (ib.symm.trans q17) (by decide)
        · refine ev_blk (B := [(.aload_n 0, 1), (.iconst 2, 1)]) (pe := 22) (ls' := [some (.ref (o)), some (.int (nI k)), some (.int (b))]) (st' := [.int (nI 2), .ref (o)]) ⟨dX11_put_20, dX11_put_21, rfl⟩ rfl ?_
          refine ev_cVv Y_X11_fails L_RX11_144 dX11_put_22 ⟨Nat.le_of_ble_eq_true rfl, Nat.le_of_ble_eq_true rfl, Nat.le_of_ble_eq_true rfl, Nat.le_of_ble_eq_true rfl, Nat.le_of_ble_eq_true rfl⟩ hR.z (as := [.int (nI 2)]) rfl rfl (c_R_fails hl o (zi) (zl) hR.z 2) ?_
          refine ev_nm (M0 := M.set o (.inr (10, zo o (ui (zi) 0 (nI 2)) (zl)))) (fun Mf eMf => ?_)
          have ff : Mf[o]? = some (.inr (10, zo o (ui (zi) 0 (nI 2)) (zl))) := by rw [eMf]; exact ev_sg hR.z
          refine ev_iret dX11_put_25 rfl (rfl) ⟨Nat.le_of_ble_eq_true rfl, Nat.le_of_ble_eq_true rfl⟩ ?_
          have W7 : FX o (o + 31) (o + 31) M Mf := ⟨by rw [eMf]; simp only [List.length_set], fun j hj1 hj2 => by rw [eMf, ev_sn (by omega)]⟩
          have e9 : sPut S (nI k) b = ((2, 0), S) := by simp [sPut, jk, tk, ib, q4, q17]
          rw [e9]
          exact ⟨rfl, _, _, ⟨ff, ⟨hR.p.1, hR.p.2.1, hR.p.2.2.1, hR.p.2.2.2.1, hR.p.2.2.2.2.1, hR.p.2.2.2.2.2.1, hR.p.2.2.2.2.2.2.1, hR.p.2.2.2.2.2.2.2.1, hR.p.2.2.2.2.2.2.2.2.1, hR.p.2.2.2.2.2.2.2.2.2⟩, (hR.T.fx W7 (by omega) (by omega)), (hR.H.fx W7 (by omega)), (hR.y.fx W7 (by omega)), (hR.G.fx W7 (by omega) (by omega)), (hR.a.fx W7 (by omega)), (hR.u.fx W7 (by omega)), (hR.x.fx W7 (by omega)), (hR.k.fx W7 (by omega)), (hR.s.fx W7 (by omega))⟩, rfl, (FX.fr (lo := o + 1) (hi := o + 31) (W7.to (by omega) (by omega)) (by omega) (by omega))⟩
      · exact absurd (jk.symm.trans q4) (by decide)
  · have ia9 := ia
    refine ev_body hl rfl (by decide +kernel) (Nat.le_of_ble_eq_true rfl) ?_
    show ev_ l m_X11_put 0 0 0 [some (.ref (o)), some (.int (a)), some (.int (b))] [] M _
    refine ev_blk (B := [(.iload_n 1, 1)]) (pe := 1) (ls' := [some (.ref (o)), some (.int (a)), some (.int (b))]) (st' := [.int (a)]) ⟨dX11_put_0, rfl⟩ rfl ?_
    refine ev_cSv Y_X11_isChannel L_RX11_138 dX11_put_1 ⟨Nat.le_of_ble_eq_true rfl, Nat.le_of_ble_eq_true rfl, Nat.le_of_ble_eq_true rfl, Nat.le_of_ble_eq_true rfl, Nat.le_of_ble_eq_true rfl⟩ (as := [.int (a)]) rfl rfl (c_R_isChannel hl a) ?_
    refine ev_ifB_ne dX11_put_4 (tgt := 13) (by decide) (fun q4 => ?_) (fun q4 => ?_)
    · exact absurd (ia.symm.trans q4) (by decide)
    · refine ev_blk (B := [(.aload_n 0, 1), (.iconst 1, 1)]) (pe := 9) (ls' := [some (.ref (o)), some (.int (a)), some (.int (b))]) (st' := [.int (nI 1), .ref (o)]) ⟨dX11_put_7, dX11_put_8, rfl⟩ rfl ?_
      refine ev_cVv Y_X11_fails L_RX11_144 dX11_put_9 ⟨Nat.le_of_ble_eq_true rfl, Nat.le_of_ble_eq_true rfl, Nat.le_of_ble_eq_true rfl, Nat.le_of_ble_eq_true rfl, Nat.le_of_ble_eq_true rfl⟩ hR.z (as := [.int (nI 1)]) rfl rfl (c_R_fails hl o (zi) (zl) hR.z 1) ?_
      refine ev_nm (M0 := M.set o (.inr (10, zo o (ui (zi) 0 (nI 1)) (zl)))) (fun Mf eMf => ?_)
      have ff : Mf[o]? = some (.inr (10, zo o (ui (zi) 0 (nI 1)) (zl))) := by rw [eMf]; exact ev_sg hR.z
      refine ev_iret dX11_put_12 rfl (rfl) ⟨Nat.le_of_ble_eq_true rfl, Nat.le_of_ble_eq_true rfl⟩ ?_
      have W8 : FX o (o + 31) (o + 31) M Mf := ⟨by rw [eMf]; simp only [List.length_set], fun j hj1 hj2 => by rw [eMf, ev_sn (by omega)]⟩
      have e9 : sPut S a b = ((1, 0), S) := by simp [sPut, ia, q4]
      rw [e9]
      exact ⟨rfl, _, _, ⟨ff, ⟨hR.p.1, hR.p.2.1, hR.p.2.2.1, hR.p.2.2.2.1, hR.p.2.2.2.2.1, hR.p.2.2.2.2.2.1, hR.p.2.2.2.2.2.2.1, hR.p.2.2.2.2.2.2.2.1, hR.p.2.2.2.2.2.2.2.2.1, hR.p.2.2.2.2.2.2.2.2.2⟩, (hR.T.fx W8 (by omega) (by omega)), (hR.H.fx W8 (by omega)), (hR.y.fx W8 (by omega)), (hR.G.fx W8 (by omega) (by omega)), (hR.a.fx W8 (by omega)), (hR.u.fx W8 (by omega)), (hR.x.fx W8 (by omega)), (hR.k.fx W8 (by omega)), (hR.s.fx W8 (by omega))⟩, rfl, (FX.fr (lo := o + 1) (hi := o + 31) (W8.to (by omega) (by omega)) (by omega) (by omega))⟩

set_option maxHeartbeats 4000000 in
set_option maxRecDepth 100000 in
theorem r_letter {l : Launch} (hl : l.stackTraces = false) {M : ev_M} (o : Nat) (S : St) (hS : okS S) (hT10 : S.T.length ≤ 10) (hG3 : S.G.length ≤ 3) (hH20 : S.H.length ≤ 20) (zi : Nat → Int32) (zl : Nat → Int64) (hR : RR M o S zi zl) (a : Int32) (b : Int32) : ev_Mt l m_X11_letter [.ref (o), .int (a), .int (b)] M (fun r M1 => r = .inl (some (.int (sLet S a b).2)) ∧ ∃ zi' zl', RR M1 o S zi' zl' ∧ zi' 0 = nI (sLet S a b).1 ∧ Fr o (o + 31) M M1) := by
  rcases inR_c a 2 (by omega) with ⟨k, hk, rfl⟩ | ia
  · have jk : inR (nI k) 2 = true := inR_n hk (by omega)
    have tk : (nI k).toNatClampNeg = k := nI_clamp (by omega)
    have hcw := cw_ok hS.x k
    have hcw9 : (cw S.x k).length ≤ 10 := hcw.2
    have hcv := cw_ok hS.x (1 - k)
    have hcv9 : (cw S.x (1 - k)).length ≤ 10 := hcv.2
    rcases inR_c b ((cw S.x k).length) (by omega) with ⟨j, hj, rfl⟩ | ib
    · have jj : inR (nI j) ((cw S.x k).length) = true := inR_n hj (by omega)
      have tj : (nI j).toNatClampNeg = j := nI_clamp (by omega)
      refine ev_body hl rfl (by decide +kernel) (Nat.le_of_ble_eq_true rfl) ?_
      show ev_ l m_X11_letter 0 0 0 [some (.ref (o)), some (.int (nI k)), some (.int (nI j))] [] M _
      refine ev_blk (B := [(.iload_n 1, 1)]) (pe := 1) (ls' := [some (.ref (o)), some (.int (nI k)), some (.int (nI j))]) (st' := [.int (nI k)]) ⟨dX11_letter_0, rfl⟩ rfl ?_
      refine ev_cSv Y_X11_isChannel L_RX11_138 dX11_letter_1 ⟨Nat.le_of_ble_eq_true rfl, Nat.le_of_ble_eq_true rfl, Nat.le_of_ble_eq_true rfl, Nat.le_of_ble_eq_true rfl, Nat.le_of_ble_eq_true rfl⟩ (as := [.int (nI k)]) rfl rfl (c_R_isChannel hl (nI k)) ?_
      refine ev_ifB_ne dX11_letter_4 (tgt := 13) (by decide) (fun q4 => ?_) (fun q4 => ?_)
      · refine ev_blk (B := [(.iload_n 2, 1), (.iconst 0, 1), (.aload_n 0, 1), (.iload_n 1, 1)]) (pe := 17) (ls' := [some (.ref (o)), some (.int (nI k)), some (.int (nI j))]) (st' := [.int (nI k), .ref (o), .int (nI 0), .int (nI j)]) ⟨dX11_letter_13, dX11_letter_14, dX11_letter_15, dX11_letter_16, rfl⟩ rfl ?_
        refine ev_cVv Y_X11_wordOf L_RX11_172 dX11_letter_17 ⟨Nat.le_of_ble_eq_true rfl, Nat.le_of_ble_eq_true rfl, Nat.le_of_ble_eq_true rfl, Nat.le_of_ble_eq_true rfl, Nat.le_of_ble_eq_true rfl⟩ hR.z (as := [.int (nI k)]) rfl rfl (c_R_wordOf hl o (zi) (zl) hR.z S.x hR.p.2.2.2.1 hR.p.2.2.2.2.1 k hk) ?_
        refine ev_cSv Y_X11_lengthOf L_RX11_111 dX11_letter_20 ⟨Nat.le_of_ble_eq_true rfl, Nat.le_of_ble_eq_true rfl, Nat.le_of_ble_eq_true rfl, Nat.le_of_ble_eq_true rfl, Nat.le_of_ble_eq_true rfl⟩ (as := [.long (e2 (cw S.x k))]) rfl rfl (c_R_lengthOf hl ((cw S.x k)) hcw.1 (Nat.le_trans hcw.2 (by decide))) ?_
        refine ev_blk (B := [(.iconst 1, 1), (.isub, 1)]) (pe := 25) (ls' := [some (.ref (o)), some (.int (nI k)), some (.int (nI j))]) (st' := [.int (nI ((((cw S.x k)).length) - 1)), .int (nI 0), .int (nI j)]) ⟨dX11_letter_23, dX11_letter_24, rfl⟩ (by show some (([some (.ref (o)), some (.int (nI k)), some (.int (nI j))] : ev_L), ([.int ((nI (((cw S.x k)).length)) - (nI 1)), .int (nI 0), .int (nI j)] : List Value)) = _; rw [pk_sub (show 1 ≤ (((cw S.x k)).length) by omega)]) ?_
        refine ev_cSv Y_X11_isBetween L_RX11_134 dX11_letter_25 ⟨Nat.le_of_ble_eq_true rfl, Nat.le_of_ble_eq_true rfl, Nat.le_of_ble_eq_true rfl, Nat.le_of_ble_eq_true rfl, Nat.le_of_ble_eq_true rfl⟩ (as := [.int (nI j), .int (nI 0), .int (nI ((((cw S.x k)).length) - 1))]) rfl rfl (c_R_isBT hl _ _ _ (nI_le (Nat.zero_le _) (by omega)) (nI_le (by omega) (by omega))) ?_
        refine ev_ifB_ne dX11_letter_28 (tgt := 37) (by decide) (fun q28 => ?_) (fun q28 => ?_)
        · refine ev_blk (B := [(.aload_n 0, 1), (.iconst 0, 1)]) (pe := 39) (ls' := [some (.ref (o)), some (.int (nI k)), some (.int (nI j))]) (st' := [.int (nI 0), .ref (o)]) ⟨dX11_letter_37, dX11_letter_38, rfl⟩ rfl ?_
          refine ev_put F_RX11_106 dX11_letter_39 hR.z (Nat.le_of_ble_eq_true rfl) (fun _ _ => ⟨rfl, rfl⟩) ?_
          rw [zs_0]
          refine ev_nm (M0 := M.set (o) (.inr (10, zo o (ui (zi) 0 (nI 0)) (zl)))) (fun M1 eM1 => ?_)
          have f2 : M1[o]? = some (.inr (10, zo o (ui (zi) 0 (nI 0)) (zl))) := by rw [eM1]; exact ev_sg hR.z
          refine ev_blk (B := [(.aload_n 0, 1), (.iload_n 1, 1)]) (pe := 44) (ls' := [some (.ref (o)), some (.int (nI k)), some (.int (nI j))]) (st' := [.int (nI k), .ref (o)]) ⟨dX11_letter_42, dX11_letter_43, rfl⟩ rfl ?_
          refine ev_cVv Y_X11_wordOf L_RX11_172 dX11_letter_44 ⟨Nat.le_of_ble_eq_true rfl, Nat.le_of_ble_eq_true rfl, Nat.le_of_ble_eq_true rfl, Nat.le_of_ble_eq_true rfl, Nat.le_of_ble_eq_true rfl⟩ f2 (as := [.int (nI k)]) rfl rfl (c_R_wordOf hl o (ui (zi) 0 (nI 0)) (zl) f2 S.x hR.p.2.2.2.1 hR.p.2.2.2.2.1 k hk) ?_
          refine ev_blk (B := [(.iload_n 2, 1)]) (pe := 48) (ls' := [some (.ref (o)), some (.int (nI k)), some (.int (nI j))]) (st' := [.int (nI j), .long (e2 (cw S.x k))]) ⟨dX11_letter_47, rfl⟩ rfl ?_
          refine ev_cSv Y_X11_letterAt L_RX11_119 dX11_letter_48 ⟨Nat.le_of_ble_eq_true rfl, Nat.le_of_ble_eq_true rfl, Nat.le_of_ble_eq_true rfl, Nat.le_of_ble_eq_true rfl, Nat.le_of_ble_eq_true rfl⟩ (as := [.long (e2 (cw S.x k)), .int (nI j)]) rfl rfl (c_R_letterAt hl ((cw S.x k)) hcw.1 (Nat.le_trans hcw.2 (by decide)) j hj) ?_
          refine ev_iret dX11_letter_51 rfl (rfl) ⟨Nat.le_of_ble_eq_true rfl, Nat.le_of_ble_eq_true rfl⟩ ?_
          have W3 : FX o (o + 31) (o + 31) M M1 := ⟨by rw [eM1]; simp only [List.length_set], fun j hj1 hj2 => by rw [eM1, ev_sn (by omega)]⟩
          have e9 : sLet S (nI k) (nI j) = (0, nI ((cw S.x k).getD j 0)) := by simp [sLet, jk, tk, jj, tj]
          rw [e9]
          exact ⟨(by rw [gd_at hj]), _, _, ⟨f2, ⟨hR.p.1, hR.p.2.1, hR.p.2.2.1, hR.p.2.2.2.1, hR.p.2.2.2.2.1, hR.p.2.2.2.2.2.1, hR.p.2.2.2.2.2.2.1, hR.p.2.2.2.2.2.2.2.1, hR.p.2.2.2.2.2.2.2.2.1, hR.p.2.2.2.2.2.2.2.2.2⟩, (hR.T.fx W3 (by omega) (by omega)), (hR.H.fx W3 (by omega)), (hR.y.fx W3 (by omega)), (hR.G.fx W3 (by omega) (by omega)), (hR.a.fx W3 (by omega)), (hR.u.fx W3 (by omega)), (hR.x.fx W3 (by omega)), (hR.k.fx W3 (by omega)), (hR.s.fx W3 (by omega))⟩, rfl, (FX.fr (lo := o + 1) (hi := o + 31) (W3.to (by omega) (by omega)) (by omega) (by omega))⟩
        · exact absurd q28 (by decide)
      · exact absurd (jk.symm.trans q4) (by decide)
    · have ib9 := ib
      refine ev_body hl rfl (by decide +kernel) (Nat.le_of_ble_eq_true rfl) ?_
      show ev_ l m_X11_letter 0 0 0 [some (.ref (o)), some (.int (nI k)), some (.int (b))] [] M _
      refine ev_blk (B := [(.iload_n 1, 1)]) (pe := 1) (ls' := [some (.ref (o)), some (.int (nI k)), some (.int (b))]) (st' := [.int (nI k)]) ⟨dX11_letter_0, rfl⟩ rfl ?_
      refine ev_cSv Y_X11_isChannel L_RX11_138 dX11_letter_1 ⟨Nat.le_of_ble_eq_true rfl, Nat.le_of_ble_eq_true rfl, Nat.le_of_ble_eq_true rfl, Nat.le_of_ble_eq_true rfl, Nat.le_of_ble_eq_true rfl⟩ (as := [.int (nI k)]) rfl rfl (c_R_isChannel hl (nI k)) ?_
      refine ev_ifB_ne dX11_letter_4 (tgt := 13) (by decide) (fun q4 => ?_) (fun q4 => ?_)
      · refine ev_blk (B := [(.iload_n 2, 1), (.iconst 0, 1), (.aload_n 0, 1), (.iload_n 1, 1)]) (pe := 17) (ls' := [some (.ref (o)), some (.int (nI k)), some (.int (b))]) (st' := [.int (nI k), .ref (o), .int (nI 0), .int (b)]) ⟨dX11_letter_13, dX11_letter_14, dX11_letter_15, dX11_letter_16, rfl⟩ rfl ?_
        refine ev_cVv Y_X11_wordOf L_RX11_172 dX11_letter_17 ⟨Nat.le_of_ble_eq_true rfl, Nat.le_of_ble_eq_true rfl, Nat.le_of_ble_eq_true rfl, Nat.le_of_ble_eq_true rfl, Nat.le_of_ble_eq_true rfl⟩ hR.z (as := [.int (nI k)]) rfl rfl (c_R_wordOf hl o (zi) (zl) hR.z S.x hR.p.2.2.2.1 hR.p.2.2.2.2.1 k hk) ?_
        refine ev_cSv Y_X11_lengthOf L_RX11_111 dX11_letter_20 ⟨Nat.le_of_ble_eq_true rfl, Nat.le_of_ble_eq_true rfl, Nat.le_of_ble_eq_true rfl, Nat.le_of_ble_eq_true rfl, Nat.le_of_ble_eq_true rfl⟩ (as := [.long (e2 (cw S.x k))]) rfl rfl (c_R_lengthOf hl ((cw S.x k)) hcw.1 (Nat.le_trans hcw.2 (by decide))) ?_
        refine ev_blk (B := [(.iconst 1, 1), (.isub, 1)]) (pe := 25) (ls' := [some (.ref (o)), some (.int (nI k)), some (.int (b))]) (st' := [.int ((nI (((cw S.x k)).length)) - (nI 1)), .int (nI 0), .int (b)]) ⟨dX11_letter_23, dX11_letter_24, rfl⟩ rfl ?_
        refine ev_cSv Y_X11_isBetween L_RX11_134 dX11_letter_25 ⟨Nat.le_of_ble_eq_true rfl, Nat.le_of_ble_eq_true rfl, Nat.le_of_ble_eq_true rfl, Nat.le_of_ble_eq_true rfl, Nat.le_of_ble_eq_true rfl⟩ (as := [.int (b), .int (nI 0), .int ((nI (((cw S.x k)).length)) - (nI 1))]) rfl rfl (c_R_isBF hl _ _ _ (isb_no (by omega) ib)) ?_
        refine ev_ifB_ne dX11_letter_28 (tgt := 37) (by decide) (fun q28 => ?_) (fun q28 => ?_)
        · exact absurd q28 (by decide)
        · refine ev_blk (B := [(.aload_n 0, 1), (.iconst 2, 1)]) (pe := 33) (ls' := [some (.ref (o)), some (.int (nI k)), some (.int (b))]) (st' := [.int (nI 2), .ref (o)]) ⟨dX11_letter_31, dX11_letter_32, rfl⟩ rfl ?_
          refine ev_cVv Y_X11_fails L_RX11_144 dX11_letter_33 ⟨Nat.le_of_ble_eq_true rfl, Nat.le_of_ble_eq_true rfl, Nat.le_of_ble_eq_true rfl, Nat.le_of_ble_eq_true rfl, Nat.le_of_ble_eq_true rfl⟩ hR.z (as := [.int (nI 2)]) rfl rfl (c_R_fails hl o (zi) (zl) hR.z 2) ?_
          refine ev_nm (M0 := M.set o (.inr (10, zo o (ui (zi) 0 (nI 2)) (zl)))) (fun Mf eMf => ?_)
          have ff : Mf[o]? = some (.inr (10, zo o (ui (zi) 0 (nI 2)) (zl))) := by rw [eMf]; exact ev_sg hR.z
          refine ev_iret dX11_letter_36 rfl (rfl) ⟨Nat.le_of_ble_eq_true rfl, Nat.le_of_ble_eq_true rfl⟩ ?_
          have W4 : FX o (o + 31) (o + 31) M Mf := ⟨by rw [eMf]; simp only [List.length_set], fun j hj1 hj2 => by rw [eMf, ev_sn (by omega)]⟩
          have e9 : sLet S (nI k) b = (2, 0) := by simp [sLet, jk, tk, ib]
          rw [e9]
          exact ⟨rfl, _, _, ⟨ff, ⟨hR.p.1, hR.p.2.1, hR.p.2.2.1, hR.p.2.2.2.1, hR.p.2.2.2.2.1, hR.p.2.2.2.2.2.1, hR.p.2.2.2.2.2.2.1, hR.p.2.2.2.2.2.2.2.1, hR.p.2.2.2.2.2.2.2.2.1, hR.p.2.2.2.2.2.2.2.2.2⟩, (hR.T.fx W4 (by omega) (by omega)), (hR.H.fx W4 (by omega)), (hR.y.fx W4 (by omega)), (hR.G.fx W4 (by omega) (by omega)), (hR.a.fx W4 (by omega)), (hR.u.fx W4 (by omega)), (hR.x.fx W4 (by omega)), (hR.k.fx W4 (by omega)), (hR.s.fx W4 (by omega))⟩, rfl, (FX.fr (lo := o + 1) (hi := o + 31) (W4.to (by omega) (by omega)) (by omega) (by omega))⟩
      · exact absurd (jk.symm.trans q4) (by decide)
  · have ia9 := ia
    refine ev_body hl rfl (by decide +kernel) (Nat.le_of_ble_eq_true rfl) ?_
    show ev_ l m_X11_letter 0 0 0 [some (.ref (o)), some (.int (a)), some (.int (b))] [] M _
    refine ev_blk (B := [(.iload_n 1, 1)]) (pe := 1) (ls' := [some (.ref (o)), some (.int (a)), some (.int (b))]) (st' := [.int (a)]) ⟨dX11_letter_0, rfl⟩ rfl ?_
    refine ev_cSv Y_X11_isChannel L_RX11_138 dX11_letter_1 ⟨Nat.le_of_ble_eq_true rfl, Nat.le_of_ble_eq_true rfl, Nat.le_of_ble_eq_true rfl, Nat.le_of_ble_eq_true rfl, Nat.le_of_ble_eq_true rfl⟩ (as := [.int (a)]) rfl rfl (c_R_isChannel hl a) ?_
    refine ev_ifB_ne dX11_letter_4 (tgt := 13) (by decide) (fun q4 => ?_) (fun q4 => ?_)
    · exact absurd (ia.symm.trans q4) (by decide)
    · refine ev_blk (B := [(.aload_n 0, 1), (.iconst 1, 1)]) (pe := 9) (ls' := [some (.ref (o)), some (.int (a)), some (.int (b))]) (st' := [.int (nI 1), .ref (o)]) ⟨dX11_letter_7, dX11_letter_8, rfl⟩ rfl ?_
      refine ev_cVv Y_X11_fails L_RX11_144 dX11_letter_9 ⟨Nat.le_of_ble_eq_true rfl, Nat.le_of_ble_eq_true rfl, Nat.le_of_ble_eq_true rfl, Nat.le_of_ble_eq_true rfl, Nat.le_of_ble_eq_true rfl⟩ hR.z (as := [.int (nI 1)]) rfl rfl (c_R_fails hl o (zi) (zl) hR.z 1) ?_
      refine ev_nm (M0 := M.set o (.inr (10, zo o (ui (zi) 0 (nI 1)) (zl)))) (fun Mf eMf => ?_)
      have ff : Mf[o]? = some (.inr (10, zo o (ui (zi) 0 (nI 1)) (zl))) := by rw [eMf]; exact ev_sg hR.z
      refine ev_iret dX11_letter_12 rfl (rfl) ⟨Nat.le_of_ble_eq_true rfl, Nat.le_of_ble_eq_true rfl⟩ ?_
      have W5 : FX o (o + 31) (o + 31) M Mf := ⟨by rw [eMf]; simp only [List.length_set], fun j hj1 hj2 => by rw [eMf, ev_sn (by omega)]⟩
      have e9 : sLet S a b = (1, 0) := by simp [sLet, ia, q4]
      rw [e9]
      exact ⟨rfl, _, _, ⟨ff, ⟨hR.p.1, hR.p.2.1, hR.p.2.2.1, hR.p.2.2.2.1, hR.p.2.2.2.2.1, hR.p.2.2.2.2.2.1, hR.p.2.2.2.2.2.2.1, hR.p.2.2.2.2.2.2.2.1, hR.p.2.2.2.2.2.2.2.2.1, hR.p.2.2.2.2.2.2.2.2.2⟩, (hR.T.fx W5 (by omega) (by omega)), (hR.H.fx W5 (by omega)), (hR.y.fx W5 (by omega)), (hR.G.fx W5 (by omega) (by omega)), (hR.a.fx W5 (by omega)), (hR.u.fx W5 (by omega)), (hR.x.fx W5 (by omega)), (hR.k.fx W5 (by omega)), (hR.s.fx W5 (by omega))⟩, rfl, (FX.fr (lo := o + 1) (hi := o + 31) (W5.to (by omega) (by omega)) (by omega) (by omega))⟩

set_option maxHeartbeats 4000000 in
set_option maxRecDepth 100000 in
theorem r_transition {l : Launch} (hl : l.stackTraces = false) {M : ev_M} (o : Nat) (S : St) (hS : okS S) (hT10 : S.T.length ≤ 10) (hG3 : S.G.length ≤ 3) (hH20 : S.H.length ≤ 20) (zi : Nat → Int32) (zl : Nat → Int64) (hR : RR M o S zi zl) (a : Int32) (b : Int32) : ev_Mt l m_X11_transition [.ref (o), .int (a), .int (b)] M (fun r M1 => r = .inl (some (.int (sTra S a b).2)) ∧ ∃ zi' zl', RR M1 o S zi' zl' ∧ zi' 0 = nI (sTra S a b).1 ∧ Fr o (o + 31) M M1) := by
  rcases inR_c a S.T.length (by omega) with ⟨k, hk, rfl⟩ | ia
  · have jk : inR (nI k) S.T.length = true := inR_n hk (by omega)
    have tk : (nI k).toNatClampNeg = k := nI_clamp (by omega)
    rcases inR_c b 5 (by omega) with ⟨j, hj, rfl⟩ | ib
    · have jj : inR (nI j) 5 = true := inR_n hj (by omega)
      have tj : (nI j).toNatClampNeg = j := nI_clamp (by omega)
      refine ev_body hl rfl (by decide +kernel) (Nat.le_of_ble_eq_true rfl) ?_
      show ev_ l m_X11_transition 0 0 0 [some (.ref (o)), some (.int (nI k)), some (.int (nI j))] [] M _
      refine ev_blk (B := [(.aload_n 0, 1), (.iload_n 1, 1)]) (pe := 2) (ls' := [some (.ref (o)), some (.int (nI k)), some (.int (nI j))]) (st' := [.int (nI k), .ref (o)]) ⟨dX11_transition_0, dX11_transition_1, rfl⟩ rfl ?_
      refine ev_cVv Y_X11_isTransition L_RX11_152 dX11_transition_2 ⟨Nat.le_of_ble_eq_true rfl, Nat.le_of_ble_eq_true rfl, Nat.le_of_ble_eq_true rfl, Nat.le_of_ble_eq_true rfl, Nat.le_of_ble_eq_true rfl⟩ hR.z (as := [.int (nI k)]) rfl rfl (c_R_isTransition hl o (zi) (zl) hR.z S.T.length hR.p.1 (nI k)) ?_
      refine ev_ifB_ne dX11_transition_5 (tgt := 14) (by decide) (fun q5 => ?_) (fun q5 => ?_)
      · refine ev_blk (B := [(.iload_n 2, 1), (.iconst 0, 1), (.iconst 4, 1)]) (pe := 17) (ls' := [some (.ref (o)), some (.int (nI k)), some (.int (nI j))]) (st' := [.int (nI 4), .int (nI 0), .int (nI j)]) ⟨dX11_transition_14, dX11_transition_15, dX11_transition_16, rfl⟩ rfl ?_
        refine ev_cSv Y_X11_isBetween L_RX11_134 dX11_transition_17 ⟨Nat.le_of_ble_eq_true rfl, Nat.le_of_ble_eq_true rfl, Nat.le_of_ble_eq_true rfl, Nat.le_of_ble_eq_true rfl, Nat.le_of_ble_eq_true rfl⟩ (as := [.int (nI j), .int (nI 0), .int (nI 4)]) rfl rfl (c_R_isBT hl _ _ _ (nI_le (Nat.zero_le _) (by omega)) (nI_le (by omega) (by omega))) ?_
        refine ev_ifB_ne dX11_transition_20 (tgt := 29) (by decide) (fun q20 => ?_) (fun q20 => ?_)
        · refine ev_blk (B := [(.aload_n 0, 1), (.iconst 0, 1)]) (pe := 31) (ls' := [some (.ref (o)), some (.int (nI k)), some (.int (nI j))]) (st' := [.int (nI 0), .ref (o)]) ⟨dX11_transition_29, dX11_transition_30, rfl⟩ rfl ?_
          refine ev_put F_RX11_106 dX11_transition_31 hR.z (Nat.le_of_ble_eq_true rfl) (fun _ _ => ⟨rfl, rfl⟩) ?_
          rw [zs_0]
          refine ev_nm (M0 := M.set (o) (.inr (10, zo o (ui (zi) 0 (nI 0)) (zl)))) (fun M1 eM1 => ?_)
          have f2 : M1[o]? = some (.inr (10, zo o (ui (zi) 0 (nI 0)) (zl))) := by rw [eM1]; exact ev_sg hR.z
          refine ev_blk (B := [(.aload_n 0, 1), (.iload_n 1, 1), (.iload_n 2, 1)]) (pe := 37) (ls' := [some (.ref (o)), some (.int (nI k)), some (.int (nI j))]) (st' := [.int (nI j), .int (nI k), .ref (o)]) ⟨dX11_transition_34, dX11_transition_35, dX11_transition_36, rfl⟩ rfl ?_
          have W3 : FX o (o + 31) (o + 31) M M1 := ⟨by rw [eM1]; simp only [List.length_set], fun j hj1 hj2 => by rw [eM1, ev_sn (by omega)]⟩
          obtain ⟨fT, hfT, hPT⟩ := (hR.T.fx W3 (by omega) (by omega))
          refine ev_cVv Y_X11_partOf L_RX11_155 dX11_transition_37 ⟨Nat.le_of_ble_eq_true rfl, Nat.le_of_ble_eq_true rfl, Nat.le_of_ble_eq_true rfl, Nat.le_of_ble_eq_true rfl, Nat.le_of_ble_eq_true rfl⟩ f2 (as := [.int (nI k), .int (nI j)]) rfl rfl (c_R_partOf hl o (ui (zi) 0 (nI 0)) (zl) f2 fT hfT S.T hPT hT10 k hk j (by omega)) ?_
          refine ev_iret dX11_transition_40 rfl (rfl) ⟨Nat.le_of_ble_eq_true rfl, Nat.le_of_ble_eq_true rfl⟩ ?_
          have e9 : sTra S (nI k) (nI j) = (0, tp (tg S.T k) j) := by simp [sTra, jk, tk, jj, tj]
          rw [e9]
          exact ⟨rfl, _, _, ⟨f2, ⟨hR.p.1, hR.p.2.1, hR.p.2.2.1, hR.p.2.2.2.1, hR.p.2.2.2.2.1, hR.p.2.2.2.2.2.1, hR.p.2.2.2.2.2.2.1, hR.p.2.2.2.2.2.2.2.1, hR.p.2.2.2.2.2.2.2.2.1, hR.p.2.2.2.2.2.2.2.2.2⟩, (hR.T.fx W3 (by omega) (by omega)), (hR.H.fx W3 (by omega)), (hR.y.fx W3 (by omega)), (hR.G.fx W3 (by omega) (by omega)), (hR.a.fx W3 (by omega)), (hR.u.fx W3 (by omega)), (hR.x.fx W3 (by omega)), (hR.k.fx W3 (by omega)), (hR.s.fx W3 (by omega))⟩, rfl, (FX.fr (lo := o + 1) (hi := o + 31) (W3.to (by omega) (by omega)) (by omega) (by omega))⟩
        · exact absurd q20 (by decide)
      · exact absurd (jk.symm.trans q5) (by decide)
    · have ib9 := ib
      refine ev_body hl rfl (by decide +kernel) (Nat.le_of_ble_eq_true rfl) ?_
      show ev_ l m_X11_transition 0 0 0 [some (.ref (o)), some (.int (nI k)), some (.int (b))] [] M _
      refine ev_blk (B := [(.aload_n 0, 1), (.iload_n 1, 1)]) (pe := 2) (ls' := [some (.ref (o)), some (.int (nI k)), some (.int (b))]) (st' := [.int (nI k), .ref (o)]) ⟨dX11_transition_0, dX11_transition_1, rfl⟩ rfl ?_
      refine ev_cVv Y_X11_isTransition L_RX11_152 dX11_transition_2 ⟨Nat.le_of_ble_eq_true rfl, Nat.le_of_ble_eq_true rfl, Nat.le_of_ble_eq_true rfl, Nat.le_of_ble_eq_true rfl, Nat.le_of_ble_eq_true rfl⟩ hR.z (as := [.int (nI k)]) rfl rfl (c_R_isTransition hl o (zi) (zl) hR.z S.T.length hR.p.1 (nI k)) ?_
      refine ev_ifB_ne dX11_transition_5 (tgt := 14) (by decide) (fun q5 => ?_) (fun q5 => ?_)
      · refine ev_blk (B := [(.iload_n 2, 1), (.iconst 0, 1), (.iconst 4, 1)]) (pe := 17) (ls' := [some (.ref (o)), some (.int (nI k)), some (.int (b))]) (st' := [.int (nI 4), .int (nI 0), .int (b)]) ⟨dX11_transition_14, dX11_transition_15, dX11_transition_16, rfl⟩ rfl ?_
        refine ev_cSv Y_X11_isBetween L_RX11_134 dX11_transition_17 ⟨Nat.le_of_ble_eq_true rfl, Nat.le_of_ble_eq_true rfl, Nat.le_of_ble_eq_true rfl, Nat.le_of_ble_eq_true rfl, Nat.le_of_ble_eq_true rfl⟩ (as := [.int (b), .int (nI 0), .int (nI 4)]) rfl rfl (c_R_isBF hl _ _ _ (isb_c (by decide) rfl ib)) ?_
        refine ev_ifB_ne dX11_transition_20 (tgt := 29) (by decide) (fun q20 => ?_) (fun q20 => ?_)
        · exact absurd q20 (by decide)
        · refine ev_blk (B := [(.aload_n 0, 1), (.iconst 2, 1)]) (pe := 25) (ls' := [some (.ref (o)), some (.int (nI k)), some (.int (b))]) (st' := [.int (nI 2), .ref (o)]) ⟨dX11_transition_23, dX11_transition_24, rfl⟩ rfl ?_
          refine ev_cVv Y_X11_fails L_RX11_144 dX11_transition_25 ⟨Nat.le_of_ble_eq_true rfl, Nat.le_of_ble_eq_true rfl, Nat.le_of_ble_eq_true rfl, Nat.le_of_ble_eq_true rfl, Nat.le_of_ble_eq_true rfl⟩ hR.z (as := [.int (nI 2)]) rfl rfl (c_R_fails hl o (zi) (zl) hR.z 2) ?_
          refine ev_nm (M0 := M.set o (.inr (10, zo o (ui (zi) 0 (nI 2)) (zl)))) (fun Mf eMf => ?_)
          have ff : Mf[o]? = some (.inr (10, zo o (ui (zi) 0 (nI 2)) (zl))) := by rw [eMf]; exact ev_sg hR.z
          refine ev_iret dX11_transition_28 rfl (rfl) ⟨Nat.le_of_ble_eq_true rfl, Nat.le_of_ble_eq_true rfl⟩ ?_
          have W4 : FX o (o + 31) (o + 31) M Mf := ⟨by rw [eMf]; simp only [List.length_set], fun j hj1 hj2 => by rw [eMf, ev_sn (by omega)]⟩
          have e9 : sTra S (nI k) b = (2, 0) := by simp [sTra, jk, tk, ib]
          rw [e9]
          exact ⟨rfl, _, _, ⟨ff, ⟨hR.p.1, hR.p.2.1, hR.p.2.2.1, hR.p.2.2.2.1, hR.p.2.2.2.2.1, hR.p.2.2.2.2.2.1, hR.p.2.2.2.2.2.2.1, hR.p.2.2.2.2.2.2.2.1, hR.p.2.2.2.2.2.2.2.2.1, hR.p.2.2.2.2.2.2.2.2.2⟩, (hR.T.fx W4 (by omega) (by omega)), (hR.H.fx W4 (by omega)), (hR.y.fx W4 (by omega)), (hR.G.fx W4 (by omega) (by omega)), (hR.a.fx W4 (by omega)), (hR.u.fx W4 (by omega)), (hR.x.fx W4 (by omega)), (hR.k.fx W4 (by omega)), (hR.s.fx W4 (by omega))⟩, rfl, (FX.fr (lo := o + 1) (hi := o + 31) (W4.to (by omega) (by omega)) (by omega) (by omega))⟩
      · exact absurd (jk.symm.trans q5) (by decide)
  · have ia9 := ia
    refine ev_body hl rfl (by decide +kernel) (Nat.le_of_ble_eq_true rfl) ?_
    show ev_ l m_X11_transition 0 0 0 [some (.ref (o)), some (.int (a)), some (.int (b))] [] M _
    refine ev_blk (B := [(.aload_n 0, 1), (.iload_n 1, 1)]) (pe := 2) (ls' := [some (.ref (o)), some (.int (a)), some (.int (b))]) (st' := [.int (a), .ref (o)]) ⟨dX11_transition_0, dX11_transition_1, rfl⟩ rfl ?_
    refine ev_cVv Y_X11_isTransition L_RX11_152 dX11_transition_2 ⟨Nat.le_of_ble_eq_true rfl, Nat.le_of_ble_eq_true rfl, Nat.le_of_ble_eq_true rfl, Nat.le_of_ble_eq_true rfl, Nat.le_of_ble_eq_true rfl⟩ hR.z (as := [.int (a)]) rfl rfl (c_R_isTransition hl o (zi) (zl) hR.z S.T.length hR.p.1 a) ?_
    refine ev_ifB_ne dX11_transition_5 (tgt := 14) (by decide) (fun q5 => ?_) (fun q5 => ?_)
    · exact absurd (ia.symm.trans q5) (by decide)
    · refine ev_blk (B := [(.aload_n 0, 1), (.iconst 1, 1)]) (pe := 10) (ls' := [some (.ref (o)), some (.int (a)), some (.int (b))]) (st' := [.int (nI 1), .ref (o)]) ⟨dX11_transition_8, dX11_transition_9, rfl⟩ rfl ?_
      refine ev_cVv Y_X11_fails L_RX11_144 dX11_transition_10 ⟨Nat.le_of_ble_eq_true rfl, Nat.le_of_ble_eq_true rfl, Nat.le_of_ble_eq_true rfl, Nat.le_of_ble_eq_true rfl, Nat.le_of_ble_eq_true rfl⟩ hR.z (as := [.int (nI 1)]) rfl rfl (c_R_fails hl o (zi) (zl) hR.z 1) ?_
      refine ev_nm (M0 := M.set o (.inr (10, zo o (ui (zi) 0 (nI 1)) (zl)))) (fun Mf eMf => ?_)
      have ff : Mf[o]? = some (.inr (10, zo o (ui (zi) 0 (nI 1)) (zl))) := by rw [eMf]; exact ev_sg hR.z
      refine ev_iret dX11_transition_13 rfl (rfl) ⟨Nat.le_of_ble_eq_true rfl, Nat.le_of_ble_eq_true rfl⟩ ?_
      have W5 : FX o (o + 31) (o + 31) M Mf := ⟨by rw [eMf]; simp only [List.length_set], fun j hj1 hj2 => by rw [eMf, ev_sn (by omega)]⟩
      have e9 : sTra S a b = (1, 0) := by simp [sTra, ia, q5]
      rw [e9]
      exact ⟨rfl, _, _, ⟨ff, ⟨hR.p.1, hR.p.2.1, hR.p.2.2.1, hR.p.2.2.2.1, hR.p.2.2.2.2.1, hR.p.2.2.2.2.2.1, hR.p.2.2.2.2.2.2.1, hR.p.2.2.2.2.2.2.2.1, hR.p.2.2.2.2.2.2.2.2.1, hR.p.2.2.2.2.2.2.2.2.2⟩, (hR.T.fx W5 (by omega) (by omega)), (hR.H.fx W5 (by omega)), (hR.y.fx W5 (by omega)), (hR.G.fx W5 (by omega) (by omega)), (hR.a.fx W5 (by omega)), (hR.u.fx W5 (by omega)), (hR.x.fx W5 (by omega)), (hR.k.fx W5 (by omega)), (hR.s.fx W5 (by omega))⟩, rfl, (FX.fr (lo := o + 1) (hi := o + 31) (W5.to (by omega) (by omega)) (by omega) (by omega))⟩

theorem PGl.nil {M : ev_M} {a : Nat} {G : List Cf} (h : PGl M a G) : PGl M a [] := by
  obtain ⟨f, g, h, a1, a2, a3, a4⟩ := h
  exact ⟨f, g, h, a1, a2, a3, fun i hi => absurd hi (Nat.not_lt_zero _)⟩
set_option maxHeartbeats 4000000 in
set_option maxRecDepth 100000 in
theorem r_clearGoals {l : Launch} (hl : l.stackTraces = false) {M : ev_M} (o : Nat) (S : St) (hS : okS S) (hT10 : S.T.length ≤ 10) (hG3 : S.G.length ≤ 3) (hH20 : S.H.length ≤ 20) (zi : Nat → Int32) (zl : Nat → Int64) (hR : RR M o S zi zl) : ev_Mt l m_X11_clearGoals [.ref (o)] M (fun r M1 => r = .inl (some (.int (sClG S).1.2)) ∧ ∃ zi' zl', RR M1 o (sClG S).2 zi' zl' ∧ zi' 0 = nI (sClG S).1.1 ∧ Fr o (o + 31) M M1) := by
  refine ev_body hl rfl (by decide +kernel) (Nat.le_of_ble_eq_true rfl) ?_
  show ev_ l m_X11_clearGoals 0 0 0 [some (.ref (o)), none] [] M _
  refine ev_blk (B := [(.aload_n 0, 1), (.iconst 0, 1)]) (pe := 2) (ls' := [some (.ref (o)), none]) (st' := [.int (nI 0), .ref (o)]) ⟨dX11_clearGoals_0, dX11_clearGoals_1, rfl⟩ rfl ?_
  refine ev_put F_RX11_106 dX11_clearGoals_2 hR.z (Nat.le_of_ble_eq_true rfl) (fun _ _ => ⟨rfl, rfl⟩) ?_
  rw [zs_0]
  refine ev_nm (M0 := M.set (o) (.inr (10, zo o (ui (zi) 0 (nI 0)) (zl)))) (fun M1 eM1 => ?_)
  have f2 : M1[o]? = some (.inr (10, zo o (ui (zi) 0 (nI 0)) (zl))) := by rw [eM1]; exact ev_sg hR.z
  refine ev_blk (B := [(.aload_n 0, 1)]) (pe := 6) (ls' := [some (.ref (o)), none]) (st' := [.ref (o)]) ⟨dX11_clearGoals_5, rfl⟩ rfl ?_
  refine ev_getf (v := .int (nI (S.G.length))) F_RX11_225 dX11_clearGoals_6 f2 (congrArg (fun q => some (Value.int q)) hR.p.2.2.2.2.2.1) ?_
  refine ev_blk (B := [(.istore_n 1, 1), (.aload_n 0, 1), (.iconst 0, 1)]) (pe := 12) (ls' := [some (.ref (o)), some (.int (nI (S.G.length)))]) (st' := [.int (nI 0), .ref (o)]) ⟨dX11_clearGoals_9, dX11_clearGoals_10, dX11_clearGoals_11, rfl⟩ rfl ?_
  refine ev_put F_RX11_225 dX11_clearGoals_12 f2 (Nat.le_of_ble_eq_true rfl) (fun _ _ => ⟨rfl, rfl⟩) ?_
  rw [zs_20]
  refine ev_nm (M0 := M1.set (o) (.inr (10, zo o (ui (ui (zi) 0 (nI 0)) 20 (nI 0)) (zl)))) (fun M3 eM3 => ?_)
  have f4 : M3[o]? = some (.inr (10, zo o (ui (ui (zi) 0 (nI 0)) 20 (nI 0)) (zl))) := by rw [eM3]; exact ev_sg f2
  refine ev_blk (B := [(.aload_n 0, 1), (.iconst 0, 1)]) (pe := 17) (ls' := [some (.ref (o)), some (.int (nI (S.G.length)))]) (st' := [.int (nI 0), .ref (o)]) ⟨dX11_clearGoals_15, dX11_clearGoals_16, rfl⟩ rfl ?_
  refine ev_put F_RX11_126 dX11_clearGoals_17 f4 (Nat.le_of_ble_eq_true rfl) (fun _ _ => ⟨rfl, rfl⟩) ?_
  rw [zs_30]
  refine ev_nm (M0 := M3.set (o) (.inr (10, zo o (ui (ui (ui (zi) 0 (nI 0)) 20 (nI 0)) 30 (nI 0)) (zl)))) (fun M5 eM5 => ?_)
  have f6 : M5[o]? = some (.inr (10, zo o (ui (ui (ui (zi) 0 (nI 0)) 20 (nI 0)) 30 (nI 0)) (zl))) := by rw [eM5]; exact ev_sg f4
  refine ev_blk (B := [(.iload_n 1, 1)]) (pe := 21) (ls' := [some (.ref (o)), some (.int (nI (S.G.length)))]) (st' := [.int (nI (S.G.length))]) ⟨dX11_clearGoals_20, rfl⟩ rfl ?_
  refine ev_iret dX11_clearGoals_21 rfl (rfl) ⟨Nat.le_of_ble_eq_true rfl, Nat.le_of_ble_eq_true rfl⟩ ?_
  have W7 : FX o (o + 31) (o + 31) M M5 := ⟨by rw [eM5, eM3, eM1]; simp only [List.length_set], fun j hj1 hj2 => by rw [eM5, ev_sn (by omega), eM3, ev_sn (by omega), eM1, ev_sn (by omega)]⟩
  have e9 : sClG S = ((0, nI S.G.length), (St.mk S.T S.x ([]) S.H S.n S.t S.f S.tk S.T9 S.x9 S.G9)) := rfl
  rw [e9]
  exact ⟨rfl, _, _, ⟨f6, ⟨hR.p.1, hR.p.2.1, hR.p.2.2.1, hR.p.2.2.2.1, hR.p.2.2.2.2.1, rfl, hR.p.2.2.2.2.2.2.1, hR.p.2.2.2.2.2.2.2.1, hR.p.2.2.2.2.2.2.2.2.1, hR.p.2.2.2.2.2.2.2.2.2⟩, (hR.T.fx W7 (by omega) (by omega)), (hR.H.fx W7 (by omega)), (hR.y.fx W7 (by omega)), PGl.nil (hR.G.fx W7 (by omega) (by omega)), PA.no (hR.a.fx W7 (by omega)), (hR.u.fx W7 (by omega)), (hR.x.fx W7 (by omega)), (hR.k.fx W7 (by omega)), (hR.s.fx W7 (by omega))⟩, rfl, (FX.fr (lo := o + 1) (hi := o + 31) (W7.to (by omega) (by omega)) (by omega) (by omega))⟩

