set_option maxHeartbeats 4000000 in
set_option maxRecDepth 100000 in
theorem r_fire {l : Launch} (hl : l.stackTraces = false) {M : ev_M} (o : Nat) (S : St) (hS : okS S) (hT10 : S.T.length ≤ 10) (hG3 : S.G.length ≤ 3) (hH20 : S.H.length ≤ 20) (zi : Nat → Int32) (zl : Nat → Int64) (hR : RR M o S zi zl) (a : Int32) : ev_Mt l m_X11_fire [.ref (o), .int (a)] M (fun r M1 => r = .inl (some (.int (sFir S a).1.2)) ∧ ∃ zi' zl', RR M1 o (sFir S a).2 zi' zl' ∧ zi' 0 = nI (sFir S a).1.1 ∧ Fr o (o + 31) M M1) := by
  rcases inR_c a S.T.length (by omega) with ⟨k, hk, rfl⟩ | ia
  · have jk : inR (nI k) S.T.length = true := inR_n hk (by omega)
    have tk : (nI k).toNatClampNeg = k := nI_clamp (by omega)
    have hto := trs_tg hS.T hk
    have hcw := cw_ok hS.x (tg S.T k).2.2.2.1
    have hy1 := hto.1
    have hy2 := hto.2.1
    have hy3 := hto.2.2.1
    have hy4 := hto.2.2.2.1
    have hy5 := hto.2.2.2.2
    have hcl := hcw.2
    have hyx := hS.x.1
    refine ev_body hl rfl (by decide +kernel) (Nat.le_of_ble_eq_true rfl) ?_
    show ev_ l m_X11_fire 0 0 0 [some (.ref (o)), some (.int (nI k))] [] M _
    refine ev_blk (B := [(.aload_n 0, 1), (.iload_n 1, 1)]) (pe := 2) (ls' := [some (.ref (o)), some (.int (nI k))]) (st' := [.int (nI k), .ref (o)]) ⟨dX11_fire_0, dX11_fire_1, rfl⟩ rfl ?_
    refine ev_cVv Y_X11_isTransition L_RX11_152 dX11_fire_2 ⟨Nat.le_of_ble_eq_true rfl, Nat.le_of_ble_eq_true rfl, Nat.le_of_ble_eq_true rfl, Nat.le_of_ble_eq_true rfl, Nat.le_of_ble_eq_true rfl⟩ hR.z (as := [.int (nI k)]) rfl rfl (c_R_isTransition hl o (zi) (zl) hR.z S.T.length hR.p.1 (nI k)) ?_
    refine ev_ifB_ne dX11_fire_5 (tgt := 14) (by decide) (fun q5 => ?_) (fun q5 => ?_)
    · refine ev_blk (B := [(.aload_n 0, 1), (.iload_n 1, 1)]) (pe := 16) (ls' := [some (.ref (o)), some (.int (nI k))]) (st' := [.int (nI k), .ref (o)]) ⟨dX11_fire_14, dX11_fire_15, rfl⟩ rfl ?_
      refine ev_cVw Y_X11_mayFireNow L_RX11_205 dX11_fire_16 ⟨Nat.le_of_ble_eq_true rfl, Nat.le_of_ble_eq_true rfl, Nat.le_of_ble_eq_true rfl, Nat.le_of_ble_eq_true rfl, Nat.le_of_ble_eq_true rfl⟩ hR.z (as := [.int (nI k)]) rfl rfl (c_R_mayFireNow hl o S hS hT10 hG3 hH20 (zi) (zl) hR k hk) (fun M1 hL1 hB1 => ?_)
      obtain ⟨Zi, Zl, ZR, Z1, Z3, Z4, ZK, ZL, ZF⟩ := hB1
      obtain ⟨fT, hfT, hPT⟩ := ZR.T
      refine ev_ifB_eq dX11_fire_19 (tgt := 50) (by decide) (fun q19 => ?_) (fun q19 => ?_)
      · refine ev_blk (B := [(.aload_n 0, 1), (.iconst 2, 1)]) (pe := 52) (ls' := [some (.ref (o)), some (.int (nI k))]) (st' := [.int (nI 2), .ref (o)]) ⟨dX11_fire_50, dX11_fire_51, rfl⟩ rfl ?_
        refine ev_cVv Y_X11_fails L_RX11_144 dX11_fire_52 ⟨Nat.le_of_ble_eq_true rfl, Nat.le_of_ble_eq_true rfl, Nat.le_of_ble_eq_true rfl, Nat.le_of_ble_eq_true rfl, Nat.le_of_ble_eq_true rfl⟩ ZR.z (as := [.int (nI 2)]) rfl rfl (c_R_fails hl o (Zi) (Zl) ZR.z 2) ?_
        refine ev_nm (M0 := M1.set o (.inr (10, zo o (ui (Zi) 0 (nI 2)) (Zl)))) (fun Mf eMf => ?_)
        have ff : Mf[o]? = some (.inr (10, zo o (ui (Zi) 0 (nI 2)) (Zl))) := by rw [eMf]; exact ev_sg ZR.z
        refine ev_iret dX11_fire_55 rfl (rfl) ⟨Nat.le_of_ble_eq_true rfl, Nat.le_of_ble_eq_true rfl⟩ ?_
        have W2 : FX o (o + 31) (o + 31) M1 Mf := ⟨by rw [eMf]; simp only [List.length_set], fun j hj1 hj2 => by rw [eMf, ev_sn (by omega)]⟩
        have e9 : sFir S (nI k) = ((2, 0), S) := by
          unfold sFir tN
          rw [tk, if_neg (show ¬ inR (nI k) S.T.length = false by rw [jk]; decide), if_pos q19]
        rw [e9]
        exact ⟨rfl, _, _, ⟨ff, ⟨ZR.p.1, ZR.p.2.1, ZR.p.2.2.1, ZR.p.2.2.2.1, ZR.p.2.2.2.2.1, ZR.p.2.2.2.2.2.1, ZR.p.2.2.2.2.2.2.1, ZR.p.2.2.2.2.2.2.2.1, ZR.p.2.2.2.2.2.2.2.2.1, ZR.p.2.2.2.2.2.2.2.2.2⟩, (ZR.T.fx W2 (by omega) (by omega)), (ZR.H.fx W2 (by omega)), (ZR.y.fx W2 (by omega)), (ZR.G.fx W2 (by omega) (by omega)), (ZR.a.fx W2 (by omega)), (ZR.u.fx W2 (by omega)), (ZR.x.fx W2 (by omega)), (ZR.k.fx W2 (by omega)), (ZR.s.fx W2 (by omega))⟩, rfl, (FX.fr (lo := o + 1) (hi := o + 31) ((ZF.to (by omega) (by omega)).tr (W2.to (by omega) (by omega))) (by omega) (by omega))⟩
      · refine ev_blk (B := [(.aload_n 0, 1), (.iload_n 1, 1), (.iconst 2, 1)]) (pe := 25) (ls' := [some (.ref (o)), some (.int (nI k))]) (st' := [.int (nI 2), .int (nI k), .ref (o)]) ⟨dX11_fire_22, dX11_fire_23, dX11_fire_24, rfl⟩ rfl ?_
        refine ev_cVv Y_X11_partOf L_RX11_155 dX11_fire_25 ⟨Nat.le_of_ble_eq_true rfl, Nat.le_of_ble_eq_true rfl, Nat.le_of_ble_eq_true rfl, Nat.le_of_ble_eq_true rfl, Nat.le_of_ble_eq_true rfl⟩ ZR.z (as := [.int (nI k), .int (nI 2)]) rfl rfl (c_R_partOf hl o (Zi) (Zl) ZR.z _ hfT S.T hPT hT10 k (by omega) 2 (by decide)) ?_
        refine ev_blk (B := [(.iconst 1, 1)]) (pe := 29) (ls' := [some (.ref (o)), some (.int (nI k))]) (st' := [.int (nI 1), .int (nI ((tg S.T k).2.2.1))]) ⟨dX11_fire_28, rfl⟩ rfl ?_
        refine ev_iN_ne dX11_fire_29 (tgt := 56) (by decide) (by omega) (by omega) (fun q29 => ?_) (fun q29 => ?_)
        · refine ev_blk (B := [(.aload_n 0, 1), (.iconst 0, 1)]) (pe := 58) (ls' := [some (.ref (o)), some (.int (nI k))]) (st' := [.int (nI 0), .ref (o)]) ⟨dX11_fire_56, dX11_fire_57, rfl⟩ rfl ?_
          refine ev_put F_RX11_106 dX11_fire_58 ZR.z (Nat.le_of_ble_eq_true rfl) (fun _ _ => ⟨rfl, rfl⟩) ?_
          rw [zs_0]
          refine ev_nm (M0 := M1.set (o) (.inr (10, zo o (ui (Zi) 0 (nI 0)) (Zl)))) (fun M3 eM3 => ?_)
          have f4 : M3[o]? = some (.inr (10, zo o (ui (Zi) 0 (nI 0)) (Zl))) := by rw [eM3]; exact ev_sg ZR.z
          have f5 : M3[o + 1]? = some (.inl (0, 50, .inl (fT))) := by rw [eM3, ev_sn (by omega)]; exact hfT
          refine ev_blk (B := [(.aload_n 0, 1), (.iconst 0, 1)]) (pe := 63) (ls' := [some (.ref (o)), some (.int (nI k))]) (st' := [.int (nI 0), .ref (o)]) ⟨dX11_fire_61, dX11_fire_62, rfl⟩ rfl ?_
          have W6 : FX o (o + 31) (o + 31) M1 M3 := ⟨by rw [eM3]; simp only [List.length_set], fun j hj1 hj2 => by rw [eM3, ev_sn (by omega)]⟩
          refine ev_cVn Y_X11_remembers L_RX11_208 dX11_fire_63 ⟨Nat.le_of_ble_eq_true rfl, Nat.le_of_ble_eq_true rfl, Nat.le_of_ble_eq_true rfl, Nat.le_of_ble_eq_true rfl, Nat.le_of_ble_eq_true rfl⟩ f4 (as := [.int (nI 0)]) rfl rfl (c_R_remembers hl o (ui (Zi) 0 (nI 0)) (Zl) f4 S.x ZR.p.2.1 ZR.p.2.2.2.1 ZR.p.2.2.2.2.1 S.H hH20 ZR.p.2.2.1 (ZR.H.fx W6 (by omega)) 0) (fun M7 hL7 hB7 => ?_)
          obtain ⟨R8i, R8z, R84, R8K, R8H, R8F⟩ := hB7
          refine ev_blk (B := [(.aload_n 0, 1), (.iload_n 1, 1)]) (pe := 68) (ls' := [some (.ref (o)), some (.int (nI k))]) (st' := [.int (nI k), .ref (o)]) ⟨dX11_fire_66, dX11_fire_67, rfl⟩ rfl ?_
          refine ev_cVn Y_X11_fires L_RX11_212 dX11_fire_68 ⟨Nat.le_of_ble_eq_true rfl, Nat.le_of_ble_eq_true rfl, Nat.le_of_ble_eq_true rfl, Nat.le_of_ble_eq_true rfl, Nat.le_of_ble_eq_true rfl⟩ R8z (as := [.int (nI k)]) rfl rfl (c_R_fires hl o (R8i) (Zl) R8z _ (R8F.at f5 (by omega) (by omega)) S.T hPT hT10 hS.T k hk S.x (hS.x.le (by omega) : cfW 24 S.x) ((R8K 11 (by decide)).trans Z1) Z3 Z4 (mf_up q19)) (fun M9 hL9 hB9 => ?_)
          obtain ⟨Xi, Xl, Xz, XD, XF⟩ := hB9
          refine ev_blk (B := [(.aload_n 0, 1), (.aload_n 0, 1)]) (pe := 73) (ls' := [some (.ref (o)), some (.int (nI k))]) (st' := [.ref (o), .ref (o)]) ⟨dX11_fire_71, dX11_fire_72, rfl⟩ rfl ?_
          refine ev_getf (v := .int (nI ((ap (tg S.T k) S.x).2.1))) F_RX11_179 dX11_fire_73 Xz (congrArg (fun q => some (Value.int q)) XD.1) ?_
          refine ev_put F_RX11_169 dX11_fire_76 Xz (Nat.le_of_ble_eq_true rfl) (fun _ _ => ⟨rfl, rfl⟩) ?_
          rw [zs_3]
          refine ev_nm (M0 := M9.set (o) (.inr (10, zo o (ui (Xi) 3 (nI ((ap (tg S.T k) S.x).2.1))) (Xl)))) (fun M10 eM10 => ?_)
          have f11 : M10[o]? = some (.inr (10, zo o (ui (Xi) 3 (nI ((ap (tg S.T k) S.x).2.1))) (Xl))) := by rw [eM10]; exact ev_sg Xz
          refine ev_blk (B := [(.aload_n 0, 1), (.aload_n 0, 1)]) (pe := 81) (ls' := [some (.ref (o)), some (.int (nI k))]) (st' := [.ref (o), .ref (o)]) ⟨dX11_fire_79, dX11_fire_80, rfl⟩ rfl ?_
          refine ev_getf (v := .long (e2 (ap (tg S.T k) S.x).2.2.1)) F_RX11_182 dX11_fire_81 f11 (congrArg (fun q => some (Value.long q)) XD.2.2.1) ?_
          refine ev_put F_RX11_159 dX11_fire_84 f11 (Nat.le_of_ble_eq_true rfl) (fun _ _ => ⟨rfl, rfl⟩) ?_
          rw [zs_5]
          refine ev_nm (M0 := M10.set (o) (.inr (10, zo o (ui (Xi) 3 (nI ((ap (tg S.T k) S.x).2.1))) (ul (Xl) 5 (e2 (ap (tg S.T k) S.x).2.2.1))))) (fun M12 eM12 => ?_)
          have f13 : M12[o]? = some (.inr (10, zo o (ui (Xi) 3 (nI ((ap (tg S.T k) S.x).2.1))) (ul (Xl) 5 (e2 (ap (tg S.T k) S.x).2.2.1)))) := by rw [eM12]; exact ev_sg f11
          refine ev_blk (B := [(.aload_n 0, 1), (.aload_n 0, 1)]) (pe := 89) (ls' := [some (.ref (o)), some (.int (nI k))]) (st' := [.ref (o), .ref (o)]) ⟨dX11_fire_87, dX11_fire_88, rfl⟩ rfl ?_
          refine ev_getf (v := .long (e2 (ap (tg S.T k) S.x).2.2.2)) F_RX11_185 dX11_fire_89 f13 (congrArg (fun q => some (Value.long q)) XD.2.2.2.1) ?_
          refine ev_put F_RX11_163 dX11_fire_92 f13 (Nat.le_of_ble_eq_true rfl) (fun _ _ => ⟨rfl, rfl⟩) ?_
          rw [zs_6]
          refine ev_nm (M0 := M12.set (o) (.inr (10, zo o (ui (Xi) 3 (nI ((ap (tg S.T k) S.x).2.1))) (ul (ul (Xl) 5 (e2 (ap (tg S.T k) S.x).2.2.1)) 6 (e2 (ap (tg S.T k) S.x).2.2.2))))) (fun M14 eM14 => ?_)
          have f15 : M14[o]? = some (.inr (10, zo o (ui (Xi) 3 (nI ((ap (tg S.T k) S.x).2.1))) (ul (ul (Xl) 5 (e2 (ap (tg S.T k) S.x).2.2.1)) 6 (e2 (ap (tg S.T k) S.x).2.2.2)))) := by rw [eM14]; exact ev_sg f13
          refine ev_blk (B := [(.aload_n 0, 1)]) (pe := 96) (ls' := [some (.ref (o)), some (.int (nI k))]) (st' := [.ref (o)]) ⟨dX11_fire_95, rfl⟩ rfl ?_
          refine ev_getf (v := .int (nI ((ap (tg S.T k) S.x).2.1))) F_RX11_169 dX11_fire_96 f15 rfl ?_
          refine ev_iret dX11_fire_99 rfl (rfl) ⟨Nat.le_of_ble_eq_true rfl, Nat.le_of_ble_eq_true rfl⟩ ?_
          have W16 : FX o (o + 31) (o + 31) M9 M14 := ⟨by rw [eM14, eM12, eM10]; simp only [List.length_set], fun j hj1 hj2 => by rw [eM14, ev_sn (by omega), eM12, ev_sn (by omega), eM10, ev_sn (by omega)]⟩
          have e9 : sFir S (nI k) = ((0, nI (ap (tg S.T k) S.x).2.1), St.mk S.T (ap (tg S.T k) S.x).2 S.G (rec S.H S.x 0) S.n S.t S.f S.tk S.T9 S.x9 S.G9) := by
            unfold sFir tN
            rw [tk, if_neg (show ¬ inR (nI k) S.T.length = false by rw [jk]; decide), if_neg (show ¬ mf S.x (tg S.T k) false = false by rw [q19]; decide), if_neg (by rw [beq_eq_false_iff_ne.mpr q29, Bool.false_and]; decide)]
          rw [e9]
          exact ⟨rfl, _, _, ZR.xh f15 ((((W6.em (by omega)).tr (R8F.to (by omega) (by omega))).tr (XF.em (by omega))).tr (W16.em (by omega))) ((R8H.fx XF (by omega)).fx W16 (by omega)) rfl ((XD.2.2.2.2.1 4 (by decide) (by decide)).trans R84) rfl rfl (fun q hq => (ui_ne (nm hq (by decide))).trans ((XD.2.2.2.2.1 q (nm hq (by decide)) (nm hq (by decide))).trans ((R8K q (nm hq (by decide))).trans (ui_ne (nm hq (by decide)))))) (fun q hq => (ul_ne (nm hq (by decide))).trans ((ul_ne (nm hq (by decide))).trans (XD.2.2.2.2.2 q (nm hq (by decide)) (nm hq (by decide))))), (XD.2.2.2.2.1 0 (by decide) (by decide)).trans (R8K 0 (by decide)), (FX.fr (lo := o + 1) (hi := o + 31) (((((ZF.to (by omega) (by omega)).tr (W6.to (by omega) (by omega))).tr (R8F.to (by omega) (by omega))).tr (XF.to (by omega) (by omega))).tr (W16.to (by omega) (by omega))) (by omega) (by omega))⟩
        · refine ev_blk (B := [(.aload_n 0, 1), (.aload_n 0, 1), (.iload_n 1, 1), (.iconst 3, 1)]) (pe := 36) (ls' := [some (.ref (o)), some (.int (nI k))]) (st' := [.int (nI 3), .int (nI k), .ref (o), .ref (o)]) ⟨dX11_fire_32, dX11_fire_33, dX11_fire_34, dX11_fire_35, rfl⟩ rfl ?_
          refine ev_cVv Y_X11_partOf L_RX11_155 dX11_fire_36 ⟨Nat.le_of_ble_eq_true rfl, Nat.le_of_ble_eq_true rfl, Nat.le_of_ble_eq_true rfl, Nat.le_of_ble_eq_true rfl, Nat.le_of_ble_eq_true rfl⟩ ZR.z (as := [.int (nI k), .int (nI 3)]) rfl rfl (c_R_partOf3N hl o (Zi) (Zl) ZR.z _ hfT S.T hPT hT10 k (by omega) (by omega)) ?_
          refine ev_cVv Y_X11_wordOf L_RX11_172 dX11_fire_39 ⟨Nat.le_of_ble_eq_true rfl, Nat.le_of_ble_eq_true rfl, Nat.le_of_ble_eq_true rfl, Nat.le_of_ble_eq_true rfl, Nat.le_of_ble_eq_true rfl⟩ ZR.z (as := [.int (nI ((tg S.T k).2.2.2.1))]) rfl rfl (c_R_wordOf hl o (Zi) (Zl) ZR.z S.x ZR.p.2.2.2.1 ZR.p.2.2.2.2.1 ((tg S.T k).2.2.2.1) (by omega)) ?_
          refine ev_cSv Y_X11_lengthOf L_RX11_111 dX11_fire_42 ⟨Nat.le_of_ble_eq_true rfl, Nat.le_of_ble_eq_true rfl, Nat.le_of_ble_eq_true rfl, Nat.le_of_ble_eq_true rfl, Nat.le_of_ble_eq_true rfl⟩ (as := [.long (e2 (cw S.x ((tg S.T k).2.2.2.1)))]) rfl rfl (c_R_lengthOf hl ((cw S.x ((tg S.T k).2.2.2.1))) hcw.1 (Nat.le_trans hcw.2 (by decide))) ?_
          refine ev_blk (B := [(.bipush 10, 2)]) (pe := 47) (ls' := [some (.ref (o)), some (.int (nI k))]) (st' := [.int (nI 10), .int (nI (((cw S.x ((tg S.T k).2.2.2.1))).length))]) ⟨dX11_fire_45, rfl⟩ rfl ?_
          refine ev_iN_ne dX11_fire_47 (tgt := 56) (by decide) (by omega) (by omega) (fun q47 => ?_) (fun q47 => ?_)
          · refine ev_blk (B := [(.aload_n 0, 1), (.iconst 0, 1)]) (pe := 58) (ls' := [some (.ref (o)), some (.int (nI k))]) (st' := [.int (nI 0), .ref (o)]) ⟨dX11_fire_56, dX11_fire_57, rfl⟩ rfl ?_
            refine ev_put F_RX11_106 dX11_fire_58 ZR.z (Nat.le_of_ble_eq_true rfl) (fun _ _ => ⟨rfl, rfl⟩) ?_
            rw [zs_0]
            refine ev_nm (M0 := M1.set (o) (.inr (10, zo o (ui (Zi) 0 (nI 0)) (Zl)))) (fun M17 eM17 => ?_)
            have f18 : M17[o]? = some (.inr (10, zo o (ui (Zi) 0 (nI 0)) (Zl))) := by rw [eM17]; exact ev_sg ZR.z
            have f19 : M17[o + 1]? = some (.inl (0, 50, .inl (fT))) := by rw [eM17, ev_sn (by omega)]; exact hfT
            refine ev_blk (B := [(.aload_n 0, 1), (.iconst 0, 1)]) (pe := 63) (ls' := [some (.ref (o)), some (.int (nI k))]) (st' := [.int (nI 0), .ref (o)]) ⟨dX11_fire_61, dX11_fire_62, rfl⟩ rfl ?_
            have W20 : FX o (o + 31) (o + 31) M1 M17 := ⟨by rw [eM17]; simp only [List.length_set], fun j hj1 hj2 => by rw [eM17, ev_sn (by omega)]⟩
            refine ev_cVn Y_X11_remembers L_RX11_208 dX11_fire_63 ⟨Nat.le_of_ble_eq_true rfl, Nat.le_of_ble_eq_true rfl, Nat.le_of_ble_eq_true rfl, Nat.le_of_ble_eq_true rfl, Nat.le_of_ble_eq_true rfl⟩ f18 (as := [.int (nI 0)]) rfl rfl (c_R_remembers hl o (ui (Zi) 0 (nI 0)) (Zl) f18 S.x ZR.p.2.1 ZR.p.2.2.2.1 ZR.p.2.2.2.2.1 S.H hH20 ZR.p.2.2.1 (ZR.H.fx W20 (by omega)) 0) (fun M21 hL21 hB21 => ?_)
            obtain ⟨R22i, R22z, R224, R22K, R22H, R22F⟩ := hB21
            refine ev_blk (B := [(.aload_n 0, 1), (.iload_n 1, 1)]) (pe := 68) (ls' := [some (.ref (o)), some (.int (nI k))]) (st' := [.int (nI k), .ref (o)]) ⟨dX11_fire_66, dX11_fire_67, rfl⟩ rfl ?_
            refine ev_cVn Y_X11_fires L_RX11_212 dX11_fire_68 ⟨Nat.le_of_ble_eq_true rfl, Nat.le_of_ble_eq_true rfl, Nat.le_of_ble_eq_true rfl, Nat.le_of_ble_eq_true rfl, Nat.le_of_ble_eq_true rfl⟩ R22z (as := [.int (nI k)]) rfl rfl (c_R_fires hl o (R22i) (Zl) R22z _ (R22F.at f19 (by omega) (by omega)) S.T hPT hT10 hS.T k hk S.x (hS.x.le (by omega) : cfW 24 S.x) ((R22K 11 (by decide)).trans Z1) Z3 Z4 (mf_up q19)) (fun M23 hL23 hB23 => ?_)
            obtain ⟨Xi, Xl, Xz, XD, XF⟩ := hB23
            refine ev_blk (B := [(.aload_n 0, 1), (.aload_n 0, 1)]) (pe := 73) (ls' := [some (.ref (o)), some (.int (nI k))]) (st' := [.ref (o), .ref (o)]) ⟨dX11_fire_71, dX11_fire_72, rfl⟩ rfl ?_
            refine ev_getf (v := .int (nI ((ap (tg S.T k) S.x).2.1))) F_RX11_179 dX11_fire_73 Xz (congrArg (fun q => some (Value.int q)) XD.1) ?_
            refine ev_put F_RX11_169 dX11_fire_76 Xz (Nat.le_of_ble_eq_true rfl) (fun _ _ => ⟨rfl, rfl⟩) ?_
            rw [zs_3]
            refine ev_nm (M0 := M23.set (o) (.inr (10, zo o (ui (Xi) 3 (nI ((ap (tg S.T k) S.x).2.1))) (Xl)))) (fun M24 eM24 => ?_)
            have f25 : M24[o]? = some (.inr (10, zo o (ui (Xi) 3 (nI ((ap (tg S.T k) S.x).2.1))) (Xl))) := by rw [eM24]; exact ev_sg Xz
            refine ev_blk (B := [(.aload_n 0, 1), (.aload_n 0, 1)]) (pe := 81) (ls' := [some (.ref (o)), some (.int (nI k))]) (st' := [.ref (o), .ref (o)]) ⟨dX11_fire_79, dX11_fire_80, rfl⟩ rfl ?_
            refine ev_getf (v := .long (e2 (ap (tg S.T k) S.x).2.2.1)) F_RX11_182 dX11_fire_81 f25 (congrArg (fun q => some (Value.long q)) XD.2.2.1) ?_
            refine ev_put F_RX11_159 dX11_fire_84 f25 (Nat.le_of_ble_eq_true rfl) (fun _ _ => ⟨rfl, rfl⟩) ?_
            rw [zs_5]
            refine ev_nm (M0 := M24.set (o) (.inr (10, zo o (ui (Xi) 3 (nI ((ap (tg S.T k) S.x).2.1))) (ul (Xl) 5 (e2 (ap (tg S.T k) S.x).2.2.1))))) (fun M26 eM26 => ?_)
            have f27 : M26[o]? = some (.inr (10, zo o (ui (Xi) 3 (nI ((ap (tg S.T k) S.x).2.1))) (ul (Xl) 5 (e2 (ap (tg S.T k) S.x).2.2.1)))) := by rw [eM26]; exact ev_sg f25
            refine ev_blk (B := [(.aload_n 0, 1), (.aload_n 0, 1)]) (pe := 89) (ls' := [some (.ref (o)), some (.int (nI k))]) (st' := [.ref (o), .ref (o)]) ⟨dX11_fire_87, dX11_fire_88, rfl⟩ rfl ?_
            refine ev_getf (v := .long (e2 (ap (tg S.T k) S.x).2.2.2)) F_RX11_185 dX11_fire_89 f27 (congrArg (fun q => some (Value.long q)) XD.2.2.2.1) ?_
            refine ev_put F_RX11_163 dX11_fire_92 f27 (Nat.le_of_ble_eq_true rfl) (fun _ _ => ⟨rfl, rfl⟩) ?_
            rw [zs_6]
            refine ev_nm (M0 := M26.set (o) (.inr (10, zo o (ui (Xi) 3 (nI ((ap (tg S.T k) S.x).2.1))) (ul (ul (Xl) 5 (e2 (ap (tg S.T k) S.x).2.2.1)) 6 (e2 (ap (tg S.T k) S.x).2.2.2))))) (fun M28 eM28 => ?_)
            have f29 : M28[o]? = some (.inr (10, zo o (ui (Xi) 3 (nI ((ap (tg S.T k) S.x).2.1))) (ul (ul (Xl) 5 (e2 (ap (tg S.T k) S.x).2.2.1)) 6 (e2 (ap (tg S.T k) S.x).2.2.2)))) := by rw [eM28]; exact ev_sg f27
            refine ev_blk (B := [(.aload_n 0, 1)]) (pe := 96) (ls' := [some (.ref (o)), some (.int (nI k))]) (st' := [.ref (o)]) ⟨dX11_fire_95, rfl⟩ rfl ?_
            refine ev_getf (v := .int (nI ((ap (tg S.T k) S.x).2.1))) F_RX11_169 dX11_fire_96 f29 rfl ?_
            refine ev_iret dX11_fire_99 rfl (rfl) ⟨Nat.le_of_ble_eq_true rfl, Nat.le_of_ble_eq_true rfl⟩ ?_
            have W30 : FX o (o + 31) (o + 31) M23 M28 := ⟨by rw [eM28, eM26, eM24]; simp only [List.length_set], fun j hj1 hj2 => by rw [eM28, ev_sn (by omega), eM26, ev_sn (by omega), eM24, ev_sn (by omega)]⟩
            have e9 : sFir S (nI k) = ((0, nI (ap (tg S.T k) S.x).2.1), St.mk S.T (ap (tg S.T k) S.x).2 S.G (rec S.H S.x 0) S.n S.t S.f S.tk S.T9 S.x9 S.G9) := by
              unfold sFir tN
              rw [tk, if_neg (show ¬ inR (nI k) S.T.length = false by rw [jk]; decide), if_neg (show ¬ mf S.x (tg S.T k) false = false by rw [q19]; decide), if_neg (by rw [decide_eq_false (show ¬ 10 ≤ (cw S.x ((tg S.T k).2.2.2.1)).length by omega), Bool.and_false]; decide)]
            rw [e9]
            exact ⟨rfl, _, _, ZR.xh f29 ((((W20.em (by omega)).tr (R22F.to (by omega) (by omega))).tr (XF.em (by omega))).tr (W30.em (by omega))) ((R22H.fx XF (by omega)).fx W30 (by omega)) rfl ((XD.2.2.2.2.1 4 (by decide) (by decide)).trans R224) rfl rfl (fun q hq => (ui_ne (nm hq (by decide))).trans ((XD.2.2.2.2.1 q (nm hq (by decide)) (nm hq (by decide))).trans ((R22K q (nm hq (by decide))).trans (ui_ne (nm hq (by decide)))))) (fun q hq => (ul_ne (nm hq (by decide))).trans ((ul_ne (nm hq (by decide))).trans (XD.2.2.2.2.2 q (nm hq (by decide)) (nm hq (by decide))))), (XD.2.2.2.2.1 0 (by decide) (by decide)).trans (R22K 0 (by decide)), (FX.fr (lo := o + 1) (hi := o + 31) (((((ZF.to (by omega) (by omega)).tr (W20.to (by omega) (by omega))).tr (R22F.to (by omega) (by omega))).tr (XF.to (by omega) (by omega))).tr (W30.to (by omega) (by omega))) (by omega) (by omega))⟩
          · refine ev_blk (B := [(.aload_n 0, 1), (.iconst 2, 1)]) (pe := 52) (ls' := [some (.ref (o)), some (.int (nI k))]) (st' := [.int (nI 2), .ref (o)]) ⟨dX11_fire_50, dX11_fire_51, rfl⟩ rfl ?_
            refine ev_cVv Y_X11_fails L_RX11_144 dX11_fire_52 ⟨Nat.le_of_ble_eq_true rfl, Nat.le_of_ble_eq_true rfl, Nat.le_of_ble_eq_true rfl, Nat.le_of_ble_eq_true rfl, Nat.le_of_ble_eq_true rfl⟩ ZR.z (as := [.int (nI 2)]) rfl rfl (c_R_fails hl o (Zi) (Zl) ZR.z 2) ?_
            refine ev_nm (M0 := M1.set o (.inr (10, zo o (ui (Zi) 0 (nI 2)) (Zl)))) (fun Mf eMf => ?_)
            have ff : Mf[o]? = some (.inr (10, zo o (ui (Zi) 0 (nI 2)) (Zl))) := by rw [eMf]; exact ev_sg ZR.z
            refine ev_iret dX11_fire_55 rfl (rfl) ⟨Nat.le_of_ble_eq_true rfl, Nat.le_of_ble_eq_true rfl⟩ ?_
            have W31 : FX o (o + 31) (o + 31) M1 Mf := ⟨by rw [eMf]; simp only [List.length_set], fun j hj1 hj2 => by rw [eMf, ev_sn (by omega)]⟩
            have e9 : sFir S (nI k) = ((2, 0), S) := by
              unfold sFir tN
              rw [tk, if_neg (show ¬ inR (nI k) S.T.length = false by rw [jk]; decide), if_neg (show ¬ mf S.x (tg S.T k) false = false by rw [q19]; decide), if_pos (by rw [q29, q47]; rfl)]
            rw [e9]
            exact ⟨rfl, _, _, ⟨ff, ⟨ZR.p.1, ZR.p.2.1, ZR.p.2.2.1, ZR.p.2.2.2.1, ZR.p.2.2.2.2.1, ZR.p.2.2.2.2.2.1, ZR.p.2.2.2.2.2.2.1, ZR.p.2.2.2.2.2.2.2.1, ZR.p.2.2.2.2.2.2.2.2.1, ZR.p.2.2.2.2.2.2.2.2.2⟩, (ZR.T.fx W31 (by omega) (by omega)), (ZR.H.fx W31 (by omega)), (ZR.y.fx W31 (by omega)), (ZR.G.fx W31 (by omega) (by omega)), (ZR.a.fx W31 (by omega)), (ZR.u.fx W31 (by omega)), (ZR.x.fx W31 (by omega)), (ZR.k.fx W31 (by omega)), (ZR.s.fx W31 (by omega))⟩, rfl, (FX.fr (lo := o + 1) (hi := o + 31) ((ZF.to (by omega) (by omega)).tr (W31.to (by omega) (by omega))) (by omega) (by omega))⟩
    · exact absurd (jk.symm.trans q5) (by decide)
  · have ia9 := ia
    refine ev_body hl rfl (by decide +kernel) (Nat.le_of_ble_eq_true rfl) ?_
    show ev_ l m_X11_fire 0 0 0 [some (.ref (o)), some (.int (a))] [] M _
    refine ev_blk (B := [(.aload_n 0, 1), (.iload_n 1, 1)]) (pe := 2) (ls' := [some (.ref (o)), some (.int (a))]) (st' := [.int (a), .ref (o)]) ⟨dX11_fire_0, dX11_fire_1, rfl⟩ rfl ?_
    refine ev_cVv Y_X11_isTransition L_RX11_152 dX11_fire_2 ⟨Nat.le_of_ble_eq_true rfl, Nat.le_of_ble_eq_true rfl, Nat.le_of_ble_eq_true rfl, Nat.le_of_ble_eq_true rfl, Nat.le_of_ble_eq_true rfl⟩ hR.z (as := [.int (a)]) rfl rfl (c_R_isTransition hl o (zi) (zl) hR.z S.T.length hR.p.1 a) ?_
    refine ev_ifB_ne dX11_fire_5 (tgt := 14) (by decide) (fun q5 => ?_) (fun q5 => ?_)
    · exact absurd (ia.symm.trans q5) (by decide)
    · refine ev_blk (B := [(.aload_n 0, 1), (.iconst 1, 1)]) (pe := 10) (ls' := [some (.ref (o)), some (.int (a))]) (st' := [.int (nI 1), .ref (o)]) ⟨dX11_fire_8, dX11_fire_9, rfl⟩ rfl ?_
      refine ev_cVv Y_X11_fails L_RX11_144 dX11_fire_10 ⟨Nat.le_of_ble_eq_true rfl, Nat.le_of_ble_eq_true rfl, Nat.le_of_ble_eq_true rfl, Nat.le_of_ble_eq_true rfl, Nat.le_of_ble_eq_true rfl⟩ hR.z (as := [.int (nI 1)]) rfl rfl (c_R_fails hl o (zi) (zl) hR.z 1) ?_
      refine ev_nm (M0 := M.set o (.inr (10, zo o (ui (zi) 0 (nI 1)) (zl)))) (fun Mf eMf => ?_)
      have ff : Mf[o]? = some (.inr (10, zo o (ui (zi) 0 (nI 1)) (zl))) := by rw [eMf]; exact ev_sg hR.z
      refine ev_iret dX11_fire_13 rfl (rfl) ⟨Nat.le_of_ble_eq_true rfl, Nat.le_of_ble_eq_true rfl⟩ ?_
      have W32 : FX o (o + 31) (o + 31) M Mf := ⟨by rw [eMf]; simp only [List.length_set], fun j hj1 hj2 => by rw [eMf, ev_sn (by omega)]⟩
      have e9 : sFir S a = ((1, 0), S) := by simp [sFir, ia, q5]
      rw [e9]
      exact ⟨rfl, _, _, ⟨ff, ⟨hR.p.1, hR.p.2.1, hR.p.2.2.1, hR.p.2.2.2.1, hR.p.2.2.2.2.1, hR.p.2.2.2.2.2.1, hR.p.2.2.2.2.2.2.1, hR.p.2.2.2.2.2.2.2.1, hR.p.2.2.2.2.2.2.2.2.1, hR.p.2.2.2.2.2.2.2.2.2⟩, (hR.T.fx W32 (by omega) (by omega)), (hR.H.fx W32 (by omega)), (hR.y.fx W32 (by omega)), (hR.G.fx W32 (by omega) (by omega)), (hR.a.fx W32 (by omega)), (hR.u.fx W32 (by omega)), (hR.x.fx W32 (by omega)), (hR.k.fx W32 (by omega)), (hR.s.fx W32 (by omega))⟩, rfl, (FX.fr (lo := o + 1) (hi := o + 31) (W32.to (by omega) (by omega)) (by omega) (by omega))⟩

set_option maxHeartbeats 4000000 in
set_option maxRecDepth 100000 in
theorem c_R_addsGoal {l : Launch} (hl : l.stackTraces = false) {M : ev_M} (o : Nat) (zi : Nat → Int32) (zl : Nat → Int64) (hO : M[o]? = some (.inr (10, zo o zi zl))) (G : List Cf) (hG3 : G.length < 3) (h20 : zi 20 = nI G.length) (hPG : PGl M (o + 8) G) (c : Cf) : ev_Mt l m_X11_addsGoal [.ref (o), .int (nI (c.1)), .long (e2 c.2.1), .long (e2 c.2.2)] M (fun r M1 => r = .inl none ∧ ∃ zi', M1[o]? = some (.inr (10, zo o zi' zl)) ∧ zi' 20 = nI (G ++ [c]).length ∧ zi' 30 = nI 0 ∧ (∀ j, j ≠ 20 → j ≠ 30 → zi' j = zi j) ∧ PGl M1 (o + 8) (G ++ [c]) ∧ FX o (o + 8) (o + 11) M M1) := by
  obtain ⟨f, g, h, g8, g9, g10, hQ⟩ := hPG
  refine ev_body hl rfl (by decide +kernel) (Nat.le_of_ble_eq_true rfl) ?_
  show ev_ l m_X11_addsGoal 0 0 0 [some (.ref (o)), some (.int (nI (c.1))), some (.long (e2 c.2.1)), none, some (.long (e2 c.2.2)), none] [] M _
  refine ev_blk (B := [(.aload_n 0, 1)]) (pe := 1) (ls' := [some (.ref (o)), some (.int (nI (c.1))), some (.long (e2 c.2.1)), none, some (.long (e2 c.2.2)), none]) (st' := [.ref (o)]) ⟨dX11_addsGoal_0, rfl⟩ rfl ?_
  refine ev_getf (v := .ref (o + 8)) F_RX11_32 dX11_addsGoal_1 hO rfl ?_
  refine ev_blk (B := [(.aload_n 0, 1)]) (pe := 5) (ls' := [some (.ref (o)), some (.int (nI (c.1))), some (.long (e2 c.2.1)), none, some (.long (e2 c.2.2)), none]) (st' := [.ref (o), .ref (o + 8)]) ⟨dX11_addsGoal_4, rfl⟩ rfl ?_
  refine ev_getf (v := .int (nI (G.length))) F_RX11_225 dX11_addsGoal_5 hO (congrArg (fun q => some (Value.int q)) h20) ?_
  refine ev_blk (B := [(.iload_n 1, 1)]) (pe := 9) (ls' := [some (.ref (o)), some (.int (nI (c.1))), some (.long (e2 c.2.1)), none, some (.long (e2 c.2.2)), none]) (st' := [.int (nI (c.1)), .int (nI (G.length)), .ref (o + 8)]) ⟨dX11_addsGoal_8, rfl⟩ rfl ?_
  refine ev_iast dX11_addsGoal_9 g8 (vp_in_nI (show G.length < 3 by omega) (by omega)) ?_
  rw [nI_clamp (show G.length < 2 ^ 31 by omega)]
  refine ev_nm (M0 := M.set (o + 8) (.inl (0, 3, .inl (upd f G.length (nI (c.1)))))) (fun M1 eM1 => ?_)
  have f2 : M1[o]? = some (.inr (10, zo o (zi) (zl))) := by rw [eM1, ev_sn (by omega)]; exact hO
  have f3 : M1[o + 8]? = some (.inl (0, 3, .inl (upd f G.length (nI (c.1))))) := by rw [eM1]; exact ev_sg g8
  have f4 : M1[o + 9]? = some (.inl (1, 3, .inr (.inl (g)))) := by rw [eM1, ev_sn (by omega)]; exact g9
  have f5 : M1[o + 10]? = some (.inl (1, 3, .inr (.inl (h)))) := by rw [eM1, ev_sn (by omega)]; exact g10
  refine ev_blk (B := [(.aload_n 0, 1)]) (pe := 11) (ls' := [some (.ref (o)), some (.int (nI (c.1))), some (.long (e2 c.2.1)), none, some (.long (e2 c.2.2)), none]) (st' := [.ref (o)]) ⟨dX11_addsGoal_10, rfl⟩ rfl ?_
  refine ev_getf (v := .ref (o + 9)) F_RX11_35 dX11_addsGoal_11 f2 rfl ?_
  refine ev_blk (B := [(.aload_n 0, 1)]) (pe := 15) (ls' := [some (.ref (o)), some (.int (nI (c.1))), some (.long (e2 c.2.1)), none, some (.long (e2 c.2.2)), none]) (st' := [.ref (o), .ref (o + 9)]) ⟨dX11_addsGoal_14, rfl⟩ rfl ?_
  refine ev_getf (v := .int (nI (G.length))) F_RX11_225 dX11_addsGoal_15 f2 (congrArg (fun q => some (Value.int q)) h20) ?_
  refine ev_blk (B := [(.lload_n 2, 1)]) (pe := 19) (ls' := [some (.ref (o)), some (.int (nI (c.1))), some (.long (e2 c.2.1)), none, some (.long (e2 c.2.2)), none]) (st' := [.long (e2 c.2.1), .int (nI (G.length)), .ref (o + 9)]) ⟨dX11_addsGoal_18, rfl⟩ rfl ?_
  refine ev_last dX11_addsGoal_19 f4 (vp_in_nI (show G.length < 3 by omega) (by omega)) ?_
  rw [nI_clamp (show G.length < 2 ^ 31 by omega)]
  refine ev_nm (M0 := M1.set (o + 9) (.inl (1, 3, .inr (.inl (vp_updL g G.length (e2 c.2.1)))))) (fun M6 eM6 => ?_)
  have f7 : M6[o]? = some (.inr (10, zo o (zi) (zl))) := by rw [eM6, ev_sn (by omega)]; exact f2
  have f8 : M6[o + 8]? = some (.inl (0, 3, .inl (upd f G.length (nI (c.1))))) := by rw [eM6, ev_sn (by omega)]; exact f3
  have f9 : M6[o + 9]? = some (.inl (1, 3, .inr (.inl (vp_updL g G.length (e2 c.2.1))))) := by rw [eM6]; exact ev_sg f4
  have f10 : M6[o + 10]? = some (.inl (1, 3, .inr (.inl (h)))) := by rw [eM6, ev_sn (by omega)]; exact f5
  refine ev_blk (B := [(.aload_n 0, 1)]) (pe := 21) (ls' := [some (.ref (o)), some (.int (nI (c.1))), some (.long (e2 c.2.1)), none, some (.long (e2 c.2.2)), none]) (st' := [.ref (o)]) ⟨dX11_addsGoal_20, rfl⟩ rfl ?_
  refine ev_getf (v := .ref (o + 10)) F_RX11_38 dX11_addsGoal_21 f7 rfl ?_
  refine ev_blk (B := [(.aload_n 0, 1)]) (pe := 25) (ls' := [some (.ref (o)), some (.int (nI (c.1))), some (.long (e2 c.2.1)), none, some (.long (e2 c.2.2)), none]) (st' := [.ref (o), .ref (o + 10)]) ⟨dX11_addsGoal_24, rfl⟩ rfl ?_
  refine ev_getf (v := .int (nI (G.length))) F_RX11_225 dX11_addsGoal_25 f7 (congrArg (fun q => some (Value.int q)) h20) ?_
  refine ev_blk (B := [(.lload 4, 2)]) (pe := 30) (ls' := [some (.ref (o)), some (.int (nI (c.1))), some (.long (e2 c.2.1)), none, some (.long (e2 c.2.2)), none]) (st' := [.long (e2 c.2.2), .int (nI (G.length)), .ref (o + 10)]) ⟨dX11_addsGoal_28, rfl⟩ rfl ?_
  refine ev_last dX11_addsGoal_30 f10 (vp_in_nI (show G.length < 3 by omega) (by omega)) ?_
  rw [nI_clamp (show G.length < 2 ^ 31 by omega)]
  refine ev_nm (M0 := M6.set (o + 10) (.inl (1, 3, .inr (.inl (vp_updL h G.length (e2 c.2.2)))))) (fun M11 eM11 => ?_)
  have f12 : M11[o]? = some (.inr (10, zo o (zi) (zl))) := by rw [eM11, ev_sn (by omega)]; exact f7
  have f13 : M11[o + 8]? = some (.inl (0, 3, .inl (upd f G.length (nI (c.1))))) := by rw [eM11, ev_sn (by omega)]; exact f8
  have f14 : M11[o + 9]? = some (.inl (1, 3, .inr (.inl (vp_updL g G.length (e2 c.2.1))))) := by rw [eM11, ev_sn (by omega)]; exact f9
  have f15 : M11[o + 10]? = some (.inl (1, 3, .inr (.inl (vp_updL h G.length (e2 c.2.2))))) := by rw [eM11]; exact ev_sg f10
  refine ev_blk (B := [(.aload_n 0, 1), (.dup, 1)]) (pe := 33) (ls' := [some (.ref (o)), some (.int (nI (c.1))), some (.long (e2 c.2.1)), none, some (.long (e2 c.2.2)), none]) (st' := [.ref (o), .ref (o)]) ⟨dX11_addsGoal_31, dX11_addsGoal_32, rfl⟩ rfl ?_
  refine ev_getf (v := .int (nI (G.length))) F_RX11_225 dX11_addsGoal_33 f12 (congrArg (fun q => some (Value.int q)) h20) ?_
  refine ev_blk (B := [(.iconst 1, 1), (.iadd, 1)]) (pe := 38) (ls' := [some (.ref (o)), some (.int (nI (c.1))), some (.long (e2 c.2.1)), none, some (.long (e2 c.2.2)), none]) (st' := [.int (nI ((G.length) + 1)), .ref (o)]) ⟨dX11_addsGoal_36, dX11_addsGoal_37, rfl⟩ (by show some (([some (.ref (o)), some (.int (nI (c.1))), some (.long (e2 c.2.1)), none, some (.long (e2 c.2.2)), none] : ev_L), ([.int ((nI (G.length)) + (nI 1)), .ref (o)] : List Value)) = _; rw [nI_add (G.length) 1]) ?_
  refine ev_put F_RX11_225 dX11_addsGoal_38 f12 (Nat.le_of_ble_eq_true rfl) (fun _ _ => ⟨rfl, rfl⟩) ?_
  rw [zs_20]
  refine ev_nm (M0 := M11.set (o) (.inr (10, zo o (ui (zi) 20 (nI ((G.length) + 1))) (zl)))) (fun M16 eM16 => ?_)
  have f17 : M16[o]? = some (.inr (10, zo o (ui (zi) 20 (nI ((G.length) + 1))) (zl))) := by rw [eM16]; exact ev_sg f12
  have f18 : M16[o + 8]? = some (.inl (0, 3, .inl (upd f G.length (nI (c.1))))) := by rw [eM16, ev_sn (by omega)]; exact f13
  have f19 : M16[o + 9]? = some (.inl (1, 3, .inr (.inl (vp_updL g G.length (e2 c.2.1))))) := by rw [eM16, ev_sn (by omega)]; exact f14
  have f20 : M16[o + 10]? = some (.inl (1, 3, .inr (.inl (vp_updL h G.length (e2 c.2.2))))) := by rw [eM16, ev_sn (by omega)]; exact f15
  refine ev_blk (B := [(.aload_n 0, 1), (.iconst 0, 1)]) (pe := 43) (ls' := [some (.ref (o)), some (.int (nI (c.1))), some (.long (e2 c.2.1)), none, some (.long (e2 c.2.2)), none]) (st' := [.int (nI 0), .ref (o)]) ⟨dX11_addsGoal_41, dX11_addsGoal_42, rfl⟩ rfl ?_
  refine ev_put F_RX11_126 dX11_addsGoal_43 f17 (Nat.le_of_ble_eq_true rfl) (fun _ _ => ⟨rfl, rfl⟩) ?_
  rw [zs_30]
  refine ev_nm (M0 := M16.set (o) (.inr (10, zo o (ui (ui (zi) 20 (nI ((G.length) + 1))) 30 (nI 0)) (zl)))) (fun M21 eM21 => ?_)
  have f22 : M21[o]? = some (.inr (10, zo o (ui (ui (zi) 20 (nI ((G.length) + 1))) 30 (nI 0)) (zl))) := by rw [eM21]; exact ev_sg f17
  have f23 : M21[o + 8]? = some (.inl (0, 3, .inl (upd f G.length (nI (c.1))))) := by rw [eM21, ev_sn (by omega)]; exact f18
  have f24 : M21[o + 9]? = some (.inl (1, 3, .inr (.inl (vp_updL g G.length (e2 c.2.1))))) := by rw [eM21, ev_sn (by omega)]; exact f19
  have f25 : M21[o + 10]? = some (.inl (1, 3, .inr (.inl (vp_updL h G.length (e2 c.2.2))))) := by rw [eM21, ev_sn (by omega)]; exact f20
  refine ev_vret dX11_addsGoal_46 rfl ⟨Nat.le_of_ble_eq_true rfl, Nat.le_of_ble_eq_true rfl⟩ ?_
  exact ⟨rfl, _, f22, by rw [List.length_append]; rfl, rfl, fun j h1 h2 => (ui_ne h2).trans (ui_ne h1), ⟨_, _, _, f23, f24, f25, by rw [List.length_append]; exact QP.push rfl hQ⟩, ⟨by rw [eM21, eM16, eM11, eM6, eM1]; simp only [List.length_set], fun j hj1 hj2 => by rw [eM21, ev_sn (by omega), eM16, ev_sn (by omega), eM11, ev_sn (by omega), eM6, ev_sn (by omega), eM1, ev_sn (by omega)]⟩⟩

set_option maxHeartbeats 4000000 in
set_option maxRecDepth 100000 in
theorem r_addGoal {l : Launch} (hl : l.stackTraces = false) {M : ev_M} (o : Nat) (S : St) (hS : okS S) (hT10 : S.T.length ≤ 10) (hG3 : S.G.length ≤ 3) (hH20 : S.H.length ≤ 20) (zi : Nat → Int32) (zl : Nat → Int64) (hR : RR M o S zi zl) : ev_Mt l m_X11_addGoal [.ref (o)] M (fun r M1 => r = .inl (some (.int (sAdG S).1.2)) ∧ ∃ zi' zl', RR M1 o (sAdG S).2 zi' zl' ∧ zi' 0 = nI (sAdG S).1.1 ∧ Fr o (o + 31) M M1) := by
  refine ev_body hl rfl (by decide +kernel) (Nat.le_of_ble_eq_true rfl) ?_
  show ev_ l m_X11_addGoal 0 0 0 [some (.ref (o))] [] M _
  refine ev_blk (B := [(.aload_n 0, 1)]) (pe := 1) (ls' := [some (.ref (o))]) (st' := [.ref (o)]) ⟨dX11_addGoal_0, rfl⟩ rfl ?_
  refine ev_getf (v := .int (nI (S.G.length))) F_RX11_225 dX11_addGoal_1 hR.z (congrArg (fun q => some (Value.int q)) hR.p.2.2.2.2.2.1) ?_
  refine ev_blk (B := [(.iconst 3, 1)]) (pe := 5) (ls' := [some (.ref (o))]) (st' := [.int (nI 3), .int (nI (S.G.length))]) ⟨dX11_addGoal_4, rfl⟩ rfl ?_
  refine ev_iN_ne dX11_addGoal_5 (tgt := 14) (by decide) (by omega) (by omega) (fun q5 => ?_) (fun q5 => ?_)
  · refine ev_blk (B := [(.aload_n 0, 1), (.iconst 0, 1)]) (pe := 16) (ls' := [some (.ref (o))]) (st' := [.int (nI 0), .ref (o)]) ⟨dX11_addGoal_14, dX11_addGoal_15, rfl⟩ rfl ?_
    refine ev_put F_RX11_106 dX11_addGoal_16 hR.z (Nat.le_of_ble_eq_true rfl) (fun _ _ => ⟨rfl, rfl⟩) ?_
    rw [zs_0]
    refine ev_nm (M0 := M.set (o) (.inr (10, zo o (ui (zi) 0 (nI 0)) (zl)))) (fun M1 eM1 => ?_)
    have f2 : M1[o]? = some (.inr (10, zo o (ui (zi) 0 (nI 0)) (zl))) := by rw [eM1]; exact ev_sg hR.z
    refine ev_blk (B := [(.aload_n 0, 1), (.aload_n 0, 1)]) (pe := 21) (ls' := [some (.ref (o))]) (st' := [.ref (o), .ref (o)]) ⟨dX11_addGoal_19, dX11_addGoal_20, rfl⟩ rfl ?_
    refine ev_getf (v := .int (nI (S.x.1))) F_RX11_169 dX11_addGoal_21 f2 (congrArg (fun q => some (Value.int q)) hR.p.2.1) ?_
    refine ev_blk (B := [(.aload_n 0, 1)]) (pe := 25) (ls' := [some (.ref (o))]) (st' := [.ref (o), .int (nI (S.x.1)), .ref (o)]) ⟨dX11_addGoal_24, rfl⟩ rfl ?_
    refine ev_getf (v := .long (e2 S.x.2.1)) F_RX11_159 dX11_addGoal_25 f2 (congrArg (fun q => some (Value.long q)) hR.p.2.2.2.1) ?_
    refine ev_blk (B := [(.aload_n 0, 1)]) (pe := 29) (ls' := [some (.ref (o))]) (st' := [.ref (o), .long (e2 S.x.2.1), .int (nI (S.x.1)), .ref (o)]) ⟨dX11_addGoal_28, rfl⟩ rfl ?_
    refine ev_getf (v := .long (e2 S.x.2.2)) F_RX11_163 dX11_addGoal_29 f2 (congrArg (fun q => some (Value.long q)) hR.p.2.2.2.2.1) ?_
    have W3 : FX o (o + 31) (o + 31) M M1 := ⟨by rw [eM1]; simp only [List.length_set], fun j hj1 hj2 => by rw [eM1, ev_sn (by omega)]⟩
    refine ev_cVn Y_X11_addsGoal L_RX11_228 dX11_addGoal_32 ⟨Nat.le_of_ble_eq_true rfl, Nat.le_of_ble_eq_true rfl, Nat.le_of_ble_eq_true rfl, Nat.le_of_ble_eq_true rfl, Nat.le_of_ble_eq_true rfl⟩ f2 (as := [.int (nI (S.x.1)), .long (e2 S.x.2.1), .long (e2 S.x.2.2)]) rfl rfl (c_R_addsGoal hl o (ui (zi) 0 (nI 0)) (zl) f2 S.G (by omega) hR.p.2.2.2.2.2.1 (hR.G.fx W3 (by omega) (by omega)) S.x) (fun M4 hL4 hB4 => ?_)
    obtain ⟨Ai, Az, A1, A2, AK, AG, AF⟩ := hB4
    refine ev_blk (B := [(.aload_n 0, 1)]) (pe := 36) (ls' := [some (.ref (o))]) (st' := [.ref (o)]) ⟨dX11_addGoal_35, rfl⟩ rfl ?_
    refine ev_getf (v := .int (nI ((S.G ++ [S.x]).length))) F_RX11_225 dX11_addGoal_36 Az (congrArg (fun q => some (Value.int q)) A1) ?_
    refine ev_iret dX11_addGoal_39 rfl (rfl) ⟨Nat.le_of_ble_eq_true rfl, Nat.le_of_ble_eq_true rfl⟩ ?_
    have e9 : sAdG S = ((0, nI (S.G.length + 1)), St.mk S.T S.x (S.G ++ [S.x]) S.H S.n S.t S.f S.tk S.T9 S.x9 S.G9) := by unfold sAdG; rw [if_neg (show ¬ 3 ≤ S.G.length by omega)]
    rw [e9]
    exact ⟨by rw [List.length_append]; rfl, _, _, hR.nG Az ((W3.em (by omega)).tr (AF.to (by omega) (by omega))) AG A1 A2 (fun q hq => (AK q (nm hq (by decide)) (nm hq (by decide))).trans (ui_ne (nm hq (by decide)))) (fun q hq => rfl), AK 0 (by decide) (by decide), (FX.fr (lo := o + 1) (hi := o + 31) ((W3.to (by omega) (by omega)).tr (AF.to (by omega) (by omega))) (by omega) (by omega))⟩
  · refine ev_blk (B := [(.aload_n 0, 1), (.iconst 1, 1)]) (pe := 10) (ls' := [some (.ref (o))]) (st' := [.int (nI 1), .ref (o)]) ⟨dX11_addGoal_8, dX11_addGoal_9, rfl⟩ rfl ?_
    refine ev_cVv Y_X11_fails L_RX11_144 dX11_addGoal_10 ⟨Nat.le_of_ble_eq_true rfl, Nat.le_of_ble_eq_true rfl, Nat.le_of_ble_eq_true rfl, Nat.le_of_ble_eq_true rfl, Nat.le_of_ble_eq_true rfl⟩ hR.z (as := [.int (nI 1)]) rfl rfl (c_R_fails hl o (zi) (zl) hR.z 1) ?_
    refine ev_nm (M0 := M.set o (.inr (10, zo o (ui (zi) 0 (nI 1)) (zl)))) (fun Mf eMf => ?_)
    have ff : Mf[o]? = some (.inr (10, zo o (ui (zi) 0 (nI 1)) (zl))) := by rw [eMf]; exact ev_sg hR.z
    refine ev_iret dX11_addGoal_13 rfl (rfl) ⟨Nat.le_of_ble_eq_true rfl, Nat.le_of_ble_eq_true rfl⟩ ?_
    have W5 : FX o (o + 31) (o + 31) M Mf := ⟨by rw [eMf]; simp only [List.length_set], fun j hj1 hj2 => by rw [eMf, ev_sn (by omega)]⟩
    have e9 : sAdG S = ((1, 0), S) := by unfold sAdG; rw [if_pos (show 3 ≤ S.G.length by omega)]
    rw [e9]
    exact ⟨rfl, _, _, ⟨ff, ⟨hR.p.1, hR.p.2.1, hR.p.2.2.1, hR.p.2.2.2.1, hR.p.2.2.2.2.1, hR.p.2.2.2.2.2.1, hR.p.2.2.2.2.2.2.1, hR.p.2.2.2.2.2.2.2.1, hR.p.2.2.2.2.2.2.2.2.1, hR.p.2.2.2.2.2.2.2.2.2⟩, (hR.T.fx W5 (by omega) (by omega)), (hR.H.fx W5 (by omega)), (hR.y.fx W5 (by omega)), (hR.G.fx W5 (by omega) (by omega)), (hR.a.fx W5 (by omega)), (hR.u.fx W5 (by omega)), (hR.x.fx W5 (by omega)), (hR.k.fx W5 (by omega)), (hR.s.fx W5 (by omega))⟩, rfl, (FX.fr (lo := o + 1) (hi := o + 31) (W5.to (by omega) (by omega)) (by omega) (by omega))⟩

set_option maxHeartbeats 4000000 in
set_option maxRecDepth 100000 in
theorem c_R_adds {l : Launch} (hl : l.stackTraces = false) {M : ev_M} (o : Nat) (zi : Nat → Int32) (zl : Nat → Int64) (hO : M[o]? = some (.inr (10, zo o zi zl))) (T : List Tr) (hlt : T.length < 10) (h2 : zi 2 = nI T.length) (hPT : PT M (o + 1) T) (t : Tr) (ch lt : Int32) (h3 : t.2.2.1 ≠ 0 → ch = tp t 3) (h4 : t.2.2.1 ≠ 0 → lt = tp t 4) (ht : trO t) : ev_Mt l m_X11_adds [.ref (o), .int (nI (t.1)), .int (nI (t.2.1)), .int (nI (t.2.2.1)), .int (ch), .int (lt)] M (fun r M1 => r = .inl none ∧ ∃ zi', M1[o]? = some (.inr (10, zo o zi' zl)) ∧ zi' 2 = nI (T ++ [t]).length ∧ zi' 30 = nI 0 ∧ (∀ j, j ≠ 2 → j ≠ 30 → zi' j = zi j) ∧ PT M1 (o + 1) (T ++ [t]) ∧ FX o (o + 1) (o + 2) M M1) := by
  obtain ⟨f, hf1, hP⟩ := hPT
  obtain ⟨b0, b1, b2, b3, b4⟩ := ht
  refine ev_body hl rfl (by decide +kernel) (Nat.le_of_ble_eq_true rfl) ?_
  show ev_ l m_X11_adds 0 0 0 [some (.ref (o)), some (.int (nI (t.1))), some (.int (nI (t.2.1))), some (.int (nI (t.2.2.1))), some (.int (ch)), some (.int (lt)), none] [] M _
  refine ev_blk (B := [(.iconst 5, 1), (.aload_n 0, 1)]) (pe := 2) (ls' := [some (.ref (o)), some (.int (nI (t.1))), some (.int (nI (t.2.1))), some (.int (nI (t.2.2.1))), some (.int (ch)), some (.int (lt)), none]) (st' := [.ref (o), .int (nI 5)]) ⟨dX11_adds_0, dX11_adds_1, rfl⟩ rfl ?_
  refine ev_getf (v := .int (nI (T.length))) F_RX11_123 dX11_adds_2 hO (congrArg (fun q => some (Value.int q)) h2) ?_
  refine ev_blk (B := [(.imul, 1), (.istore 6, 2), (.aload_n 0, 1)]) (pe := 9) (ls' := [some (.ref (o)), some (.int (nI (t.1))), some (.int (nI (t.2.1))), some (.int (nI (t.2.2.1))), some (.int (ch)), some (.int (lt)), some (.int (nI (5 * (T.length))))]) (st' := [.ref (o)]) ⟨dX11_adds_5, dX11_adds_6, dX11_adds_8, rfl⟩ (by show some (([some (.ref (o)), some (.int (nI (t.1))), some (.int (nI (t.2.1))), some (.int (nI (t.2.2.1))), some (.int (ch)), some (.int (lt)), some (.int ((nI 5) * (nI (T.length))))] : ev_L), ([.ref (o)] : List Value)) = _; rw [pk_mul 5 (T.length)]) ?_
  refine ev_getf (v := .ref (o + 1)) F_RX11_7 dX11_adds_9 hO rfl ?_
  refine ev_blk (B := [(.iload 6, 2), (.iload_n 1, 1)]) (pe := 15) (ls' := [some (.ref (o)), some (.int (nI (t.1))), some (.int (nI (t.2.1))), some (.int (nI (t.2.2.1))), some (.int (ch)), some (.int (lt)), some (.int (nI (5 * (T.length))))]) (st' := [.int (nI (t.1)), .int (nI (5 * (T.length))), .ref (o + 1)]) ⟨dX11_adds_12, dX11_adds_14, rfl⟩ rfl ?_
  refine ev_iast dX11_adds_15 hf1 (vp_in_nI (show 5 * (T.length) < 50 by omega) (by omega)) ?_
  rw [nI_clamp (show 5 * (T.length) < 2 ^ 31 by omega)]
  refine ev_nm (M0 := M.set (o + 1) (.inl (0, 50, .inl (upd f (5 * (T.length)) (nI (t.1)))))) (fun M1 eM1 => ?_)
  have f2 : M1[o]? = some (.inr (10, zo o (zi) (zl))) := by rw [eM1, ev_sn (by omega)]; exact hO
  have f3 : M1[o + 1]? = some (.inl (0, 50, .inl (upd f (5 * (T.length)) (nI (t.1))))) := by rw [eM1]; exact ev_sg hf1
  refine ev_blk (B := [(.aload_n 0, 1)]) (pe := 17) (ls' := [some (.ref (o)), some (.int (nI (t.1))), some (.int (nI (t.2.1))), some (.int (nI (t.2.2.1))), some (.int (ch)), some (.int (lt)), some (.int (nI (5 * (T.length))))]) (st' := [.ref (o)]) ⟨dX11_adds_16, rfl⟩ rfl ?_
  refine ev_getf (v := .ref (o + 1)) F_RX11_7 dX11_adds_17 f2 rfl ?_
  refine ev_blk (B := [(.iload 6, 2), (.iconst 1, 1), (.iadd, 1), (.iload_n 2, 1)]) (pe := 25) (ls' := [some (.ref (o)), some (.int (nI (t.1))), some (.int (nI (t.2.1))), some (.int (nI (t.2.2.1))), some (.int (ch)), some (.int (lt)), some (.int (nI (5 * (T.length))))]) (st' := [.int (nI (t.2.1)), .int (nI ((5 * (T.length)) + 1)), .ref (o + 1)]) ⟨dX11_adds_20, dX11_adds_22, dX11_adds_23, dX11_adds_24, rfl⟩ (by show some (([some (.ref (o)), some (.int (nI (t.1))), some (.int (nI (t.2.1))), some (.int (nI (t.2.2.1))), some (.int (ch)), some (.int (lt)), some (.int (nI (5 * (T.length))))] : ev_L), ([.int (nI (t.2.1)), .int ((nI (5 * (T.length))) + (nI 1)), .ref (o + 1)] : List Value)) = _; rw [nI_add (5 * (T.length)) 1]) ?_
  refine ev_iast dX11_adds_25 f3 (vp_in_nI (show (5 * (T.length)) + 1 < 50 by omega) (by omega)) ?_
  rw [nI_clamp (show (5 * (T.length)) + 1 < 2 ^ 31 by omega)]
  refine ev_nm (M0 := M1.set (o + 1) (.inl (0, 50, .inl (upd (upd f (5 * (T.length)) (nI (t.1))) ((5 * (T.length)) + 1) (nI (t.2.1)))))) (fun M4 eM4 => ?_)
  have f5 : M4[o]? = some (.inr (10, zo o (zi) (zl))) := by rw [eM4, ev_sn (by omega)]; exact f2
  have f6 : M4[o + 1]? = some (.inl (0, 50, .inl (upd (upd f (5 * (T.length)) (nI (t.1))) ((5 * (T.length)) + 1) (nI (t.2.1))))) := by rw [eM4]; exact ev_sg f3
  refine ev_blk (B := [(.aload_n 0, 1)]) (pe := 27) (ls' := [some (.ref (o)), some (.int (nI (t.1))), some (.int (nI (t.2.1))), some (.int (nI (t.2.2.1))), some (.int (ch)), some (.int (lt)), some (.int (nI (5 * (T.length))))]) (st' := [.ref (o)]) ⟨dX11_adds_26, rfl⟩ rfl ?_
  refine ev_getf (v := .ref (o + 1)) F_RX11_7 dX11_adds_27 f5 rfl ?_
  refine ev_blk (B := [(.iload 6, 2), (.iconst 2, 1), (.iadd, 1), (.iload_n 3, 1)]) (pe := 35) (ls' := [some (.ref (o)), some (.int (nI (t.1))), some (.int (nI (t.2.1))), some (.int (nI (t.2.2.1))), some (.int (ch)), some (.int (lt)), some (.int (nI (5 * (T.length))))]) (st' := [.int (nI (t.2.2.1)), .int (nI ((5 * (T.length)) + 2)), .ref (o + 1)]) ⟨dX11_adds_30, dX11_adds_32, dX11_adds_33, dX11_adds_34, rfl⟩ (by show some (([some (.ref (o)), some (.int (nI (t.1))), some (.int (nI (t.2.1))), some (.int (nI (t.2.2.1))), some (.int (ch)), some (.int (lt)), some (.int (nI (5 * (T.length))))] : ev_L), ([.int (nI (t.2.2.1)), .int ((nI (5 * (T.length))) + (nI 2)), .ref (o + 1)] : List Value)) = _; rw [nI_add (5 * (T.length)) 2]) ?_
  refine ev_iast dX11_adds_35 f6 (vp_in_nI (show (5 * (T.length)) + 2 < 50 by omega) (by omega)) ?_
  rw [nI_clamp (show (5 * (T.length)) + 2 < 2 ^ 31 by omega)]
  refine ev_nm (M0 := M4.set (o + 1) (.inl (0, 50, .inl (upd (upd (upd f (5 * (T.length)) (nI (t.1))) ((5 * (T.length)) + 1) (nI (t.2.1))) ((5 * (T.length)) + 2) (nI (t.2.2.1)))))) (fun M7 eM7 => ?_)
  have f8 : M7[o]? = some (.inr (10, zo o (zi) (zl))) := by rw [eM7, ev_sn (by omega)]; exact f5
  have f9 : M7[o + 1]? = some (.inl (0, 50, .inl (upd (upd (upd f (5 * (T.length)) (nI (t.1))) ((5 * (T.length)) + 1) (nI (t.2.1))) ((5 * (T.length)) + 2) (nI (t.2.2.1))))) := by rw [eM7]; exact ev_sg f6
  refine ev_blk (B := [(.aload_n 0, 1)]) (pe := 37) (ls' := [some (.ref (o)), some (.int (nI (t.1))), some (.int (nI (t.2.1))), some (.int (nI (t.2.2.1))), some (.int (ch)), some (.int (lt)), some (.int (nI (5 * (T.length))))]) (st' := [.ref (o)]) ⟨dX11_adds_36, rfl⟩ rfl ?_
  refine ev_getf (v := .ref (o + 1)) F_RX11_7 dX11_adds_37 f8 rfl ?_
  refine ev_blk (B := [(.iload 6, 2), (.iconst 3, 1), (.iadd, 1), (.iload_n 3, 1)]) (pe := 45) (ls' := [some (.ref (o)), some (.int (nI (t.1))), some (.int (nI (t.2.1))), some (.int (nI (t.2.2.1))), some (.int (ch)), some (.int (lt)), some (.int (nI (5 * (T.length))))]) (st' := [.int (nI (t.2.2.1)), .int (nI ((5 * (T.length)) + 3)), .ref (o + 1)]) ⟨dX11_adds_40, dX11_adds_42, dX11_adds_43, dX11_adds_44, rfl⟩ (by show some (([some (.ref (o)), some (.int (nI (t.1))), some (.int (nI (t.2.1))), some (.int (nI (t.2.2.1))), some (.int (ch)), some (.int (lt)), some (.int (nI (5 * (T.length))))] : ev_L), ([.int (nI (t.2.2.1)), .int ((nI (5 * (T.length))) + (nI 3)), .ref (o + 1)] : List Value)) = _; rw [nI_add (5 * (T.length)) 3]) ?_
  refine ev_fN_ne dX11_adds_45 (tgt := 52) (by decide) (by omega) (fun q45 => ?_) (fun q45 => ?_)
  · refine ev_blk (B := [(.iload 4, 2)]) (pe := 54) (ls' := [some (.ref (o)), some (.int (nI (t.1))), some (.int (nI (t.2.1))), some (.int (nI (t.2.2.1))), some (.int (ch)), some (.int (lt)), some (.int (nI (5 * (T.length))))]) (st' := [.int (ch), .int (nI ((5 * (T.length)) + 3)), .ref (o + 1)]) ⟨dX11_adds_52, rfl⟩ rfl ?_
    refine ev_iast dX11_adds_54 f9 (vp_in_nI (show (5 * (T.length)) + 3 < 50 by omega) (by omega)) ?_
    rw [nI_clamp (show (5 * (T.length)) + 3 < 2 ^ 31 by omega)]
    refine ev_nm (M0 := M7.set (o + 1) (.inl (0, 50, .inl (upd (upd (upd (upd f (5 * (T.length)) (nI (t.1))) ((5 * (T.length)) + 1) (nI (t.2.1))) ((5 * (T.length)) + 2) (nI (t.2.2.1))) ((5 * (T.length)) + 3) ch)))) (fun M10 eM10 => ?_)
    have f11 : M10[o]? = some (.inr (10, zo o (zi) (zl))) := by rw [eM10, ev_sn (by omega)]; exact f8
    have f12 : M10[o + 1]? = some (.inl (0, 50, .inl (upd (upd (upd (upd f (5 * (T.length)) (nI (t.1))) ((5 * (T.length)) + 1) (nI (t.2.1))) ((5 * (T.length)) + 2) (nI (t.2.2.1))) ((5 * (T.length)) + 3) ch))) := by rw [eM10]; exact ev_sg f9
    refine ev_blk (B := [(.aload_n 0, 1)]) (pe := 56) (ls' := [some (.ref (o)), some (.int (nI (t.1))), some (.int (nI (t.2.1))), some (.int (nI (t.2.2.1))), some (.int (ch)), some (.int (lt)), some (.int (nI (5 * (T.length))))]) (st' := [.ref (o)]) ⟨dX11_adds_55, rfl⟩ rfl ?_
    refine ev_getf (v := .ref (o + 1)) F_RX11_7 dX11_adds_56 f11 rfl ?_
    refine ev_blk (B := [(.iload 6, 2), (.iconst 4, 1), (.iadd, 1), (.iload_n 3, 1)]) (pe := 64) (ls' := [some (.ref (o)), some (.int (nI (t.1))), some (.int (nI (t.2.1))), some (.int (nI (t.2.2.1))), some (.int (ch)), some (.int (lt)), some (.int (nI (5 * (T.length))))]) (st' := [.int (nI (t.2.2.1)), .int (nI ((5 * (T.length)) + 4)), .ref (o + 1)]) ⟨dX11_adds_59, dX11_adds_61, dX11_adds_62, dX11_adds_63, rfl⟩ (by show some (([some (.ref (o)), some (.int (nI (t.1))), some (.int (nI (t.2.1))), some (.int (nI (t.2.2.1))), some (.int (ch)), some (.int (lt)), some (.int (nI (5 * (T.length))))] : ev_L), ([.int (nI (t.2.2.1)), .int ((nI (5 * (T.length))) + (nI 4)), .ref (o + 1)] : List Value)) = _; rw [nI_add (5 * (T.length)) 4]) ?_
    refine ev_fN_ne dX11_adds_64 (tgt := 71) (by decide) (by omega) (fun q64 => ?_) (fun q64 => ?_)
    · refine ev_blk (B := [(.iload 5, 2)]) (pe := 73) (ls' := [some (.ref (o)), some (.int (nI (t.1))), some (.int (nI (t.2.1))), some (.int (nI (t.2.2.1))), some (.int (ch)), some (.int (lt)), some (.int (nI (5 * (T.length))))]) (st' := [.int (lt), .int (nI ((5 * (T.length)) + 4)), .ref (o + 1)]) ⟨dX11_adds_71, rfl⟩ rfl ?_
      refine ev_iast dX11_adds_73 f12 (vp_in_nI (show (5 * (T.length)) + 4 < 50 by omega) (by omega)) ?_
      rw [nI_clamp (show (5 * (T.length)) + 4 < 2 ^ 31 by omega)]
      refine ev_nm (M0 := M10.set (o + 1) (.inl (0, 50, .inl (upd (upd (upd (upd (upd f (5 * (T.length)) (nI (t.1))) ((5 * (T.length)) + 1) (nI (t.2.1))) ((5 * (T.length)) + 2) (nI (t.2.2.1))) ((5 * (T.length)) + 3) ch) ((5 * (T.length)) + 4) lt)))) (fun M13 eM13 => ?_)
      have f14 : M13[o]? = some (.inr (10, zo o (zi) (zl))) := by rw [eM13, ev_sn (by omega)]; exact f11
      have f15 : M13[o + 1]? = some (.inl (0, 50, .inl (upd (upd (upd (upd (upd f (5 * (T.length)) (nI (t.1))) ((5 * (T.length)) + 1) (nI (t.2.1))) ((5 * (T.length)) + 2) (nI (t.2.2.1))) ((5 * (T.length)) + 3) ch) ((5 * (T.length)) + 4) lt))) := by rw [eM13]; exact ev_sg f12
      refine ev_blk (B := [(.aload_n 0, 1), (.dup, 1)]) (pe := 76) (ls' := [some (.ref (o)), some (.int (nI (t.1))), some (.int (nI (t.2.1))), some (.int (nI (t.2.2.1))), some (.int (ch)), some (.int (lt)), some (.int (nI (5 * (T.length))))]) (st' := [.ref (o), .ref (o)]) ⟨dX11_adds_74, dX11_adds_75, rfl⟩ rfl ?_
      refine ev_getf (v := .int (nI (T.length))) F_RX11_123 dX11_adds_76 f14 (congrArg (fun q => some (Value.int q)) h2) ?_
      refine ev_blk (B := [(.iconst 1, 1), (.iadd, 1)]) (pe := 81) (ls' := [some (.ref (o)), some (.int (nI (t.1))), some (.int (nI (t.2.1))), some (.int (nI (t.2.2.1))), some (.int (ch)), some (.int (lt)), some (.int (nI (5 * (T.length))))]) (st' := [.int (nI ((T.length) + 1)), .ref (o)]) ⟨dX11_adds_79, dX11_adds_80, rfl⟩ (by show some (([some (.ref (o)), some (.int (nI (t.1))), some (.int (nI (t.2.1))), some (.int (nI (t.2.2.1))), some (.int (ch)), some (.int (lt)), some (.int (nI (5 * (T.length))))] : ev_L), ([.int ((nI (T.length)) + (nI 1)), .ref (o)] : List Value)) = _; rw [nI_add (T.length) 1]) ?_
      refine ev_put F_RX11_123 dX11_adds_81 f14 (Nat.le_of_ble_eq_true rfl) (fun _ _ => ⟨rfl, rfl⟩) ?_
      rw [zs_2]
      refine ev_nm (M0 := M13.set (o) (.inr (10, zo o (ui (zi) 2 (nI ((T.length) + 1))) (zl)))) (fun M16 eM16 => ?_)
      have f17 : M16[o]? = some (.inr (10, zo o (ui (zi) 2 (nI ((T.length) + 1))) (zl))) := by rw [eM16]; exact ev_sg f14
      have f18 : M16[o + 1]? = some (.inl (0, 50, .inl (upd (upd (upd (upd (upd f (5 * (T.length)) (nI (t.1))) ((5 * (T.length)) + 1) (nI (t.2.1))) ((5 * (T.length)) + 2) (nI (t.2.2.1))) ((5 * (T.length)) + 3) ch) ((5 * (T.length)) + 4) lt))) := by rw [eM16, ev_sn (by omega)]; exact f15
      refine ev_blk (B := [(.aload_n 0, 1), (.iconst 0, 1)]) (pe := 86) (ls' := [some (.ref (o)), some (.int (nI (t.1))), some (.int (nI (t.2.1))), some (.int (nI (t.2.2.1))), some (.int (ch)), some (.int (lt)), some (.int (nI (5 * (T.length))))]) (st' := [.int (nI 0), .ref (o)]) ⟨dX11_adds_84, dX11_adds_85, rfl⟩ rfl ?_
      refine ev_put F_RX11_126 dX11_adds_86 f17 (Nat.le_of_ble_eq_true rfl) (fun _ _ => ⟨rfl, rfl⟩) ?_
      rw [zs_30]
      refine ev_nm (M0 := M16.set (o) (.inr (10, zo o (ui (ui (zi) 2 (nI ((T.length) + 1))) 30 (nI 0)) (zl)))) (fun M19 eM19 => ?_)
      have f20 : M19[o]? = some (.inr (10, zo o (ui (ui (zi) 2 (nI ((T.length) + 1))) 30 (nI 0)) (zl))) := by rw [eM19]; exact ev_sg f17
      have f21 : M19[o + 1]? = some (.inl (0, 50, .inl (upd (upd (upd (upd (upd f (5 * (T.length)) (nI (t.1))) ((5 * (T.length)) + 1) (nI (t.2.1))) ((5 * (T.length)) + 2) (nI (t.2.2.1))) ((5 * (T.length)) + 3) ch) ((5 * (T.length)) + 4) lt))) := by rw [eM19, ev_sn (by omega)]; exact f18
      refine ev_vret dX11_adds_89 rfl ⟨Nat.le_of_ble_eq_true rfl, Nat.le_of_ble_eq_true rfl⟩ ?_
      refine ⟨rfl, _, f20, by rw [List.length_append]; rfl, rfl, fun j h1 h2 => (ui_ne h2).trans (ui_ne h1), ⟨_, f21, ?_⟩, ⟨by rw [eM19, eM16, eM13, eM10, eM7, eM4, eM1]; simp only [List.length_set], fun j hj1 hj2 => by rw [eM19, ev_sn (by omega), eM16, ev_sn (by omega), eM13, ev_sn (by omega), eM10, ev_sn (by omega), eM7, ev_sn (by omega), eM4, ev_sn (by omega), eM1, ev_sn (by omega)]⟩⟩
      rw [List.length_append]
      refine RP5.push rfl hP (fun j hj => ?_) (fun k hk => ?_)
      · simp only [upd_at]
        rw [if_neg (by omega), if_neg (by omega), if_neg (by omega), if_neg (by omega), if_neg (by omega)]
      · simp only [upd_at]
        match k, hk with
        | 0, _ => rw [if_neg (by omega), if_neg (by omega), if_neg (by omega), if_neg (by omega), if_pos (by omega)]; rfl
        | 1, _ => rw [if_neg (by omega), if_neg (by omega), if_neg (by omega), if_pos (by omega)]; rfl
        | 2, _ => rw [if_neg (by omega), if_neg (by omega), if_pos (by omega)]; rfl
        | 3, _ => rw [if_neg (by omega), if_pos (by omega)]; first | exact (h3 (by assumption)) | exact (tp_0 (by assumption)).1.symm
        | 4, _ => rw [if_pos (by omega)]; first | exact (h4 (by assumption)) | exact (tp_0 (by assumption)).2.symm
    · refine ev_blk (B := [(.iconst (-1), 1)]) (pe := 68) (ls' := [some (.ref (o)), some (.int (nI (t.1))), some (.int (nI (t.2.1))), some (.int (nI (t.2.2.1))), some (.int (ch)), some (.int (lt)), some (.int (nI (5 * (T.length))))]) (st' := [.int ((-1)), .int (nI ((5 * (T.length)) + 4)), .ref (o + 1)]) ⟨dX11_adds_67, rfl⟩ rfl ?_
      refine ev_goto (tgt := 73) dX11_adds_68 (by decide) ?_
      refine ev_iast dX11_adds_73 f12 (vp_in_nI (show (5 * (T.length)) + 4 < 50 by omega) (by omega)) ?_
      rw [nI_clamp (show (5 * (T.length)) + 4 < 2 ^ 31 by omega)]
      refine ev_nm (M0 := M10.set (o + 1) (.inl (0, 50, .inl (upd (upd (upd (upd (upd f (5 * (T.length)) (nI (t.1))) ((5 * (T.length)) + 1) (nI (t.2.1))) ((5 * (T.length)) + 2) (nI (t.2.2.1))) ((5 * (T.length)) + 3) ch) ((5 * (T.length)) + 4) ((-1)))))) (fun M22 eM22 => ?_)
      have f23 : M22[o]? = some (.inr (10, zo o (zi) (zl))) := by rw [eM22, ev_sn (by omega)]; exact f11
      have f24 : M22[o + 1]? = some (.inl (0, 50, .inl (upd (upd (upd (upd (upd f (5 * (T.length)) (nI (t.1))) ((5 * (T.length)) + 1) (nI (t.2.1))) ((5 * (T.length)) + 2) (nI (t.2.2.1))) ((5 * (T.length)) + 3) ch) ((5 * (T.length)) + 4) ((-1))))) := by rw [eM22]; exact ev_sg f12
      refine ev_blk (B := [(.aload_n 0, 1), (.dup, 1)]) (pe := 76) (ls' := [some (.ref (o)), some (.int (nI (t.1))), some (.int (nI (t.2.1))), some (.int (nI (t.2.2.1))), some (.int (ch)), some (.int (lt)), some (.int (nI (5 * (T.length))))]) (st' := [.ref (o), .ref (o)]) ⟨dX11_adds_74, dX11_adds_75, rfl⟩ rfl ?_
      refine ev_getf (v := .int (nI (T.length))) F_RX11_123 dX11_adds_76 f23 (congrArg (fun q => some (Value.int q)) h2) ?_
      refine ev_blk (B := [(.iconst 1, 1), (.iadd, 1)]) (pe := 81) (ls' := [some (.ref (o)), some (.int (nI (t.1))), some (.int (nI (t.2.1))), some (.int (nI (t.2.2.1))), some (.int (ch)), some (.int (lt)), some (.int (nI (5 * (T.length))))]) (st' := [.int (nI ((T.length) + 1)), .ref (o)]) ⟨dX11_adds_79, dX11_adds_80, rfl⟩ (by show some (([some (.ref (o)), some (.int (nI (t.1))), some (.int (nI (t.2.1))), some (.int (nI (t.2.2.1))), some (.int (ch)), some (.int (lt)), some (.int (nI (5 * (T.length))))] : ev_L), ([.int ((nI (T.length)) + (nI 1)), .ref (o)] : List Value)) = _; rw [nI_add (T.length) 1]) ?_
      refine ev_put F_RX11_123 dX11_adds_81 f23 (Nat.le_of_ble_eq_true rfl) (fun _ _ => ⟨rfl, rfl⟩) ?_
      rw [zs_2]
      refine ev_nm (M0 := M22.set (o) (.inr (10, zo o (ui (zi) 2 (nI ((T.length) + 1))) (zl)))) (fun M25 eM25 => ?_)
      have f26 : M25[o]? = some (.inr (10, zo o (ui (zi) 2 (nI ((T.length) + 1))) (zl))) := by rw [eM25]; exact ev_sg f23
      have f27 : M25[o + 1]? = some (.inl (0, 50, .inl (upd (upd (upd (upd (upd f (5 * (T.length)) (nI (t.1))) ((5 * (T.length)) + 1) (nI (t.2.1))) ((5 * (T.length)) + 2) (nI (t.2.2.1))) ((5 * (T.length)) + 3) ch) ((5 * (T.length)) + 4) ((-1))))) := by rw [eM25, ev_sn (by omega)]; exact f24
      refine ev_blk (B := [(.aload_n 0, 1), (.iconst 0, 1)]) (pe := 86) (ls' := [some (.ref (o)), some (.int (nI (t.1))), some (.int (nI (t.2.1))), some (.int (nI (t.2.2.1))), some (.int (ch)), some (.int (lt)), some (.int (nI (5 * (T.length))))]) (st' := [.int (nI 0), .ref (o)]) ⟨dX11_adds_84, dX11_adds_85, rfl⟩ rfl ?_
      refine ev_put F_RX11_126 dX11_adds_86 f26 (Nat.le_of_ble_eq_true rfl) (fun _ _ => ⟨rfl, rfl⟩) ?_
      rw [zs_30]
      refine ev_nm (M0 := M25.set (o) (.inr (10, zo o (ui (ui (zi) 2 (nI ((T.length) + 1))) 30 (nI 0)) (zl)))) (fun M28 eM28 => ?_)
      have f29 : M28[o]? = some (.inr (10, zo o (ui (ui (zi) 2 (nI ((T.length) + 1))) 30 (nI 0)) (zl))) := by rw [eM28]; exact ev_sg f26
      have f30 : M28[o + 1]? = some (.inl (0, 50, .inl (upd (upd (upd (upd (upd f (5 * (T.length)) (nI (t.1))) ((5 * (T.length)) + 1) (nI (t.2.1))) ((5 * (T.length)) + 2) (nI (t.2.2.1))) ((5 * (T.length)) + 3) ch) ((5 * (T.length)) + 4) ((-1))))) := by rw [eM28, ev_sn (by omega)]; exact f27
      refine ev_vret dX11_adds_89 rfl ⟨Nat.le_of_ble_eq_true rfl, Nat.le_of_ble_eq_true rfl⟩ ?_
      refine ⟨rfl, _, f29, by rw [List.length_append]; rfl, rfl, fun j h1 h2 => (ui_ne h2).trans (ui_ne h1), ⟨_, f30, ?_⟩, ⟨by rw [eM28, eM25, eM22, eM10, eM7, eM4, eM1]; simp only [List.length_set], fun j hj1 hj2 => by rw [eM28, ev_sn (by omega), eM25, ev_sn (by omega), eM22, ev_sn (by omega), eM10, ev_sn (by omega), eM7, ev_sn (by omega), eM4, ev_sn (by omega), eM1, ev_sn (by omega)]⟩⟩
      rw [List.length_append]
      refine RP5.push rfl hP (fun j hj => ?_) (fun k hk => ?_)
      · simp only [upd_at]
        rw [if_neg (by omega), if_neg (by omega), if_neg (by omega), if_neg (by omega), if_neg (by omega)]
      · simp only [upd_at]
        match k, hk with
        | 0, _ => rw [if_neg (by omega), if_neg (by omega), if_neg (by omega), if_neg (by omega), if_pos (by omega)]; rfl
        | 1, _ => rw [if_neg (by omega), if_neg (by omega), if_neg (by omega), if_pos (by omega)]; rfl
        | 2, _ => rw [if_neg (by omega), if_neg (by omega), if_pos (by omega)]; rfl
        | 3, _ => rw [if_neg (by omega), if_pos (by omega)]; first | exact (h3 (by assumption)) | exact (tp_0 (by assumption)).1.symm
        | 4, _ => rw [if_pos (by omega)]; first | exact (h4 (by assumption)) | exact (tp_0 (by assumption)).2.symm
  · refine ev_blk (B := [(.iconst (-1), 1)]) (pe := 49) (ls' := [some (.ref (o)), some (.int (nI (t.1))), some (.int (nI (t.2.1))), some (.int (nI (t.2.2.1))), some (.int (ch)), some (.int (lt)), some (.int (nI (5 * (T.length))))]) (st' := [.int ((-1)), .int (nI ((5 * (T.length)) + 3)), .ref (o + 1)]) ⟨dX11_adds_48, rfl⟩ rfl ?_
    refine ev_goto (tgt := 54) dX11_adds_49 (by decide) ?_
    refine ev_iast dX11_adds_54 f9 (vp_in_nI (show (5 * (T.length)) + 3 < 50 by omega) (by omega)) ?_
    rw [nI_clamp (show (5 * (T.length)) + 3 < 2 ^ 31 by omega)]
    refine ev_nm (M0 := M7.set (o + 1) (.inl (0, 50, .inl (upd (upd (upd (upd f (5 * (T.length)) (nI (t.1))) ((5 * (T.length)) + 1) (nI (t.2.1))) ((5 * (T.length)) + 2) (nI (t.2.2.1))) ((5 * (T.length)) + 3) ((-1)))))) (fun M31 eM31 => ?_)
    have f32 : M31[o]? = some (.inr (10, zo o (zi) (zl))) := by rw [eM31, ev_sn (by omega)]; exact f8
    have f33 : M31[o + 1]? = some (.inl (0, 50, .inl (upd (upd (upd (upd f (5 * (T.length)) (nI (t.1))) ((5 * (T.length)) + 1) (nI (t.2.1))) ((5 * (T.length)) + 2) (nI (t.2.2.1))) ((5 * (T.length)) + 3) ((-1))))) := by rw [eM31]; exact ev_sg f9
    refine ev_blk (B := [(.aload_n 0, 1)]) (pe := 56) (ls' := [some (.ref (o)), some (.int (nI (t.1))), some (.int (nI (t.2.1))), some (.int (nI (t.2.2.1))), some (.int (ch)), some (.int (lt)), some (.int (nI (5 * (T.length))))]) (st' := [.ref (o)]) ⟨dX11_adds_55, rfl⟩ rfl ?_
    refine ev_getf (v := .ref (o + 1)) F_RX11_7 dX11_adds_56 f32 rfl ?_
    refine ev_blk (B := [(.iload 6, 2), (.iconst 4, 1), (.iadd, 1), (.iload_n 3, 1)]) (pe := 64) (ls' := [some (.ref (o)), some (.int (nI (t.1))), some (.int (nI (t.2.1))), some (.int (nI (t.2.2.1))), some (.int (ch)), some (.int (lt)), some (.int (nI (5 * (T.length))))]) (st' := [.int (nI (t.2.2.1)), .int (nI ((5 * (T.length)) + 4)), .ref (o + 1)]) ⟨dX11_adds_59, dX11_adds_61, dX11_adds_62, dX11_adds_63, rfl⟩ (by show some (([some (.ref (o)), some (.int (nI (t.1))), some (.int (nI (t.2.1))), some (.int (nI (t.2.2.1))), some (.int (ch)), some (.int (lt)), some (.int (nI (5 * (T.length))))] : ev_L), ([.int (nI (t.2.2.1)), .int ((nI (5 * (T.length))) + (nI 4)), .ref (o + 1)] : List Value)) = _; rw [nI_add (5 * (T.length)) 4]) ?_
    refine ev_fN_ne dX11_adds_64 (tgt := 71) (by decide) (by omega) (fun q64 => ?_) (fun q64 => ?_)
    · refine ev_blk (B := [(.iload 5, 2)]) (pe := 73) (ls' := [some (.ref (o)), some (.int (nI (t.1))), some (.int (nI (t.2.1))), some (.int (nI (t.2.2.1))), some (.int (ch)), some (.int (lt)), some (.int (nI (5 * (T.length))))]) (st' := [.int (lt), .int (nI ((5 * (T.length)) + 4)), .ref (o + 1)]) ⟨dX11_adds_71, rfl⟩ rfl ?_
      refine ev_iast dX11_adds_73 f33 (vp_in_nI (show (5 * (T.length)) + 4 < 50 by omega) (by omega)) ?_
      rw [nI_clamp (show (5 * (T.length)) + 4 < 2 ^ 31 by omega)]
      refine ev_nm (M0 := M31.set (o + 1) (.inl (0, 50, .inl (upd (upd (upd (upd (upd f (5 * (T.length)) (nI (t.1))) ((5 * (T.length)) + 1) (nI (t.2.1))) ((5 * (T.length)) + 2) (nI (t.2.2.1))) ((5 * (T.length)) + 3) ((-1))) ((5 * (T.length)) + 4) lt)))) (fun M34 eM34 => ?_)
      have f35 : M34[o]? = some (.inr (10, zo o (zi) (zl))) := by rw [eM34, ev_sn (by omega)]; exact f32
      have f36 : M34[o + 1]? = some (.inl (0, 50, .inl (upd (upd (upd (upd (upd f (5 * (T.length)) (nI (t.1))) ((5 * (T.length)) + 1) (nI (t.2.1))) ((5 * (T.length)) + 2) (nI (t.2.2.1))) ((5 * (T.length)) + 3) ((-1))) ((5 * (T.length)) + 4) lt))) := by rw [eM34]; exact ev_sg f33
      refine ev_blk (B := [(.aload_n 0, 1), (.dup, 1)]) (pe := 76) (ls' := [some (.ref (o)), some (.int (nI (t.1))), some (.int (nI (t.2.1))), some (.int (nI (t.2.2.1))), some (.int (ch)), some (.int (lt)), some (.int (nI (5 * (T.length))))]) (st' := [.ref (o), .ref (o)]) ⟨dX11_adds_74, dX11_adds_75, rfl⟩ rfl ?_
      refine ev_getf (v := .int (nI (T.length))) F_RX11_123 dX11_adds_76 f35 (congrArg (fun q => some (Value.int q)) h2) ?_
      refine ev_blk (B := [(.iconst 1, 1), (.iadd, 1)]) (pe := 81) (ls' := [some (.ref (o)), some (.int (nI (t.1))), some (.int (nI (t.2.1))), some (.int (nI (t.2.2.1))), some (.int (ch)), some (.int (lt)), some (.int (nI (5 * (T.length))))]) (st' := [.int (nI ((T.length) + 1)), .ref (o)]) ⟨dX11_adds_79, dX11_adds_80, rfl⟩ (by show some (([some (.ref (o)), some (.int (nI (t.1))), some (.int (nI (t.2.1))), some (.int (nI (t.2.2.1))), some (.int (ch)), some (.int (lt)), some (.int (nI (5 * (T.length))))] : ev_L), ([.int ((nI (T.length)) + (nI 1)), .ref (o)] : List Value)) = _; rw [nI_add (T.length) 1]) ?_
      refine ev_put F_RX11_123 dX11_adds_81 f35 (Nat.le_of_ble_eq_true rfl) (fun _ _ => ⟨rfl, rfl⟩) ?_
      rw [zs_2]
      refine ev_nm (M0 := M34.set (o) (.inr (10, zo o (ui (zi) 2 (nI ((T.length) + 1))) (zl)))) (fun M37 eM37 => ?_)
      have f38 : M37[o]? = some (.inr (10, zo o (ui (zi) 2 (nI ((T.length) + 1))) (zl))) := by rw [eM37]; exact ev_sg f35
      have f39 : M37[o + 1]? = some (.inl (0, 50, .inl (upd (upd (upd (upd (upd f (5 * (T.length)) (nI (t.1))) ((5 * (T.length)) + 1) (nI (t.2.1))) ((5 * (T.length)) + 2) (nI (t.2.2.1))) ((5 * (T.length)) + 3) ((-1))) ((5 * (T.length)) + 4) lt))) := by rw [eM37, ev_sn (by omega)]; exact f36
      refine ev_blk (B := [(.aload_n 0, 1), (.iconst 0, 1)]) (pe := 86) (ls' := [some (.ref (o)), some (.int (nI (t.1))), some (.int (nI (t.2.1))), some (.int (nI (t.2.2.1))), some (.int (ch)), some (.int (lt)), some (.int (nI (5 * (T.length))))]) (st' := [.int (nI 0), .ref (o)]) ⟨dX11_adds_84, dX11_adds_85, rfl⟩ rfl ?_
      refine ev_put F_RX11_126 dX11_adds_86 f38 (Nat.le_of_ble_eq_true rfl) (fun _ _ => ⟨rfl, rfl⟩) ?_
      rw [zs_30]
      refine ev_nm (M0 := M37.set (o) (.inr (10, zo o (ui (ui (zi) 2 (nI ((T.length) + 1))) 30 (nI 0)) (zl)))) (fun M40 eM40 => ?_)
      have f41 : M40[o]? = some (.inr (10, zo o (ui (ui (zi) 2 (nI ((T.length) + 1))) 30 (nI 0)) (zl))) := by rw [eM40]; exact ev_sg f38
      have f42 : M40[o + 1]? = some (.inl (0, 50, .inl (upd (upd (upd (upd (upd f (5 * (T.length)) (nI (t.1))) ((5 * (T.length)) + 1) (nI (t.2.1))) ((5 * (T.length)) + 2) (nI (t.2.2.1))) ((5 * (T.length)) + 3) ((-1))) ((5 * (T.length)) + 4) lt))) := by rw [eM40, ev_sn (by omega)]; exact f39
      refine ev_vret dX11_adds_89 rfl ⟨Nat.le_of_ble_eq_true rfl, Nat.le_of_ble_eq_true rfl⟩ ?_
      refine ⟨rfl, _, f41, by rw [List.length_append]; rfl, rfl, fun j h1 h2 => (ui_ne h2).trans (ui_ne h1), ⟨_, f42, ?_⟩, ⟨by rw [eM40, eM37, eM34, eM31, eM7, eM4, eM1]; simp only [List.length_set], fun j hj1 hj2 => by rw [eM40, ev_sn (by omega), eM37, ev_sn (by omega), eM34, ev_sn (by omega), eM31, ev_sn (by omega), eM7, ev_sn (by omega), eM4, ev_sn (by omega), eM1, ev_sn (by omega)]⟩⟩
      rw [List.length_append]
      refine RP5.push rfl hP (fun j hj => ?_) (fun k hk => ?_)
      · simp only [upd_at]
        rw [if_neg (by omega), if_neg (by omega), if_neg (by omega), if_neg (by omega), if_neg (by omega)]
      · simp only [upd_at]
        match k, hk with
        | 0, _ => rw [if_neg (by omega), if_neg (by omega), if_neg (by omega), if_neg (by omega), if_pos (by omega)]; rfl
        | 1, _ => rw [if_neg (by omega), if_neg (by omega), if_neg (by omega), if_pos (by omega)]; rfl
        | 2, _ => rw [if_neg (by omega), if_neg (by omega), if_pos (by omega)]; rfl
        | 3, _ => rw [if_neg (by omega), if_pos (by omega)]; first | exact (h3 (by assumption)) | exact (tp_0 (by assumption)).1.symm
        | 4, _ => rw [if_pos (by omega)]; first | exact (h4 (by assumption)) | exact (tp_0 (by assumption)).2.symm
    · refine ev_blk (B := [(.iconst (-1), 1)]) (pe := 68) (ls' := [some (.ref (o)), some (.int (nI (t.1))), some (.int (nI (t.2.1))), some (.int (nI (t.2.2.1))), some (.int (ch)), some (.int (lt)), some (.int (nI (5 * (T.length))))]) (st' := [.int ((-1)), .int (nI ((5 * (T.length)) + 4)), .ref (o + 1)]) ⟨dX11_adds_67, rfl⟩ rfl ?_
      refine ev_goto (tgt := 73) dX11_adds_68 (by decide) ?_
      refine ev_iast dX11_adds_73 f33 (vp_in_nI (show (5 * (T.length)) + 4 < 50 by omega) (by omega)) ?_
      rw [nI_clamp (show (5 * (T.length)) + 4 < 2 ^ 31 by omega)]
      refine ev_nm (M0 := M31.set (o + 1) (.inl (0, 50, .inl (upd (upd (upd (upd (upd f (5 * (T.length)) (nI (t.1))) ((5 * (T.length)) + 1) (nI (t.2.1))) ((5 * (T.length)) + 2) (nI (t.2.2.1))) ((5 * (T.length)) + 3) ((-1))) ((5 * (T.length)) + 4) ((-1)))))) (fun M43 eM43 => ?_)
      have f44 : M43[o]? = some (.inr (10, zo o (zi) (zl))) := by rw [eM43, ev_sn (by omega)]; exact f32
      have f45 : M43[o + 1]? = some (.inl (0, 50, .inl (upd (upd (upd (upd (upd f (5 * (T.length)) (nI (t.1))) ((5 * (T.length)) + 1) (nI (t.2.1))) ((5 * (T.length)) + 2) (nI (t.2.2.1))) ((5 * (T.length)) + 3) ((-1))) ((5 * (T.length)) + 4) ((-1))))) := by rw [eM43]; exact ev_sg f33
      refine ev_blk (B := [(.aload_n 0, 1), (.dup, 1)]) (pe := 76) (ls' := [some (.ref (o)), some (.int (nI (t.1))), some (.int (nI (t.2.1))), some (.int (nI (t.2.2.1))), some (.int (ch)), some (.int (lt)), some (.int (nI (5 * (T.length))))]) (st' := [.ref (o), .ref (o)]) ⟨dX11_adds_74, dX11_adds_75, rfl⟩ rfl ?_
      refine ev_getf (v := .int (nI (T.length))) F_RX11_123 dX11_adds_76 f44 (congrArg (fun q => some (Value.int q)) h2) ?_
      refine ev_blk (B := [(.iconst 1, 1), (.iadd, 1)]) (pe := 81) (ls' := [some (.ref (o)), some (.int (nI (t.1))), some (.int (nI (t.2.1))), some (.int (nI (t.2.2.1))), some (.int (ch)), some (.int (lt)), some (.int (nI (5 * (T.length))))]) (st' := [.int (nI ((T.length) + 1)), .ref (o)]) ⟨dX11_adds_79, dX11_adds_80, rfl⟩ (by show some (([some (.ref (o)), some (.int (nI (t.1))), some (.int (nI (t.2.1))), some (.int (nI (t.2.2.1))), some (.int (ch)), some (.int (lt)), some (.int (nI (5 * (T.length))))] : ev_L), ([.int ((nI (T.length)) + (nI 1)), .ref (o)] : List Value)) = _; rw [nI_add (T.length) 1]) ?_
      refine ev_put F_RX11_123 dX11_adds_81 f44 (Nat.le_of_ble_eq_true rfl) (fun _ _ => ⟨rfl, rfl⟩) ?_
      rw [zs_2]
      refine ev_nm (M0 := M43.set (o) (.inr (10, zo o (ui (zi) 2 (nI ((T.length) + 1))) (zl)))) (fun M46 eM46 => ?_)
      have f47 : M46[o]? = some (.inr (10, zo o (ui (zi) 2 (nI ((T.length) + 1))) (zl))) := by rw [eM46]; exact ev_sg f44
      have f48 : M46[o + 1]? = some (.inl (0, 50, .inl (upd (upd (upd (upd (upd f (5 * (T.length)) (nI (t.1))) ((5 * (T.length)) + 1) (nI (t.2.1))) ((5 * (T.length)) + 2) (nI (t.2.2.1))) ((5 * (T.length)) + 3) ((-1))) ((5 * (T.length)) + 4) ((-1))))) := by rw [eM46, ev_sn (by omega)]; exact f45
      refine ev_blk (B := [(.aload_n 0, 1), (.iconst 0, 1)]) (pe := 86) (ls' := [some (.ref (o)), some (.int (nI (t.1))), some (.int (nI (t.2.1))), some (.int (nI (t.2.2.1))), some (.int (ch)), some (.int (lt)), some (.int (nI (5 * (T.length))))]) (st' := [.int (nI 0), .ref (o)]) ⟨dX11_adds_84, dX11_adds_85, rfl⟩ rfl ?_
      refine ev_put F_RX11_126 dX11_adds_86 f47 (Nat.le_of_ble_eq_true rfl) (fun _ _ => ⟨rfl, rfl⟩) ?_
      rw [zs_30]
      refine ev_nm (M0 := M46.set (o) (.inr (10, zo o (ui (ui (zi) 2 (nI ((T.length) + 1))) 30 (nI 0)) (zl)))) (fun M49 eM49 => ?_)
      have f50 : M49[o]? = some (.inr (10, zo o (ui (ui (zi) 2 (nI ((T.length) + 1))) 30 (nI 0)) (zl))) := by rw [eM49]; exact ev_sg f47
      have f51 : M49[o + 1]? = some (.inl (0, 50, .inl (upd (upd (upd (upd (upd f (5 * (T.length)) (nI (t.1))) ((5 * (T.length)) + 1) (nI (t.2.1))) ((5 * (T.length)) + 2) (nI (t.2.2.1))) ((5 * (T.length)) + 3) ((-1))) ((5 * (T.length)) + 4) ((-1))))) := by rw [eM49, ev_sn (by omega)]; exact f48
      refine ev_vret dX11_adds_89 rfl ⟨Nat.le_of_ble_eq_true rfl, Nat.le_of_ble_eq_true rfl⟩ ?_
      refine ⟨rfl, _, f50, by rw [List.length_append]; rfl, rfl, fun j h1 h2 => (ui_ne h2).trans (ui_ne h1), ⟨_, f51, ?_⟩, ⟨by rw [eM49, eM46, eM43, eM31, eM7, eM4, eM1]; simp only [List.length_set], fun j hj1 hj2 => by rw [eM49, ev_sn (by omega), eM46, ev_sn (by omega), eM43, ev_sn (by omega), eM31, ev_sn (by omega), eM7, ev_sn (by omega), eM4, ev_sn (by omega), eM1, ev_sn (by omega)]⟩⟩
      rw [List.length_append]
      refine RP5.push rfl hP (fun j hj => ?_) (fun k hk => ?_)
      · simp only [upd_at]
        rw [if_neg (by omega), if_neg (by omega), if_neg (by omega), if_neg (by omega), if_neg (by omega)]
      · simp only [upd_at]
        match k, hk with
        | 0, _ => rw [if_neg (by omega), if_neg (by omega), if_neg (by omega), if_neg (by omega), if_pos (by omega)]; rfl
        | 1, _ => rw [if_neg (by omega), if_neg (by omega), if_neg (by omega), if_pos (by omega)]; rfl
        | 2, _ => rw [if_neg (by omega), if_neg (by omega), if_pos (by omega)]; rfl
        | 3, _ => rw [if_neg (by omega), if_pos (by omega)]; first | exact (h3 (by assumption)) | exact (tp_0 (by assumption)).1.symm
        | 4, _ => rw [if_pos (by omega)]; first | exact (h4 (by assumption)) | exact (tp_0 (by assumption)).2.symm

set_option maxHeartbeats 4000000 in
set_option maxRecDepth 100000 in
theorem r_addTransition {l : Launch} (hl : l.stackTraces = false) {M : ev_M} (o : Nat) (S : St) (hS : okS S) (hT10 : S.T.length ≤ 10) (hG3 : S.G.length ≤ 3) (hH20 : S.H.length ≤ 20) (zi : Nat → Int32) (zl : Nat → Int64) (hR : RR M o S zi zl) (a : Int32) (b : Int32) (c : Int32) (d : Int32) (e : Int32) : ev_Mt l m_X11_addTransition [.ref (o), .int (a), .int (b), .int (c), .int (d), .int (e)] M (fun r M1 => r = .inl (some (.int (sAdd S a b c d e).1.2)) ∧ ∃ zi' zl', RR M1 o (sAdd S a b c d e).2 zi' zl' ∧ zi' 0 = nI (sAdd S a b c d e).1.1 ∧ Fr o (o + 31) M M1) := by
  rcases inR_c a 6 (by omega) with ⟨x1, hx1, rfl⟩ | ia
  · have jx1 : inR (nI x1) 6 = true := inR_n hx1 (by omega)
    have tx1 : (nI x1).toNatClampNeg = x1 := nI_clamp (by omega)
    rcases inR_c b 6 (by omega) with ⟨x2, hx2, rfl⟩ | ib
    · have jx2 : inR (nI x2) 6 = true := inR_n hx2 (by omega)
      have tx2 : (nI x2).toNatClampNeg = x2 := nI_clamp (by omega)
      rcases inR_c c 3 (by omega) with ⟨x3, hx3, rfl⟩ | ic
      · have jx3 : inR (nI x3) 3 = true := inR_n hx3 (by omega)
        have tx3 : (nI x3).toNatClampNeg = x3 := nI_clamp (by omega)
        refine ev_body hl rfl (by decide +kernel) (Nat.le_of_ble_eq_true rfl) ?_
        show ev_ l m_X11_addTransition 0 0 0 [some (.ref (o)), some (.int (nI x1)), some (.int (nI x2)), some (.int (nI x3)), some (.int (d)), some (.int (e))] [] M _
        refine ev_blk (B := [(.iload_n 1, 1)]) (pe := 1) (ls' := [some (.ref (o)), some (.int (nI x1)), some (.int (nI x2)), some (.int (nI x3)), some (.int (d)), some (.int (e))]) (st' := [.int (nI x1)]) ⟨dX11_addTransition_0, rfl⟩ rfl ?_
        refine ev_cSv Y_X11_isState L_RX11_130 dX11_addTransition_1 ⟨Nat.le_of_ble_eq_true rfl, Nat.le_of_ble_eq_true rfl, Nat.le_of_ble_eq_true rfl, Nat.le_of_ble_eq_true rfl, Nat.le_of_ble_eq_true rfl⟩ (as := [.int (nI x1)]) rfl rfl (c_R_isState hl (nI x1)) ?_
        refine ev_ifB_eq dX11_addTransition_4 (tgt := 43) (by decide) (fun q4 => ?_) (fun q4 => ?_)
        · exact absurd (jx1.symm.trans q4) (by decide)
        · refine ev_blk (B := [(.iload_n 2, 1)]) (pe := 8) (ls' := [some (.ref (o)), some (.int (nI x1)), some (.int (nI x2)), some (.int (nI x3)), some (.int (d)), some (.int (e))]) (st' := [.int (nI x2)]) ⟨dX11_addTransition_7, rfl⟩ rfl ?_
          refine ev_cSv Y_X11_isState L_RX11_130 dX11_addTransition_8 ⟨Nat.le_of_ble_eq_true rfl, Nat.le_of_ble_eq_true rfl, Nat.le_of_ble_eq_true rfl, Nat.le_of_ble_eq_true rfl, Nat.le_of_ble_eq_true rfl⟩ (as := [.int (nI x2)]) rfl rfl (c_R_isState hl (nI x2)) ?_
          refine ev_ifB_eq dX11_addTransition_11 (tgt := 43) (by decide) (fun q11 => ?_) (fun q11 => ?_)
          · exact absurd (jx2.symm.trans q11) (by decide)
          · refine ev_blk (B := [(.iload_n 3, 1), (.iconst 0, 1), (.iconst 2, 1)]) (pe := 17) (ls' := [some (.ref (o)), some (.int (nI x1)), some (.int (nI x2)), some (.int (nI x3)), some (.int (d)), some (.int (e))]) (st' := [.int (nI 2), .int (nI 0), .int (nI x3)]) ⟨dX11_addTransition_14, dX11_addTransition_15, dX11_addTransition_16, rfl⟩ rfl ?_
            refine ev_cSv Y_X11_isBetween L_RX11_134 dX11_addTransition_17 ⟨Nat.le_of_ble_eq_true rfl, Nat.le_of_ble_eq_true rfl, Nat.le_of_ble_eq_true rfl, Nat.le_of_ble_eq_true rfl, Nat.le_of_ble_eq_true rfl⟩ (as := [.int (nI x3), .int (nI 0), .int (nI 2)]) rfl rfl (c_R_isBT hl _ _ _ (nI_le (Nat.zero_le _) (by omega)) (nI_le (by omega) (by omega))) ?_
            refine ev_ifB_eq dX11_addTransition_20 (tgt := 43) (by decide) (fun q20 => ?_) (fun q20 => ?_)
            · exact absurd q20 (by decide)
            · refine ev_blk (B := [(.iload_n 3, 1)]) (pe := 24) (ls' := [some (.ref (o)), some (.int (nI x1)), some (.int (nI x2)), some (.int (nI x3)), some (.int (d)), some (.int (e))]) (st' := [.int (nI x3)]) ⟨dX11_addTransition_23, rfl⟩ rfl ?_
              refine ev_fN_eq dX11_addTransition_24 (tgt := 49) (by decide) (by omega) (fun q24 => ?_) (fun q24 => ?_)
              · refine ev_blk (B := [(.aload_n 0, 1)]) (pe := 50) (ls' := [some (.ref (o)), some (.int (nI x1)), some (.int (nI x2)), some (.int (nI x3)), some (.int (d)), some (.int (e))]) (st' := [.ref (o)]) ⟨dX11_addTransition_49, rfl⟩ rfl ?_
                refine ev_getf (v := .int (nI (S.T.length))) F_RX11_123 dX11_addTransition_50 hR.z (congrArg (fun q => some (Value.int q)) hR.p.1) ?_
                refine ev_blk (B := [(.bipush 10, 2)]) (pe := 55) (ls' := [some (.ref (o)), some (.int (nI x1)), some (.int (nI x2)), some (.int (nI x3)), some (.int (d)), some (.int (e))]) (st' := [.int (nI 10), .int (nI (S.T.length))]) ⟨dX11_addTransition_53, rfl⟩ rfl ?_
                refine ev_iN_ne dX11_addTransition_55 (tgt := 64) (by decide) (by omega) (by omega) (fun q55 => ?_) (fun q55 => ?_)
                · refine ev_blk (B := [(.aload_n 0, 1), (.iconst 0, 1)]) (pe := 66) (ls' := [some (.ref (o)), some (.int (nI x1)), some (.int (nI x2)), some (.int (nI x3)), some (.int (d)), some (.int (e))]) (st' := [.int (nI 0), .ref (o)]) ⟨dX11_addTransition_64, dX11_addTransition_65, rfl⟩ rfl ?_
                  refine ev_put F_RX11_106 dX11_addTransition_66 hR.z (Nat.le_of_ble_eq_true rfl) (fun _ _ => ⟨rfl, rfl⟩) ?_
                  rw [zs_0]
                  refine ev_nm (M0 := M.set (o) (.inr (10, zo o (ui (zi) 0 (nI 0)) (zl)))) (fun M1 eM1 => ?_)
                  have f2 : M1[o]? = some (.inr (10, zo o (ui (zi) 0 (nI 0)) (zl))) := by rw [eM1]; exact ev_sg hR.z
                  refine ev_blk (B := [(.aload_n 0, 1), (.iload_n 1, 1), (.iload_n 2, 1), (.iload_n 3, 1), (.iload 4, 2), (.iload 5, 2)]) (pe := 77) (ls' := [some (.ref (o)), some (.int (nI x1)), some (.int (nI x2)), some (.int (nI x3)), some (.int (d)), some (.int (e))]) (st' := [.int (e), .int (d), .int (nI x3), .int (nI x2), .int (nI x1), .ref (o)]) ⟨dX11_addTransition_69, dX11_addTransition_70, dX11_addTransition_71, dX11_addTransition_72, dX11_addTransition_73, dX11_addTransition_75, rfl⟩ rfl ?_
                  have W3 : FX o (o + 31) (o + 31) M M1 := ⟨by rw [eM1]; simp only [List.length_set], fun j hj1 hj2 => by rw [eM1, ev_sn (by omega)]⟩
                  have ht9 : trO ((x1, x2, x3, if x3 = 0 then 0 else tN d, if x3 = 0 then 0 else tN e) : Tr) ∧ (((x1, x2, x3, if x3 = 0 then 0 else tN d, if x3 = 0 then 0 else tN e) : Tr).2.2.1 ≠ 0 → d = tp (x1, x2, x3, if x3 = 0 then 0 else tN d, if x3 = 0 then 0 else tN e) 3) ∧ (((x1, x2, x3, if x3 = 0 then 0 else tN d, if x3 = 0 then 0 else tN e) : Tr).2.2.1 ≠ 0 → e = tp (x1, x2, x3, if x3 = 0 then 0 else tN d, if x3 = 0 then 0 else tN e) 4) := by
                    by_cases z : x3 = 0
                    · exact ⟨⟨hx1, hx2, hx3, by show (if x3 = 0 then 0 else tN d) < 2; rw [if_pos z]; decide, by show (if x3 = 0 then 0 else tN e) < 3; rw [if_pos z]; decide⟩, fun q => absurd z q, fun q => absurd z q⟩
                    · have y1 : inR d 2 = true := by first | exact q32 | exact absurd q24 z
                      have y2 : inR e 3 = true := by first | exact q40 | exact absurd q24 z
                      exact ⟨⟨hx1, hx2, hx3, by show (if x3 = 0 then 0 else tN d) < 2; rw [if_neg z]; exact (inR_t (by decide) y1).1, by show (if x3 = 0 then 0 else tN e) < 3; rw [if_neg z]; exact (inR_t (by decide) y2).1⟩, fun q => by rw [tp3 q]; show d = nI (if x3 = 0 then 0 else tN d); rw [if_neg z]; exact (inR_t (by decide) y1).2, fun q => by rw [tp4 q]; show e = nI (if x3 = 0 then 0 else tN e); rw [if_neg z]; exact (inR_t (by decide) y2).2⟩
                  refine ev_cVn Y_X11_adds L_RX11_148 dX11_addTransition_77 ⟨Nat.le_of_ble_eq_true rfl, Nat.le_of_ble_eq_true rfl, Nat.le_of_ble_eq_true rfl, Nat.le_of_ble_eq_true rfl, Nat.le_of_ble_eq_true rfl⟩ f2 (as := [.int (nI x1), .int (nI x2), .int (nI x3), .int (d), .int (e)]) rfl rfl (c_R_adds hl o (ui (zi) 0 (nI 0)) (zl) f2 S.T (by omega) hR.p.1 (hR.T.fx W3 (by omega) (by omega)) (x1, x2, x3, if x3 = 0 then 0 else tN d, if x3 = 0 then 0 else tN e) d e ht9.2.1 ht9.2.2 ht9.1) (fun M4 hL4 hB4 => ?_)
                  obtain ⟨Ai, Az, A1, A2, AK, AT, AF⟩ := hB4
                  have hal : (S.T ++ [((x1, x2, x3, if x3 = 0 then 0 else tN d, if x3 = 0 then 0 else tN e) : Tr)]).length = S.T.length + 1 := by rw [List.length_append]; rfl
                  refine ev_blk (B := [(.aload_n 0, 1)]) (pe := 81) (ls' := [some (.ref (o)), some (.int (nI x1)), some (.int (nI x2)), some (.int (nI x3)), some (.int (d)), some (.int (e))]) (st' := [.ref (o)]) ⟨dX11_addTransition_80, rfl⟩ rfl ?_
                  refine ev_getf (v := .int (nI ((S.T ++ [((x1, x2, x3, if x3 = 0 then 0 else tN d, if x3 = 0 then 0 else tN e) : Tr)]).length))) F_RX11_123 dX11_addTransition_81 Az (congrArg (fun q => some (Value.int q)) A1) ?_
                  refine ev_blk (B := [(.iconst 1, 1), (.isub, 1)]) (pe := 86) (ls' := [some (.ref (o)), some (.int (nI x1)), some (.int (nI x2)), some (.int (nI x3)), some (.int (d)), some (.int (e))]) (st' := [.int (nI (((S.T ++ [((x1, x2, x3, if x3 = 0 then 0 else tN d, if x3 = 0 then 0 else tN e) : Tr)]).length) - 1))]) ⟨dX11_addTransition_84, dX11_addTransition_85, rfl⟩ (by show some (([some (.ref (o)), some (.int (nI x1)), some (.int (nI x2)), some (.int (nI x3)), some (.int (d)), some (.int (e))] : ev_L), ([.int ((nI ((S.T ++ [((x1, x2, x3, if x3 = 0 then 0 else tN d, if x3 = 0 then 0 else tN e) : Tr)]).length)) - (nI 1))] : List Value)) = _; rw [pk_sub (show 1 ≤ ((S.T ++ [((x1, x2, x3, if x3 = 0 then 0 else tN d, if x3 = 0 then 0 else tN e) : Tr)]).length) by omega)]) ?_
                  refine ev_iret dX11_addTransition_86 rfl (rfl) ⟨Nat.le_of_ble_eq_true rfl, Nat.le_of_ble_eq_true rfl⟩ ?_
                  have e9 : sAdd S (nI x1) (nI x2) (nI x3) d e = ((0, nI S.T.length), St.mk (S.T ++ [(x1, x2, x3, if x3 = 0 then 0 else tN d, if x3 = 0 then 0 else tN e)]) S.x S.G S.H S.n S.t S.f S.tk S.T9 S.x9 S.G9) := by
                    unfold sAdd
                    simp only [tN, tx3, tx1, tx2]
                    rw [if_neg (show ¬ inR (nI x1) 6 = false by rw [jx1]; decide), if_neg (show ¬ inR (nI x2) 6 = false by rw [jx2]; decide), if_neg (show ¬ inR (nI x3) 3 = false by rw [jx3]; decide), if_neg (fun z => by first | exact z.1 q24 | (rw [q32] at z; exact absurd z.2 (by decide))), if_neg (fun z => by first | exact z.1 q24 | (rw [q40] at z; exact absurd z.2 (by decide))), if_neg (show ¬ 10 ≤ S.T.length by omega)]
                  rw [e9]
                  exact ⟨by rw [hal, Nat.add_sub_cancel], _, _, hR.nT Az ((W3.em (by omega)).tr (AF.to (by omega) (by omega))) AT A1 A2 (fun q hq => (AK q (nm hq (by decide)) (nm hq (by decide))).trans (ui_ne (nm hq (by decide)))) (fun q hq => rfl), AK 0 (by decide) (by decide), (FX.fr (lo := o + 1) (hi := o + 31) ((W3.to (by omega) (by omega)).tr (AF.to (by omega) (by omega))) (by omega) (by omega))⟩
                · refine ev_blk (B := [(.aload_n 0, 1), (.iconst 2, 1)]) (pe := 60) (ls' := [some (.ref (o)), some (.int (nI x1)), some (.int (nI x2)), some (.int (nI x3)), some (.int (d)), some (.int (e))]) (st' := [.int (nI 2), .ref (o)]) ⟨dX11_addTransition_58, dX11_addTransition_59, rfl⟩ rfl ?_
                  refine ev_cVv Y_X11_fails L_RX11_144 dX11_addTransition_60 ⟨Nat.le_of_ble_eq_true rfl, Nat.le_of_ble_eq_true rfl, Nat.le_of_ble_eq_true rfl, Nat.le_of_ble_eq_true rfl, Nat.le_of_ble_eq_true rfl⟩ hR.z (as := [.int (nI 2)]) rfl rfl (c_R_fails hl o (zi) (zl) hR.z 2) ?_
                  refine ev_nm (M0 := M.set o (.inr (10, zo o (ui (zi) 0 (nI 2)) (zl)))) (fun Mf eMf => ?_)
                  have ff : Mf[o]? = some (.inr (10, zo o (ui (zi) 0 (nI 2)) (zl))) := by rw [eMf]; exact ev_sg hR.z
                  refine ev_iret dX11_addTransition_63 rfl (rfl) ⟨Nat.le_of_ble_eq_true rfl, Nat.le_of_ble_eq_true rfl⟩ ?_
                  have W5 : FX o (o + 31) (o + 31) M Mf := ⟨by rw [eMf]; simp only [List.length_set], fun j hj1 hj2 => by rw [eMf, ev_sn (by omega)]⟩
                  have e9 : sAdd S (nI x1) (nI x2) (nI x3) d e = ((2, 0), S) := by
                    unfold sAdd
                    simp only [tN, tx3]
                    rw [if_neg (show ¬ inR (nI x1) 6 = false by rw [jx1]; decide), if_neg (show ¬ inR (nI x2) 6 = false by rw [jx2]; decide), if_neg (show ¬ inR (nI x3) 3 = false by rw [jx3]; decide), if_neg (fun z => by first | exact z.1 q24 | (rw [q32] at z; exact absurd z.2 (by decide))), if_neg (fun z => by first | exact z.1 q24 | (rw [q40] at z; exact absurd z.2 (by decide))), if_pos (show 10 ≤ S.T.length by omega)]
                  rw [e9]
                  exact ⟨rfl, _, _, ⟨ff, ⟨hR.p.1, hR.p.2.1, hR.p.2.2.1, hR.p.2.2.2.1, hR.p.2.2.2.2.1, hR.p.2.2.2.2.2.1, hR.p.2.2.2.2.2.2.1, hR.p.2.2.2.2.2.2.2.1, hR.p.2.2.2.2.2.2.2.2.1, hR.p.2.2.2.2.2.2.2.2.2⟩, (hR.T.fx W5 (by omega) (by omega)), (hR.H.fx W5 (by omega)), (hR.y.fx W5 (by omega)), (hR.G.fx W5 (by omega) (by omega)), (hR.a.fx W5 (by omega)), (hR.u.fx W5 (by omega)), (hR.x.fx W5 (by omega)), (hR.k.fx W5 (by omega)), (hR.s.fx W5 (by omega))⟩, rfl, (FX.fr (lo := o + 1) (hi := o + 31) (W5.to (by omega) (by omega)) (by omega) (by omega))⟩
              · refine ev_blk (B := [(.iload 4, 2)]) (pe := 29) (ls' := [some (.ref (o)), some (.int (nI x1)), some (.int (nI x2)), some (.int (nI x3)), some (.int (d)), some (.int (e))]) (st' := [.int (d)]) ⟨dX11_addTransition_27, rfl⟩ rfl ?_
                refine ev_cSv Y_X11_isChannel L_RX11_138 dX11_addTransition_29 ⟨Nat.le_of_ble_eq_true rfl, Nat.le_of_ble_eq_true rfl, Nat.le_of_ble_eq_true rfl, Nat.le_of_ble_eq_true rfl, Nat.le_of_ble_eq_true rfl⟩ (as := [.int (d)]) rfl rfl (c_R_isChannel hl d) ?_
                refine ev_ifB_eq dX11_addTransition_32 (tgt := 43) (by decide) (fun q32 => ?_) (fun q32 => ?_)
                · refine ev_blk (B := [(.aload_n 0, 1), (.iconst 1, 1)]) (pe := 45) (ls' := [some (.ref (o)), some (.int (nI x1)), some (.int (nI x2)), some (.int (nI x3)), some (.int (d)), some (.int (e))]) (st' := [.int (nI 1), .ref (o)]) ⟨dX11_addTransition_43, dX11_addTransition_44, rfl⟩ rfl ?_
                  refine ev_cVv Y_X11_fails L_RX11_144 dX11_addTransition_45 ⟨Nat.le_of_ble_eq_true rfl, Nat.le_of_ble_eq_true rfl, Nat.le_of_ble_eq_true rfl, Nat.le_of_ble_eq_true rfl, Nat.le_of_ble_eq_true rfl⟩ hR.z (as := [.int (nI 1)]) rfl rfl (c_R_fails hl o (zi) (zl) hR.z 1) ?_
                  refine ev_nm (M0 := M.set o (.inr (10, zo o (ui (zi) 0 (nI 1)) (zl)))) (fun Mf eMf => ?_)
                  have ff : Mf[o]? = some (.inr (10, zo o (ui (zi) 0 (nI 1)) (zl))) := by rw [eMf]; exact ev_sg hR.z
                  refine ev_iret dX11_addTransition_48 rfl (rfl) ⟨Nat.le_of_ble_eq_true rfl, Nat.le_of_ble_eq_true rfl⟩ ?_
                  have W6 : FX o (o + 31) (o + 31) M Mf := ⟨by rw [eMf]; simp only [List.length_set], fun j hj1 hj2 => by rw [eMf, ev_sn (by omega)]⟩
                  have e9 : sAdd S (nI x1) (nI x2) (nI x3) d e = ((1, 0), S) := by
                    unfold sAdd
                    simp only [tN, tx3]
                    rw [if_neg (show ¬ inR (nI x1) 6 = false by rw [jx1]; decide), if_neg (show ¬ inR (nI x2) 6 = false by rw [jx2]; decide), if_neg (show ¬ inR (nI x3) 3 = false by rw [jx3]; decide), if_pos ⟨q24, q32⟩]
                  rw [e9]
                  exact ⟨rfl, _, _, ⟨ff, ⟨hR.p.1, hR.p.2.1, hR.p.2.2.1, hR.p.2.2.2.1, hR.p.2.2.2.2.1, hR.p.2.2.2.2.2.1, hR.p.2.2.2.2.2.2.1, hR.p.2.2.2.2.2.2.2.1, hR.p.2.2.2.2.2.2.2.2.1, hR.p.2.2.2.2.2.2.2.2.2⟩, (hR.T.fx W6 (by omega) (by omega)), (hR.H.fx W6 (by omega)), (hR.y.fx W6 (by omega)), (hR.G.fx W6 (by omega) (by omega)), (hR.a.fx W6 (by omega)), (hR.u.fx W6 (by omega)), (hR.x.fx W6 (by omega)), (hR.k.fx W6 (by omega)), (hR.s.fx W6 (by omega))⟩, rfl, (FX.fr (lo := o + 1) (hi := o + 31) (W6.to (by omega) (by omega)) (by omega) (by omega))⟩
                · refine ev_blk (B := [(.iload 5, 2)]) (pe := 37) (ls' := [some (.ref (o)), some (.int (nI x1)), some (.int (nI x2)), some (.int (nI x3)), some (.int (d)), some (.int (e))]) (st' := [.int (e)]) ⟨dX11_addTransition_35, rfl⟩ rfl ?_
                  refine ev_cSv Y_X11_isLetter L_RX11_141 dX11_addTransition_37 ⟨Nat.le_of_ble_eq_true rfl, Nat.le_of_ble_eq_true rfl, Nat.le_of_ble_eq_true rfl, Nat.le_of_ble_eq_true rfl, Nat.le_of_ble_eq_true rfl⟩ (as := [.int (e)]) rfl rfl (c_R_isLetter hl e) ?_
                  refine ev_ifB_ne dX11_addTransition_40 (tgt := 49) (by decide) (fun q40 => ?_) (fun q40 => ?_)
                  · refine ev_blk (B := [(.aload_n 0, 1)]) (pe := 50) (ls' := [some (.ref (o)), some (.int (nI x1)), some (.int (nI x2)), some (.int (nI x3)), some (.int (d)), some (.int (e))]) (st' := [.ref (o)]) ⟨dX11_addTransition_49, rfl⟩ rfl ?_
                    refine ev_getf (v := .int (nI (S.T.length))) F_RX11_123 dX11_addTransition_50 hR.z (congrArg (fun q => some (Value.int q)) hR.p.1) ?_
                    refine ev_blk (B := [(.bipush 10, 2)]) (pe := 55) (ls' := [some (.ref (o)), some (.int (nI x1)), some (.int (nI x2)), some (.int (nI x3)), some (.int (d)), some (.int (e))]) (st' := [.int (nI 10), .int (nI (S.T.length))]) ⟨dX11_addTransition_53, rfl⟩ rfl ?_
                    refine ev_iN_ne dX11_addTransition_55 (tgt := 64) (by decide) (by omega) (by omega) (fun q55 => ?_) (fun q55 => ?_)
                    · refine ev_blk (B := [(.aload_n 0, 1), (.iconst 0, 1)]) (pe := 66) (ls' := [some (.ref (o)), some (.int (nI x1)), some (.int (nI x2)), some (.int (nI x3)), some (.int (d)), some (.int (e))]) (st' := [.int (nI 0), .ref (o)]) ⟨dX11_addTransition_64, dX11_addTransition_65, rfl⟩ rfl ?_
                      refine ev_put F_RX11_106 dX11_addTransition_66 hR.z (Nat.le_of_ble_eq_true rfl) (fun _ _ => ⟨rfl, rfl⟩) ?_
                      rw [zs_0]
                      refine ev_nm (M0 := M.set (o) (.inr (10, zo o (ui (zi) 0 (nI 0)) (zl)))) (fun M7 eM7 => ?_)
                      have f8 : M7[o]? = some (.inr (10, zo o (ui (zi) 0 (nI 0)) (zl))) := by rw [eM7]; exact ev_sg hR.z
                      refine ev_blk (B := [(.aload_n 0, 1), (.iload_n 1, 1), (.iload_n 2, 1), (.iload_n 3, 1), (.iload 4, 2), (.iload 5, 2)]) (pe := 77) (ls' := [some (.ref (o)), some (.int (nI x1)), some (.int (nI x2)), some (.int (nI x3)), some (.int (d)), some (.int (e))]) (st' := [.int (e), .int (d), .int (nI x3), .int (nI x2), .int (nI x1), .ref (o)]) ⟨dX11_addTransition_69, dX11_addTransition_70, dX11_addTransition_71, dX11_addTransition_72, dX11_addTransition_73, dX11_addTransition_75, rfl⟩ rfl ?_
                      have W9 : FX o (o + 31) (o + 31) M M7 := ⟨by rw [eM7]; simp only [List.length_set], fun j hj1 hj2 => by rw [eM7, ev_sn (by omega)]⟩
                      have ht9 : trO ((x1, x2, x3, if x3 = 0 then 0 else tN d, if x3 = 0 then 0 else tN e) : Tr) ∧ (((x1, x2, x3, if x3 = 0 then 0 else tN d, if x3 = 0 then 0 else tN e) : Tr).2.2.1 ≠ 0 → d = tp (x1, x2, x3, if x3 = 0 then 0 else tN d, if x3 = 0 then 0 else tN e) 3) ∧ (((x1, x2, x3, if x3 = 0 then 0 else tN d, if x3 = 0 then 0 else tN e) : Tr).2.2.1 ≠ 0 → e = tp (x1, x2, x3, if x3 = 0 then 0 else tN d, if x3 = 0 then 0 else tN e) 4) := by
                        by_cases z : x3 = 0
                        · exact ⟨⟨hx1, hx2, hx3, by show (if x3 = 0 then 0 else tN d) < 2; rw [if_pos z]; decide, by show (if x3 = 0 then 0 else tN e) < 3; rw [if_pos z]; decide⟩, fun q => absurd z q, fun q => absurd z q⟩
                        · have y1 : inR d 2 = true := by first | exact q32 | exact absurd q24 z
                          have y2 : inR e 3 = true := by first | exact q40 | exact absurd q24 z
                          exact ⟨⟨hx1, hx2, hx3, by show (if x3 = 0 then 0 else tN d) < 2; rw [if_neg z]; exact (inR_t (by decide) y1).1, by show (if x3 = 0 then 0 else tN e) < 3; rw [if_neg z]; exact (inR_t (by decide) y2).1⟩, fun q => by rw [tp3 q]; show d = nI (if x3 = 0 then 0 else tN d); rw [if_neg z]; exact (inR_t (by decide) y1).2, fun q => by rw [tp4 q]; show e = nI (if x3 = 0 then 0 else tN e); rw [if_neg z]; exact (inR_t (by decide) y2).2⟩
                      refine ev_cVn Y_X11_adds L_RX11_148 dX11_addTransition_77 ⟨Nat.le_of_ble_eq_true rfl, Nat.le_of_ble_eq_true rfl, Nat.le_of_ble_eq_true rfl, Nat.le_of_ble_eq_true rfl, Nat.le_of_ble_eq_true rfl⟩ f8 (as := [.int (nI x1), .int (nI x2), .int (nI x3), .int (d), .int (e)]) rfl rfl (c_R_adds hl o (ui (zi) 0 (nI 0)) (zl) f8 S.T (by omega) hR.p.1 (hR.T.fx W9 (by omega) (by omega)) (x1, x2, x3, if x3 = 0 then 0 else tN d, if x3 = 0 then 0 else tN e) d e ht9.2.1 ht9.2.2 ht9.1) (fun M10 hL10 hB10 => ?_)
                      obtain ⟨Ai, Az, A1, A2, AK, AT, AF⟩ := hB10
                      have hal : (S.T ++ [((x1, x2, x3, if x3 = 0 then 0 else tN d, if x3 = 0 then 0 else tN e) : Tr)]).length = S.T.length + 1 := by rw [List.length_append]; rfl
                      refine ev_blk (B := [(.aload_n 0, 1)]) (pe := 81) (ls' := [some (.ref (o)), some (.int (nI x1)), some (.int (nI x2)), some (.int (nI x3)), some (.int (d)), some (.int (e))]) (st' := [.ref (o)]) ⟨dX11_addTransition_80, rfl⟩ rfl ?_
                      refine ev_getf (v := .int (nI ((S.T ++ [((x1, x2, x3, if x3 = 0 then 0 else tN d, if x3 = 0 then 0 else tN e) : Tr)]).length))) F_RX11_123 dX11_addTransition_81 Az (congrArg (fun q => some (Value.int q)) A1) ?_
                      refine ev_blk (B := [(.iconst 1, 1), (.isub, 1)]) (pe := 86) (ls' := [some (.ref (o)), some (.int (nI x1)), some (.int (nI x2)), some (.int (nI x3)), some (.int (d)), some (.int (e))]) (st' := [.int (nI (((S.T ++ [((x1, x2, x3, if x3 = 0 then 0 else tN d, if x3 = 0 then 0 else tN e) : Tr)]).length) - 1))]) ⟨dX11_addTransition_84, dX11_addTransition_85, rfl⟩ (by show some (([some (.ref (o)), some (.int (nI x1)), some (.int (nI x2)), some (.int (nI x3)), some (.int (d)), some (.int (e))] : ev_L), ([.int ((nI ((S.T ++ [((x1, x2, x3, if x3 = 0 then 0 else tN d, if x3 = 0 then 0 else tN e) : Tr)]).length)) - (nI 1))] : List Value)) = _; rw [pk_sub (show 1 ≤ ((S.T ++ [((x1, x2, x3, if x3 = 0 then 0 else tN d, if x3 = 0 then 0 else tN e) : Tr)]).length) by omega)]) ?_
                      refine ev_iret dX11_addTransition_86 rfl (rfl) ⟨Nat.le_of_ble_eq_true rfl, Nat.le_of_ble_eq_true rfl⟩ ?_
                      have e9 : sAdd S (nI x1) (nI x2) (nI x3) d e = ((0, nI S.T.length), St.mk (S.T ++ [(x1, x2, x3, if x3 = 0 then 0 else tN d, if x3 = 0 then 0 else tN e)]) S.x S.G S.H S.n S.t S.f S.tk S.T9 S.x9 S.G9) := by
                        unfold sAdd
                        simp only [tN, tx3, tx1, tx2]
                        rw [if_neg (show ¬ inR (nI x1) 6 = false by rw [jx1]; decide), if_neg (show ¬ inR (nI x2) 6 = false by rw [jx2]; decide), if_neg (show ¬ inR (nI x3) 3 = false by rw [jx3]; decide), if_neg (fun z => by first | exact z.1 q24 | (rw [q32] at z; exact absurd z.2 (by decide))), if_neg (fun z => by first | exact z.1 q24 | (rw [q40] at z; exact absurd z.2 (by decide))), if_neg (show ¬ 10 ≤ S.T.length by omega)]
                      rw [e9]
                      exact ⟨by rw [hal, Nat.add_sub_cancel], _, _, hR.nT Az ((W9.em (by omega)).tr (AF.to (by omega) (by omega))) AT A1 A2 (fun q hq => (AK q (nm hq (by decide)) (nm hq (by decide))).trans (ui_ne (nm hq (by decide)))) (fun q hq => rfl), AK 0 (by decide) (by decide), (FX.fr (lo := o + 1) (hi := o + 31) ((W9.to (by omega) (by omega)).tr (AF.to (by omega) (by omega))) (by omega) (by omega))⟩
                    · refine ev_blk (B := [(.aload_n 0, 1), (.iconst 2, 1)]) (pe := 60) (ls' := [some (.ref (o)), some (.int (nI x1)), some (.int (nI x2)), some (.int (nI x3)), some (.int (d)), some (.int (e))]) (st' := [.int (nI 2), .ref (o)]) ⟨dX11_addTransition_58, dX11_addTransition_59, rfl⟩ rfl ?_
                      refine ev_cVv Y_X11_fails L_RX11_144 dX11_addTransition_60 ⟨Nat.le_of_ble_eq_true rfl, Nat.le_of_ble_eq_true rfl, Nat.le_of_ble_eq_true rfl, Nat.le_of_ble_eq_true rfl, Nat.le_of_ble_eq_true rfl⟩ hR.z (as := [.int (nI 2)]) rfl rfl (c_R_fails hl o (zi) (zl) hR.z 2) ?_
                      refine ev_nm (M0 := M.set o (.inr (10, zo o (ui (zi) 0 (nI 2)) (zl)))) (fun Mf eMf => ?_)
                      have ff : Mf[o]? = some (.inr (10, zo o (ui (zi) 0 (nI 2)) (zl))) := by rw [eMf]; exact ev_sg hR.z
                      refine ev_iret dX11_addTransition_63 rfl (rfl) ⟨Nat.le_of_ble_eq_true rfl, Nat.le_of_ble_eq_true rfl⟩ ?_
                      have W11 : FX o (o + 31) (o + 31) M Mf := ⟨by rw [eMf]; simp only [List.length_set], fun j hj1 hj2 => by rw [eMf, ev_sn (by omega)]⟩
                      have e9 : sAdd S (nI x1) (nI x2) (nI x3) d e = ((2, 0), S) := by
                        unfold sAdd
                        simp only [tN, tx3]
                        rw [if_neg (show ¬ inR (nI x1) 6 = false by rw [jx1]; decide), if_neg (show ¬ inR (nI x2) 6 = false by rw [jx2]; decide), if_neg (show ¬ inR (nI x3) 3 = false by rw [jx3]; decide), if_neg (fun z => by first | exact z.1 q24 | (rw [q32] at z; exact absurd z.2 (by decide))), if_neg (fun z => by first | exact z.1 q24 | (rw [q40] at z; exact absurd z.2 (by decide))), if_pos (show 10 ≤ S.T.length by omega)]
                      rw [e9]
                      exact ⟨rfl, _, _, ⟨ff, ⟨hR.p.1, hR.p.2.1, hR.p.2.2.1, hR.p.2.2.2.1, hR.p.2.2.2.2.1, hR.p.2.2.2.2.2.1, hR.p.2.2.2.2.2.2.1, hR.p.2.2.2.2.2.2.2.1, hR.p.2.2.2.2.2.2.2.2.1, hR.p.2.2.2.2.2.2.2.2.2⟩, (hR.T.fx W11 (by omega) (by omega)), (hR.H.fx W11 (by omega)), (hR.y.fx W11 (by omega)), (hR.G.fx W11 (by omega) (by omega)), (hR.a.fx W11 (by omega)), (hR.u.fx W11 (by omega)), (hR.x.fx W11 (by omega)), (hR.k.fx W11 (by omega)), (hR.s.fx W11 (by omega))⟩, rfl, (FX.fr (lo := o + 1) (hi := o + 31) (W11.to (by omega) (by omega)) (by omega) (by omega))⟩
                  · refine ev_blk (B := [(.aload_n 0, 1), (.iconst 1, 1)]) (pe := 45) (ls' := [some (.ref (o)), some (.int (nI x1)), some (.int (nI x2)), some (.int (nI x3)), some (.int (d)), some (.int (e))]) (st' := [.int (nI 1), .ref (o)]) ⟨dX11_addTransition_43, dX11_addTransition_44, rfl⟩ rfl ?_
                    refine ev_cVv Y_X11_fails L_RX11_144 dX11_addTransition_45 ⟨Nat.le_of_ble_eq_true rfl, Nat.le_of_ble_eq_true rfl, Nat.le_of_ble_eq_true rfl, Nat.le_of_ble_eq_true rfl, Nat.le_of_ble_eq_true rfl⟩ hR.z (as := [.int (nI 1)]) rfl rfl (c_R_fails hl o (zi) (zl) hR.z 1) ?_
                    refine ev_nm (M0 := M.set o (.inr (10, zo o (ui (zi) 0 (nI 1)) (zl)))) (fun Mf eMf => ?_)
                    have ff : Mf[o]? = some (.inr (10, zo o (ui (zi) 0 (nI 1)) (zl))) := by rw [eMf]; exact ev_sg hR.z
                    refine ev_iret dX11_addTransition_48 rfl (rfl) ⟨Nat.le_of_ble_eq_true rfl, Nat.le_of_ble_eq_true rfl⟩ ?_
                    have W12 : FX o (o + 31) (o + 31) M Mf := ⟨by rw [eMf]; simp only [List.length_set], fun j hj1 hj2 => by rw [eMf, ev_sn (by omega)]⟩
                    have e9 : sAdd S (nI x1) (nI x2) (nI x3) d e = ((1, 0), S) := by
                      unfold sAdd
                      simp only [tN, tx3]
                      rw [if_neg (show ¬ inR (nI x1) 6 = false by rw [jx1]; decide), if_neg (show ¬ inR (nI x2) 6 = false by rw [jx2]; decide), if_neg (show ¬ inR (nI x3) 3 = false by rw [jx3]; decide), if_neg (fun z => by rw [q32] at z; exact absurd z.2 (by decide)), if_pos ⟨q24, q40⟩]
                    rw [e9]
                    exact ⟨rfl, _, _, ⟨ff, ⟨hR.p.1, hR.p.2.1, hR.p.2.2.1, hR.p.2.2.2.1, hR.p.2.2.2.2.1, hR.p.2.2.2.2.2.1, hR.p.2.2.2.2.2.2.1, hR.p.2.2.2.2.2.2.2.1, hR.p.2.2.2.2.2.2.2.2.1, hR.p.2.2.2.2.2.2.2.2.2⟩, (hR.T.fx W12 (by omega) (by omega)), (hR.H.fx W12 (by omega)), (hR.y.fx W12 (by omega)), (hR.G.fx W12 (by omega) (by omega)), (hR.a.fx W12 (by omega)), (hR.u.fx W12 (by omega)), (hR.x.fx W12 (by omega)), (hR.k.fx W12 (by omega)), (hR.s.fx W12 (by omega))⟩, rfl, (FX.fr (lo := o + 1) (hi := o + 31) (W12.to (by omega) (by omega)) (by omega) (by omega))⟩
      · have ic9 := ic
        refine ev_body hl rfl (by decide +kernel) (Nat.le_of_ble_eq_true rfl) ?_
        show ev_ l m_X11_addTransition 0 0 0 [some (.ref (o)), some (.int (nI x1)), some (.int (nI x2)), some (.int (c)), some (.int (d)), some (.int (e))] [] M _
        refine ev_blk (B := [(.iload_n 1, 1)]) (pe := 1) (ls' := [some (.ref (o)), some (.int (nI x1)), some (.int (nI x2)), some (.int (c)), some (.int (d)), some (.int (e))]) (st' := [.int (nI x1)]) ⟨dX11_addTransition_0, rfl⟩ rfl ?_
        refine ev_cSv Y_X11_isState L_RX11_130 dX11_addTransition_1 ⟨Nat.le_of_ble_eq_true rfl, Nat.le_of_ble_eq_true rfl, Nat.le_of_ble_eq_true rfl, Nat.le_of_ble_eq_true rfl, Nat.le_of_ble_eq_true rfl⟩ (as := [.int (nI x1)]) rfl rfl (c_R_isState hl (nI x1)) ?_
        refine ev_ifB_eq dX11_addTransition_4 (tgt := 43) (by decide) (fun q4 => ?_) (fun q4 => ?_)
        · exact absurd (jx1.symm.trans q4) (by decide)
        · refine ev_blk (B := [(.iload_n 2, 1)]) (pe := 8) (ls' := [some (.ref (o)), some (.int (nI x1)), some (.int (nI x2)), some (.int (c)), some (.int (d)), some (.int (e))]) (st' := [.int (nI x2)]) ⟨dX11_addTransition_7, rfl⟩ rfl ?_
          refine ev_cSv Y_X11_isState L_RX11_130 dX11_addTransition_8 ⟨Nat.le_of_ble_eq_true rfl, Nat.le_of_ble_eq_true rfl, Nat.le_of_ble_eq_true rfl, Nat.le_of_ble_eq_true rfl, Nat.le_of_ble_eq_true rfl⟩ (as := [.int (nI x2)]) rfl rfl (c_R_isState hl (nI x2)) ?_
          refine ev_ifB_eq dX11_addTransition_11 (tgt := 43) (by decide) (fun q11 => ?_) (fun q11 => ?_)
          · exact absurd (jx2.symm.trans q11) (by decide)
          · refine ev_blk (B := [(.iload_n 3, 1), (.iconst 0, 1), (.iconst 2, 1)]) (pe := 17) (ls' := [some (.ref (o)), some (.int (nI x1)), some (.int (nI x2)), some (.int (c)), some (.int (d)), some (.int (e))]) (st' := [.int (nI 2), .int (nI 0), .int (c)]) ⟨dX11_addTransition_14, dX11_addTransition_15, dX11_addTransition_16, rfl⟩ rfl ?_
            refine ev_cSv Y_X11_isBetween L_RX11_134 dX11_addTransition_17 ⟨Nat.le_of_ble_eq_true rfl, Nat.le_of_ble_eq_true rfl, Nat.le_of_ble_eq_true rfl, Nat.le_of_ble_eq_true rfl, Nat.le_of_ble_eq_true rfl⟩ (as := [.int (c), .int (nI 0), .int (nI 2)]) rfl rfl (c_R_isBF hl _ _ _ (isb_c (by decide) rfl ic)) ?_
            refine ev_ifB_eq dX11_addTransition_20 (tgt := 43) (by decide) (fun q20 => ?_) (fun q20 => ?_)
            · refine ev_blk (B := [(.aload_n 0, 1), (.iconst 1, 1)]) (pe := 45) (ls' := [some (.ref (o)), some (.int (nI x1)), some (.int (nI x2)), some (.int (c)), some (.int (d)), some (.int (e))]) (st' := [.int (nI 1), .ref (o)]) ⟨dX11_addTransition_43, dX11_addTransition_44, rfl⟩ rfl ?_
              refine ev_cVv Y_X11_fails L_RX11_144 dX11_addTransition_45 ⟨Nat.le_of_ble_eq_true rfl, Nat.le_of_ble_eq_true rfl, Nat.le_of_ble_eq_true rfl, Nat.le_of_ble_eq_true rfl, Nat.le_of_ble_eq_true rfl⟩ hR.z (as := [.int (nI 1)]) rfl rfl (c_R_fails hl o (zi) (zl) hR.z 1) ?_
              refine ev_nm (M0 := M.set o (.inr (10, zo o (ui (zi) 0 (nI 1)) (zl)))) (fun Mf eMf => ?_)
              have ff : Mf[o]? = some (.inr (10, zo o (ui (zi) 0 (nI 1)) (zl))) := by rw [eMf]; exact ev_sg hR.z
              refine ev_iret dX11_addTransition_48 rfl (rfl) ⟨Nat.le_of_ble_eq_true rfl, Nat.le_of_ble_eq_true rfl⟩ ?_
              have W13 : FX o (o + 31) (o + 31) M Mf := ⟨by rw [eMf]; simp only [List.length_set], fun j hj1 hj2 => by rw [eMf, ev_sn (by omega)]⟩
              have e9 : sAdd S (nI x1) (nI x2) c d e = ((1, 0), S) := by simp [sAdd, jx1, tx1, jx2, tx2, ic, q4, q11, q20]
              rw [e9]
              exact ⟨rfl, _, _, ⟨ff, ⟨hR.p.1, hR.p.2.1, hR.p.2.2.1, hR.p.2.2.2.1, hR.p.2.2.2.2.1, hR.p.2.2.2.2.2.1, hR.p.2.2.2.2.2.2.1, hR.p.2.2.2.2.2.2.2.1, hR.p.2.2.2.2.2.2.2.2.1, hR.p.2.2.2.2.2.2.2.2.2⟩, (hR.T.fx W13 (by omega) (by omega)), (hR.H.fx W13 (by omega)), (hR.y.fx W13 (by omega)), (hR.G.fx W13 (by omega) (by omega)), (hR.a.fx W13 (by omega)), (hR.u.fx W13 (by omega)), (hR.x.fx W13 (by omega)), (hR.k.fx W13 (by omega)), (hR.s.fx W13 (by omega))⟩, rfl, (FX.fr (lo := o + 1) (hi := o + 31) (W13.to (by omega) (by omega)) (by omega) (by omega))⟩
            · exact absurd q20 (by decide)
    · have ib9 := ib
      refine ev_body hl rfl (by decide +kernel) (Nat.le_of_ble_eq_true rfl) ?_
      show ev_ l m_X11_addTransition 0 0 0 [some (.ref (o)), some (.int (nI x1)), some (.int (b)), some (.int (c)), some (.int (d)), some (.int (e))] [] M _
      refine ev_blk (B := [(.iload_n 1, 1)]) (pe := 1) (ls' := [some (.ref (o)), some (.int (nI x1)), some (.int (b)), some (.int (c)), some (.int (d)), some (.int (e))]) (st' := [.int (nI x1)]) ⟨dX11_addTransition_0, rfl⟩ rfl ?_
      refine ev_cSv Y_X11_isState L_RX11_130 dX11_addTransition_1 ⟨Nat.le_of_ble_eq_true rfl, Nat.le_of_ble_eq_true rfl, Nat.le_of_ble_eq_true rfl, Nat.le_of_ble_eq_true rfl, Nat.le_of_ble_eq_true rfl⟩ (as := [.int (nI x1)]) rfl rfl (c_R_isState hl (nI x1)) ?_
      refine ev_ifB_eq dX11_addTransition_4 (tgt := 43) (by decide) (fun q4 => ?_) (fun q4 => ?_)
      · exact absurd (jx1.symm.trans q4) (by decide)
      · refine ev_blk (B := [(.iload_n 2, 1)]) (pe := 8) (ls' := [some (.ref (o)), some (.int (nI x1)), some (.int (b)), some (.int (c)), some (.int (d)), some (.int (e))]) (st' := [.int (b)]) ⟨dX11_addTransition_7, rfl⟩ rfl ?_
        refine ev_cSv Y_X11_isState L_RX11_130 dX11_addTransition_8 ⟨Nat.le_of_ble_eq_true rfl, Nat.le_of_ble_eq_true rfl, Nat.le_of_ble_eq_true rfl, Nat.le_of_ble_eq_true rfl, Nat.le_of_ble_eq_true rfl⟩ (as := [.int (b)]) rfl rfl (c_R_isState hl b) ?_
        refine ev_ifB_eq dX11_addTransition_11 (tgt := 43) (by decide) (fun q11 => ?_) (fun q11 => ?_)
        · refine ev_blk (B := [(.aload_n 0, 1), (.iconst 1, 1)]) (pe := 45) (ls' := [some (.ref (o)), some (.int (nI x1)), some (.int (b)), some (.int (c)), some (.int (d)), some (.int (e))]) (st' := [.int (nI 1), .ref (o)]) ⟨dX11_addTransition_43, dX11_addTransition_44, rfl⟩ rfl ?_
          refine ev_cVv Y_X11_fails L_RX11_144 dX11_addTransition_45 ⟨Nat.le_of_ble_eq_true rfl, Nat.le_of_ble_eq_true rfl, Nat.le_of_ble_eq_true rfl, Nat.le_of_ble_eq_true rfl, Nat.le_of_ble_eq_true rfl⟩ hR.z (as := [.int (nI 1)]) rfl rfl (c_R_fails hl o (zi) (zl) hR.z 1) ?_
          refine ev_nm (M0 := M.set o (.inr (10, zo o (ui (zi) 0 (nI 1)) (zl)))) (fun Mf eMf => ?_)
          have ff : Mf[o]? = some (.inr (10, zo o (ui (zi) 0 (nI 1)) (zl))) := by rw [eMf]; exact ev_sg hR.z
          refine ev_iret dX11_addTransition_48 rfl (rfl) ⟨Nat.le_of_ble_eq_true rfl, Nat.le_of_ble_eq_true rfl⟩ ?_
          have W14 : FX o (o + 31) (o + 31) M Mf := ⟨by rw [eMf]; simp only [List.length_set], fun j hj1 hj2 => by rw [eMf, ev_sn (by omega)]⟩
          have e9 : sAdd S (nI x1) b c d e = ((1, 0), S) := by simp [sAdd, jx1, tx1, ib, q4, q11]
          rw [e9]
          exact ⟨rfl, _, _, ⟨ff, ⟨hR.p.1, hR.p.2.1, hR.p.2.2.1, hR.p.2.2.2.1, hR.p.2.2.2.2.1, hR.p.2.2.2.2.2.1, hR.p.2.2.2.2.2.2.1, hR.p.2.2.2.2.2.2.2.1, hR.p.2.2.2.2.2.2.2.2.1, hR.p.2.2.2.2.2.2.2.2.2⟩, (hR.T.fx W14 (by omega) (by omega)), (hR.H.fx W14 (by omega)), (hR.y.fx W14 (by omega)), (hR.G.fx W14 (by omega) (by omega)), (hR.a.fx W14 (by omega)), (hR.u.fx W14 (by omega)), (hR.x.fx W14 (by omega)), (hR.k.fx W14 (by omega)), (hR.s.fx W14 (by omega))⟩, rfl, (FX.fr (lo := o + 1) (hi := o + 31) (W14.to (by omega) (by omega)) (by omega) (by omega))⟩
        · exact absurd (ib.symm.trans q11) (by decide)
  · have ia9 := ia
    refine ev_body hl rfl (by decide +kernel) (Nat.le_of_ble_eq_true rfl) ?_
    show ev_ l m_X11_addTransition 0 0 0 [some (.ref (o)), some (.int (a)), some (.int (b)), some (.int (c)), some (.int (d)), some (.int (e))] [] M _
    refine ev_blk (B := [(.iload_n 1, 1)]) (pe := 1) (ls' := [some (.ref (o)), some (.int (a)), some (.int (b)), some (.int (c)), some (.int (d)), some (.int (e))]) (st' := [.int (a)]) ⟨dX11_addTransition_0, rfl⟩ rfl ?_
    refine ev_cSv Y_X11_isState L_RX11_130 dX11_addTransition_1 ⟨Nat.le_of_ble_eq_true rfl, Nat.le_of_ble_eq_true rfl, Nat.le_of_ble_eq_true rfl, Nat.le_of_ble_eq_true rfl, Nat.le_of_ble_eq_true rfl⟩ (as := [.int (a)]) rfl rfl (c_R_isState hl a) ?_
    refine ev_ifB_eq dX11_addTransition_4 (tgt := 43) (by decide) (fun q4 => ?_) (fun q4 => ?_)
    · refine ev_blk (B := [(.aload_n 0, 1), (.iconst 1, 1)]) (pe := 45) (ls' := [some (.ref (o)), some (.int (a)), some (.int (b)), some (.int (c)), some (.int (d)), some (.int (e))]) (st' := [.int (nI 1), .ref (o)]) ⟨dX11_addTransition_43, dX11_addTransition_44, rfl⟩ rfl ?_
      refine ev_cVv Y_X11_fails L_RX11_144 dX11_addTransition_45 ⟨Nat.le_of_ble_eq_true rfl, Nat.le_of_ble_eq_true rfl, Nat.le_of_ble_eq_true rfl, Nat.le_of_ble_eq_true rfl, Nat.le_of_ble_eq_true rfl⟩ hR.z (as := [.int (nI 1)]) rfl rfl (c_R_fails hl o (zi) (zl) hR.z 1) ?_
      refine ev_nm (M0 := M.set o (.inr (10, zo o (ui (zi) 0 (nI 1)) (zl)))) (fun Mf eMf => ?_)
      have ff : Mf[o]? = some (.inr (10, zo o (ui (zi) 0 (nI 1)) (zl))) := by rw [eMf]; exact ev_sg hR.z
      refine ev_iret dX11_addTransition_48 rfl (rfl) ⟨Nat.le_of_ble_eq_true rfl, Nat.le_of_ble_eq_true rfl⟩ ?_
      have W15 : FX o (o + 31) (o + 31) M Mf := ⟨by rw [eMf]; simp only [List.length_set], fun j hj1 hj2 => by rw [eMf, ev_sn (by omega)]⟩
      have e9 : sAdd S a b c d e = ((1, 0), S) := by simp [sAdd, ia, q4]
      rw [e9]
      exact ⟨rfl, _, _, ⟨ff, ⟨hR.p.1, hR.p.2.1, hR.p.2.2.1, hR.p.2.2.2.1, hR.p.2.2.2.2.1, hR.p.2.2.2.2.2.1, hR.p.2.2.2.2.2.2.1, hR.p.2.2.2.2.2.2.2.1, hR.p.2.2.2.2.2.2.2.2.1, hR.p.2.2.2.2.2.2.2.2.2⟩, (hR.T.fx W15 (by omega) (by omega)), (hR.H.fx W15 (by omega)), (hR.y.fx W15 (by omega)), (hR.G.fx W15 (by omega) (by omega)), (hR.a.fx W15 (by omega)), (hR.u.fx W15 (by omega)), (hR.x.fx W15 (by omega)), (hR.k.fx W15 (by omega)), (hR.s.fx W15 (by omega))⟩, rfl, (FX.fr (lo := o + 1) (hi := o + 31) (W15.to (by omega) (by omega)) (by omega) (by omega))⟩
    · exact absurd (ia.symm.trans q4) (by decide)

