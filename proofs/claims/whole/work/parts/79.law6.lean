/-! ===== the law: turns 13 to 25 ===== -/
set_option maxHeartbeats 4000000 in
set_option maxRecDepth 100000 in
theorem w_13 {xs : Nat → Int32} {N9 : Nat} {l : Launch} (hl : l.stackTraces = false) (hN : N9 ≤ 3072) (i : Nat) (hi : i + 6 ≤ N9) {M : ev_M} (S : St) (hS : okS S) (hLI : LI M S) (kc ks : Nat) (hkc : kc + 8 ≤ 601024) (hks : ks + 40 ≤ 7293034) (Q : ev_R → ev_M → Prop) (hk : ∀ (M1 : ev_M) (S1 : St), okS S1 → LI M1 S1 → el_ xs N9 l m_L_law (kc + 8) (ks + 40) 2054 [some (.retAddr 20), some (.ref 0), some (.ref 104), some (.ref 135), some (.int (nI i)), none, none] [] M1 Q) : el_ xs N9 l m_L_law kc ks 931 [some (.retAddr 20), some (.ref 0), some (.ref 104), some (.ref 135), some (.int (nI i)), none, none] [] M Q := by
  obtain ⟨hR, ⟨zi, zl, hRR⟩, ⟨g, hg⟩, hlen⟩ := hLI
  have h10 : S.T.length ≤ 10 := hR.m.1
  have h3 : S.G.length ≤ 3 := hR.g.2.1
  have h20 : S.H.length ≤ 20 := by have := hR.h.2.1.2.1; rwa [hL_len] at this
  refine el_blk (B := [(.aload_n 1, 1), (.aload_n 3, 1)]) (pe := 933) (ls' := [some (.retAddr 20), some (.ref (0)), some (.ref (104)), some (.ref (135)), some (.int (nI i)), none, none]) (st' := [.ref (135), .ref (0)]) ⟨dL_law_931, dL_law_932, rfl⟩ rfl ?_
  refine el_cSHw YH_L_undo L_RL_172 dL_law_933 ⟨Nat.le_of_ble_eq_true rfl, Nat.le_of_ble_eq_true rfl, (by show kc + 1 ≤ 601024; omega), (by show ks + 6 ≤ 7293034; omega), Nat.le_of_ble_eq_true rfl⟩ (as := [.ref (0), .ref (135)]) rfl rfl (h_undo hl S hS hR  135 (by decide) g hg) (fun M1 hL1 hB1 => ?_)
  obtain ⟨cR, ⟨g1, cg, cz⟩, cl, co⟩ := hB1
  have dR := RR.kept hRR (fun j h1 h2 => co j h1 (by omega))
  refine el_blk (B := [(.istore 5, 2), (.aload_n 2, 1)]) (pe := 939) (ls' := [some (.retAddr 20), some (.ref (0)), some (.ref (104)), some (.ref (135)), some (.int (nI i)), some (.int (nI (sUnd S).1.1)), none]) (st' := [.ref (104)]) ⟨dL_law_936, dL_law_938, rfl⟩ rfl ?_
  refine el_cVw Y_X11_undo L_RL_175 dL_law_939 ⟨Nat.le_of_ble_eq_true rfl, Nat.le_of_ble_eq_true rfl, (by show kc + 1 + 0 ≤ 601024; omega), (by show ks + 6 + 0 ≤ 7293034; omega), Nat.le_of_ble_eq_true rfl⟩ dR.z (as := []) rfl rfl (r_undo hl 104 S hS h10 h3 h20 _ _ dR) (fun M2 hL2 hB2 => ?_)
  obtain ⟨zi1, zl1, eR, ez, eF⟩ := hB2
  have fR := cR.fr eF (by decide)
  have fg := (eF.2 135 (Or.inr (by decide))).trans cg
  have fl := eF.1
  refine el_blk (B := [(.istore 6, 2), (.aload_n 2, 1)]) (pe := 945) (ls' := [some (.retAddr 20), some (.ref (0)), some (.ref (104)), some (.ref (135)), some (.int (nI i)), some (.int (nI (sUnd S).1.1)), some (.int ((sUnd S).1.2))]) (st' := [.ref (104)]) ⟨dL_law_942, dL_law_944, rfl⟩ rfl ?_
  refine el_cVv Y_X11_thrown L_RL_127 dL_law_945 ⟨Nat.le_of_ble_eq_true rfl, Nat.le_of_ble_eq_true rfl, (by show kc + 1 + 0 + 0 ≤ 601024; omega), (by show ks + 6 + 0 + 0 ≤ 7293034; omega), Nat.le_of_ble_eq_true rfl⟩ eR.z (as := []) rfl rfl (c_R_thrown hl 104 zi1 zl1 eR.z) ?_
  rw [ez]
  refine el_blk (B := [(.iload 5, 2)]) (pe := 950) (ls' := [some (.retAddr 20), some (.ref (0)), some (.ref (104)), some (.ref (135)), some (.int (nI i)), some (.int (nI (sUnd S).1.1)), some (.int ((sUnd S).1.2))]) (st' := [.int (nI (sUnd S).1.1), .int (nI (sUnd S).1.1)]) ⟨dL_law_948, rfl⟩ rfl ?_
  refine el_ic_eq dL_law_950 (tgt := 955) (by decide) (fun q950 => ?_) (fun q950 => ?_)
  · refine el_blk (B := [(.iload 5, 2)]) (pe := 957) (ls' := [some (.retAddr 20), some (.ref (0)), some (.ref (104)), some (.ref (135)), some (.int (nI i)), some (.int (nI (sUnd S).1.1)), some (.int ((sUnd S).1.2))]) (st' := [.int (nI (sUnd S).1.1)]) ⟨dL_law_955, rfl⟩ rfl ?_
    refine el_if_ne dL_law_957 (tgt := 972) (by decide) (fun q957 => ?_) (fun q957 => ?_)
    · refine el_goto (tgt := 2054) dL_law_972 (by decide) ?_
      refine el_fgt (ls' := [some (.retAddr 20), some (.ref (0)), some (.ref (104)), some (.ref (135)), some (.int (nI i)), none, none]) ⟨Or.inr rfl, Or.inr rfl, Or.inr rfl, Or.inr rfl, Or.inr rfl, Or.inl rfl, Or.inl rfl, trivial⟩ ?_
      exact el_wid (by show kc + 1 + 0 + 0 ≤ kc + 8; omega) (by show ks + 6 + 0 + 0 ≤ ks + 40; omega) (hk _ ((sUnd S).2) (k_Und hS) ⟨fR, ⟨_, _, eR⟩, ⟨_, fg⟩, fl.trans (cl.trans hlen)⟩)
    · refine el_blk (B := [(.aload_n 3, 1), (.iconst 0, 1)]) (pe := 962) (ls' := [some (.retAddr 20), some (.ref (0)), some (.ref (104)), some (.ref (135)), some (.int (nI i)), some (.int (nI (sUnd S).1.1)), some (.int ((sUnd S).1.2))]) (st' := [.int (nI 0), .ref (135)]) ⟨dL_law_960, dL_law_961, rfl⟩ rfl ?_
      refine el_lald dL_law_962 fg (vp_in_nI (show 0 < 1 by omega) (by omega)) ?_
      rw [nI_clamp (show 0 < 2 ^ 31 by omega)]
      refine el_blk (B := [(.iload 6, 2), (.i2l, 1), (.lcmp, 1)]) (pe := 967) (ls' := [some (.retAddr 20), some (.ref (0)), some (.ref (104)), some (.ref (135)), some (.int (nI i)), some (.int (nI (sUnd S).1.1)), some (.int ((sUnd S).1.2))]) (st' := [.int (lg_cmp (g1 0) (((sUnd S).1.2).toInt64))]) ⟨dL_law_963, dL_law_965, dL_law_966, rfl⟩ rfl ?_
      refine el_lc_eq dL_law_967 (tgt := 972) (by decide) (fun q967 => ?_) (fun q967 => ?_)
      · refine el_goto (tgt := 2054) dL_law_972 (by decide) ?_
        refine el_fgt (ls' := [some (.retAddr 20), some (.ref (0)), some (.ref (104)), some (.ref (135)), some (.int (nI i)), none, none]) ⟨Or.inr rfl, Or.inr rfl, Or.inr rfl, Or.inr rfl, Or.inr rfl, Or.inl rfl, Or.inl rfl, trivial⟩ ?_
        exact el_wid (by show kc + 1 + 0 + 0 ≤ kc + 8; omega) (by show ks + 6 + 0 + 0 ≤ ks + 40; omega) (hk _ ((sUnd S).2) (k_Und hS) ⟨fR, ⟨_, _, eR⟩, ⟨_, fg⟩, fl.trans (cl.trans hlen)⟩)
      · exact absurd (cz q957) q967
  · exact absurd rfl q950

set_option maxHeartbeats 4000000 in
set_option maxRecDepth 100000 in
theorem w_14 {xs : Nat → Int32} {N9 : Nat} {l : Launch} (hl : l.stackTraces = false) (hN : N9 ≤ 3072) (i : Nat) (hi : i + 6 ≤ N9) {M : ev_M} (S : St) (hS : okS S) (hLI : LI M S) (kc ks : Nat) (hkc : kc + 8 ≤ 601024) (hks : ks + 40 ≤ 7293034) (Q : ev_R → ev_M → Prop) (hk : ∀ (M1 : ev_M) (S1 : St), okS S1 → LI M1 S1 → el_ xs N9 l m_L_law (kc + 8) (ks + 40) 2054 [some (.retAddr 20), some (.ref 0), some (.ref 104), some (.ref 135), some (.int (nI i)), none, none] [] M1 Q) : el_ xs N9 l m_L_law kc ks 975 [some (.retAddr 20), some (.ref 0), some (.ref 104), some (.ref 135), some (.int (nI i)), none, none] [] M Q := by
  obtain ⟨hR, ⟨zi, zl, hRR⟩, ⟨g, hg⟩, hlen⟩ := hLI
  have h10 : S.T.length ≤ 10 := hR.m.1
  have h3 : S.G.length ≤ 3 := hR.g.2.1
  have h20 : S.H.length ≤ 20 := by have := hR.h.2.1.2.1; rwa [hL_len] at this
  refine el_blk (B := [(.aload_n 1, 1)]) (pe := 976) (ls' := [some (.retAddr 20), some (.ref (0)), some (.ref (104)), some (.ref (135)), some (.int (nI i)), none, none]) (st' := [.ref (0)]) ⟨dL_law_975, rfl⟩ rfl ?_
  refine el_cVw Y_X10_increase L_RL_176 dL_law_976 ⟨Nat.le_of_ble_eq_true rfl, Nat.le_of_ble_eq_true rfl, (by show kc + 0 ≤ 601024; omega), (by show ks + 0 ≤ 7293034; omega), Nat.le_of_ble_eq_true rfl⟩ hR.1 (as := []) rfl rfl ((c_X10_increase hl S hS hR  : ev_Mt l m_X10_increase _ _ (fun r M1 => r = .inl (some (.int (sInc S).2)) ∧ RCl M1 S ∧ Fr 0 104 _ M1))) (fun M1 hL1 hB1 => ?_)
  obtain ⟨cR, cF⟩ := hB1
  have dR := RR.kept hRR (fun j h1 h2 => cF.2 j (Or.inr h1))
  have cg := (cF.2 135 (Or.inr (by decide))).trans hg
  have cl := cF.1
  refine el_blk (B := [(.aload_n 2, 1)]) (pe := 980) (ls' := [some (.retAddr 20), some (.ref (0)), some (.ref (104)), some (.ref (135)), some (.int (nI i)), none, none]) (st' := [.ref (104), .int ((sInc S).2)]) ⟨dL_law_979, rfl⟩ rfl ?_
  refine el_cVw Y_X11_increase L_RL_179 dL_law_980 ⟨Nat.le_of_ble_eq_true rfl, Nat.le_of_ble_eq_true rfl, (by show kc + 0 + 0 ≤ 601024; omega), (by show ks + 0 + 0 ≤ 7293034; omega), Nat.le_of_ble_eq_true rfl⟩ dR.z (as := []) rfl rfl (r_increase hl 104 S hS h10 h3 h20 _ _ dR) (fun M2 hL2 hB2 => ?_)
  obtain ⟨zi1, zl1, eR, ez, eF⟩ := hB2
  have fR := cR.fr eF (by decide)
  have fg := (eF.2 135 (Or.inr (by decide))).trans cg
  have fl := eF.1
  refine el_ic_eq dL_law_983 (tgt := 2054) (by decide) (fun q983 => ?_) (fun q983 => ?_)
  · exact el_wid (by show kc + 0 + 0 ≤ kc + 8; omega) (by show ks + 0 + 0 ≤ ks + 40; omega) (hk _ S (hS) ⟨fR, ⟨_, _, eR⟩, ⟨_, fg⟩, fl.trans (cl.trans hlen)⟩)
  · exact absurd rfl q983

set_option maxHeartbeats 4000000 in
set_option maxRecDepth 100000 in
theorem w_15 {xs : Nat → Int32} {N9 : Nat} {l : Launch} (hl : l.stackTraces = false) (hN : N9 ≤ 3072) (i : Nat) (hi : i + 6 ≤ N9) {M : ev_M} (S : St) (hS : okS S) (hLI : LI M S) (kc ks : Nat) (hkc : kc + 8 ≤ 601024) (hks : ks + 40 ≤ 7293034) (Q : ev_R → ev_M → Prop) (hk : ∀ (M1 : ev_M) (S1 : St), okS S1 → LI M1 S1 → el_ xs N9 l m_L_law (kc + 8) (ks + 40) 2054 [some (.retAddr 20), some (.ref 0), some (.ref 104), some (.ref 135), some (.int (nI i)), none, none] [] M1 Q) : el_ xs N9 l m_L_law kc ks 988 [some (.retAddr 20), some (.ref 0), some (.ref 104), some (.ref 135), some (.int (nI i)), none, none] [] M Q := by
  obtain ⟨hR, ⟨zi, zl, hRR⟩, ⟨g, hg⟩, hlen⟩ := hLI
  have h10 : S.T.length ≤ 10 := hR.m.1
  have h3 : S.G.length ≤ 3 := hR.g.2.1
  have h20 : S.H.length ≤ 20 := by have := hR.h.2.1.2.1; rwa [hL_len] at this
  refine el_blk (B := [(.aload_n 1, 1), (.aload_n 0, 1), (.iload 4, 2), (.iconst 1, 1), (.iadd, 1)]) (pe := 994) (ls' := [some (.retAddr 20), some (.ref (0)), some (.ref (104)), some (.ref (135)), some (.int (nI i)), none, none]) (st' := [.int (nI (i + 1)), .retAddr 20, .ref (0)]) ⟨dL_law_988, dL_law_989, dL_law_990, dL_law_992, dL_law_993, rfl⟩ (by show some (([some (.retAddr 20), some (.ref (0)), some (.ref (104)), some (.ref (135)), some (.int (nI i)), none, none] : ev_L), ([.int ((nI i) + (nI 1)), .retAddr 20, .ref (0)] : List Value)) = _; rw [nI_add i 1]) ?_
  refine el_sld (vp_in_nI (show i + 1 < N9 by omega) (by omega)) dL_law_994 ?_
  rw [nI_clamp (show i + 1 < 2 ^ 31 by omega)]
  refine el_blk (B := [(.aload_n 3, 1)]) (pe := 996) (ls' := [some (.retAddr 20), some (.ref (0)), some (.ref (104)), some (.ref (135)), some (.int (nI i)), none, none]) (st' := [.ref (135), .int (xs (i + 1)), .ref (0)]) ⟨dL_law_995, rfl⟩ rfl ?_
  refine el_cSHw YH_L_isBelow L_RL_180 dL_law_996 ⟨Nat.le_of_ble_eq_true rfl, Nat.le_of_ble_eq_true rfl, (by show kc + 1 ≤ 601024; omega), (by show ks + 6 ≤ 7293034; omega), Nat.le_of_ble_eq_true rfl⟩ (as := [.ref (0), .int (xs (i + 1)), .ref (135)]) rfl rfl (h_isBelow hl S hS hR (xs (i + 1)) 135 (by decide) g hg) (fun M1 hL1 hB1 => ?_)
  obtain ⟨cR, ⟨g1, cg, cz⟩, cl, co⟩ := hB1
  have dR := RR.kept hRR (fun j h1 h2 => co j h1 (by omega))
  refine el_blk (B := [(.istore 5, 2), (.aload_n 2, 1), (.aload_n 0, 1), (.iload 4, 2), (.iconst 1, 1), (.iadd, 1)]) (pe := 1007) (ls' := [some (.retAddr 20), some (.ref (0)), some (.ref (104)), some (.ref (135)), some (.int (nI i)), some (.int (nI (sBel S (xs (i + 1))).1)), none]) (st' := [.int (nI (i + 1)), .retAddr 20, .ref (104)]) ⟨dL_law_999, dL_law_1001, dL_law_1002, dL_law_1003, dL_law_1005, dL_law_1006, rfl⟩ (by show some (([some (.retAddr 20), some (.ref (0)), some (.ref (104)), some (.ref (135)), some (.int (nI i)), some (.int (nI (sBel S (xs (i + 1))).1)), none] : ev_L), ([.int ((nI i) + (nI 1)), .retAddr 20, .ref (104)] : List Value)) = _; rw [nI_add i 1]) ?_
  refine el_sld (vp_in_nI (show i + 1 < N9 by omega) (by omega)) dL_law_1007 ?_
  rw [nI_clamp (show i + 1 < 2 ^ 31 by omega)]
  refine el_cVw Y_X11_isBelow L_RL_182 dL_law_1008 ⟨Nat.le_of_ble_eq_true rfl, Nat.le_of_ble_eq_true rfl, (by show kc + 1 + 0 ≤ 601024; omega), (by show ks + 6 + 0 ≤ 7293034; omega), Nat.le_of_ble_eq_true rfl⟩ dR.z (as := [.int (xs (i + 1))]) rfl rfl (r_isBelow hl 104 S hS h10 h3 h20 _ _ dR (xs (i + 1))) (fun M2 hL2 hB2 => ?_)
  obtain ⟨zi1, zl1, eR, ez, eF⟩ := hB2
  have fR := cR.fr eF (by decide)
  have fg := (eF.2 135 (Or.inr (by decide))).trans cg
  have fl := eF.1
  refine el_blk (B := [(.istore 6, 2), (.aload_n 2, 1)]) (pe := 1014) (ls' := [some (.retAddr 20), some (.ref (0)), some (.ref (104)), some (.ref (135)), some (.int (nI i)), some (.int (nI (sBel S (xs (i + 1))).1)), some (.int ((sBel S (xs (i + 1))).2))]) (st' := [.ref (104)]) ⟨dL_law_1011, dL_law_1013, rfl⟩ rfl ?_
  refine el_cVv Y_X11_thrown L_RL_127 dL_law_1014 ⟨Nat.le_of_ble_eq_true rfl, Nat.le_of_ble_eq_true rfl, (by show kc + 1 + 0 + 0 ≤ 601024; omega), (by show ks + 6 + 0 + 0 ≤ 7293034; omega), Nat.le_of_ble_eq_true rfl⟩ eR.z (as := []) rfl rfl (c_R_thrown hl 104 zi1 zl1 eR.z) ?_
  rw [ez]
  refine el_blk (B := [(.iload 5, 2)]) (pe := 1019) (ls' := [some (.retAddr 20), some (.ref (0)), some (.ref (104)), some (.ref (135)), some (.int (nI i)), some (.int (nI (sBel S (xs (i + 1))).1)), some (.int ((sBel S (xs (i + 1))).2))]) (st' := [.int (nI (sBel S (xs (i + 1))).1), .int (nI (sBel S (xs (i + 1))).1)]) ⟨dL_law_1017, rfl⟩ rfl ?_
  refine el_ic_eq dL_law_1019 (tgt := 1024) (by decide) (fun q1019 => ?_) (fun q1019 => ?_)
  · refine el_blk (B := [(.iload 5, 2)]) (pe := 1026) (ls' := [some (.retAddr 20), some (.ref (0)), some (.ref (104)), some (.ref (135)), some (.int (nI i)), some (.int (nI (sBel S (xs (i + 1))).1)), some (.int ((sBel S (xs (i + 1))).2))]) (st' := [.int (nI (sBel S (xs (i + 1))).1)]) ⟨dL_law_1024, rfl⟩ rfl ?_
    refine el_if_ne dL_law_1026 (tgt := 1048) (by decide) (fun q1026 => ?_) (fun q1026 => ?_)
    · refine el_goto (tgt := 2054) dL_law_1048 (by decide) ?_
      refine el_fgt (ls' := [some (.retAddr 20), some (.ref (0)), some (.ref (104)), some (.ref (135)), some (.int (nI i)), none, none]) ⟨Or.inr rfl, Or.inr rfl, Or.inr rfl, Or.inr rfl, Or.inr rfl, Or.inl rfl, Or.inl rfl, trivial⟩ ?_
      exact el_wid (by show kc + 1 + 0 + 0 ≤ kc + 8; omega) (by show ks + 6 + 0 + 0 ≤ ks + 40; omega) (hk _ S (hS) ⟨fR, ⟨_, _, eR⟩, ⟨_, fg⟩, fl.trans (cl.trans hlen)⟩)
    · refine el_blk (B := [(.aload_n 3, 1), (.iconst 0, 1)]) (pe := 1031) (ls' := [some (.retAddr 20), some (.ref (0)), some (.ref (104)), some (.ref (135)), some (.int (nI i)), some (.int (nI (sBel S (xs (i + 1))).1)), some (.int ((sBel S (xs (i + 1))).2))]) (st' := [.int (nI 0), .ref (135)]) ⟨dL_law_1029, dL_law_1030, rfl⟩ rfl ?_
      refine el_lald dL_law_1031 fg (vp_in_nI (show 0 < 1 by omega) (by omega)) ?_
      rw [nI_clamp (show 0 < 2 ^ 31 by omega)]
      refine el_blk (B := [(.iload 6, 2)]) (pe := 1034) (ls' := [some (.retAddr 20), some (.ref (0)), some (.ref (104)), some (.ref (135)), some (.int (nI i)), some (.int (nI (sBel S (xs (i + 1))).1)), some (.int ((sBel S (xs (i + 1))).2))]) (st' := [.int ((sBel S (xs (i + 1))).2), .long (g1 0)]) ⟨dL_law_1032, rfl⟩ rfl ?_
      refine el_if_eq dL_law_1034 (tgt := 1041) (by decide) (fun q1034 => ?_) (fun q1034 => ?_)
      · refine el_blk (B := [(.lconst 0, 1), (.lcmp, 1)]) (pe := 1043) (ls' := [some (.retAddr 20), some (.ref (0)), some (.ref (104)), some (.ref (135)), some (.int (nI i)), some (.int (nI (sBel S (xs (i + 1))).1)), some (.int ((sBel S (xs (i + 1))).2))]) (st' := [.int (lg_cmp (g1 0) (0))]) ⟨dL_law_1041, dL_law_1042, rfl⟩ rfl ?_
        refine el_lc_eq dL_law_1043 (tgt := 1048) (by decide) (fun q1043 => ?_) (fun q1043 => ?_)
        · refine el_goto (tgt := 2054) dL_law_1048 (by decide) ?_
          refine el_fgt (ls' := [some (.retAddr 20), some (.ref (0)), some (.ref (104)), some (.ref (135)), some (.int (nI i)), none, none]) ⟨Or.inr rfl, Or.inr rfl, Or.inr rfl, Or.inr rfl, Or.inr rfl, Or.inl rfl, Or.inl rfl, trivial⟩ ?_
          exact el_wid (by show kc + 1 + 0 + 0 ≤ kc + 8; omega) (by show ks + 6 + 0 + 0 ≤ ks + 40; omega) (hk _ S (hS) ⟨fR, ⟨_, _, eR⟩, ⟨_, fg⟩, fl.trans (cl.trans hlen)⟩)
        · exact absurd ((cz q1026).trans (by first | exact if_pos q1034 | exact if_neg q1034)) q1043
      · refine el_blk (B := [(.lconst 1, 1)]) (pe := 1038) (ls' := [some (.retAddr 20), some (.ref (0)), some (.ref (104)), some (.ref (135)), some (.int (nI i)), some (.int (nI (sBel S (xs (i + 1))).1)), some (.int ((sBel S (xs (i + 1))).2))]) (st' := [.long (1), .long (g1 0)]) ⟨dL_law_1037, rfl⟩ rfl ?_
        refine el_goto (tgt := 1042) dL_law_1038 (by decide) ?_
        refine el_blk (B := [(.lcmp, 1)]) (pe := 1043) (ls' := [some (.retAddr 20), some (.ref (0)), some (.ref (104)), some (.ref (135)), some (.int (nI i)), some (.int (nI (sBel S (xs (i + 1))).1)), some (.int ((sBel S (xs (i + 1))).2))]) (st' := [.int (lg_cmp (g1 0) (1))]) ⟨dL_law_1042, rfl⟩ rfl ?_
        refine el_lc_eq dL_law_1043 (tgt := 1048) (by decide) (fun q1043 => ?_) (fun q1043 => ?_)
        · refine el_goto (tgt := 2054) dL_law_1048 (by decide) ?_
          refine el_fgt (ls' := [some (.retAddr 20), some (.ref (0)), some (.ref (104)), some (.ref (135)), some (.int (nI i)), none, none]) ⟨Or.inr rfl, Or.inr rfl, Or.inr rfl, Or.inr rfl, Or.inr rfl, Or.inl rfl, Or.inl rfl, trivial⟩ ?_
          exact el_wid (by show kc + 1 + 0 + 0 ≤ kc + 8; omega) (by show ks + 6 + 0 + 0 ≤ ks + 40; omega) (hk _ S (hS) ⟨fR, ⟨_, _, eR⟩, ⟨_, fg⟩, fl.trans (cl.trans hlen)⟩)
        · exact absurd ((cz q1026).trans (by first | exact if_pos q1034 | exact if_neg q1034)) q1043
  · exact absurd rfl q1019

set_option maxHeartbeats 4000000 in
set_option maxRecDepth 100000 in
theorem w_16 {xs : Nat → Int32} {N9 : Nat} {l : Launch} (hl : l.stackTraces = false) (hN : N9 ≤ 3072) (i : Nat) (hi : i + 6 ≤ N9) {M : ev_M} (S : St) (hS : okS S) (hLI : LI M S) (kc ks : Nat) (hkc : kc + 8 ≤ 601024) (hks : ks + 40 ≤ 7293034) (Q : ev_R → ev_M → Prop) (hk : ∀ (M1 : ev_M) (S1 : St), okS S1 → LI M1 S1 → el_ xs N9 l m_L_law (kc + 8) (ks + 40) 2054 [some (.retAddr 20), some (.ref 0), some (.ref 104), some (.ref 135), some (.int (nI i)), none, none] [] M1 Q) : el_ xs N9 l m_L_law kc ks 1051 [some (.retAddr 20), some (.ref 0), some (.ref 104), some (.ref 135), some (.int (nI i)), none, none] [] M Q := by
  obtain ⟨hR, ⟨zi, zl, hRR⟩, ⟨g, hg⟩, hlen⟩ := hLI
  have h10 : S.T.length ≤ 10 := hR.m.1
  have h3 : S.G.length ≤ 3 := hR.g.2.1
  have h20 : S.H.length ≤ 20 := by have := hR.h.2.1.2.1; rwa [hL_len] at this
  refine el_blk (B := [(.aload_n 1, 1), (.aload_n 0, 1), (.iload 4, 2), (.iconst 1, 1), (.iadd, 1)]) (pe := 1057) (ls' := [some (.retAddr 20), some (.ref (0)), some (.ref (104)), some (.ref (135)), some (.int (nI i)), none, none]) (st' := [.int (nI (i + 1)), .retAddr 20, .ref (0)]) ⟨dL_law_1051, dL_law_1052, dL_law_1053, dL_law_1055, dL_law_1056, rfl⟩ (by show some (([some (.retAddr 20), some (.ref (0)), some (.ref (104)), some (.ref (135)), some (.int (nI i)), none, none] : ev_L), ([.int ((nI i) + (nI 1)), .retAddr 20, .ref (0)] : List Value)) = _; rw [nI_add i 1]) ?_
  refine el_sld (vp_in_nI (show i + 1 < N9 by omega) (by omega)) dL_law_1057 ?_
  rw [nI_clamp (show i + 1 < 2 ^ 31 by omega)]
  refine el_blk (B := [(.aload_n 3, 1)]) (pe := 1059) (ls' := [some (.retAddr 20), some (.ref (0)), some (.ref (104)), some (.ref (135)), some (.int (nI i)), none, none]) (st' := [.ref (135), .int (xs (i + 1)), .ref (0)]) ⟨dL_law_1058, rfl⟩ rfl ?_
  refine el_cSHw YH_L_embeddings L_RL_183 dL_law_1059 ⟨Nat.le_of_ble_eq_true rfl, Nat.le_of_ble_eq_true rfl, (by show kc + 1 ≤ 601024; omega), (by show ks + 6 ≤ 7293034; omega), Nat.le_of_ble_eq_true rfl⟩ (as := [.ref (0), .int (xs (i + 1)), .ref (135)]) rfl rfl (h_embeddings hl S hS hR (xs (i + 1)) 135 (by decide) g hg) (fun M1 hL1 hB1 => ?_)
  obtain ⟨cR, ⟨g1, cg, cz⟩, cl, co⟩ := hB1
  have dR := RR.kept hRR (fun j h1 h2 => co j h1 (by omega))
  refine el_blk (B := [(.istore 5, 2), (.aload_n 2, 1), (.aload_n 0, 1), (.iload 4, 2), (.iconst 1, 1), (.iadd, 1)]) (pe := 1070) (ls' := [some (.retAddr 20), some (.ref (0)), some (.ref (104)), some (.ref (135)), some (.int (nI i)), some (.int (nI (sEmb S (xs (i + 1))).1)), none]) (st' := [.int (nI (i + 1)), .retAddr 20, .ref (104)]) ⟨dL_law_1062, dL_law_1064, dL_law_1065, dL_law_1066, dL_law_1068, dL_law_1069, rfl⟩ (by show some (([some (.retAddr 20), some (.ref (0)), some (.ref (104)), some (.ref (135)), some (.int (nI i)), some (.int (nI (sEmb S (xs (i + 1))).1)), none] : ev_L), ([.int ((nI i) + (nI 1)), .retAddr 20, .ref (104)] : List Value)) = _; rw [nI_add i 1]) ?_
  refine el_sld (vp_in_nI (show i + 1 < N9 by omega) (by omega)) dL_law_1070 ?_
  rw [nI_clamp (show i + 1 < 2 ^ 31 by omega)]
  refine el_cVw Y_X11_embeddings L_RL_185 dL_law_1071 ⟨Nat.le_of_ble_eq_true rfl, Nat.le_of_ble_eq_true rfl, (by show kc + 1 + 0 ≤ 601024; omega), (by show ks + 6 + 0 ≤ 7293034; omega), Nat.le_of_ble_eq_true rfl⟩ dR.z (as := [.int (xs (i + 1))]) rfl rfl (r_embeddings hl 104 S hS h10 h3 h20 _ _ dR (xs (i + 1))) (fun M2 hL2 hB2 => ?_)
  obtain ⟨zi1, zl1, eR, ez, eF⟩ := hB2
  have fR := cR.fr eF (by decide)
  have fg := (eF.2 135 (Or.inr (by decide))).trans cg
  have fl := eF.1
  refine el_blk (B := [(.istore 6, 2), (.aload_n 2, 1)]) (pe := 1077) (ls' := [some (.retAddr 20), some (.ref (0)), some (.ref (104)), some (.ref (135)), some (.int (nI i)), some (.int (nI (sEmb S (xs (i + 1))).1)), some (.int ((sEmb S (xs (i + 1))).2))]) (st' := [.ref (104)]) ⟨dL_law_1074, dL_law_1076, rfl⟩ rfl ?_
  refine el_cVv Y_X11_thrown L_RL_127 dL_law_1077 ⟨Nat.le_of_ble_eq_true rfl, Nat.le_of_ble_eq_true rfl, (by show kc + 1 + 0 + 0 ≤ 601024; omega), (by show ks + 6 + 0 + 0 ≤ 7293034; omega), Nat.le_of_ble_eq_true rfl⟩ eR.z (as := []) rfl rfl (c_R_thrown hl 104 zi1 zl1 eR.z) ?_
  rw [ez]
  refine el_blk (B := [(.iload 5, 2)]) (pe := 1082) (ls' := [some (.retAddr 20), some (.ref (0)), some (.ref (104)), some (.ref (135)), some (.int (nI i)), some (.int (nI (sEmb S (xs (i + 1))).1)), some (.int ((sEmb S (xs (i + 1))).2))]) (st' := [.int (nI (sEmb S (xs (i + 1))).1), .int (nI (sEmb S (xs (i + 1))).1)]) ⟨dL_law_1080, rfl⟩ rfl ?_
  refine el_ic_eq dL_law_1082 (tgt := 1087) (by decide) (fun q1082 => ?_) (fun q1082 => ?_)
  · refine el_blk (B := [(.iload 5, 2)]) (pe := 1089) (ls' := [some (.retAddr 20), some (.ref (0)), some (.ref (104)), some (.ref (135)), some (.int (nI i)), some (.int (nI (sEmb S (xs (i + 1))).1)), some (.int ((sEmb S (xs (i + 1))).2))]) (st' := [.int (nI (sEmb S (xs (i + 1))).1)]) ⟨dL_law_1087, rfl⟩ rfl ?_
    refine el_if_ne dL_law_1089 (tgt := 1104) (by decide) (fun q1089 => ?_) (fun q1089 => ?_)
    · refine el_goto (tgt := 2054) dL_law_1104 (by decide) ?_
      refine el_fgt (ls' := [some (.retAddr 20), some (.ref (0)), some (.ref (104)), some (.ref (135)), some (.int (nI i)), none, none]) ⟨Or.inr rfl, Or.inr rfl, Or.inr rfl, Or.inr rfl, Or.inr rfl, Or.inl rfl, Or.inl rfl, trivial⟩ ?_
      exact el_wid (by show kc + 1 + 0 + 0 ≤ kc + 8; omega) (by show ks + 6 + 0 + 0 ≤ ks + 40; omega) (hk _ S (hS) ⟨fR, ⟨_, _, eR⟩, ⟨_, fg⟩, fl.trans (cl.trans hlen)⟩)
    · refine el_blk (B := [(.aload_n 3, 1), (.iconst 0, 1)]) (pe := 1094) (ls' := [some (.retAddr 20), some (.ref (0)), some (.ref (104)), some (.ref (135)), some (.int (nI i)), some (.int (nI (sEmb S (xs (i + 1))).1)), some (.int ((sEmb S (xs (i + 1))).2))]) (st' := [.int (nI 0), .ref (135)]) ⟨dL_law_1092, dL_law_1093, rfl⟩ rfl ?_
      refine el_lald dL_law_1094 fg (vp_in_nI (show 0 < 1 by omega) (by omega)) ?_
      rw [nI_clamp (show 0 < 2 ^ 31 by omega)]
      refine el_blk (B := [(.iload 6, 2), (.i2l, 1), (.lcmp, 1)]) (pe := 1099) (ls' := [some (.retAddr 20), some (.ref (0)), some (.ref (104)), some (.ref (135)), some (.int (nI i)), some (.int (nI (sEmb S (xs (i + 1))).1)), some (.int ((sEmb S (xs (i + 1))).2))]) (st' := [.int (lg_cmp (g1 0) (((sEmb S (xs (i + 1))).2).toInt64))]) ⟨dL_law_1095, dL_law_1097, dL_law_1098, rfl⟩ rfl ?_
      refine el_lc_eq dL_law_1099 (tgt := 1104) (by decide) (fun q1099 => ?_) (fun q1099 => ?_)
      · refine el_goto (tgt := 2054) dL_law_1104 (by decide) ?_
        refine el_fgt (ls' := [some (.retAddr 20), some (.ref (0)), some (.ref (104)), some (.ref (135)), some (.int (nI i)), none, none]) ⟨Or.inr rfl, Or.inr rfl, Or.inr rfl, Or.inr rfl, Or.inr rfl, Or.inl rfl, Or.inl rfl, trivial⟩ ?_
        exact el_wid (by show kc + 1 + 0 + 0 ≤ kc + 8; omega) (by show ks + 6 + 0 + 0 ≤ ks + 40; omega) (hk _ S (hS) ⟨fR, ⟨_, _, eR⟩, ⟨_, fg⟩, fl.trans (cl.trans hlen)⟩)
      · exact absurd (cz q1089) q1099
  · exact absurd rfl q1082

set_option maxHeartbeats 4000000 in
set_option maxRecDepth 100000 in
theorem w_17 {xs : Nat → Int32} {N9 : Nat} {l : Launch} (hl : l.stackTraces = false) (hN : N9 ≤ 3072) (i : Nat) (hi : i + 6 ≤ N9) {M : ev_M} (S : St) (hS : okS S) (hLI : LI M S) (kc ks : Nat) (hkc : kc + 8 ≤ 601024) (hks : ks + 40 ≤ 7293034) (Q : ev_R → ev_M → Prop) (hk : ∀ (M1 : ev_M) (S1 : St), okS S1 → LI M1 S1 → el_ xs N9 l m_L_law (kc + 8) (ks + 40) 2054 [some (.retAddr 20), some (.ref 0), some (.ref 104), some (.ref 135), some (.int (nI i)), none, none] [] M1 Q) : el_ xs N9 l m_L_law kc ks 1107 [some (.retAddr 20), some (.ref 0), some (.ref 104), some (.ref 135), some (.int (nI i)), none, none] [] M Q := by
  obtain ⟨hR, ⟨zi, zl, hRR⟩, ⟨g, hg⟩, hlen⟩ := hLI
  have h10 : S.T.length ≤ 10 := hR.m.1
  have h3 : S.G.length ≤ 3 := hR.g.2.1
  have h20 : S.H.length ≤ 20 := by have := hR.h.2.1.2.1; rwa [hL_len] at this
  refine el_blk (B := [(.aload_n 1, 1)]) (pe := 1108) (ls' := [some (.retAddr 20), some (.ref (0)), some (.ref (104)), some (.ref (135)), some (.int (nI i)), none, none]) (st' := [.ref (0)]) ⟨dL_law_1107, rfl⟩ rfl ?_
  refine el_cVw Y_X10_common L_RL_186 dL_law_1108 ⟨Nat.le_of_ble_eq_true rfl, Nat.le_of_ble_eq_true rfl, (by show kc + 0 ≤ 601024; omega), (by show ks + 0 ≤ 7293034; omega), Nat.le_of_ble_eq_true rfl⟩ hR.1 (as := []) rfl rfl ((c_X10_common hl S hS hR  : ev_Mt l m_X10_common _ _ (fun r M1 => r = .inl (some (.int (sCom S).2)) ∧ RCl M1 S ∧ Fr 0 104 _ M1))) (fun M1 hL1 hB1 => ?_)
  obtain ⟨cR, cF⟩ := hB1
  have dR := RR.kept hRR (fun j h1 h2 => cF.2 j (Or.inr h1))
  have cg := (cF.2 135 (Or.inr (by decide))).trans hg
  have cl := cF.1
  refine el_blk (B := [(.aload_n 2, 1)]) (pe := 1112) (ls' := [some (.retAddr 20), some (.ref (0)), some (.ref (104)), some (.ref (135)), some (.int (nI i)), none, none]) (st' := [.ref (104), .int ((sCom S).2)]) ⟨dL_law_1111, rfl⟩ rfl ?_
  refine el_cVw Y_X11_common L_RL_189 dL_law_1112 ⟨Nat.le_of_ble_eq_true rfl, Nat.le_of_ble_eq_true rfl, (by show kc + 0 + 0 ≤ 601024; omega), (by show ks + 0 + 0 ≤ 7293034; omega), Nat.le_of_ble_eq_true rfl⟩ dR.z (as := []) rfl rfl (r_common hl 104 S hS h10 h3 h20 _ _ dR) (fun M2 hL2 hB2 => ?_)
  obtain ⟨zi1, zl1, eR, ez, eF⟩ := hB2
  have fR := cR.fr eF (by decide)
  have fg := (eF.2 135 (Or.inr (by decide))).trans cg
  have fl := eF.1
  refine el_ic_eq dL_law_1115 (tgt := 2054) (by decide) (fun q1115 => ?_) (fun q1115 => ?_)
  · exact el_wid (by show kc + 0 + 0 ≤ kc + 8; omega) (by show ks + 0 + 0 ≤ ks + 40; omega) (hk _ S (hS) ⟨fR, ⟨_, _, eR⟩, ⟨_, fg⟩, fl.trans (cl.trans hlen)⟩)
  · exact absurd rfl q1115

set_option maxHeartbeats 4000000 in
set_option maxRecDepth 100000 in
theorem w_18 {xs : Nat → Int32} {N9 : Nat} {l : Launch} (hl : l.stackTraces = false) (hN : N9 ≤ 3072) (i : Nat) (hi : i + 6 ≤ N9) {M : ev_M} (S : St) (hS : okS S) (hLI : LI M S) (kc ks : Nat) (hkc : kc + 8 ≤ 601024) (hks : ks + 40 ≤ 7293034) (Q : ev_R → ev_M → Prop) (hk : ∀ (M1 : ev_M) (S1 : St), okS S1 → LI M1 S1 → el_ xs N9 l m_L_law (kc + 8) (ks + 40) 2054 [some (.retAddr 20), some (.ref 0), some (.ref 104), some (.ref 135), some (.int (nI i)), none, none] [] M1 Q) : el_ xs N9 l m_L_law kc ks 1120 [some (.retAddr 20), some (.ref 0), some (.ref 104), some (.ref 135), some (.int (nI i)), none, none] [] M Q := by
  obtain ⟨hR, ⟨zi, zl, hRR⟩, ⟨g, hg⟩, hlen⟩ := hLI
  have h10 : S.T.length ≤ 10 := hR.m.1
  have h3 : S.G.length ≤ 3 := hR.g.2.1
  have h20 : S.H.length ≤ 20 := by have := hR.h.2.1.2.1; rwa [hL_len] at this
  refine el_blk (B := [(.aload_n 1, 1), (.aload_n 0, 1), (.iload 4, 2), (.iconst 1, 1), (.iadd, 1)]) (pe := 1126) (ls' := [some (.retAddr 20), some (.ref (0)), some (.ref (104)), some (.ref (135)), some (.int (nI i)), none, none]) (st' := [.int (nI (i + 1)), .retAddr 20, .ref (0)]) ⟨dL_law_1120, dL_law_1121, dL_law_1122, dL_law_1124, dL_law_1125, rfl⟩ (by show some (([some (.retAddr 20), some (.ref (0)), some (.ref (104)), some (.ref (135)), some (.int (nI i)), none, none] : ev_L), ([.int ((nI i) + (nI 1)), .retAddr 20, .ref (0)] : List Value)) = _; rw [nI_add i 1]) ?_
  refine el_sld (vp_in_nI (show i + 1 < N9 by omega) (by omega)) dL_law_1126 ?_
  rw [nI_clamp (show i + 1 < 2 ^ 31 by omega)]
  refine el_blk (B := [(.aload_n 3, 1)]) (pe := 1128) (ls' := [some (.retAddr 20), some (.ref (0)), some (.ref (104)), some (.ref (135)), some (.int (nI i)), none, none]) (st' := [.ref (135), .int (xs (i + 1)), .ref (0)]) ⟨dL_law_1127, rfl⟩ rfl ?_
  refine el_cSHw YH_L_subwords L_RL_190 dL_law_1128 ⟨Nat.le_of_ble_eq_true rfl, Nat.le_of_ble_eq_true rfl, (by show kc + 1 ≤ 601024; omega), (by show ks + 6 ≤ 7293034; omega), Nat.le_of_ble_eq_true rfl⟩ (as := [.ref (0), .int (xs (i + 1)), .ref (135)]) rfl rfl (h_subwords hl S hS hR (xs (i + 1)) 135 (by decide) g hg) (fun M1 hL1 hB1 => ?_)
  obtain ⟨cR, ⟨g1, cg, cz⟩, cl, co⟩ := hB1
  have dR := RR.kept hRR (fun j h1 h2 => co j h1 (by omega))
  refine el_blk (B := [(.istore 5, 2), (.aload_n 2, 1), (.aload_n 0, 1), (.iload 4, 2), (.iconst 1, 1), (.iadd, 1)]) (pe := 1139) (ls' := [some (.retAddr 20), some (.ref (0)), some (.ref (104)), some (.ref (135)), some (.int (nI i)), some (.int (nI (sSub S (xs (i + 1))).1)), none]) (st' := [.int (nI (i + 1)), .retAddr 20, .ref (104)]) ⟨dL_law_1131, dL_law_1133, dL_law_1134, dL_law_1135, dL_law_1137, dL_law_1138, rfl⟩ (by show some (([some (.retAddr 20), some (.ref (0)), some (.ref (104)), some (.ref (135)), some (.int (nI i)), some (.int (nI (sSub S (xs (i + 1))).1)), none] : ev_L), ([.int ((nI i) + (nI 1)), .retAddr 20, .ref (104)] : List Value)) = _; rw [nI_add i 1]) ?_
  refine el_sld (vp_in_nI (show i + 1 < N9 by omega) (by omega)) dL_law_1139 ?_
  rw [nI_clamp (show i + 1 < 2 ^ 31 by omega)]
  refine el_cVw Y_X11_subwords L_RL_192 dL_law_1140 ⟨Nat.le_of_ble_eq_true rfl, Nat.le_of_ble_eq_true rfl, (by show kc + 1 + 1 ≤ 601024; omega), (by show ks + 6 + 3 ≤ 7293034; omega), Nat.le_of_ble_eq_true rfl⟩ dR.z (as := [.int (xs (i + 1))]) rfl rfl (r_subwords hl 104 S hS h10 h3 h20 _ _ dR (xs (i + 1))) (fun M2 hL2 hB2 => ?_)
  obtain ⟨zi1, zl1, eR, ez, eF⟩ := hB2
  have fR := cR.fr eF (by decide)
  have fg := (eF.2 135 (Or.inr (by decide))).trans cg
  have fl := eF.1
  refine el_blk (B := [(.istore 6, 2), (.aload_n 2, 1)]) (pe := 1146) (ls' := [some (.retAddr 20), some (.ref (0)), some (.ref (104)), some (.ref (135)), some (.int (nI i)), some (.int (nI (sSub S (xs (i + 1))).1)), some (.int ((sSub S (xs (i + 1))).2))]) (st' := [.ref (104)]) ⟨dL_law_1143, dL_law_1145, rfl⟩ rfl ?_
  refine el_cVv Y_X11_thrown L_RL_127 dL_law_1146 ⟨Nat.le_of_ble_eq_true rfl, Nat.le_of_ble_eq_true rfl, (by show kc + 1 + 1 + 0 ≤ 601024; omega), (by show ks + 6 + 3 + 0 ≤ 7293034; omega), Nat.le_of_ble_eq_true rfl⟩ eR.z (as := []) rfl rfl (c_R_thrown hl 104 zi1 zl1 eR.z) ?_
  rw [ez]
  refine el_blk (B := [(.iload 5, 2)]) (pe := 1151) (ls' := [some (.retAddr 20), some (.ref (0)), some (.ref (104)), some (.ref (135)), some (.int (nI i)), some (.int (nI (sSub S (xs (i + 1))).1)), some (.int ((sSub S (xs (i + 1))).2))]) (st' := [.int (nI (sSub S (xs (i + 1))).1), .int (nI (sSub S (xs (i + 1))).1)]) ⟨dL_law_1149, rfl⟩ rfl ?_
  refine el_ic_eq dL_law_1151 (tgt := 1156) (by decide) (fun q1151 => ?_) (fun q1151 => ?_)
  · refine el_blk (B := [(.iload 5, 2)]) (pe := 1158) (ls' := [some (.retAddr 20), some (.ref (0)), some (.ref (104)), some (.ref (135)), some (.int (nI i)), some (.int (nI (sSub S (xs (i + 1))).1)), some (.int ((sSub S (xs (i + 1))).2))]) (st' := [.int (nI (sSub S (xs (i + 1))).1)]) ⟨dL_law_1156, rfl⟩ rfl ?_
    refine el_if_ne dL_law_1158 (tgt := 1173) (by decide) (fun q1158 => ?_) (fun q1158 => ?_)
    · refine el_goto (tgt := 2054) dL_law_1173 (by decide) ?_
      refine el_fgt (ls' := [some (.retAddr 20), some (.ref (0)), some (.ref (104)), some (.ref (135)), some (.int (nI i)), none, none]) ⟨Or.inr rfl, Or.inr rfl, Or.inr rfl, Or.inr rfl, Or.inr rfl, Or.inl rfl, Or.inl rfl, trivial⟩ ?_
      exact el_wid (by show kc + 1 + 1 + 0 ≤ kc + 8; omega) (by show ks + 6 + 3 + 0 ≤ ks + 40; omega) (hk _ S (hS) ⟨fR, ⟨_, _, eR⟩, ⟨_, fg⟩, fl.trans (cl.trans hlen)⟩)
    · refine el_blk (B := [(.aload_n 3, 1), (.iconst 0, 1)]) (pe := 1163) (ls' := [some (.retAddr 20), some (.ref (0)), some (.ref (104)), some (.ref (135)), some (.int (nI i)), some (.int (nI (sSub S (xs (i + 1))).1)), some (.int ((sSub S (xs (i + 1))).2))]) (st' := [.int (nI 0), .ref (135)]) ⟨dL_law_1161, dL_law_1162, rfl⟩ rfl ?_
      refine el_lald dL_law_1163 fg (vp_in_nI (show 0 < 1 by omega) (by omega)) ?_
      rw [nI_clamp (show 0 < 2 ^ 31 by omega)]
      refine el_blk (B := [(.iload 6, 2), (.i2l, 1), (.lcmp, 1)]) (pe := 1168) (ls' := [some (.retAddr 20), some (.ref (0)), some (.ref (104)), some (.ref (135)), some (.int (nI i)), some (.int (nI (sSub S (xs (i + 1))).1)), some (.int ((sSub S (xs (i + 1))).2))]) (st' := [.int (lg_cmp (g1 0) (((sSub S (xs (i + 1))).2).toInt64))]) ⟨dL_law_1164, dL_law_1166, dL_law_1167, rfl⟩ rfl ?_
      refine el_lc_eq dL_law_1168 (tgt := 1173) (by decide) (fun q1168 => ?_) (fun q1168 => ?_)
      · refine el_goto (tgt := 2054) dL_law_1173 (by decide) ?_
        refine el_fgt (ls' := [some (.retAddr 20), some (.ref (0)), some (.ref (104)), some (.ref (135)), some (.int (nI i)), none, none]) ⟨Or.inr rfl, Or.inr rfl, Or.inr rfl, Or.inr rfl, Or.inr rfl, Or.inl rfl, Or.inl rfl, trivial⟩ ?_
        exact el_wid (by show kc + 1 + 1 + 0 ≤ kc + 8; omega) (by show ks + 6 + 3 + 0 ≤ ks + 40; omega) (hk _ S (hS) ⟨fR, ⟨_, _, eR⟩, ⟨_, fg⟩, fl.trans (cl.trans hlen)⟩)
      · exact absurd (cz q1158) q1168
  · exact absurd rfl q1151

set_option maxHeartbeats 4000000 in
set_option maxRecDepth 100000 in
theorem w_19 {xs : Nat → Int32} {N9 : Nat} {l : Launch} (hl : l.stackTraces = false) (hN : N9 ≤ 3072) (i : Nat) (hi : i + 6 ≤ N9) {M : ev_M} (S : St) (hS : okS S) (hLI : LI M S) (kc ks : Nat) (hkc : kc + 8 ≤ 601024) (hks : ks + 40 ≤ 7293034) (Q : ev_R → ev_M → Prop) (hk : ∀ (M1 : ev_M) (S1 : St), okS S1 → LI M1 S1 → el_ xs N9 l m_L_law (kc + 8) (ks + 40) 2054 [some (.retAddr 20), some (.ref 0), some (.ref 104), some (.ref 135), some (.int (nI i)), none, none] [] M1 Q) : el_ xs N9 l m_L_law kc ks 1176 [some (.retAddr 20), some (.ref 0), some (.ref 104), some (.ref 135), some (.int (nI i)), none, none] [] M Q := by
  obtain ⟨hR, ⟨zi, zl, hRR⟩, ⟨g, hg⟩, hlen⟩ := hLI
  have h10 : S.T.length ≤ 10 := hR.m.1
  have h3 : S.G.length ≤ 3 := hR.g.2.1
  have h20 : S.H.length ≤ 20 := by have := hR.h.2.1.2.1; rwa [hL_len] at this
  refine el_blk (B := [(.aload_n 1, 1), (.aload_n 3, 1)]) (pe := 1178) (ls' := [some (.retAddr 20), some (.ref (0)), some (.ref (104)), some (.ref (135)), some (.int (nI i)), none, none]) (st' := [.ref (135), .ref (0)]) ⟨dL_law_1176, dL_law_1177, rfl⟩ rfl ?_
  refine el_cSHw YH_L_addGoal L_RL_193 dL_law_1178 ⟨Nat.le_of_ble_eq_true rfl, Nat.le_of_ble_eq_true rfl, (by show kc + 1 ≤ 601024; omega), (by show ks + 6 ≤ 7293034; omega), Nat.le_of_ble_eq_true rfl⟩ (as := [.ref (0), .ref (135)]) rfl rfl (h_addGoal hl S hS hR  135 (by decide) g hg) (fun M1 hL1 hB1 => ?_)
  obtain ⟨cR, ⟨g1, cg, cz⟩, cl, co⟩ := hB1
  have dR := RR.kept hRR (fun j h1 h2 => co j h1 (by omega))
  refine el_blk (B := [(.istore 5, 2), (.aload_n 2, 1)]) (pe := 1184) (ls' := [some (.retAddr 20), some (.ref (0)), some (.ref (104)), some (.ref (135)), some (.int (nI i)), some (.int (nI (sAdG S).1.1)), none]) (st' := [.ref (104)]) ⟨dL_law_1181, dL_law_1183, rfl⟩ rfl ?_
  refine el_cVw Y_X11_addGoal L_RL_195 dL_law_1184 ⟨Nat.le_of_ble_eq_true rfl, Nat.le_of_ble_eq_true rfl, (by show kc + 1 + 0 ≤ 601024; omega), (by show ks + 6 + 0 ≤ 7293034; omega), Nat.le_of_ble_eq_true rfl⟩ dR.z (as := []) rfl rfl (r_addGoal hl 104 S hS h10 h3 h20 _ _ dR) (fun M2 hL2 hB2 => ?_)
  obtain ⟨zi1, zl1, eR, ez, eF⟩ := hB2
  have fR := cR.fr eF (by decide)
  have fg := (eF.2 135 (Or.inr (by decide))).trans cg
  have fl := eF.1
  refine el_blk (B := [(.istore 6, 2), (.aload_n 2, 1)]) (pe := 1190) (ls' := [some (.retAddr 20), some (.ref (0)), some (.ref (104)), some (.ref (135)), some (.int (nI i)), some (.int (nI (sAdG S).1.1)), some (.int ((sAdG S).1.2))]) (st' := [.ref (104)]) ⟨dL_law_1187, dL_law_1189, rfl⟩ rfl ?_
  refine el_cVv Y_X11_thrown L_RL_127 dL_law_1190 ⟨Nat.le_of_ble_eq_true rfl, Nat.le_of_ble_eq_true rfl, (by show kc + 1 + 0 + 0 ≤ 601024; omega), (by show ks + 6 + 0 + 0 ≤ 7293034; omega), Nat.le_of_ble_eq_true rfl⟩ eR.z (as := []) rfl rfl (c_R_thrown hl 104 zi1 zl1 eR.z) ?_
  rw [ez]
  refine el_blk (B := [(.iload 5, 2)]) (pe := 1195) (ls' := [some (.retAddr 20), some (.ref (0)), some (.ref (104)), some (.ref (135)), some (.int (nI i)), some (.int (nI (sAdG S).1.1)), some (.int ((sAdG S).1.2))]) (st' := [.int (nI (sAdG S).1.1), .int (nI (sAdG S).1.1)]) ⟨dL_law_1193, rfl⟩ rfl ?_
  refine el_ic_eq dL_law_1195 (tgt := 1200) (by decide) (fun q1195 => ?_) (fun q1195 => ?_)
  · refine el_blk (B := [(.iload 5, 2)]) (pe := 1202) (ls' := [some (.retAddr 20), some (.ref (0)), some (.ref (104)), some (.ref (135)), some (.int (nI i)), some (.int (nI (sAdG S).1.1)), some (.int ((sAdG S).1.2))]) (st' := [.int (nI (sAdG S).1.1)]) ⟨dL_law_1200, rfl⟩ rfl ?_
    refine el_if_ne dL_law_1202 (tgt := 1217) (by decide) (fun q1202 => ?_) (fun q1202 => ?_)
    · refine el_goto (tgt := 2054) dL_law_1217 (by decide) ?_
      refine el_fgt (ls' := [some (.retAddr 20), some (.ref (0)), some (.ref (104)), some (.ref (135)), some (.int (nI i)), none, none]) ⟨Or.inr rfl, Or.inr rfl, Or.inr rfl, Or.inr rfl, Or.inr rfl, Or.inl rfl, Or.inl rfl, trivial⟩ ?_
      exact el_wid (by show kc + 1 + 0 + 0 ≤ kc + 8; omega) (by show ks + 6 + 0 + 0 ≤ ks + 40; omega) (hk _ ((sAdG S).2) (k_AdG hS) ⟨fR, ⟨_, _, eR⟩, ⟨_, fg⟩, fl.trans (cl.trans hlen)⟩)
    · refine el_blk (B := [(.aload_n 3, 1), (.iconst 0, 1)]) (pe := 1207) (ls' := [some (.retAddr 20), some (.ref (0)), some (.ref (104)), some (.ref (135)), some (.int (nI i)), some (.int (nI (sAdG S).1.1)), some (.int ((sAdG S).1.2))]) (st' := [.int (nI 0), .ref (135)]) ⟨dL_law_1205, dL_law_1206, rfl⟩ rfl ?_
      refine el_lald dL_law_1207 fg (vp_in_nI (show 0 < 1 by omega) (by omega)) ?_
      rw [nI_clamp (show 0 < 2 ^ 31 by omega)]
      refine el_blk (B := [(.iload 6, 2), (.i2l, 1), (.lcmp, 1)]) (pe := 1212) (ls' := [some (.retAddr 20), some (.ref (0)), some (.ref (104)), some (.ref (135)), some (.int (nI i)), some (.int (nI (sAdG S).1.1)), some (.int ((sAdG S).1.2))]) (st' := [.int (lg_cmp (g1 0) (((sAdG S).1.2).toInt64))]) ⟨dL_law_1208, dL_law_1210, dL_law_1211, rfl⟩ rfl ?_
      refine el_lc_eq dL_law_1212 (tgt := 1217) (by decide) (fun q1212 => ?_) (fun q1212 => ?_)
      · refine el_goto (tgt := 2054) dL_law_1217 (by decide) ?_
        refine el_fgt (ls' := [some (.retAddr 20), some (.ref (0)), some (.ref (104)), some (.ref (135)), some (.int (nI i)), none, none]) ⟨Or.inr rfl, Or.inr rfl, Or.inr rfl, Or.inr rfl, Or.inr rfl, Or.inl rfl, Or.inl rfl, trivial⟩ ?_
        exact el_wid (by show kc + 1 + 0 + 0 ≤ kc + 8; omega) (by show ks + 6 + 0 + 0 ≤ ks + 40; omega) (hk _ ((sAdG S).2) (k_AdG hS) ⟨fR, ⟨_, _, eR⟩, ⟨_, fg⟩, fl.trans (cl.trans hlen)⟩)
      · exact absurd (cz q1202) q1212
  · exact absurd rfl q1195

set_option maxHeartbeats 4000000 in
set_option maxRecDepth 100000 in
theorem w_20 {xs : Nat → Int32} {N9 : Nat} {l : Launch} (hl : l.stackTraces = false) (hN : N9 ≤ 3072) (i : Nat) (hi : i + 6 ≤ N9) {M : ev_M} (S : St) (hS : okS S) (hLI : LI M S) (kc ks : Nat) (hkc : kc + 8 ≤ 601024) (hks : ks + 40 ≤ 7293034) (Q : ev_R → ev_M → Prop) (hk : ∀ (M1 : ev_M) (S1 : St), okS S1 → LI M1 S1 → el_ xs N9 l m_L_law (kc + 8) (ks + 40) 2054 [some (.retAddr 20), some (.ref 0), some (.ref 104), some (.ref 135), some (.int (nI i)), none, none] [] M1 Q) : el_ xs N9 l m_L_law kc ks 1220 [some (.retAddr 20), some (.ref 0), some (.ref 104), some (.ref 135), some (.int (nI i)), none, none] [] M Q := by
  obtain ⟨hR, ⟨zi, zl, hRR⟩, ⟨g, hg⟩, hlen⟩ := hLI
  have h10 : S.T.length ≤ 10 := hR.m.1
  have h3 : S.G.length ≤ 3 := hR.g.2.1
  have h20 : S.H.length ≤ 20 := by have := hR.h.2.1.2.1; rwa [hL_len] at this
  refine el_blk (B := [(.aload_n 1, 1)]) (pe := 1221) (ls' := [some (.retAddr 20), some (.ref (0)), some (.ref (104)), some (.ref (135)), some (.int (nI i)), none, none]) (st' := [.ref (0)]) ⟨dL_law_1220, rfl⟩ rfl ?_
  refine el_cVw Y_X10_clearGoals L_RL_196 dL_law_1221 ⟨Nat.le_of_ble_eq_true rfl, Nat.le_of_ble_eq_true rfl, (by show kc + 0 ≤ 601024; omega), (by show ks + 0 ≤ 7293034; omega), Nat.le_of_ble_eq_true rfl⟩ hR.1 (as := []) rfl rfl ((c_X10_clearGoals hl S hS hR  : ev_Mt l m_X10_clearGoals _ _ (fun r M1 => r = .inl (some (.int (sClG S).1.2)) ∧ RCl M1 ((sClG S).2) ∧ Fr 0 104 _ M1))) (fun M1 hL1 hB1 => ?_)
  obtain ⟨cR, cF⟩ := hB1
  have dR := RR.kept hRR (fun j h1 h2 => cF.2 j (Or.inr h1))
  have cg := (cF.2 135 (Or.inr (by decide))).trans hg
  have cl := cF.1
  refine el_blk (B := [(.aload_n 2, 1)]) (pe := 1225) (ls' := [some (.retAddr 20), some (.ref (0)), some (.ref (104)), some (.ref (135)), some (.int (nI i)), none, none]) (st' := [.ref (104), .int ((sClG S).1.2)]) ⟨dL_law_1224, rfl⟩ rfl ?_
  refine el_cVw Y_X11_clearGoals L_RL_199 dL_law_1225 ⟨Nat.le_of_ble_eq_true rfl, Nat.le_of_ble_eq_true rfl, (by show kc + 0 + 0 ≤ 601024; omega), (by show ks + 0 + 0 ≤ 7293034; omega), Nat.le_of_ble_eq_true rfl⟩ dR.z (as := []) rfl rfl (r_clearGoals hl 104 S hS h10 h3 h20 _ _ dR) (fun M2 hL2 hB2 => ?_)
  obtain ⟨zi1, zl1, eR, ez, eF⟩ := hB2
  have fR := cR.fr eF (by decide)
  have fg := (eF.2 135 (Or.inr (by decide))).trans cg
  have fl := eF.1
  refine el_ic_eq dL_law_1228 (tgt := 2054) (by decide) (fun q1228 => ?_) (fun q1228 => ?_)
  · exact el_wid (by show kc + 0 + 0 ≤ kc + 8; omega) (by show ks + 0 + 0 ≤ ks + 40; omega) (hk _ ((sClG S).2) (k_ClG hS) ⟨fR, ⟨_, _, eR⟩, ⟨_, fg⟩, fl.trans (cl.trans hlen)⟩)
  · exact absurd rfl q1228

set_option maxHeartbeats 4000000 in
set_option maxRecDepth 100000 in
theorem w_21 {xs : Nat → Int32} {N9 : Nat} {l : Launch} (hl : l.stackTraces = false) (hN : N9 ≤ 3072) (i : Nat) (hi : i + 6 ≤ N9) {M : ev_M} (S : St) (hS : okS S) (hLI : LI M S) (kc ks : Nat) (hkc : kc + 8 ≤ 601024) (hks : ks + 40 ≤ 7293034) (Q : ev_R → ev_M → Prop) (hk : ∀ (M1 : ev_M) (S1 : St), okS S1 → LI M1 S1 → el_ xs N9 l m_L_law (kc + 8) (ks + 40) 2054 [some (.retAddr 20), some (.ref 0), some (.ref 104), some (.ref 135), some (.int (nI i)), none, none] [] M1 Q) : el_ xs N9 l m_L_law kc ks 1233 [some (.retAddr 20), some (.ref 0), some (.ref 104), some (.ref 135), some (.int (nI i)), none, none] [] M Q := by
  obtain ⟨hR, ⟨zi, zl, hRR⟩, ⟨g, hg⟩, hlen⟩ := hLI
  have h10 : S.T.length ≤ 10 := hR.m.1
  have h3 : S.G.length ≤ 3 := hR.g.2.1
  have h20 : S.H.length ≤ 20 := by have := hR.h.2.1.2.1; rwa [hL_len] at this
  refine el_blk (B := [(.aload_n 1, 1), (.aload_n 3, 1)]) (pe := 1235) (ls' := [some (.retAddr 20), some (.ref (0)), some (.ref (104)), some (.ref (135)), some (.int (nI i)), none, none]) (st' := [.ref (135), .ref (0)]) ⟨dL_law_1233, dL_law_1234, rfl⟩ rfl ?_
  refine el_cSHw YH_L_analyze L_RL_200 dL_law_1235 ⟨Nat.le_of_ble_eq_true rfl, Nat.le_of_ble_eq_true rfl, (by show kc + 1 ≤ 601024; omega), (by show ks + 6 ≤ 7293034; omega), Nat.le_of_ble_eq_true rfl⟩ (as := [.ref (0), .ref (135)]) rfl rfl (h_analyze hl S hS hR  135 (by decide) g hg) (fun M1 hL1 hB1 => ?_)
  obtain ⟨cR, ⟨g1, cg, cz⟩, cl, co⟩ := hB1
  have dR := RR.kept hRR (fun j h1 h2 => co j h1 (by omega))
  refine el_blk (B := [(.istore 5, 2), (.aload_n 2, 1)]) (pe := 1241) (ls' := [some (.retAddr 20), some (.ref (0)), some (.ref (104)), some (.ref (135)), some (.int (nI i)), some (.int (nI (sAna S).1)), none]) (st' := [.ref (104)]) ⟨dL_law_1238, dL_law_1240, rfl⟩ rfl ?_
  refine el_cVw Y_X11_analyze L_RL_202 dL_law_1241 ⟨Nat.le_of_ble_eq_true rfl, Nat.le_of_ble_eq_true rfl, (by show kc + 1 + 0 ≤ 601024; omega), (by show ks + 6 + 0 ≤ 7293034; omega), Nat.le_of_ble_eq_true rfl⟩ dR.z (as := []) rfl rfl (r_analyze hl 104 S hS h10 h3 h20 _ _ dR) (fun M2 hL2 hB2 => ?_)
  obtain ⟨zi1, zl1, eR, ez, eF⟩ := hB2
  have fR := cR.fr eF (by decide)
  have fg := (eF.2 135 (Or.inr (by decide))).trans cg
  have fl := eF.1
  refine el_blk (B := [(.istore 6, 2), (.aload_n 2, 1)]) (pe := 1247) (ls' := [some (.retAddr 20), some (.ref (0)), some (.ref (104)), some (.ref (135)), some (.int (nI i)), some (.int (nI (sAna S).1)), some (.int ((sAna S).2))]) (st' := [.ref (104)]) ⟨dL_law_1244, dL_law_1246, rfl⟩ rfl ?_
  refine el_cVv Y_X11_thrown L_RL_127 dL_law_1247 ⟨Nat.le_of_ble_eq_true rfl, Nat.le_of_ble_eq_true rfl, (by show kc + 1 + 0 + 0 ≤ 601024; omega), (by show ks + 6 + 0 + 0 ≤ 7293034; omega), Nat.le_of_ble_eq_true rfl⟩ eR.z (as := []) rfl rfl (c_R_thrown hl 104 zi1 zl1 eR.z) ?_
  rw [ez]
  refine el_blk (B := [(.iload 5, 2)]) (pe := 1252) (ls' := [some (.retAddr 20), some (.ref (0)), some (.ref (104)), some (.ref (135)), some (.int (nI i)), some (.int (nI (sAna S).1)), some (.int ((sAna S).2))]) (st' := [.int (nI (sAna S).1), .int (nI (sAna S).1)]) ⟨dL_law_1250, rfl⟩ rfl ?_
  refine el_ic_eq dL_law_1252 (tgt := 1257) (by decide) (fun q1252 => ?_) (fun q1252 => ?_)
  · refine el_blk (B := [(.iload 5, 2)]) (pe := 1259) (ls' := [some (.retAddr 20), some (.ref (0)), some (.ref (104)), some (.ref (135)), some (.int (nI i)), some (.int (nI (sAna S).1)), some (.int ((sAna S).2))]) (st' := [.int (nI (sAna S).1)]) ⟨dL_law_1257, rfl⟩ rfl ?_
    refine el_if_ne dL_law_1259 (tgt := 1274) (by decide) (fun q1259 => ?_) (fun q1259 => ?_)
    · refine el_goto (tgt := 2054) dL_law_1274 (by decide) ?_
      refine el_fgt (ls' := [some (.retAddr 20), some (.ref (0)), some (.ref (104)), some (.ref (135)), some (.int (nI i)), none, none]) ⟨Or.inr rfl, Or.inr rfl, Or.inr rfl, Or.inr rfl, Or.inr rfl, Or.inl rfl, Or.inl rfl, trivial⟩ ?_
      exact el_wid (by show kc + 1 + 0 + 0 ≤ kc + 8; omega) (by show ks + 6 + 0 + 0 ≤ ks + 40; omega) (hk _ S (hS) ⟨fR, ⟨_, _, eR⟩, ⟨_, fg⟩, fl.trans (cl.trans hlen)⟩)
    · refine el_blk (B := [(.aload_n 3, 1), (.iconst 0, 1)]) (pe := 1264) (ls' := [some (.retAddr 20), some (.ref (0)), some (.ref (104)), some (.ref (135)), some (.int (nI i)), some (.int (nI (sAna S).1)), some (.int ((sAna S).2))]) (st' := [.int (nI 0), .ref (135)]) ⟨dL_law_1262, dL_law_1263, rfl⟩ rfl ?_
      refine el_lald dL_law_1264 fg (vp_in_nI (show 0 < 1 by omega) (by omega)) ?_
      rw [nI_clamp (show 0 < 2 ^ 31 by omega)]
      refine el_blk (B := [(.iload 6, 2), (.i2l, 1), (.lcmp, 1)]) (pe := 1269) (ls' := [some (.retAddr 20), some (.ref (0)), some (.ref (104)), some (.ref (135)), some (.int (nI i)), some (.int (nI (sAna S).1)), some (.int ((sAna S).2))]) (st' := [.int (lg_cmp (g1 0) (((sAna S).2).toInt64))]) ⟨dL_law_1265, dL_law_1267, dL_law_1268, rfl⟩ rfl ?_
      refine el_lc_eq dL_law_1269 (tgt := 1274) (by decide) (fun q1269 => ?_) (fun q1269 => ?_)
      · refine el_goto (tgt := 2054) dL_law_1274 (by decide) ?_
        refine el_fgt (ls' := [some (.retAddr 20), some (.ref (0)), some (.ref (104)), some (.ref (135)), some (.int (nI i)), none, none]) ⟨Or.inr rfl, Or.inr rfl, Or.inr rfl, Or.inr rfl, Or.inr rfl, Or.inl rfl, Or.inl rfl, trivial⟩ ?_
        exact el_wid (by show kc + 1 + 0 + 0 ≤ kc + 8; omega) (by show ks + 6 + 0 + 0 ≤ ks + 40; omega) (hk _ S (hS) ⟨fR, ⟨_, _, eR⟩, ⟨_, fg⟩, fl.trans (cl.trans hlen)⟩)
      · exact absurd (cz q1259) q1269
  · exact absurd rfl q1252

set_option maxHeartbeats 4000000 in
set_option maxRecDepth 100000 in
theorem w_22 {xs : Nat → Int32} {N9 : Nat} {l : Launch} (hl : l.stackTraces = false) (hN : N9 ≤ 3072) (i : Nat) (hi : i + 6 ≤ N9) {M : ev_M} (S : St) (hS : okS S) (hLI : LI M S) (kc ks : Nat) (hkc : kc + 8 ≤ 601024) (hks : ks + 40 ≤ 7293034) (Q : ev_R → ev_M → Prop) (hk : ∀ (M1 : ev_M) (S1 : St), okS S1 → LI M1 S1 → el_ xs N9 l m_L_law (kc + 8) (ks + 40) 2054 [some (.retAddr 20), some (.ref 0), some (.ref 104), some (.ref 135), some (.int (nI i)), none, none] [] M1 Q) : el_ xs N9 l m_L_law kc ks 1277 [some (.retAddr 20), some (.ref 0), some (.ref 104), some (.ref 135), some (.int (nI i)), none, none] [] M Q := by
  obtain ⟨hR, ⟨zi, zl, hRR⟩, ⟨g, hg⟩, hlen⟩ := hLI
  have h10 : S.T.length ≤ 10 := hR.m.1
  have h3 : S.G.length ≤ 3 := hR.g.2.1
  have h20 : S.H.length ≤ 20 := by have := hR.h.2.1.2.1; rwa [hL_len] at this
  refine el_blk (B := [(.aload_n 1, 1), (.aload_n 3, 1)]) (pe := 1279) (ls' := [some (.retAddr 20), some (.ref (0)), some (.ref (104)), some (.ref (135)), some (.int (nI i)), none, none]) (st' := [.ref (135), .ref (0)]) ⟨dL_law_1277, dL_law_1278, rfl⟩ rfl ?_
  refine el_cSHw YH_L_lastRound L_RL_203 dL_law_1279 ⟨Nat.le_of_ble_eq_true rfl, Nat.le_of_ble_eq_true rfl, (by show kc + 2 ≤ 601024; omega), (by show ks + 12 ≤ 7293034; omega), Nat.le_of_ble_eq_true rfl⟩ (as := [.ref (0), .ref (135)]) rfl rfl (h_lastRound hl S hS hR  135 (by decide) g hg) (fun M1 hL1 hB1 => ?_)
  obtain ⟨cR, ⟨g1, cg, cz⟩, cl, co⟩ := hB1
  have dR := RR.kept hRR (fun j h1 h2 => co j h1 (by omega))
  refine el_blk (B := [(.istore 5, 2), (.aload_n 2, 1)]) (pe := 1285) (ls' := [some (.retAddr 20), some (.ref (0)), some (.ref (104)), some (.ref (135)), some (.int (nI i)), some (.int (nI (sLR S).1)), none]) (st' := [.ref (104)]) ⟨dL_law_1282, dL_law_1284, rfl⟩ rfl ?_
  refine el_cVw Y_X11_lastRound L_RL_205 dL_law_1285 ⟨Nat.le_of_ble_eq_true rfl, Nat.le_of_ble_eq_true rfl, (by show kc + 2 + 0 ≤ 601024; omega), (by show ks + 12 + 0 ≤ 7293034; omega), Nat.le_of_ble_eq_true rfl⟩ dR.z (as := []) rfl rfl (r_lastRound hl 104 S hS h10 h3 h20 _ _ dR) (fun M2 hL2 hB2 => ?_)
  obtain ⟨zi1, zl1, eR, ez, eF⟩ := hB2
  have fR := cR.fr eF (by decide)
  have fg := (eF.2 135 (Or.inr (by decide))).trans cg
  have fl := eF.1
  refine el_blk (B := [(.istore 6, 2), (.aload_n 2, 1)]) (pe := 1291) (ls' := [some (.retAddr 20), some (.ref (0)), some (.ref (104)), some (.ref (135)), some (.int (nI i)), some (.int (nI (sLR S).1)), some (.int ((sLR S).2))]) (st' := [.ref (104)]) ⟨dL_law_1288, dL_law_1290, rfl⟩ rfl ?_
  refine el_cVv Y_X11_thrown L_RL_127 dL_law_1291 ⟨Nat.le_of_ble_eq_true rfl, Nat.le_of_ble_eq_true rfl, (by show kc + 2 + 0 + 0 ≤ 601024; omega), (by show ks + 12 + 0 + 0 ≤ 7293034; omega), Nat.le_of_ble_eq_true rfl⟩ eR.z (as := []) rfl rfl (c_R_thrown hl 104 zi1 zl1 eR.z) ?_
  rw [ez]
  refine el_blk (B := [(.iload 5, 2)]) (pe := 1296) (ls' := [some (.retAddr 20), some (.ref (0)), some (.ref (104)), some (.ref (135)), some (.int (nI i)), some (.int (nI (sLR S).1)), some (.int ((sLR S).2))]) (st' := [.int (nI (sLR S).1), .int (nI (sLR S).1)]) ⟨dL_law_1294, rfl⟩ rfl ?_
  refine el_ic_eq dL_law_1296 (tgt := 1301) (by decide) (fun q1296 => ?_) (fun q1296 => ?_)
  · refine el_blk (B := [(.iload 5, 2)]) (pe := 1303) (ls' := [some (.retAddr 20), some (.ref (0)), some (.ref (104)), some (.ref (135)), some (.int (nI i)), some (.int (nI (sLR S).1)), some (.int ((sLR S).2))]) (st' := [.int (nI (sLR S).1)]) ⟨dL_law_1301, rfl⟩ rfl ?_
    refine el_if_ne dL_law_1303 (tgt := 1318) (by decide) (fun q1303 => ?_) (fun q1303 => ?_)
    · refine el_goto (tgt := 2054) dL_law_1318 (by decide) ?_
      refine el_fgt (ls' := [some (.retAddr 20), some (.ref (0)), some (.ref (104)), some (.ref (135)), some (.int (nI i)), none, none]) ⟨Or.inr rfl, Or.inr rfl, Or.inr rfl, Or.inr rfl, Or.inr rfl, Or.inl rfl, Or.inl rfl, trivial⟩ ?_
      exact el_wid (by show kc + 2 + 0 + 0 ≤ kc + 8; omega) (by show ks + 12 + 0 + 0 ≤ ks + 40; omega) (hk _ S (hS) ⟨fR, ⟨_, _, eR⟩, ⟨_, fg⟩, fl.trans (cl.trans hlen)⟩)
    · refine el_blk (B := [(.aload_n 3, 1), (.iconst 0, 1)]) (pe := 1308) (ls' := [some (.retAddr 20), some (.ref (0)), some (.ref (104)), some (.ref (135)), some (.int (nI i)), some (.int (nI (sLR S).1)), some (.int ((sLR S).2))]) (st' := [.int (nI 0), .ref (135)]) ⟨dL_law_1306, dL_law_1307, rfl⟩ rfl ?_
      refine el_lald dL_law_1308 fg (vp_in_nI (show 0 < 1 by omega) (by omega)) ?_
      rw [nI_clamp (show 0 < 2 ^ 31 by omega)]
      refine el_blk (B := [(.iload 6, 2), (.i2l, 1), (.lcmp, 1)]) (pe := 1313) (ls' := [some (.retAddr 20), some (.ref (0)), some (.ref (104)), some (.ref (135)), some (.int (nI i)), some (.int (nI (sLR S).1)), some (.int ((sLR S).2))]) (st' := [.int (lg_cmp (g1 0) (((sLR S).2).toInt64))]) ⟨dL_law_1309, dL_law_1311, dL_law_1312, rfl⟩ rfl ?_
      refine el_lc_eq dL_law_1313 (tgt := 1318) (by decide) (fun q1313 => ?_) (fun q1313 => ?_)
      · refine el_goto (tgt := 2054) dL_law_1318 (by decide) ?_
        refine el_fgt (ls' := [some (.retAddr 20), some (.ref (0)), some (.ref (104)), some (.ref (135)), some (.int (nI i)), none, none]) ⟨Or.inr rfl, Or.inr rfl, Or.inr rfl, Or.inr rfl, Or.inr rfl, Or.inl rfl, Or.inl rfl, trivial⟩ ?_
        exact el_wid (by show kc + 2 + 0 + 0 ≤ kc + 8; omega) (by show ks + 12 + 0 + 0 ≤ ks + 40; omega) (hk _ S (hS) ⟨fR, ⟨_, _, eR⟩, ⟨_, fg⟩, fl.trans (cl.trans hlen)⟩)
      · exact absurd (cz q1303) q1313
  · exact absurd rfl q1296

set_option maxHeartbeats 4000000 in
set_option maxRecDepth 100000 in
theorem w_23 {xs : Nat → Int32} {N9 : Nat} {l : Launch} (hl : l.stackTraces = false) (hN : N9 ≤ 3072) (i : Nat) (hi : i + 6 ≤ N9) {M : ev_M} (S : St) (hS : okS S) (hLI : LI M S) (kc ks : Nat) (hkc : kc + 8 ≤ 601024) (hks : ks + 40 ≤ 7293034) (Q : ev_R → ev_M → Prop) (hk : ∀ (M1 : ev_M) (S1 : St), okS S1 → LI M1 S1 → el_ xs N9 l m_L_law (kc + 8) (ks + 40) 2054 [some (.retAddr 20), some (.ref 0), some (.ref 104), some (.ref 135), some (.int (nI i)), none, none] [] M1 Q) : el_ xs N9 l m_L_law kc ks 1321 [some (.retAddr 20), some (.ref 0), some (.ref 104), some (.ref 135), some (.int (nI i)), none, none] [] M Q := by
  obtain ⟨hR, ⟨zi, zl, hRR⟩, ⟨g, hg⟩, hlen⟩ := hLI
  have h10 : S.T.length ≤ 10 := hR.m.1
  have h3 : S.G.length ≤ 3 := hR.g.2.1
  have h20 : S.H.length ≤ 20 := by have := hR.h.2.1.2.1; rwa [hL_len] at this
  refine el_blk (B := [(.aload_n 1, 1), (.aload_n 0, 1), (.iload 4, 2), (.iconst 1, 1), (.iadd, 1)]) (pe := 1327) (ls' := [some (.retAddr 20), some (.ref (0)), some (.ref (104)), some (.ref (135)), some (.int (nI i)), none, none]) (st' := [.int (nI (i + 1)), .retAddr 20, .ref (0)]) ⟨dL_law_1321, dL_law_1322, dL_law_1323, dL_law_1325, dL_law_1326, rfl⟩ (by show some (([some (.retAddr 20), some (.ref (0)), some (.ref (104)), some (.ref (135)), some (.int (nI i)), none, none] : ev_L), ([.int ((nI i) + (nI 1)), .retAddr 20, .ref (0)] : List Value)) = _; rw [nI_add i 1]) ?_
  refine el_sld (vp_in_nI (show i + 1 < N9 by omega) (by omega)) dL_law_1327 ?_
  rw [nI_clamp (show i + 1 < 2 ^ 31 by omega)]
  refine el_blk (B := [(.aload_n 3, 1)]) (pe := 1329) (ls' := [some (.retAddr 20), some (.ref (0)), some (.ref (104)), some (.ref (135)), some (.int (nI i)), none, none]) (st' := [.ref (135), .int (xs (i + 1)), .ref (0)]) ⟨dL_law_1328, rfl⟩ rfl ?_
  refine el_cSHw YH_L_basisSize L_RL_206 dL_law_1329 ⟨Nat.le_of_ble_eq_true rfl, Nat.le_of_ble_eq_true rfl, (by show kc + 3 ≤ 601024; omega), (by show ks + 18 ≤ 7293034; omega), Nat.le_of_ble_eq_true rfl⟩ (as := [.ref (0), .int (xs (i + 1)), .ref (135)]) rfl rfl (h_basisSize hl S hS hR (xs (i + 1)) 135 (by decide) g hg) (fun M1 hL1 hB1 => ?_)
  obtain ⟨cR, ⟨g1, cg, cz⟩, cl, co⟩ := hB1
  have dR := RR.kept hRR (fun j h1 h2 => co j h1 (by omega))
  refine el_blk (B := [(.istore 5, 2), (.aload_n 2, 1), (.aload_n 0, 1), (.iload 4, 2), (.iconst 1, 1), (.iadd, 1)]) (pe := 1340) (ls' := [some (.retAddr 20), some (.ref (0)), some (.ref (104)), some (.ref (135)), some (.int (nI i)), some (.int (nI (sBS S (xs (i + 1))).1)), none]) (st' := [.int (nI (i + 1)), .retAddr 20, .ref (104)]) ⟨dL_law_1332, dL_law_1334, dL_law_1335, dL_law_1336, dL_law_1338, dL_law_1339, rfl⟩ (by show some (([some (.retAddr 20), some (.ref (0)), some (.ref (104)), some (.ref (135)), some (.int (nI i)), some (.int (nI (sBS S (xs (i + 1))).1)), none] : ev_L), ([.int ((nI i) + (nI 1)), .retAddr 20, .ref (104)] : List Value)) = _; rw [nI_add i 1]) ?_
  refine el_sld (vp_in_nI (show i + 1 < N9 by omega) (by omega)) dL_law_1340 ?_
  rw [nI_clamp (show i + 1 < 2 ^ 31 by omega)]
  refine el_cVw Y_X11_basisSize L_RL_208 dL_law_1341 ⟨Nat.le_of_ble_eq_true rfl, Nat.le_of_ble_eq_true rfl, (by show kc + 3 + 0 ≤ 601024; omega), (by show ks + 18 + 0 ≤ 7293034; omega), Nat.le_of_ble_eq_true rfl⟩ dR.z (as := [.int (xs (i + 1))]) rfl rfl (r_basisSize hl 104 S hS h10 h3 h20 _ _ dR (xs (i + 1))) (fun M2 hL2 hB2 => ?_)
  obtain ⟨zi1, zl1, eR, ez, eF⟩ := hB2
  have fR := cR.fr eF (by decide)
  have fg := (eF.2 135 (Or.inr (by decide))).trans cg
  have fl := eF.1
  refine el_blk (B := [(.istore 6, 2), (.aload_n 2, 1)]) (pe := 1347) (ls' := [some (.retAddr 20), some (.ref (0)), some (.ref (104)), some (.ref (135)), some (.int (nI i)), some (.int (nI (sBS S (xs (i + 1))).1)), some (.int ((sBS S (xs (i + 1))).2))]) (st' := [.ref (104)]) ⟨dL_law_1344, dL_law_1346, rfl⟩ rfl ?_
  refine el_cVv Y_X11_thrown L_RL_127 dL_law_1347 ⟨Nat.le_of_ble_eq_true rfl, Nat.le_of_ble_eq_true rfl, (by show kc + 3 + 0 + 0 ≤ 601024; omega), (by show ks + 18 + 0 + 0 ≤ 7293034; omega), Nat.le_of_ble_eq_true rfl⟩ eR.z (as := []) rfl rfl (c_R_thrown hl 104 zi1 zl1 eR.z) ?_
  rw [ez]
  refine el_blk (B := [(.iload 5, 2)]) (pe := 1352) (ls' := [some (.retAddr 20), some (.ref (0)), some (.ref (104)), some (.ref (135)), some (.int (nI i)), some (.int (nI (sBS S (xs (i + 1))).1)), some (.int ((sBS S (xs (i + 1))).2))]) (st' := [.int (nI (sBS S (xs (i + 1))).1), .int (nI (sBS S (xs (i + 1))).1)]) ⟨dL_law_1350, rfl⟩ rfl ?_
  refine el_ic_eq dL_law_1352 (tgt := 1357) (by decide) (fun q1352 => ?_) (fun q1352 => ?_)
  · refine el_blk (B := [(.iload 5, 2)]) (pe := 1359) (ls' := [some (.retAddr 20), some (.ref (0)), some (.ref (104)), some (.ref (135)), some (.int (nI i)), some (.int (nI (sBS S (xs (i + 1))).1)), some (.int ((sBS S (xs (i + 1))).2))]) (st' := [.int (nI (sBS S (xs (i + 1))).1)]) ⟨dL_law_1357, rfl⟩ rfl ?_
    refine el_if_ne dL_law_1359 (tgt := 1374) (by decide) (fun q1359 => ?_) (fun q1359 => ?_)
    · refine el_goto (tgt := 2054) dL_law_1374 (by decide) ?_
      refine el_fgt (ls' := [some (.retAddr 20), some (.ref (0)), some (.ref (104)), some (.ref (135)), some (.int (nI i)), none, none]) ⟨Or.inr rfl, Or.inr rfl, Or.inr rfl, Or.inr rfl, Or.inr rfl, Or.inl rfl, Or.inl rfl, trivial⟩ ?_
      exact el_wid (by show kc + 3 + 0 + 0 ≤ kc + 8; omega) (by show ks + 18 + 0 + 0 ≤ ks + 40; omega) (hk _ S (hS) ⟨fR, ⟨_, _, eR⟩, ⟨_, fg⟩, fl.trans (cl.trans hlen)⟩)
    · refine el_blk (B := [(.aload_n 3, 1), (.iconst 0, 1)]) (pe := 1364) (ls' := [some (.retAddr 20), some (.ref (0)), some (.ref (104)), some (.ref (135)), some (.int (nI i)), some (.int (nI (sBS S (xs (i + 1))).1)), some (.int ((sBS S (xs (i + 1))).2))]) (st' := [.int (nI 0), .ref (135)]) ⟨dL_law_1362, dL_law_1363, rfl⟩ rfl ?_
      refine el_lald dL_law_1364 fg (vp_in_nI (show 0 < 1 by omega) (by omega)) ?_
      rw [nI_clamp (show 0 < 2 ^ 31 by omega)]
      refine el_blk (B := [(.iload 6, 2), (.i2l, 1), (.lcmp, 1)]) (pe := 1369) (ls' := [some (.retAddr 20), some (.ref (0)), some (.ref (104)), some (.ref (135)), some (.int (nI i)), some (.int (nI (sBS S (xs (i + 1))).1)), some (.int ((sBS S (xs (i + 1))).2))]) (st' := [.int (lg_cmp (g1 0) (((sBS S (xs (i + 1))).2).toInt64))]) ⟨dL_law_1365, dL_law_1367, dL_law_1368, rfl⟩ rfl ?_
      refine el_lc_eq dL_law_1369 (tgt := 1374) (by decide) (fun q1369 => ?_) (fun q1369 => ?_)
      · refine el_goto (tgt := 2054) dL_law_1374 (by decide) ?_
        refine el_fgt (ls' := [some (.retAddr 20), some (.ref (0)), some (.ref (104)), some (.ref (135)), some (.int (nI i)), none, none]) ⟨Or.inr rfl, Or.inr rfl, Or.inr rfl, Or.inr rfl, Or.inr rfl, Or.inl rfl, Or.inl rfl, trivial⟩ ?_
        exact el_wid (by show kc + 3 + 0 + 0 ≤ kc + 8; omega) (by show ks + 18 + 0 + 0 ≤ ks + 40; omega) (hk _ S (hS) ⟨fR, ⟨_, _, eR⟩, ⟨_, fg⟩, fl.trans (cl.trans hlen)⟩)
      · exact absurd (cz q1359) q1369
  · exact absurd rfl q1352

set_option maxHeartbeats 4000000 in
set_option maxRecDepth 100000 in
theorem w_24 {xs : Nat → Int32} {N9 : Nat} {l : Launch} (hl : l.stackTraces = false) (hN : N9 ≤ 3072) (i : Nat) (hi : i + 6 ≤ N9) {M : ev_M} (S : St) (hS : okS S) (hLI : LI M S) (kc ks : Nat) (hkc : kc + 8 ≤ 601024) (hks : ks + 40 ≤ 7293034) (Q : ev_R → ev_M → Prop) (hk : ∀ (M1 : ev_M) (S1 : St), okS S1 → LI M1 S1 → el_ xs N9 l m_L_law (kc + 8) (ks + 40) 2054 [some (.retAddr 20), some (.ref 0), some (.ref 104), some (.ref 135), some (.int (nI i)), none, none] [] M1 Q) : el_ xs N9 l m_L_law kc ks 1377 [some (.retAddr 20), some (.ref 0), some (.ref 104), some (.ref 135), some (.int (nI i)), none, none] [] M Q := by
  obtain ⟨hR, ⟨zi, zl, hRR⟩, ⟨g, hg⟩, hlen⟩ := hLI
  have h10 : S.T.length ≤ 10 := hR.m.1
  have h3 : S.G.length ≤ 3 := hR.g.2.1
  have h20 : S.H.length ≤ 20 := by have := hR.h.2.1.2.1; rwa [hL_len] at this
  refine el_blk (B := [(.aload_n 1, 1), (.aload_n 0, 1), (.iload 4, 2), (.iconst 1, 1), (.iadd, 1)]) (pe := 1383) (ls' := [some (.retAddr 20), some (.ref (0)), some (.ref (104)), some (.ref (135)), some (.int (nI i)), none, none]) (st' := [.int (nI (i + 1)), .retAddr 20, .ref (0)]) ⟨dL_law_1377, dL_law_1378, dL_law_1379, dL_law_1381, dL_law_1382, rfl⟩ (by show some (([some (.retAddr 20), some (.ref (0)), some (.ref (104)), some (.ref (135)), some (.int (nI i)), none, none] : ev_L), ([.int ((nI i) + (nI 1)), .retAddr 20, .ref (0)] : List Value)) = _; rw [nI_add i 1]) ?_
  refine el_sld (vp_in_nI (show i + 1 < N9 by omega) (by omega)) dL_law_1383 ?_
  rw [nI_clamp (show i + 1 < 2 ^ 31 by omega)]
  refine el_blk (B := [(.aload_n 0, 1), (.iload 4, 2), (.iconst 2, 1), (.iadd, 1)]) (pe := 1389) (ls' := [some (.retAddr 20), some (.ref (0)), some (.ref (104)), some (.ref (135)), some (.int (nI i)), none, none]) (st' := [.int (nI (i + 2)), .retAddr 20, .int (xs (i + 1)), .ref (0)]) ⟨dL_law_1384, dL_law_1385, dL_law_1387, dL_law_1388, rfl⟩ (by show some (([some (.retAddr 20), some (.ref (0)), some (.ref (104)), some (.ref (135)), some (.int (nI i)), none, none] : ev_L), ([.int ((nI i) + (nI 2)), .retAddr 20, .int (xs (i + 1)), .ref (0)] : List Value)) = _; rw [nI_add i 2]) ?_
  refine el_sld (vp_in_nI (show i + 2 < N9 by omega) (by omega)) dL_law_1389 ?_
  rw [nI_clamp (show i + 2 < 2 ^ 31 by omega)]
  refine el_blk (B := [(.aload_n 0, 1), (.iload 4, 2), (.iconst 3, 1), (.iadd, 1)]) (pe := 1395) (ls' := [some (.retAddr 20), some (.ref (0)), some (.ref (104)), some (.ref (135)), some (.int (nI i)), none, none]) (st' := [.int (nI (i + 3)), .retAddr 20, .int (xs (i + 2)), .int (xs (i + 1)), .ref (0)]) ⟨dL_law_1390, dL_law_1391, dL_law_1393, dL_law_1394, rfl⟩ (by show some (([some (.retAddr 20), some (.ref (0)), some (.ref (104)), some (.ref (135)), some (.int (nI i)), none, none] : ev_L), ([.int ((nI i) + (nI 3)), .retAddr 20, .int (xs (i + 2)), .int (xs (i + 1)), .ref (0)] : List Value)) = _; rw [nI_add i 3]) ?_
  refine el_sld (vp_in_nI (show i + 3 < N9 by omega) (by omega)) dL_law_1395 ?_
  rw [nI_clamp (show i + 3 < 2 ^ 31 by omega)]
  refine el_blk (B := [(.aload_n 3, 1)]) (pe := 1397) (ls' := [some (.retAddr 20), some (.ref (0)), some (.ref (104)), some (.ref (135)), some (.int (nI i)), none, none]) (st' := [.ref (135), .int (xs (i + 3)), .int (xs (i + 2)), .int (xs (i + 1)), .ref (0)]) ⟨dL_law_1396, rfl⟩ rfl ?_
  refine el_cSHw YH_L_basis L_RL_209 dL_law_1397 ⟨Nat.le_of_ble_eq_true rfl, Nat.le_of_ble_eq_true rfl, (by show kc + 4 ≤ 601024; omega), (by show ks + 24 ≤ 7293034; omega), Nat.le_of_ble_eq_true rfl⟩ (as := [.ref (0), .int (xs (i + 1)), .int (xs (i + 2)), .int (xs (i + 3)), .ref (135)]) rfl rfl (h_basis hl S hS hR (xs (i + 1)) (xs (i + 2)) (xs (i + 3)) 135 (by decide) g hg) (fun M1 hL1 hB1 => ?_)
  obtain ⟨cR, ⟨g1, cg, cz⟩, cl, co⟩ := hB1
  have dR := RR.kept hRR (fun j h1 h2 => co j h1 (by omega))
  refine el_blk (B := [(.istore 5, 2), (.aload_n 2, 1), (.aload_n 0, 1), (.iload 4, 2), (.iconst 1, 1), (.iadd, 1)]) (pe := 1408) (ls' := [some (.retAddr 20), some (.ref (0)), some (.ref (104)), some (.ref (135)), some (.int (nI i)), some (.int (nI (sBa S (xs (i + 1)) (xs (i + 2)) (xs (i + 3))).1)), none]) (st' := [.int (nI (i + 1)), .retAddr 20, .ref (104)]) ⟨dL_law_1400, dL_law_1402, dL_law_1403, dL_law_1404, dL_law_1406, dL_law_1407, rfl⟩ (by show some (([some (.retAddr 20), some (.ref (0)), some (.ref (104)), some (.ref (135)), some (.int (nI i)), some (.int (nI (sBa S (xs (i + 1)) (xs (i + 2)) (xs (i + 3))).1)), none] : ev_L), ([.int ((nI i) + (nI 1)), .retAddr 20, .ref (104)] : List Value)) = _; rw [nI_add i 1]) ?_
  refine el_sld (vp_in_nI (show i + 1 < N9 by omega) (by omega)) dL_law_1408 ?_
  rw [nI_clamp (show i + 1 < 2 ^ 31 by omega)]
  refine el_blk (B := [(.aload_n 0, 1), (.iload 4, 2), (.iconst 2, 1), (.iadd, 1)]) (pe := 1414) (ls' := [some (.retAddr 20), some (.ref (0)), some (.ref (104)), some (.ref (135)), some (.int (nI i)), some (.int (nI (sBa S (xs (i + 1)) (xs (i + 2)) (xs (i + 3))).1)), none]) (st' := [.int (nI (i + 2)), .retAddr 20, .int (xs (i + 1)), .ref (104)]) ⟨dL_law_1409, dL_law_1410, dL_law_1412, dL_law_1413, rfl⟩ (by show some (([some (.retAddr 20), some (.ref (0)), some (.ref (104)), some (.ref (135)), some (.int (nI i)), some (.int (nI (sBa S (xs (i + 1)) (xs (i + 2)) (xs (i + 3))).1)), none] : ev_L), ([.int ((nI i) + (nI 2)), .retAddr 20, .int (xs (i + 1)), .ref (104)] : List Value)) = _; rw [nI_add i 2]) ?_
  refine el_sld (vp_in_nI (show i + 2 < N9 by omega) (by omega)) dL_law_1414 ?_
  rw [nI_clamp (show i + 2 < 2 ^ 31 by omega)]
  refine el_blk (B := [(.aload_n 0, 1), (.iload 4, 2), (.iconst 3, 1), (.iadd, 1)]) (pe := 1420) (ls' := [some (.retAddr 20), some (.ref (0)), some (.ref (104)), some (.ref (135)), some (.int (nI i)), some (.int (nI (sBa S (xs (i + 1)) (xs (i + 2)) (xs (i + 3))).1)), none]) (st' := [.int (nI (i + 3)), .retAddr 20, .int (xs (i + 2)), .int (xs (i + 1)), .ref (104)]) ⟨dL_law_1415, dL_law_1416, dL_law_1418, dL_law_1419, rfl⟩ (by show some (([some (.retAddr 20), some (.ref (0)), some (.ref (104)), some (.ref (135)), some (.int (nI i)), some (.int (nI (sBa S (xs (i + 1)) (xs (i + 2)) (xs (i + 3))).1)), none] : ev_L), ([.int ((nI i) + (nI 3)), .retAddr 20, .int (xs (i + 2)), .int (xs (i + 1)), .ref (104)] : List Value)) = _; rw [nI_add i 3]) ?_
  refine el_sld (vp_in_nI (show i + 3 < N9 by omega) (by omega)) dL_law_1420 ?_
  rw [nI_clamp (show i + 3 < 2 ^ 31 by omega)]
  refine el_cVw Y_X11_basis L_RL_212 dL_law_1421 ⟨Nat.le_of_ble_eq_true rfl, Nat.le_of_ble_eq_true rfl, (by show kc + 4 + 0 ≤ 601024; omega), (by show ks + 24 + 0 ≤ 7293034; omega), Nat.le_of_ble_eq_true rfl⟩ dR.z (as := [.int (xs (i + 1)), .int (xs (i + 2)), .int (xs (i + 3))]) rfl rfl (r_basis hl 104 S hS h10 h3 h20 _ _ dR (xs (i + 1)) (xs (i + 2)) (xs (i + 3))) (fun M2 hL2 hB2 => ?_)
  obtain ⟨zi1, zl1, eR, ez, eF⟩ := hB2
  have fR := cR.fr eF (by decide)
  have fg := (eF.2 135 (Or.inr (by decide))).trans cg
  have fl := eF.1
  refine el_blk (B := [(.istore 6, 2), (.aload_n 2, 1)]) (pe := 1427) (ls' := [some (.retAddr 20), some (.ref (0)), some (.ref (104)), some (.ref (135)), some (.int (nI i)), some (.int (nI (sBa S (xs (i + 1)) (xs (i + 2)) (xs (i + 3))).1)), some (.int ((sBa S (xs (i + 1)) (xs (i + 2)) (xs (i + 3))).2))]) (st' := [.ref (104)]) ⟨dL_law_1424, dL_law_1426, rfl⟩ rfl ?_
  refine el_cVv Y_X11_thrown L_RL_127 dL_law_1427 ⟨Nat.le_of_ble_eq_true rfl, Nat.le_of_ble_eq_true rfl, (by show kc + 4 + 0 + 0 ≤ 601024; omega), (by show ks + 24 + 0 + 0 ≤ 7293034; omega), Nat.le_of_ble_eq_true rfl⟩ eR.z (as := []) rfl rfl (c_R_thrown hl 104 zi1 zl1 eR.z) ?_
  rw [ez]
  refine el_blk (B := [(.iload 5, 2)]) (pe := 1432) (ls' := [some (.retAddr 20), some (.ref (0)), some (.ref (104)), some (.ref (135)), some (.int (nI i)), some (.int (nI (sBa S (xs (i + 1)) (xs (i + 2)) (xs (i + 3))).1)), some (.int ((sBa S (xs (i + 1)) (xs (i + 2)) (xs (i + 3))).2))]) (st' := [.int (nI (sBa S (xs (i + 1)) (xs (i + 2)) (xs (i + 3))).1), .int (nI (sBa S (xs (i + 1)) (xs (i + 2)) (xs (i + 3))).1)]) ⟨dL_law_1430, rfl⟩ rfl ?_
  refine el_ic_eq dL_law_1432 (tgt := 1437) (by decide) (fun q1432 => ?_) (fun q1432 => ?_)
  · refine el_blk (B := [(.iload 5, 2)]) (pe := 1439) (ls' := [some (.retAddr 20), some (.ref (0)), some (.ref (104)), some (.ref (135)), some (.int (nI i)), some (.int (nI (sBa S (xs (i + 1)) (xs (i + 2)) (xs (i + 3))).1)), some (.int ((sBa S (xs (i + 1)) (xs (i + 2)) (xs (i + 3))).2))]) (st' := [.int (nI (sBa S (xs (i + 1)) (xs (i + 2)) (xs (i + 3))).1)]) ⟨dL_law_1437, rfl⟩ rfl ?_
    refine el_if_ne dL_law_1439 (tgt := 1454) (by decide) (fun q1439 => ?_) (fun q1439 => ?_)
    · refine el_goto (tgt := 2054) dL_law_1454 (by decide) ?_
      refine el_fgt (ls' := [some (.retAddr 20), some (.ref (0)), some (.ref (104)), some (.ref (135)), some (.int (nI i)), none, none]) ⟨Or.inr rfl, Or.inr rfl, Or.inr rfl, Or.inr rfl, Or.inr rfl, Or.inl rfl, Or.inl rfl, trivial⟩ ?_
      exact el_wid (by show kc + 4 + 0 + 0 ≤ kc + 8; omega) (by show ks + 24 + 0 + 0 ≤ ks + 40; omega) (hk _ S (hS) ⟨fR, ⟨_, _, eR⟩, ⟨_, fg⟩, fl.trans (cl.trans hlen)⟩)
    · refine el_blk (B := [(.aload_n 3, 1), (.iconst 0, 1)]) (pe := 1444) (ls' := [some (.retAddr 20), some (.ref (0)), some (.ref (104)), some (.ref (135)), some (.int (nI i)), some (.int (nI (sBa S (xs (i + 1)) (xs (i + 2)) (xs (i + 3))).1)), some (.int ((sBa S (xs (i + 1)) (xs (i + 2)) (xs (i + 3))).2))]) (st' := [.int (nI 0), .ref (135)]) ⟨dL_law_1442, dL_law_1443, rfl⟩ rfl ?_
      refine el_lald dL_law_1444 fg (vp_in_nI (show 0 < 1 by omega) (by omega)) ?_
      rw [nI_clamp (show 0 < 2 ^ 31 by omega)]
      refine el_blk (B := [(.iload 6, 2), (.i2l, 1), (.lcmp, 1)]) (pe := 1449) (ls' := [some (.retAddr 20), some (.ref (0)), some (.ref (104)), some (.ref (135)), some (.int (nI i)), some (.int (nI (sBa S (xs (i + 1)) (xs (i + 2)) (xs (i + 3))).1)), some (.int ((sBa S (xs (i + 1)) (xs (i + 2)) (xs (i + 3))).2))]) (st' := [.int (lg_cmp (g1 0) (((sBa S (xs (i + 1)) (xs (i + 2)) (xs (i + 3))).2).toInt64))]) ⟨dL_law_1445, dL_law_1447, dL_law_1448, rfl⟩ rfl ?_
      refine el_lc_eq dL_law_1449 (tgt := 1454) (by decide) (fun q1449 => ?_) (fun q1449 => ?_)
      · refine el_goto (tgt := 2054) dL_law_1454 (by decide) ?_
        refine el_fgt (ls' := [some (.retAddr 20), some (.ref (0)), some (.ref (104)), some (.ref (135)), some (.int (nI i)), none, none]) ⟨Or.inr rfl, Or.inr rfl, Or.inr rfl, Or.inr rfl, Or.inr rfl, Or.inl rfl, Or.inl rfl, trivial⟩ ?_
        exact el_wid (by show kc + 4 + 0 + 0 ≤ kc + 8; omega) (by show ks + 24 + 0 + 0 ≤ ks + 40; omega) (hk _ S (hS) ⟨fR, ⟨_, _, eR⟩, ⟨_, fg⟩, fl.trans (cl.trans hlen)⟩)
      · exact absurd (cz q1439) q1449
  · exact absurd rfl q1432

set_option maxHeartbeats 4000000 in
set_option maxRecDepth 100000 in
theorem w_25 {xs : Nat → Int32} {N9 : Nat} {l : Launch} (hl : l.stackTraces = false) (hN : N9 ≤ 3072) (i : Nat) (hi : i + 6 ≤ N9) {M : ev_M} (S : St) (hS : okS S) (hLI : LI M S) (kc ks : Nat) (hkc : kc + 8 ≤ 601024) (hks : ks + 40 ≤ 7293034) (Q : ev_R → ev_M → Prop) (hk : ∀ (M1 : ev_M) (S1 : St), okS S1 → LI M1 S1 → el_ xs N9 l m_L_law (kc + 8) (ks + 40) 2054 [some (.retAddr 20), some (.ref 0), some (.ref 104), some (.ref 135), some (.int (nI i)), none, none] [] M1 Q) : el_ xs N9 l m_L_law kc ks 1457 [some (.retAddr 20), some (.ref 0), some (.ref 104), some (.ref 135), some (.int (nI i)), none, none] [] M Q := by
  obtain ⟨hR, ⟨zi, zl, hRR⟩, ⟨g, hg⟩, hlen⟩ := hLI
  have h10 : S.T.length ≤ 10 := hR.m.1
  have h3 : S.G.length ≤ 3 := hR.g.2.1
  have h20 : S.H.length ≤ 20 := by have := hR.h.2.1.2.1; rwa [hL_len] at this
  refine el_blk (B := [(.aload_n 1, 1), (.aload_n 0, 1), (.iload 4, 2), (.iconst 1, 1), (.iadd, 1)]) (pe := 1463) (ls' := [some (.retAddr 20), some (.ref (0)), some (.ref (104)), some (.ref (135)), some (.int (nI i)), none, none]) (st' := [.int (nI (i + 1)), .retAddr 20, .ref (0)]) ⟨dL_law_1457, dL_law_1458, dL_law_1459, dL_law_1461, dL_law_1462, rfl⟩ (by show some (([some (.retAddr 20), some (.ref (0)), some (.ref (104)), some (.ref (135)), some (.int (nI i)), none, none] : ev_L), ([.int ((nI i) + (nI 1)), .retAddr 20, .ref (0)] : List Value)) = _; rw [nI_add i 1]) ?_
  refine el_sld (vp_in_nI (show i + 1 < N9 by omega) (by omega)) dL_law_1463 ?_
  rw [nI_clamp (show i + 1 < 2 ^ 31 by omega)]
  refine el_blk (B := [(.aload_n 0, 1), (.iload 4, 2), (.iconst 2, 1), (.iadd, 1)]) (pe := 1469) (ls' := [some (.retAddr 20), some (.ref (0)), some (.ref (104)), some (.ref (135)), some (.int (nI i)), none, none]) (st' := [.int (nI (i + 2)), .retAddr 20, .int (xs (i + 1)), .ref (0)]) ⟨dL_law_1464, dL_law_1465, dL_law_1467, dL_law_1468, rfl⟩ (by show some (([some (.retAddr 20), some (.ref (0)), some (.ref (104)), some (.ref (135)), some (.int (nI i)), none, none] : ev_L), ([.int ((nI i) + (nI 2)), .retAddr 20, .int (xs (i + 1)), .ref (0)] : List Value)) = _; rw [nI_add i 2]) ?_
  refine el_sld (vp_in_nI (show i + 2 < N9 by omega) (by omega)) dL_law_1469 ?_
  rw [nI_clamp (show i + 2 < 2 ^ 31 by omega)]
  refine el_blk (B := [(.aload_n 0, 1), (.iload 4, 2), (.iconst 3, 1), (.iadd, 1)]) (pe := 1475) (ls' := [some (.retAddr 20), some (.ref (0)), some (.ref (104)), some (.ref (135)), some (.int (nI i)), none, none]) (st' := [.int (nI (i + 3)), .retAddr 20, .int (xs (i + 2)), .int (xs (i + 1)), .ref (0)]) ⟨dL_law_1470, dL_law_1471, dL_law_1473, dL_law_1474, rfl⟩ (by show some (([some (.retAddr 20), some (.ref (0)), some (.ref (104)), some (.ref (135)), some (.int (nI i)), none, none] : ev_L), ([.int ((nI i) + (nI 3)), .retAddr 20, .int (xs (i + 2)), .int (xs (i + 1)), .ref (0)] : List Value)) = _; rw [nI_add i 3]) ?_
  refine el_sld (vp_in_nI (show i + 3 < N9 by omega) (by omega)) dL_law_1475 ?_
  rw [nI_clamp (show i + 3 < 2 ^ 31 by omega)]
  refine el_blk (B := [(.aload_n 3, 1)]) (pe := 1477) (ls' := [some (.retAddr 20), some (.ref (0)), some (.ref (104)), some (.ref (135)), some (.int (nI i)), none, none]) (st' := [.ref (135), .int (xs (i + 3)), .int (xs (i + 2)), .int (xs (i + 1)), .ref (0)]) ⟨dL_law_1476, rfl⟩ rfl ?_
  refine el_cSHw YH_L_basisLetter L_RL_213 dL_law_1477 ⟨Nat.le_of_ble_eq_true rfl, Nat.le_of_ble_eq_true rfl, (by show kc + 4 ≤ 601024; omega), (by show ks + 24 ≤ 7293034; omega), Nat.le_of_ble_eq_true rfl⟩ (as := [.ref (0), .int (xs (i + 1)), .int (xs (i + 2)), .int (xs (i + 3)), .ref (135)]) rfl rfl (h_basisLetter hl S hS hR (xs (i + 1)) (xs (i + 2)) (xs (i + 3)) 135 (by decide) g hg) (fun M1 hL1 hB1 => ?_)
  obtain ⟨cR, ⟨g1, cg, cz⟩, cl, co⟩ := hB1
  have dR := RR.kept hRR (fun j h1 h2 => co j h1 (by omega))
  refine el_blk (B := [(.istore 5, 2), (.aload_n 2, 1), (.aload_n 0, 1), (.iload 4, 2), (.iconst 1, 1), (.iadd, 1)]) (pe := 1488) (ls' := [some (.retAddr 20), some (.ref (0)), some (.ref (104)), some (.ref (135)), some (.int (nI i)), some (.int (nI (sBL S (xs (i + 1)) (xs (i + 2)) (xs (i + 3))).1)), none]) (st' := [.int (nI (i + 1)), .retAddr 20, .ref (104)]) ⟨dL_law_1480, dL_law_1482, dL_law_1483, dL_law_1484, dL_law_1486, dL_law_1487, rfl⟩ (by show some (([some (.retAddr 20), some (.ref (0)), some (.ref (104)), some (.ref (135)), some (.int (nI i)), some (.int (nI (sBL S (xs (i + 1)) (xs (i + 2)) (xs (i + 3))).1)), none] : ev_L), ([.int ((nI i) + (nI 1)), .retAddr 20, .ref (104)] : List Value)) = _; rw [nI_add i 1]) ?_
  refine el_sld (vp_in_nI (show i + 1 < N9 by omega) (by omega)) dL_law_1488 ?_
  rw [nI_clamp (show i + 1 < 2 ^ 31 by omega)]
  refine el_blk (B := [(.aload_n 0, 1), (.iload 4, 2), (.iconst 2, 1), (.iadd, 1)]) (pe := 1494) (ls' := [some (.retAddr 20), some (.ref (0)), some (.ref (104)), some (.ref (135)), some (.int (nI i)), some (.int (nI (sBL S (xs (i + 1)) (xs (i + 2)) (xs (i + 3))).1)), none]) (st' := [.int (nI (i + 2)), .retAddr 20, .int (xs (i + 1)), .ref (104)]) ⟨dL_law_1489, dL_law_1490, dL_law_1492, dL_law_1493, rfl⟩ (by show some (([some (.retAddr 20), some (.ref (0)), some (.ref (104)), some (.ref (135)), some (.int (nI i)), some (.int (nI (sBL S (xs (i + 1)) (xs (i + 2)) (xs (i + 3))).1)), none] : ev_L), ([.int ((nI i) + (nI 2)), .retAddr 20, .int (xs (i + 1)), .ref (104)] : List Value)) = _; rw [nI_add i 2]) ?_
  refine el_sld (vp_in_nI (show i + 2 < N9 by omega) (by omega)) dL_law_1494 ?_
  rw [nI_clamp (show i + 2 < 2 ^ 31 by omega)]
  refine el_blk (B := [(.aload_n 0, 1), (.iload 4, 2), (.iconst 3, 1), (.iadd, 1)]) (pe := 1500) (ls' := [some (.retAddr 20), some (.ref (0)), some (.ref (104)), some (.ref (135)), some (.int (nI i)), some (.int (nI (sBL S (xs (i + 1)) (xs (i + 2)) (xs (i + 3))).1)), none]) (st' := [.int (nI (i + 3)), .retAddr 20, .int (xs (i + 2)), .int (xs (i + 1)), .ref (104)]) ⟨dL_law_1495, dL_law_1496, dL_law_1498, dL_law_1499, rfl⟩ (by show some (([some (.retAddr 20), some (.ref (0)), some (.ref (104)), some (.ref (135)), some (.int (nI i)), some (.int (nI (sBL S (xs (i + 1)) (xs (i + 2)) (xs (i + 3))).1)), none] : ev_L), ([.int ((nI i) + (nI 3)), .retAddr 20, .int (xs (i + 2)), .int (xs (i + 1)), .ref (104)] : List Value)) = _; rw [nI_add i 3]) ?_
  refine el_sld (vp_in_nI (show i + 3 < N9 by omega) (by omega)) dL_law_1500 ?_
  rw [nI_clamp (show i + 3 < 2 ^ 31 by omega)]
  refine el_cVw Y_X11_basisLetter L_RL_215 dL_law_1501 ⟨Nat.le_of_ble_eq_true rfl, Nat.le_of_ble_eq_true rfl, (by show kc + 4 + 0 ≤ 601024; omega), (by show ks + 24 + 0 ≤ 7293034; omega), Nat.le_of_ble_eq_true rfl⟩ dR.z (as := [.int (xs (i + 1)), .int (xs (i + 2)), .int (xs (i + 3))]) rfl rfl (r_basisLetter hl 104 S hS h10 h3 h20 _ _ dR (xs (i + 1)) (xs (i + 2)) (xs (i + 3))) (fun M2 hL2 hB2 => ?_)
  obtain ⟨zi1, zl1, eR, ez, eF⟩ := hB2
  have fR := cR.fr eF (by decide)
  have fg := (eF.2 135 (Or.inr (by decide))).trans cg
  have fl := eF.1
  refine el_blk (B := [(.istore 6, 2), (.aload_n 2, 1)]) (pe := 1507) (ls' := [some (.retAddr 20), some (.ref (0)), some (.ref (104)), some (.ref (135)), some (.int (nI i)), some (.int (nI (sBL S (xs (i + 1)) (xs (i + 2)) (xs (i + 3))).1)), some (.int ((sBL S (xs (i + 1)) (xs (i + 2)) (xs (i + 3))).2))]) (st' := [.ref (104)]) ⟨dL_law_1504, dL_law_1506, rfl⟩ rfl ?_
  refine el_cVv Y_X11_thrown L_RL_127 dL_law_1507 ⟨Nat.le_of_ble_eq_true rfl, Nat.le_of_ble_eq_true rfl, (by show kc + 4 + 0 + 0 ≤ 601024; omega), (by show ks + 24 + 0 + 0 ≤ 7293034; omega), Nat.le_of_ble_eq_true rfl⟩ eR.z (as := []) rfl rfl (c_R_thrown hl 104 zi1 zl1 eR.z) ?_
  rw [ez]
  refine el_blk (B := [(.iload 5, 2)]) (pe := 1512) (ls' := [some (.retAddr 20), some (.ref (0)), some (.ref (104)), some (.ref (135)), some (.int (nI i)), some (.int (nI (sBL S (xs (i + 1)) (xs (i + 2)) (xs (i + 3))).1)), some (.int ((sBL S (xs (i + 1)) (xs (i + 2)) (xs (i + 3))).2))]) (st' := [.int (nI (sBL S (xs (i + 1)) (xs (i + 2)) (xs (i + 3))).1), .int (nI (sBL S (xs (i + 1)) (xs (i + 2)) (xs (i + 3))).1)]) ⟨dL_law_1510, rfl⟩ rfl ?_
  refine el_ic_eq dL_law_1512 (tgt := 1517) (by decide) (fun q1512 => ?_) (fun q1512 => ?_)
  · refine el_blk (B := [(.iload 5, 2)]) (pe := 1519) (ls' := [some (.retAddr 20), some (.ref (0)), some (.ref (104)), some (.ref (135)), some (.int (nI i)), some (.int (nI (sBL S (xs (i + 1)) (xs (i + 2)) (xs (i + 3))).1)), some (.int ((sBL S (xs (i + 1)) (xs (i + 2)) (xs (i + 3))).2))]) (st' := [.int (nI (sBL S (xs (i + 1)) (xs (i + 2)) (xs (i + 3))).1)]) ⟨dL_law_1517, rfl⟩ rfl ?_
    refine el_if_ne dL_law_1519 (tgt := 1534) (by decide) (fun q1519 => ?_) (fun q1519 => ?_)
    · refine el_goto (tgt := 2054) dL_law_1534 (by decide) ?_
      refine el_fgt (ls' := [some (.retAddr 20), some (.ref (0)), some (.ref (104)), some (.ref (135)), some (.int (nI i)), none, none]) ⟨Or.inr rfl, Or.inr rfl, Or.inr rfl, Or.inr rfl, Or.inr rfl, Or.inl rfl, Or.inl rfl, trivial⟩ ?_
      exact el_wid (by show kc + 4 + 0 + 0 ≤ kc + 8; omega) (by show ks + 24 + 0 + 0 ≤ ks + 40; omega) (hk _ S (hS) ⟨fR, ⟨_, _, eR⟩, ⟨_, fg⟩, fl.trans (cl.trans hlen)⟩)
    · refine el_blk (B := [(.aload_n 3, 1), (.iconst 0, 1)]) (pe := 1524) (ls' := [some (.retAddr 20), some (.ref (0)), some (.ref (104)), some (.ref (135)), some (.int (nI i)), some (.int (nI (sBL S (xs (i + 1)) (xs (i + 2)) (xs (i + 3))).1)), some (.int ((sBL S (xs (i + 1)) (xs (i + 2)) (xs (i + 3))).2))]) (st' := [.int (nI 0), .ref (135)]) ⟨dL_law_1522, dL_law_1523, rfl⟩ rfl ?_
      refine el_lald dL_law_1524 fg (vp_in_nI (show 0 < 1 by omega) (by omega)) ?_
      rw [nI_clamp (show 0 < 2 ^ 31 by omega)]
      refine el_blk (B := [(.iload 6, 2), (.i2l, 1), (.lcmp, 1)]) (pe := 1529) (ls' := [some (.retAddr 20), some (.ref (0)), some (.ref (104)), some (.ref (135)), some (.int (nI i)), some (.int (nI (sBL S (xs (i + 1)) (xs (i + 2)) (xs (i + 3))).1)), some (.int ((sBL S (xs (i + 1)) (xs (i + 2)) (xs (i + 3))).2))]) (st' := [.int (lg_cmp (g1 0) (((sBL S (xs (i + 1)) (xs (i + 2)) (xs (i + 3))).2).toInt64))]) ⟨dL_law_1525, dL_law_1527, dL_law_1528, rfl⟩ rfl ?_
      refine el_lc_eq dL_law_1529 (tgt := 1534) (by decide) (fun q1529 => ?_) (fun q1529 => ?_)
      · refine el_goto (tgt := 2054) dL_law_1534 (by decide) ?_
        refine el_fgt (ls' := [some (.retAddr 20), some (.ref (0)), some (.ref (104)), some (.ref (135)), some (.int (nI i)), none, none]) ⟨Or.inr rfl, Or.inr rfl, Or.inr rfl, Or.inr rfl, Or.inr rfl, Or.inl rfl, Or.inl rfl, trivial⟩ ?_
        exact el_wid (by show kc + 4 + 0 + 0 ≤ kc + 8; omega) (by show ks + 24 + 0 + 0 ≤ ks + 40; omega) (hk _ S (hS) ⟨fR, ⟨_, _, eR⟩, ⟨_, fg⟩, fl.trans (cl.trans hlen)⟩)
      · exact absurd (cz q1519) q1529
  · exact absurd rfl q1512

