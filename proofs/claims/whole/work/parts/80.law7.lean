/-! ===== the law: turns 26 to 37 ===== -/
set_option maxHeartbeats 4000000 in
set_option maxRecDepth 100000 in
theorem w_26 {xs : Nat → Int32} {N9 : Nat} {l : Launch} (hl : l.stackTraces = false) (hN : N9 ≤ 3072) (i : Nat) (hi : i + 6 ≤ N9) {M : ev_M} (S : St) (hS : okS S) (hLI : LI M S) (kc ks : Nat) (hkc : kc + 8 ≤ 601024) (hks : ks + 40 ≤ 7293034) (Q : ev_R → ev_M → Prop) (hk : ∀ (M1 : ev_M) (S1 : St), okS S1 → LI M1 S1 → el_ xs N9 l m_L_law (kc + 8) (ks + 40) 2054 [some (.retAddr 20), some (.ref 0), some (.ref 104), some (.ref 135), some (.int (nI i)), none, none] [] M1 Q) : el_ xs N9 l m_L_law kc ks 1537 [some (.retAddr 20), some (.ref 0), some (.ref 104), some (.ref 135), some (.int (nI i)), none, none] [] M Q := by
  obtain ⟨hR, ⟨zi, zl, hRR⟩, ⟨g, hg⟩, hlen⟩ := hLI
  have h10 : S.T.length ≤ 10 := hR.m.1
  have h3 : S.G.length ≤ 3 := hR.g.2.1
  have h20 : S.H.length ≤ 20 := by have := hR.h.2.1.2.1; rwa [hL_len] at this
  refine el_blk (B := [(.aload_n 1, 1), (.aload_n 3, 1)]) (pe := 1539) (ls' := [some (.retAddr 20), some (.ref (0)), some (.ref (104)), some (.ref (135)), some (.int (nI i)), none, none]) (st' := [.ref (135), .ref (0)]) ⟨dL_law_1537, dL_law_1538, rfl⟩ rfl ?_
  refine el_cSHw YH_L_coveringStates L_RL_216 dL_law_1539 ⟨Nat.le_of_ble_eq_true rfl, Nat.le_of_ble_eq_true rfl, (by show kc + 2 ≤ 601024; omega), (by show ks + 12 ≤ 7293034; omega), Nat.le_of_ble_eq_true rfl⟩ (as := [.ref (0), .ref (135)]) rfl rfl (h_coveringStates hl S hS hR  135 (by decide) g hg) (fun M1 hL1 hB1 => ?_)
  obtain ⟨cR, ⟨g1, cg, cz⟩, cl, co⟩ := hB1
  have dR := RR.kept hRR (fun j h1 h2 => co j h1 (by omega))
  refine el_blk (B := [(.istore 5, 2), (.aload_n 2, 1)]) (pe := 1545) (ls' := [some (.retAddr 20), some (.ref (0)), some (.ref (104)), some (.ref (135)), some (.int (nI i)), some (.int (nI (sCo S).1)), none]) (st' := [.ref (104)]) ⟨dL_law_1542, dL_law_1544, rfl⟩ rfl ?_
  refine el_cVw Y_X11_coveringStates L_RL_218 dL_law_1545 ⟨Nat.le_of_ble_eq_true rfl, Nat.le_of_ble_eq_true rfl, (by show kc + 2 + 0 ≤ 601024; omega), (by show ks + 12 + 0 ≤ 7293034; omega), Nat.le_of_ble_eq_true rfl⟩ dR.z (as := []) rfl rfl (r_coveringStates hl 104 S hS h10 h3 h20 _ _ dR) (fun M2 hL2 hB2 => ?_)
  obtain ⟨zi1, zl1, eR, ez, eF⟩ := hB2
  have fR := cR.fr eF (by decide)
  have fg := (eF.2 135 (Or.inr (by decide))).trans cg
  have fl := eF.1
  refine el_blk (B := [(.istore 6, 2), (.aload_n 2, 1)]) (pe := 1551) (ls' := [some (.retAddr 20), some (.ref (0)), some (.ref (104)), some (.ref (135)), some (.int (nI i)), some (.int (nI (sCo S).1)), some (.int ((sCo S).2))]) (st' := [.ref (104)]) ⟨dL_law_1548, dL_law_1550, rfl⟩ rfl ?_
  refine el_cVv Y_X11_thrown L_RL_127 dL_law_1551 ⟨Nat.le_of_ble_eq_true rfl, Nat.le_of_ble_eq_true rfl, (by show kc + 2 + 0 + 0 ≤ 601024; omega), (by show ks + 12 + 0 + 0 ≤ 7293034; omega), Nat.le_of_ble_eq_true rfl⟩ eR.z (as := []) rfl rfl (c_R_thrown hl 104 zi1 zl1 eR.z) ?_
  rw [ez]
  refine el_blk (B := [(.iload 5, 2)]) (pe := 1556) (ls' := [some (.retAddr 20), some (.ref (0)), some (.ref (104)), some (.ref (135)), some (.int (nI i)), some (.int (nI (sCo S).1)), some (.int ((sCo S).2))]) (st' := [.int (nI (sCo S).1), .int (nI (sCo S).1)]) ⟨dL_law_1554, rfl⟩ rfl ?_
  refine el_ic_eq dL_law_1556 (tgt := 1561) (by decide) (fun q1556 => ?_) (fun q1556 => ?_)
  · refine el_blk (B := [(.iload 5, 2)]) (pe := 1563) (ls' := [some (.retAddr 20), some (.ref (0)), some (.ref (104)), some (.ref (135)), some (.int (nI i)), some (.int (nI (sCo S).1)), some (.int ((sCo S).2))]) (st' := [.int (nI (sCo S).1)]) ⟨dL_law_1561, rfl⟩ rfl ?_
    refine el_if_ne dL_law_1563 (tgt := 1578) (by decide) (fun q1563 => ?_) (fun q1563 => ?_)
    · refine el_goto (tgt := 2054) dL_law_1578 (by decide) ?_
      refine el_fgt (ls' := [some (.retAddr 20), some (.ref (0)), some (.ref (104)), some (.ref (135)), some (.int (nI i)), none, none]) ⟨Or.inr rfl, Or.inr rfl, Or.inr rfl, Or.inr rfl, Or.inr rfl, Or.inl rfl, Or.inl rfl, trivial⟩ ?_
      exact el_wid (by show kc + 2 + 0 + 0 ≤ kc + 8; omega) (by show ks + 12 + 0 + 0 ≤ ks + 40; omega) (hk _ S (hS) ⟨fR, ⟨_, _, eR⟩, ⟨_, fg⟩, fl.trans (cl.trans hlen)⟩)
    · refine el_blk (B := [(.aload_n 3, 1), (.iconst 0, 1)]) (pe := 1568) (ls' := [some (.retAddr 20), some (.ref (0)), some (.ref (104)), some (.ref (135)), some (.int (nI i)), some (.int (nI (sCo S).1)), some (.int ((sCo S).2))]) (st' := [.int (nI 0), .ref (135)]) ⟨dL_law_1566, dL_law_1567, rfl⟩ rfl ?_
      refine el_lald dL_law_1568 fg (vp_in_nI (show 0 < 1 by omega) (by omega)) ?_
      rw [nI_clamp (show 0 < 2 ^ 31 by omega)]
      refine el_blk (B := [(.iload 6, 2), (.i2l, 1), (.lcmp, 1)]) (pe := 1573) (ls' := [some (.retAddr 20), some (.ref (0)), some (.ref (104)), some (.ref (135)), some (.int (nI i)), some (.int (nI (sCo S).1)), some (.int ((sCo S).2))]) (st' := [.int (lg_cmp (g1 0) (((sCo S).2).toInt64))]) ⟨dL_law_1569, dL_law_1571, dL_law_1572, rfl⟩ rfl ?_
      refine el_lc_eq dL_law_1573 (tgt := 1578) (by decide) (fun q1573 => ?_) (fun q1573 => ?_)
      · refine el_goto (tgt := 2054) dL_law_1578 (by decide) ?_
        refine el_fgt (ls' := [some (.retAddr 20), some (.ref (0)), some (.ref (104)), some (.ref (135)), some (.int (nI i)), none, none]) ⟨Or.inr rfl, Or.inr rfl, Or.inr rfl, Or.inr rfl, Or.inr rfl, Or.inl rfl, Or.inl rfl, trivial⟩ ?_
        exact el_wid (by show kc + 2 + 0 + 0 ≤ kc + 8; omega) (by show ks + 12 + 0 + 0 ≤ ks + 40; omega) (hk _ S (hS) ⟨fR, ⟨_, _, eR⟩, ⟨_, fg⟩, fl.trans (cl.trans hlen)⟩)
      · exact absurd (cz q1563) q1573
  · exact absurd rfl q1556

set_option maxHeartbeats 4000000 in
set_option maxRecDepth 100000 in
theorem w_27 {xs : Nat → Int32} {N9 : Nat} {l : Launch} (hl : l.stackTraces = false) (hN : N9 ≤ 3072) (i : Nat) (hi : i + 6 ≤ N9) {M : ev_M} (S : St) (hS : okS S) (hLI : LI M S) (kc ks : Nat) (hkc : kc + 8 ≤ 601024) (hks : ks + 40 ≤ 7293034) (Q : ev_R → ev_M → Prop) (hk : ∀ (M1 : ev_M) (S1 : St), okS S1 → LI M1 S1 → el_ xs N9 l m_L_law (kc + 8) (ks + 40) 2054 [some (.retAddr 20), some (.ref 0), some (.ref 104), some (.ref 135), some (.int (nI i)), none, none] [] M1 Q) : el_ xs N9 l m_L_law kc ks 1581 [some (.retAddr 20), some (.ref 0), some (.ref 104), some (.ref 135), some (.int (nI i)), none, none] [] M Q := by
  obtain ⟨hR, ⟨zi, zl, hRR⟩, ⟨g, hg⟩, hlen⟩ := hLI
  have h10 : S.T.length ≤ 10 := hR.m.1
  have h3 : S.G.length ≤ 3 := hR.g.2.1
  have h20 : S.H.length ≤ 20 := by have := hR.h.2.1.2.1; rwa [hL_len] at this
  refine el_blk (B := [(.aload_n 1, 1), (.aload_n 0, 1), (.iload 4, 2), (.iconst 1, 1), (.iadd, 1)]) (pe := 1587) (ls' := [some (.retAddr 20), some (.ref (0)), some (.ref (104)), some (.ref (135)), some (.int (nI i)), none, none]) (st' := [.int (nI (i + 1)), .retAddr 20, .ref (0)]) ⟨dL_law_1581, dL_law_1582, dL_law_1583, dL_law_1585, dL_law_1586, rfl⟩ (by show some (([some (.retAddr 20), some (.ref (0)), some (.ref (104)), some (.ref (135)), some (.int (nI i)), none, none] : ev_L), ([.int ((nI i) + (nI 1)), .retAddr 20, .ref (0)] : List Value)) = _; rw [nI_add i 1]) ?_
  refine el_sld (vp_in_nI (show i + 1 < N9 by omega) (by omega)) dL_law_1587 ?_
  rw [nI_clamp (show i + 1 < 2 ^ 31 by omega)]
  refine el_blk (B := [(.aload_n 3, 1)]) (pe := 1589) (ls' := [some (.retAddr 20), some (.ref (0)), some (.ref (104)), some (.ref (135)), some (.int (nI i)), none, none]) (st' := [.ref (135), .int (xs (i + 1)), .ref (0)]) ⟨dL_law_1588, rfl⟩ rfl ?_
  refine el_cSHw YH_L_least L_RL_219 dL_law_1589 ⟨Nat.le_of_ble_eq_true rfl, Nat.le_of_ble_eq_true rfl, (by show kc + 3 ≤ 601024; omega), (by show ks + 18 ≤ 7293034; omega), Nat.le_of_ble_eq_true rfl⟩ (as := [.ref (0), .int (xs (i + 1)), .ref (135)]) rfl rfl (h_least hl S hS hR (xs (i + 1)) 135 (by decide) g hg) (fun M1 hL1 hB1 => ?_)
  obtain ⟨cR, ⟨g1, cg, cz⟩, cl, co⟩ := hB1
  have dR := RR.kept hRR (fun j h1 h2 => co j h1 (by omega))
  refine el_blk (B := [(.istore 5, 2), (.aload_n 2, 1), (.aload_n 0, 1), (.iload 4, 2), (.iconst 1, 1), (.iadd, 1)]) (pe := 1600) (ls' := [some (.retAddr 20), some (.ref (0)), some (.ref (104)), some (.ref (135)), some (.int (nI i)), some (.int (nI (sLe S (xs (i + 1))).1)), none]) (st' := [.int (nI (i + 1)), .retAddr 20, .ref (104)]) ⟨dL_law_1592, dL_law_1594, dL_law_1595, dL_law_1596, dL_law_1598, dL_law_1599, rfl⟩ (by show some (([some (.retAddr 20), some (.ref (0)), some (.ref (104)), some (.ref (135)), some (.int (nI i)), some (.int (nI (sLe S (xs (i + 1))).1)), none] : ev_L), ([.int ((nI i) + (nI 1)), .retAddr 20, .ref (104)] : List Value)) = _; rw [nI_add i 1]) ?_
  refine el_sld (vp_in_nI (show i + 1 < N9 by omega) (by omega)) dL_law_1600 ?_
  rw [nI_clamp (show i + 1 < 2 ^ 31 by omega)]
  refine el_cVw Y_X11_least L_RL_221 dL_law_1601 ⟨Nat.le_of_ble_eq_true rfl, Nat.le_of_ble_eq_true rfl, (by show kc + 3 + 0 ≤ 601024; omega), (by show ks + 18 + 0 ≤ 7293034; omega), Nat.le_of_ble_eq_true rfl⟩ dR.z (as := [.int (xs (i + 1))]) rfl rfl (r_least hl 104 S hS h10 h3 h20 _ _ dR (xs (i + 1))) (fun M2 hL2 hB2 => ?_)
  obtain ⟨zi1, zl1, eR, ez, eF⟩ := hB2
  have fR := cR.fr eF (by decide)
  have fg := (eF.2 135 (Or.inr (by decide))).trans cg
  have fl := eF.1
  refine el_blk (B := [(.istore 6, 2), (.aload_n 2, 1)]) (pe := 1607) (ls' := [some (.retAddr 20), some (.ref (0)), some (.ref (104)), some (.ref (135)), some (.int (nI i)), some (.int (nI (sLe S (xs (i + 1))).1)), some (.int ((sLe S (xs (i + 1))).2))]) (st' := [.ref (104)]) ⟨dL_law_1604, dL_law_1606, rfl⟩ rfl ?_
  refine el_cVv Y_X11_thrown L_RL_127 dL_law_1607 ⟨Nat.le_of_ble_eq_true rfl, Nat.le_of_ble_eq_true rfl, (by show kc + 3 + 0 + 0 ≤ 601024; omega), (by show ks + 18 + 0 + 0 ≤ 7293034; omega), Nat.le_of_ble_eq_true rfl⟩ eR.z (as := []) rfl rfl (c_R_thrown hl 104 zi1 zl1 eR.z) ?_
  rw [ez]
  refine el_blk (B := [(.iload 5, 2)]) (pe := 1612) (ls' := [some (.retAddr 20), some (.ref (0)), some (.ref (104)), some (.ref (135)), some (.int (nI i)), some (.int (nI (sLe S (xs (i + 1))).1)), some (.int ((sLe S (xs (i + 1))).2))]) (st' := [.int (nI (sLe S (xs (i + 1))).1), .int (nI (sLe S (xs (i + 1))).1)]) ⟨dL_law_1610, rfl⟩ rfl ?_
  refine el_ic_eq dL_law_1612 (tgt := 1617) (by decide) (fun q1612 => ?_) (fun q1612 => ?_)
  · refine el_blk (B := [(.iload 5, 2)]) (pe := 1619) (ls' := [some (.retAddr 20), some (.ref (0)), some (.ref (104)), some (.ref (135)), some (.int (nI i)), some (.int (nI (sLe S (xs (i + 1))).1)), some (.int ((sLe S (xs (i + 1))).2))]) (st' := [.int (nI (sLe S (xs (i + 1))).1)]) ⟨dL_law_1617, rfl⟩ rfl ?_
    refine el_if_ne dL_law_1619 (tgt := 1634) (by decide) (fun q1619 => ?_) (fun q1619 => ?_)
    · refine el_goto (tgt := 2054) dL_law_1634 (by decide) ?_
      refine el_fgt (ls' := [some (.retAddr 20), some (.ref (0)), some (.ref (104)), some (.ref (135)), some (.int (nI i)), none, none]) ⟨Or.inr rfl, Or.inr rfl, Or.inr rfl, Or.inr rfl, Or.inr rfl, Or.inl rfl, Or.inl rfl, trivial⟩ ?_
      exact el_wid (by show kc + 3 + 0 + 0 ≤ kc + 8; omega) (by show ks + 18 + 0 + 0 ≤ ks + 40; omega) (hk _ S (hS) ⟨fR, ⟨_, _, eR⟩, ⟨_, fg⟩, fl.trans (cl.trans hlen)⟩)
    · refine el_blk (B := [(.aload_n 3, 1), (.iconst 0, 1)]) (pe := 1624) (ls' := [some (.retAddr 20), some (.ref (0)), some (.ref (104)), some (.ref (135)), some (.int (nI i)), some (.int (nI (sLe S (xs (i + 1))).1)), some (.int ((sLe S (xs (i + 1))).2))]) (st' := [.int (nI 0), .ref (135)]) ⟨dL_law_1622, dL_law_1623, rfl⟩ rfl ?_
      refine el_lald dL_law_1624 fg (vp_in_nI (show 0 < 1 by omega) (by omega)) ?_
      rw [nI_clamp (show 0 < 2 ^ 31 by omega)]
      refine el_blk (B := [(.iload 6, 2), (.i2l, 1), (.lcmp, 1)]) (pe := 1629) (ls' := [some (.retAddr 20), some (.ref (0)), some (.ref (104)), some (.ref (135)), some (.int (nI i)), some (.int (nI (sLe S (xs (i + 1))).1)), some (.int ((sLe S (xs (i + 1))).2))]) (st' := [.int (lg_cmp (g1 0) (((sLe S (xs (i + 1))).2).toInt64))]) ⟨dL_law_1625, dL_law_1627, dL_law_1628, rfl⟩ rfl ?_
      refine el_lc_eq dL_law_1629 (tgt := 1634) (by decide) (fun q1629 => ?_) (fun q1629 => ?_)
      · refine el_goto (tgt := 2054) dL_law_1634 (by decide) ?_
        refine el_fgt (ls' := [some (.retAddr 20), some (.ref (0)), some (.ref (104)), some (.ref (135)), some (.int (nI i)), none, none]) ⟨Or.inr rfl, Or.inr rfl, Or.inr rfl, Or.inr rfl, Or.inr rfl, Or.inl rfl, Or.inl rfl, trivial⟩ ?_
        exact el_wid (by show kc + 3 + 0 + 0 ≤ kc + 8; omega) (by show ks + 18 + 0 + 0 ≤ ks + 40; omega) (hk _ S (hS) ⟨fR, ⟨_, _, eR⟩, ⟨_, fg⟩, fl.trans (cl.trans hlen)⟩)
      · exact absurd (cz q1619) q1629
  · exact absurd rfl q1612

set_option maxHeartbeats 4000000 in
set_option maxRecDepth 100000 in
theorem w_28 {xs : Nat → Int32} {N9 : Nat} {l : Launch} (hl : l.stackTraces = false) (hN : N9 ≤ 3072) (i : Nat) (hi : i + 6 ≤ N9) {M : ev_M} (S : St) (hS : okS S) (hLI : LI M S) (kc ks : Nat) (hkc : kc + 8 ≤ 601024) (hks : ks + 40 ≤ 7293034) (Q : ev_R → ev_M → Prop) (hk : ∀ (M1 : ev_M) (S1 : St), okS S1 → LI M1 S1 → el_ xs N9 l m_L_law (kc + 8) (ks + 40) 2054 [some (.retAddr 20), some (.ref 0), some (.ref 104), some (.ref 135), some (.int (nI i)), none, none] [] M1 Q) : el_ xs N9 l m_L_law kc ks 1637 [some (.retAddr 20), some (.ref 0), some (.ref 104), some (.ref 135), some (.int (nI i)), none, none] [] M Q := by
  obtain ⟨hR, ⟨zi, zl, hRR⟩, ⟨g, hg⟩, hlen⟩ := hLI
  have h10 : S.T.length ≤ 10 := hR.m.1
  have h3 : S.G.length ≤ 3 := hR.g.2.1
  have h20 : S.H.length ≤ 20 := by have := hR.h.2.1.2.1; rwa [hL_len] at this
  refine el_blk (B := [(.aload_n 1, 1), (.aload_n 3, 1)]) (pe := 1639) (ls' := [some (.retAddr 20), some (.ref (0)), some (.ref (104)), some (.ref (135)), some (.int (nI i)), none, none]) (st' := [.ref (135), .ref (0)]) ⟨dL_law_1637, dL_law_1638, rfl⟩ rfl ?_
  refine el_cSHw YH_L_distance L_RL_222 dL_law_1639 ⟨Nat.le_of_ble_eq_true rfl, Nat.le_of_ble_eq_true rfl, (by show kc + 2 ≤ 601024; omega), (by show ks + 12 ≤ 7293034; omega), Nat.le_of_ble_eq_true rfl⟩ (as := [.ref (0), .ref (135)]) rfl rfl (h_distance hl S hS hR  135 (by decide) g hg) (fun M1 hL1 hB1 => ?_)
  obtain ⟨cR, ⟨g1, cg, cz⟩, cl, co⟩ := hB1
  have dR := RR.kept hRR (fun j h1 h2 => co j h1 (by omega))
  refine el_blk (B := [(.istore 5, 2), (.aload_n 2, 1)]) (pe := 1645) (ls' := [some (.retAddr 20), some (.ref (0)), some (.ref (104)), some (.ref (135)), some (.int (nI i)), some (.int (nI (sDi S).1)), none]) (st' := [.ref (104)]) ⟨dL_law_1642, dL_law_1644, rfl⟩ rfl ?_
  refine el_cVw Y_X11_distance L_RL_224 dL_law_1645 ⟨Nat.le_of_ble_eq_true rfl, Nat.le_of_ble_eq_true rfl, (by show kc + 2 + 0 ≤ 601024; omega), (by show ks + 12 + 0 ≤ 7293034; omega), Nat.le_of_ble_eq_true rfl⟩ dR.z (as := []) rfl rfl (r_distance hl 104 S hS h10 h3 h20 _ _ dR) (fun M2 hL2 hB2 => ?_)
  obtain ⟨zi1, zl1, eR, ez, eF⟩ := hB2
  have fR := cR.fr eF (by decide)
  have fg := (eF.2 135 (Or.inr (by decide))).trans cg
  have fl := eF.1
  refine el_blk (B := [(.istore 6, 2), (.aload_n 2, 1)]) (pe := 1651) (ls' := [some (.retAddr 20), some (.ref (0)), some (.ref (104)), some (.ref (135)), some (.int (nI i)), some (.int (nI (sDi S).1)), some (.int ((sDi S).2))]) (st' := [.ref (104)]) ⟨dL_law_1648, dL_law_1650, rfl⟩ rfl ?_
  refine el_cVv Y_X11_thrown L_RL_127 dL_law_1651 ⟨Nat.le_of_ble_eq_true rfl, Nat.le_of_ble_eq_true rfl, (by show kc + 2 + 0 + 0 ≤ 601024; omega), (by show ks + 12 + 0 + 0 ≤ 7293034; omega), Nat.le_of_ble_eq_true rfl⟩ eR.z (as := []) rfl rfl (c_R_thrown hl 104 zi1 zl1 eR.z) ?_
  rw [ez]
  refine el_blk (B := [(.iload 5, 2)]) (pe := 1656) (ls' := [some (.retAddr 20), some (.ref (0)), some (.ref (104)), some (.ref (135)), some (.int (nI i)), some (.int (nI (sDi S).1)), some (.int ((sDi S).2))]) (st' := [.int (nI (sDi S).1), .int (nI (sDi S).1)]) ⟨dL_law_1654, rfl⟩ rfl ?_
  refine el_ic_eq dL_law_1656 (tgt := 1661) (by decide) (fun q1656 => ?_) (fun q1656 => ?_)
  · refine el_blk (B := [(.iload 5, 2)]) (pe := 1663) (ls' := [some (.retAddr 20), some (.ref (0)), some (.ref (104)), some (.ref (135)), some (.int (nI i)), some (.int (nI (sDi S).1)), some (.int ((sDi S).2))]) (st' := [.int (nI (sDi S).1)]) ⟨dL_law_1661, rfl⟩ rfl ?_
    refine el_if_ne dL_law_1663 (tgt := 1678) (by decide) (fun q1663 => ?_) (fun q1663 => ?_)
    · refine el_goto (tgt := 2054) dL_law_1678 (by decide) ?_
      refine el_fgt (ls' := [some (.retAddr 20), some (.ref (0)), some (.ref (104)), some (.ref (135)), some (.int (nI i)), none, none]) ⟨Or.inr rfl, Or.inr rfl, Or.inr rfl, Or.inr rfl, Or.inr rfl, Or.inl rfl, Or.inl rfl, trivial⟩ ?_
      exact el_wid (by show kc + 2 + 0 + 0 ≤ kc + 8; omega) (by show ks + 12 + 0 + 0 ≤ ks + 40; omega) (hk _ S (hS) ⟨fR, ⟨_, _, eR⟩, ⟨_, fg⟩, fl.trans (cl.trans hlen)⟩)
    · refine el_blk (B := [(.aload_n 3, 1), (.iconst 0, 1)]) (pe := 1668) (ls' := [some (.retAddr 20), some (.ref (0)), some (.ref (104)), some (.ref (135)), some (.int (nI i)), some (.int (nI (sDi S).1)), some (.int ((sDi S).2))]) (st' := [.int (nI 0), .ref (135)]) ⟨dL_law_1666, dL_law_1667, rfl⟩ rfl ?_
      refine el_lald dL_law_1668 fg (vp_in_nI (show 0 < 1 by omega) (by omega)) ?_
      rw [nI_clamp (show 0 < 2 ^ 31 by omega)]
      refine el_blk (B := [(.iload 6, 2), (.i2l, 1), (.lcmp, 1)]) (pe := 1673) (ls' := [some (.retAddr 20), some (.ref (0)), some (.ref (104)), some (.ref (135)), some (.int (nI i)), some (.int (nI (sDi S).1)), some (.int ((sDi S).2))]) (st' := [.int (lg_cmp (g1 0) (((sDi S).2).toInt64))]) ⟨dL_law_1669, dL_law_1671, dL_law_1672, rfl⟩ rfl ?_
      refine el_lc_eq dL_law_1673 (tgt := 1678) (by decide) (fun q1673 => ?_) (fun q1673 => ?_)
      · refine el_goto (tgt := 2054) dL_law_1678 (by decide) ?_
        refine el_fgt (ls' := [some (.retAddr 20), some (.ref (0)), some (.ref (104)), some (.ref (135)), some (.int (nI i)), none, none]) ⟨Or.inr rfl, Or.inr rfl, Or.inr rfl, Or.inr rfl, Or.inr rfl, Or.inl rfl, Or.inl rfl, trivial⟩ ?_
        exact el_wid (by show kc + 2 + 0 + 0 ≤ kc + 8; omega) (by show ks + 12 + 0 + 0 ≤ ks + 40; omega) (hk _ S (hS) ⟨fR, ⟨_, _, eR⟩, ⟨_, fg⟩, fl.trans (cl.trans hlen)⟩)
      · exact absurd (cz q1663) q1673
  · exact absurd rfl q1656

set_option maxHeartbeats 4000000 in
set_option maxRecDepth 100000 in
theorem w_29 {xs : Nat → Int32} {N9 : Nat} {l : Launch} (hl : l.stackTraces = false) (hN : N9 ≤ 3072) (i : Nat) (hi : i + 6 ≤ N9) {M : ev_M} (S : St) (hS : okS S) (hLI : LI M S) (kc ks : Nat) (hkc : kc + 8 ≤ 601024) (hks : ks + 40 ≤ 7293034) (Q : ev_R → ev_M → Prop) (hk : ∀ (M1 : ev_M) (S1 : St), okS S1 → LI M1 S1 → el_ xs N9 l m_L_law (kc + 8) (ks + 40) 2054 [some (.retAddr 20), some (.ref 0), some (.ref 104), some (.ref 135), some (.int (nI i)), none, none] [] M1 Q) : el_ xs N9 l m_L_law kc ks 1681 [some (.retAddr 20), some (.ref 0), some (.ref 104), some (.ref 135), some (.int (nI i)), none, none] [] M Q := by
  obtain ⟨hR, ⟨zi, zl, hRR⟩, ⟨g, hg⟩, hlen⟩ := hLI
  have h10 : S.T.length ≤ 10 := hR.m.1
  have h3 : S.G.length ≤ 3 := hR.g.2.1
  have h20 : S.H.length ≤ 20 := by have := hR.h.2.1.2.1; rwa [hL_len] at this
  refine el_blk (B := [(.aload_n 1, 1), (.aload_n 0, 1), (.iload 4, 2), (.iconst 1, 1), (.iadd, 1)]) (pe := 1687) (ls' := [some (.retAddr 20), some (.ref (0)), some (.ref (104)), some (.ref (135)), some (.int (nI i)), none, none]) (st' := [.int (nI (i + 1)), .retAddr 20, .ref (0)]) ⟨dL_law_1681, dL_law_1682, dL_law_1683, dL_law_1685, dL_law_1686, rfl⟩ (by show some (([some (.retAddr 20), some (.ref (0)), some (.ref (104)), some (.ref (135)), some (.int (nI i)), none, none] : ev_L), ([.int ((nI i) + (nI 1)), .retAddr 20, .ref (0)] : List Value)) = _; rw [nI_add i 1]) ?_
  refine el_sld (vp_in_nI (show i + 1 < N9 by omega) (by omega)) dL_law_1687 ?_
  rw [nI_clamp (show i + 1 < 2 ^ 31 by omega)]
  refine el_blk (B := [(.aload_n 3, 1)]) (pe := 1689) (ls' := [some (.retAddr 20), some (.ref (0)), some (.ref (104)), some (.ref (135)), some (.int (nI i)), none, none]) (st' := [.ref (135), .int (xs (i + 1)), .ref (0)]) ⟨dL_law_1688, rfl⟩ rfl ?_
  refine el_cSHw YH_L_covering L_RL_225 dL_law_1689 ⟨Nat.le_of_ble_eq_true rfl, Nat.le_of_ble_eq_true rfl, (by show kc + 3 ≤ 601024; omega), (by show ks + 18 ≤ 7293034; omega), Nat.le_of_ble_eq_true rfl⟩ (as := [.ref (0), .int (xs (i + 1)), .ref (135)]) rfl rfl (h_covering hl S hS hR (xs (i + 1)) (walks_ok hS.T) 135 (by decide) g hg) (fun M1 hL1 hB1 => ?_)
  obtain ⟨cR, ⟨g1, cg, cz⟩, cl, co⟩ := hB1
  have dR := RR.kept hRR (fun j h1 h2 => co j h1 (by omega))
  refine el_blk (B := [(.istore 5, 2), (.aload_n 2, 1), (.aload_n 0, 1), (.iload 4, 2), (.iconst 1, 1), (.iadd, 1)]) (pe := 1700) (ls' := [some (.retAddr 20), some (.ref (0)), some (.ref (104)), some (.ref (135)), some (.int (nI i)), some (.int (nI (sCv S (xs (i + 1))).1)), none]) (st' := [.int (nI (i + 1)), .retAddr 20, .ref (104)]) ⟨dL_law_1692, dL_law_1694, dL_law_1695, dL_law_1696, dL_law_1698, dL_law_1699, rfl⟩ (by show some (([some (.retAddr 20), some (.ref (0)), some (.ref (104)), some (.ref (135)), some (.int (nI i)), some (.int (nI (sCv S (xs (i + 1))).1)), none] : ev_L), ([.int ((nI i) + (nI 1)), .retAddr 20, .ref (104)] : List Value)) = _; rw [nI_add i 1]) ?_
  refine el_sld (vp_in_nI (show i + 1 < N9 by omega) (by omega)) dL_law_1700 ?_
  rw [nI_clamp (show i + 1 < 2 ^ 31 by omega)]
  refine el_cVw Y_X11_covering L_RL_227 dL_law_1701 ⟨Nat.le_of_ble_eq_true rfl, Nat.le_of_ble_eq_true rfl, (by show kc + 3 + 0 ≤ 601024; omega), (by show ks + 18 + 0 ≤ 7293034; omega), Nat.le_of_ble_eq_true rfl⟩ dR.z (as := [.int (xs (i + 1))]) rfl rfl (r_covering hl 104 S hS h10 h3 h20 _ _ dR (walks_ok hS.T) (xs (i + 1))) (fun M2 hL2 hB2 => ?_)
  obtain ⟨zi1, zl1, eR, ez, eF⟩ := hB2
  have fR := cR.fr eF (by decide)
  have fg := (eF.2 135 (Or.inr (by decide))).trans cg
  have fl := eF.1
  refine el_blk (B := [(.istore 6, 2), (.aload_n 2, 1)]) (pe := 1707) (ls' := [some (.retAddr 20), some (.ref (0)), some (.ref (104)), some (.ref (135)), some (.int (nI i)), some (.int (nI (sCv S (xs (i + 1))).1)), some (.int ((sCv S (xs (i + 1))).2))]) (st' := [.ref (104)]) ⟨dL_law_1704, dL_law_1706, rfl⟩ rfl ?_
  refine el_cVv Y_X11_thrown L_RL_127 dL_law_1707 ⟨Nat.le_of_ble_eq_true rfl, Nat.le_of_ble_eq_true rfl, (by show kc + 3 + 0 + 0 ≤ 601024; omega), (by show ks + 18 + 0 + 0 ≤ 7293034; omega), Nat.le_of_ble_eq_true rfl⟩ eR.z (as := []) rfl rfl (c_R_thrown hl 104 zi1 zl1 eR.z) ?_
  rw [ez]
  refine el_blk (B := [(.iload 5, 2)]) (pe := 1712) (ls' := [some (.retAddr 20), some (.ref (0)), some (.ref (104)), some (.ref (135)), some (.int (nI i)), some (.int (nI (sCv S (xs (i + 1))).1)), some (.int ((sCv S (xs (i + 1))).2))]) (st' := [.int (nI (sCv S (xs (i + 1))).1), .int (nI (sCv S (xs (i + 1))).1)]) ⟨dL_law_1710, rfl⟩ rfl ?_
  refine el_ic_eq dL_law_1712 (tgt := 1717) (by decide) (fun q1712 => ?_) (fun q1712 => ?_)
  · refine el_blk (B := [(.iload 5, 2)]) (pe := 1719) (ls' := [some (.retAddr 20), some (.ref (0)), some (.ref (104)), some (.ref (135)), some (.int (nI i)), some (.int (nI (sCv S (xs (i + 1))).1)), some (.int ((sCv S (xs (i + 1))).2))]) (st' := [.int (nI (sCv S (xs (i + 1))).1)]) ⟨dL_law_1717, rfl⟩ rfl ?_
    refine el_if_ne dL_law_1719 (tgt := 1734) (by decide) (fun q1719 => ?_) (fun q1719 => ?_)
    · refine el_goto (tgt := 2054) dL_law_1734 (by decide) ?_
      refine el_fgt (ls' := [some (.retAddr 20), some (.ref (0)), some (.ref (104)), some (.ref (135)), some (.int (nI i)), none, none]) ⟨Or.inr rfl, Or.inr rfl, Or.inr rfl, Or.inr rfl, Or.inr rfl, Or.inl rfl, Or.inl rfl, trivial⟩ ?_
      exact el_wid (by show kc + 3 + 0 + 0 ≤ kc + 8; omega) (by show ks + 18 + 0 + 0 ≤ ks + 40; omega) (hk _ S (hS) ⟨fR, ⟨_, _, eR⟩, ⟨_, fg⟩, fl.trans (cl.trans hlen)⟩)
    · refine el_blk (B := [(.aload_n 3, 1), (.iconst 0, 1)]) (pe := 1724) (ls' := [some (.retAddr 20), some (.ref (0)), some (.ref (104)), some (.ref (135)), some (.int (nI i)), some (.int (nI (sCv S (xs (i + 1))).1)), some (.int ((sCv S (xs (i + 1))).2))]) (st' := [.int (nI 0), .ref (135)]) ⟨dL_law_1722, dL_law_1723, rfl⟩ rfl ?_
      refine el_lald dL_law_1724 fg (vp_in_nI (show 0 < 1 by omega) (by omega)) ?_
      rw [nI_clamp (show 0 < 2 ^ 31 by omega)]
      refine el_blk (B := [(.iload 6, 2), (.i2l, 1), (.lcmp, 1)]) (pe := 1729) (ls' := [some (.retAddr 20), some (.ref (0)), some (.ref (104)), some (.ref (135)), some (.int (nI i)), some (.int (nI (sCv S (xs (i + 1))).1)), some (.int ((sCv S (xs (i + 1))).2))]) (st' := [.int (lg_cmp (g1 0) (((sCv S (xs (i + 1))).2).toInt64))]) ⟨dL_law_1725, dL_law_1727, dL_law_1728, rfl⟩ rfl ?_
      refine el_lc_eq dL_law_1729 (tgt := 1734) (by decide) (fun q1729 => ?_) (fun q1729 => ?_)
      · refine el_goto (tgt := 2054) dL_law_1734 (by decide) ?_
        refine el_fgt (ls' := [some (.retAddr 20), some (.ref (0)), some (.ref (104)), some (.ref (135)), some (.int (nI i)), none, none]) ⟨Or.inr rfl, Or.inr rfl, Or.inr rfl, Or.inr rfl, Or.inr rfl, Or.inl rfl, Or.inl rfl, trivial⟩ ?_
        exact el_wid (by show kc + 3 + 0 + 0 ≤ kc + 8; omega) (by show ks + 18 + 0 + 0 ≤ ks + 40; omega) (hk _ S (hS) ⟨fR, ⟨_, _, eR⟩, ⟨_, fg⟩, fl.trans (cl.trans hlen)⟩)
      · exact absurd (cz q1719) q1729
  · exact absurd rfl q1712

set_option maxHeartbeats 4000000 in
set_option maxRecDepth 100000 in
theorem w_30 {xs : Nat → Int32} {N9 : Nat} {l : Launch} (hl : l.stackTraces = false) (hN : N9 ≤ 3072) (i : Nat) (hi : i + 6 ≤ N9) {M : ev_M} (S : St) (hS : okS S) (hLI : LI M S) (kc ks : Nat) (hkc : kc + 8 ≤ 601024) (hks : ks + 40 ≤ 7293034) (Q : ev_R → ev_M → Prop) (hk : ∀ (M1 : ev_M) (S1 : St), okS S1 → LI M1 S1 → el_ xs N9 l m_L_law (kc + 8) (ks + 40) 2054 [some (.retAddr 20), some (.ref 0), some (.ref 104), some (.ref 135), some (.int (nI i)), none, none] [] M1 Q) : el_ xs N9 l m_L_law kc ks 1737 [some (.retAddr 20), some (.ref 0), some (.ref 104), some (.ref 135), some (.int (nI i)), none, none] [] M Q := by
  obtain ⟨hR, ⟨zi, zl, hRR⟩, ⟨g, hg⟩, hlen⟩ := hLI
  have h10 : S.T.length ≤ 10 := hR.m.1
  have h3 : S.G.length ≤ 3 := hR.g.2.1
  have h20 : S.H.length ≤ 20 := by have := hR.h.2.1.2.1; rwa [hL_len] at this
  refine el_blk (B := [(.aload_n 1, 1), (.aload_n 0, 1), (.iload 4, 2), (.iconst 1, 1), (.iadd, 1)]) (pe := 1743) (ls' := [some (.retAddr 20), some (.ref (0)), some (.ref (104)), some (.ref (135)), some (.int (nI i)), none, none]) (st' := [.int (nI (i + 1)), .retAddr 20, .ref (0)]) ⟨dL_law_1737, dL_law_1738, dL_law_1739, dL_law_1741, dL_law_1742, rfl⟩ (by show some (([some (.retAddr 20), some (.ref (0)), some (.ref (104)), some (.ref (135)), some (.int (nI i)), none, none] : ev_L), ([.int ((nI i) + (nI 1)), .retAddr 20, .ref (0)] : List Value)) = _; rw [nI_add i 1]) ?_
  refine el_sld (vp_in_nI (show i + 1 < N9 by omega) (by omega)) dL_law_1743 ?_
  rw [nI_clamp (show i + 1 < 2 ^ 31 by omega)]
  refine el_blk (B := [(.aload_n 3, 1)]) (pe := 1745) (ls' := [some (.retAddr 20), some (.ref (0)), some (.ref (104)), some (.ref (135)), some (.int (nI i)), none, none]) (st' := [.ref (135), .int (xs (i + 1)), .ref (0)]) ⟨dL_law_1744, rfl⟩ rfl ?_
  refine el_cSHw YH_L_lost L_RL_228 dL_law_1745 ⟨Nat.le_of_ble_eq_true rfl, Nat.le_of_ble_eq_true rfl, (by show kc + 3 ≤ 601024; omega), (by show ks + 18 ≤ 7293034; omega), Nat.le_of_ble_eq_true rfl⟩ (as := [.ref (0), .int (xs (i + 1)), .ref (135)]) rfl rfl (h_lost hl S hS hR (xs (i + 1)) (walks_ok hS.T) 135 (by decide) g hg) (fun M1 hL1 hB1 => ?_)
  obtain ⟨cR, ⟨g1, cg, cz⟩, cl, co⟩ := hB1
  have dR := RR.kept hRR (fun j h1 h2 => co j h1 (by omega))
  refine el_blk (B := [(.istore 5, 2), (.aload_n 2, 1), (.aload_n 0, 1), (.iload 4, 2), (.iconst 1, 1), (.iadd, 1)]) (pe := 1756) (ls' := [some (.retAddr 20), some (.ref (0)), some (.ref (104)), some (.ref (135)), some (.int (nI i)), some (.int (nI (sLo S (xs (i + 1))).1)), none]) (st' := [.int (nI (i + 1)), .retAddr 20, .ref (104)]) ⟨dL_law_1748, dL_law_1750, dL_law_1751, dL_law_1752, dL_law_1754, dL_law_1755, rfl⟩ (by show some (([some (.retAddr 20), some (.ref (0)), some (.ref (104)), some (.ref (135)), some (.int (nI i)), some (.int (nI (sLo S (xs (i + 1))).1)), none] : ev_L), ([.int ((nI i) + (nI 1)), .retAddr 20, .ref (104)] : List Value)) = _; rw [nI_add i 1]) ?_
  refine el_sld (vp_in_nI (show i + 1 < N9 by omega) (by omega)) dL_law_1756 ?_
  rw [nI_clamp (show i + 1 < 2 ^ 31 by omega)]
  refine el_cVw Y_X11_lost L_RL_230 dL_law_1757 ⟨Nat.le_of_ble_eq_true rfl, Nat.le_of_ble_eq_true rfl, (by show kc + 3 + 0 ≤ 601024; omega), (by show ks + 18 + 0 ≤ 7293034; omega), Nat.le_of_ble_eq_true rfl⟩ dR.z (as := [.int (xs (i + 1))]) rfl rfl (r_lost hl 104 S hS h10 h3 h20 _ _ dR (walks_ok hS.T) (xs (i + 1))) (fun M2 hL2 hB2 => ?_)
  obtain ⟨zi1, zl1, eR, ez, eF⟩ := hB2
  have fR := cR.fr eF (by decide)
  have fg := (eF.2 135 (Or.inr (by decide))).trans cg
  have fl := eF.1
  refine el_blk (B := [(.istore 6, 2), (.aload_n 2, 1)]) (pe := 1763) (ls' := [some (.retAddr 20), some (.ref (0)), some (.ref (104)), some (.ref (135)), some (.int (nI i)), some (.int (nI (sLo S (xs (i + 1))).1)), some (.int ((sLo S (xs (i + 1))).2))]) (st' := [.ref (104)]) ⟨dL_law_1760, dL_law_1762, rfl⟩ rfl ?_
  refine el_cVv Y_X11_thrown L_RL_127 dL_law_1763 ⟨Nat.le_of_ble_eq_true rfl, Nat.le_of_ble_eq_true rfl, (by show kc + 3 + 0 + 0 ≤ 601024; omega), (by show ks + 18 + 0 + 0 ≤ 7293034; omega), Nat.le_of_ble_eq_true rfl⟩ eR.z (as := []) rfl rfl (c_R_thrown hl 104 zi1 zl1 eR.z) ?_
  rw [ez]
  refine el_blk (B := [(.iload 5, 2)]) (pe := 1768) (ls' := [some (.retAddr 20), some (.ref (0)), some (.ref (104)), some (.ref (135)), some (.int (nI i)), some (.int (nI (sLo S (xs (i + 1))).1)), some (.int ((sLo S (xs (i + 1))).2))]) (st' := [.int (nI (sLo S (xs (i + 1))).1), .int (nI (sLo S (xs (i + 1))).1)]) ⟨dL_law_1766, rfl⟩ rfl ?_
  refine el_ic_eq dL_law_1768 (tgt := 1773) (by decide) (fun q1768 => ?_) (fun q1768 => ?_)
  · refine el_blk (B := [(.iload 5, 2)]) (pe := 1775) (ls' := [some (.retAddr 20), some (.ref (0)), some (.ref (104)), some (.ref (135)), some (.int (nI i)), some (.int (nI (sLo S (xs (i + 1))).1)), some (.int ((sLo S (xs (i + 1))).2))]) (st' := [.int (nI (sLo S (xs (i + 1))).1)]) ⟨dL_law_1773, rfl⟩ rfl ?_
    refine el_if_ne dL_law_1775 (tgt := 1790) (by decide) (fun q1775 => ?_) (fun q1775 => ?_)
    · refine el_goto (tgt := 2054) dL_law_1790 (by decide) ?_
      refine el_fgt (ls' := [some (.retAddr 20), some (.ref (0)), some (.ref (104)), some (.ref (135)), some (.int (nI i)), none, none]) ⟨Or.inr rfl, Or.inr rfl, Or.inr rfl, Or.inr rfl, Or.inr rfl, Or.inl rfl, Or.inl rfl, trivial⟩ ?_
      exact el_wid (by show kc + 3 + 0 + 0 ≤ kc + 8; omega) (by show ks + 18 + 0 + 0 ≤ ks + 40; omega) (hk _ S (hS) ⟨fR, ⟨_, _, eR⟩, ⟨_, fg⟩, fl.trans (cl.trans hlen)⟩)
    · refine el_blk (B := [(.aload_n 3, 1), (.iconst 0, 1)]) (pe := 1780) (ls' := [some (.retAddr 20), some (.ref (0)), some (.ref (104)), some (.ref (135)), some (.int (nI i)), some (.int (nI (sLo S (xs (i + 1))).1)), some (.int ((sLo S (xs (i + 1))).2))]) (st' := [.int (nI 0), .ref (135)]) ⟨dL_law_1778, dL_law_1779, rfl⟩ rfl ?_
      refine el_lald dL_law_1780 fg (vp_in_nI (show 0 < 1 by omega) (by omega)) ?_
      rw [nI_clamp (show 0 < 2 ^ 31 by omega)]
      refine el_blk (B := [(.iload 6, 2), (.i2l, 1), (.lcmp, 1)]) (pe := 1785) (ls' := [some (.retAddr 20), some (.ref (0)), some (.ref (104)), some (.ref (135)), some (.int (nI i)), some (.int (nI (sLo S (xs (i + 1))).1)), some (.int ((sLo S (xs (i + 1))).2))]) (st' := [.int (lg_cmp (g1 0) (((sLo S (xs (i + 1))).2).toInt64))]) ⟨dL_law_1781, dL_law_1783, dL_law_1784, rfl⟩ rfl ?_
      refine el_lc_eq dL_law_1785 (tgt := 1790) (by decide) (fun q1785 => ?_) (fun q1785 => ?_)
      · refine el_goto (tgt := 2054) dL_law_1790 (by decide) ?_
        refine el_fgt (ls' := [some (.retAddr 20), some (.ref (0)), some (.ref (104)), some (.ref (135)), some (.int (nI i)), none, none]) ⟨Or.inr rfl, Or.inr rfl, Or.inr rfl, Or.inr rfl, Or.inr rfl, Or.inl rfl, Or.inl rfl, trivial⟩ ?_
        exact el_wid (by show kc + 3 + 0 + 0 ≤ kc + 8; omega) (by show ks + 18 + 0 + 0 ≤ ks + 40; omega) (hk _ S (hS) ⟨fR, ⟨_, _, eR⟩, ⟨_, fg⟩, fl.trans (cl.trans hlen)⟩)
      · exact absurd (cz q1775) q1785
  · exact absurd rfl q1768

set_option maxHeartbeats 4000000 in
set_option maxRecDepth 100000 in
theorem w_31 {xs : Nat → Int32} {N9 : Nat} {l : Launch} (hl : l.stackTraces = false) (hN : N9 ≤ 3072) (i : Nat) (hi : i + 6 ≤ N9) {M : ev_M} (S : St) (hS : okS S) (hLI : LI M S) (kc ks : Nat) (hkc : kc + 8 ≤ 601024) (hks : ks + 40 ≤ 7293034) (Q : ev_R → ev_M → Prop) (hk : ∀ (M1 : ev_M) (S1 : St), okS S1 → LI M1 S1 → el_ xs N9 l m_L_law (kc + 8) (ks + 40) 2054 [some (.retAddr 20), some (.ref 0), some (.ref 104), some (.ref 135), some (.int (nI i)), none, none] [] M1 Q) : el_ xs N9 l m_L_law kc ks 1793 [some (.retAddr 20), some (.ref 0), some (.ref 104), some (.ref 135), some (.int (nI i)), none, none] [] M Q := by
  obtain ⟨hR, ⟨zi, zl, hRR⟩, ⟨g, hg⟩, hlen⟩ := hLI
  have h10 : S.T.length ≤ 10 := hR.m.1
  have h3 : S.G.length ≤ 3 := hR.g.2.1
  have h20 : S.H.length ≤ 20 := by have := hR.h.2.1.2.1; rwa [hL_len] at this
  refine el_blk (B := [(.aload_n 1, 1), (.aload_n 0, 1), (.iload 4, 2), (.iconst 1, 1), (.iadd, 1)]) (pe := 1799) (ls' := [some (.retAddr 20), some (.ref (0)), some (.ref (104)), some (.ref (135)), some (.int (nI i)), none, none]) (st' := [.int (nI (i + 1)), .retAddr 20, .ref (0)]) ⟨dL_law_1793, dL_law_1794, dL_law_1795, dL_law_1797, dL_law_1798, rfl⟩ (by show some (([some (.retAddr 20), some (.ref (0)), some (.ref (104)), some (.ref (135)), some (.int (nI i)), none, none] : ev_L), ([.int ((nI i) + (nI 1)), .retAddr 20, .ref (0)] : List Value)) = _; rw [nI_add i 1]) ?_
  refine el_sld (vp_in_nI (show i + 1 < N9 by omega) (by omega)) dL_law_1799 ?_
  rw [nI_clamp (show i + 1 < 2 ^ 31 by omega)]
  refine el_blk (B := [(.aload_n 3, 1)]) (pe := 1801) (ls' := [some (.retAddr 20), some (.ref (0)), some (.ref (104)), some (.ref (135)), some (.int (nI i)), none, none]) (st' := [.ref (135), .int (xs (i + 1)), .ref (0)]) ⟨dL_law_1800, rfl⟩ rfl ?_
  refine el_cSHw YH_L_statesAfter L_RL_231 dL_law_1801 ⟨Nat.le_of_ble_eq_true rfl, Nat.le_of_ble_eq_true rfl, (by show kc + 1 ≤ 601024; omega), (by show ks + 6 ≤ 7293034; omega), Nat.le_of_ble_eq_true rfl⟩ (as := [.ref (0), .int (xs (i + 1)), .ref (135)]) rfl rfl (h_statesAfter hl S hS hR (xs (i + 1)) 135 (by decide) g hg) (fun M1 hL1 hB1 => ?_)
  obtain ⟨cR, ⟨g1, cg, cz⟩, cl, co⟩ := hB1
  have dR := RR.kept hRR (fun j h1 h2 => co j h1 (by omega))
  refine el_blk (B := [(.istore 5, 2), (.aload_n 2, 1), (.aload_n 0, 1), (.iload 4, 2), (.iconst 1, 1), (.iadd, 1)]) (pe := 1812) (ls' := [some (.retAddr 20), some (.ref (0)), some (.ref (104)), some (.ref (135)), some (.int (nI i)), some (.int (nI (sAft S (xs (i + 1))).1)), none]) (st' := [.int (nI (i + 1)), .retAddr 20, .ref (104)]) ⟨dL_law_1804, dL_law_1806, dL_law_1807, dL_law_1808, dL_law_1810, dL_law_1811, rfl⟩ (by show some (([some (.retAddr 20), some (.ref (0)), some (.ref (104)), some (.ref (135)), some (.int (nI i)), some (.int (nI (sAft S (xs (i + 1))).1)), none] : ev_L), ([.int ((nI i) + (nI 1)), .retAddr 20, .ref (104)] : List Value)) = _; rw [nI_add i 1]) ?_
  refine el_sld (vp_in_nI (show i + 1 < N9 by omega) (by omega)) dL_law_1812 ?_
  rw [nI_clamp (show i + 1 < 2 ^ 31 by omega)]
  refine el_cVw Y_X11_statesAfter L_RL_233 dL_law_1813 ⟨Nat.le_of_ble_eq_true rfl, Nat.le_of_ble_eq_true rfl, (by show kc + 1 + 0 ≤ 601024; omega), (by show ks + 6 + 0 ≤ 7293034; omega), Nat.le_of_ble_eq_true rfl⟩ dR.z (as := [.int (xs (i + 1))]) rfl rfl (r_statesAfter hl 104 S hS h10 h3 h20 _ _ dR (xs (i + 1))) (fun M2 hL2 hB2 => ?_)
  obtain ⟨zi1, zl1, eR, ez, eF⟩ := hB2
  have fR := cR.fr eF (by decide)
  have fg := (eF.2 135 (Or.inr (by decide))).trans cg
  have fl := eF.1
  refine el_blk (B := [(.istore 6, 2), (.aload_n 2, 1)]) (pe := 1819) (ls' := [some (.retAddr 20), some (.ref (0)), some (.ref (104)), some (.ref (135)), some (.int (nI i)), some (.int (nI (sAft S (xs (i + 1))).1)), some (.int ((sAft S (xs (i + 1))).2))]) (st' := [.ref (104)]) ⟨dL_law_1816, dL_law_1818, rfl⟩ rfl ?_
  refine el_cVv Y_X11_thrown L_RL_127 dL_law_1819 ⟨Nat.le_of_ble_eq_true rfl, Nat.le_of_ble_eq_true rfl, (by show kc + 1 + 0 + 0 ≤ 601024; omega), (by show ks + 6 + 0 + 0 ≤ 7293034; omega), Nat.le_of_ble_eq_true rfl⟩ eR.z (as := []) rfl rfl (c_R_thrown hl 104 zi1 zl1 eR.z) ?_
  rw [ez]
  refine el_blk (B := [(.iload 5, 2)]) (pe := 1824) (ls' := [some (.retAddr 20), some (.ref (0)), some (.ref (104)), some (.ref (135)), some (.int (nI i)), some (.int (nI (sAft S (xs (i + 1))).1)), some (.int ((sAft S (xs (i + 1))).2))]) (st' := [.int (nI (sAft S (xs (i + 1))).1), .int (nI (sAft S (xs (i + 1))).1)]) ⟨dL_law_1822, rfl⟩ rfl ?_
  refine el_ic_eq dL_law_1824 (tgt := 1829) (by decide) (fun q1824 => ?_) (fun q1824 => ?_)
  · refine el_blk (B := [(.iload 5, 2)]) (pe := 1831) (ls' := [some (.retAddr 20), some (.ref (0)), some (.ref (104)), some (.ref (135)), some (.int (nI i)), some (.int (nI (sAft S (xs (i + 1))).1)), some (.int ((sAft S (xs (i + 1))).2))]) (st' := [.int (nI (sAft S (xs (i + 1))).1)]) ⟨dL_law_1829, rfl⟩ rfl ?_
    refine el_if_ne dL_law_1831 (tgt := 1846) (by decide) (fun q1831 => ?_) (fun q1831 => ?_)
    · refine el_goto (tgt := 2054) dL_law_1846 (by decide) ?_
      refine el_fgt (ls' := [some (.retAddr 20), some (.ref (0)), some (.ref (104)), some (.ref (135)), some (.int (nI i)), none, none]) ⟨Or.inr rfl, Or.inr rfl, Or.inr rfl, Or.inr rfl, Or.inr rfl, Or.inl rfl, Or.inl rfl, trivial⟩ ?_
      exact el_wid (by show kc + 1 + 0 + 0 ≤ kc + 8; omega) (by show ks + 6 + 0 + 0 ≤ ks + 40; omega) (hk _ S (hS) ⟨fR, ⟨_, _, eR⟩, ⟨_, fg⟩, fl.trans (cl.trans hlen)⟩)
    · refine el_blk (B := [(.aload_n 3, 1), (.iconst 0, 1)]) (pe := 1836) (ls' := [some (.retAddr 20), some (.ref (0)), some (.ref (104)), some (.ref (135)), some (.int (nI i)), some (.int (nI (sAft S (xs (i + 1))).1)), some (.int ((sAft S (xs (i + 1))).2))]) (st' := [.int (nI 0), .ref (135)]) ⟨dL_law_1834, dL_law_1835, rfl⟩ rfl ?_
      refine el_lald dL_law_1836 fg (vp_in_nI (show 0 < 1 by omega) (by omega)) ?_
      rw [nI_clamp (show 0 < 2 ^ 31 by omega)]
      refine el_blk (B := [(.iload 6, 2), (.i2l, 1), (.lcmp, 1)]) (pe := 1841) (ls' := [some (.retAddr 20), some (.ref (0)), some (.ref (104)), some (.ref (135)), some (.int (nI i)), some (.int (nI (sAft S (xs (i + 1))).1)), some (.int ((sAft S (xs (i + 1))).2))]) (st' := [.int (lg_cmp (g1 0) (((sAft S (xs (i + 1))).2).toInt64))]) ⟨dL_law_1837, dL_law_1839, dL_law_1840, rfl⟩ rfl ?_
      refine el_lc_eq dL_law_1841 (tgt := 1846) (by decide) (fun q1841 => ?_) (fun q1841 => ?_)
      · refine el_goto (tgt := 2054) dL_law_1846 (by decide) ?_
        refine el_fgt (ls' := [some (.retAddr 20), some (.ref (0)), some (.ref (104)), some (.ref (135)), some (.int (nI i)), none, none]) ⟨Or.inr rfl, Or.inr rfl, Or.inr rfl, Or.inr rfl, Or.inr rfl, Or.inl rfl, Or.inl rfl, trivial⟩ ?_
        exact el_wid (by show kc + 1 + 0 + 0 ≤ kc + 8; omega) (by show ks + 6 + 0 + 0 ≤ ks + 40; omega) (hk _ S (hS) ⟨fR, ⟨_, _, eR⟩, ⟨_, fg⟩, fl.trans (cl.trans hlen)⟩)
      · exact absurd (cz q1831) q1841
  · exact absurd rfl q1824

set_option maxHeartbeats 4000000 in
set_option maxRecDepth 100000 in
theorem w_32 {xs : Nat → Int32} {N9 : Nat} {l : Launch} (hl : l.stackTraces = false) (hN : N9 ≤ 3072) (i : Nat) (hi : i + 6 ≤ N9) {M : ev_M} (S : St) (hS : okS S) (hLI : LI M S) (kc ks : Nat) (hkc : kc + 8 ≤ 601024) (hks : ks + 40 ≤ 7293034) (Q : ev_R → ev_M → Prop) (hk : ∀ (M1 : ev_M) (S1 : St), okS S1 → LI M1 S1 → el_ xs N9 l m_L_law (kc + 8) (ks + 40) 2054 [some (.retAddr 20), some (.ref 0), some (.ref 104), some (.ref 135), some (.int (nI i)), none, none] [] M1 Q) : el_ xs N9 l m_L_law kc ks 1849 [some (.retAddr 20), some (.ref 0), some (.ref 104), some (.ref 135), some (.int (nI i)), none, none] [] M Q := by
  obtain ⟨hR, ⟨zi, zl, hRR⟩, ⟨g, hg⟩, hlen⟩ := hLI
  have h10 : S.T.length ≤ 10 := hR.m.1
  have h3 : S.G.length ≤ 3 := hR.g.2.1
  have h20 : S.H.length ≤ 20 := by have := hR.h.2.1.2.1; rwa [hL_len] at this
  refine el_blk (B := [(.aload_n 1, 1), (.aload_n 0, 1), (.iload 4, 2), (.iconst 1, 1), (.iadd, 1)]) (pe := 1855) (ls' := [some (.retAddr 20), some (.ref (0)), some (.ref (104)), some (.ref (135)), some (.int (nI i)), none, none]) (st' := [.int (nI (i + 1)), .retAddr 20, .ref (0)]) ⟨dL_law_1849, dL_law_1850, dL_law_1851, dL_law_1853, dL_law_1854, rfl⟩ (by show some (([some (.retAddr 20), some (.ref (0)), some (.ref (104)), some (.ref (135)), some (.int (nI i)), none, none] : ev_L), ([.int ((nI i) + (nI 1)), .retAddr 20, .ref (0)] : List Value)) = _; rw [nI_add i 1]) ?_
  refine el_sld (vp_in_nI (show i + 1 < N9 by omega) (by omega)) dL_law_1855 ?_
  rw [nI_clamp (show i + 1 < 2 ^ 31 by omega)]
  refine el_blk (B := [(.aload_n 0, 1), (.iload 4, 2), (.iconst 2, 1), (.iadd, 1)]) (pe := 1861) (ls' := [some (.retAddr 20), some (.ref (0)), some (.ref (104)), some (.ref (135)), some (.int (nI i)), none, none]) (st' := [.int (nI (i + 2)), .retAddr 20, .int (xs (i + 1)), .ref (0)]) ⟨dL_law_1856, dL_law_1857, dL_law_1859, dL_law_1860, rfl⟩ (by show some (([some (.retAddr 20), some (.ref (0)), some (.ref (104)), some (.ref (135)), some (.int (nI i)), none, none] : ev_L), ([.int ((nI i) + (nI 2)), .retAddr 20, .int (xs (i + 1)), .ref (0)] : List Value)) = _; rw [nI_add i 2]) ?_
  refine el_sld (vp_in_nI (show i + 2 < N9 by omega) (by omega)) dL_law_1861 ?_
  rw [nI_clamp (show i + 2 < 2 ^ 31 by omega)]
  refine el_blk (B := [(.aload_n 3, 1)]) (pe := 1863) (ls' := [some (.retAddr 20), some (.ref (0)), some (.ref (104)), some (.ref (135)), some (.int (nI i)), none, none]) (st' := [.ref (135), .int (xs (i + 2)), .int (xs (i + 1)), .ref (0)]) ⟨dL_law_1862, rfl⟩ rfl ?_
  refine el_cSHw YH_L_isLast L_RL_234 dL_law_1863 ⟨Nat.le_of_ble_eq_true rfl, Nat.le_of_ble_eq_true rfl, (by show kc + 2 ≤ 601024; omega), (by show ks + 12 ≤ 7293034; omega), Nat.le_of_ble_eq_true rfl⟩ (as := [.ref (0), .int (xs (i + 1)), .int (xs (i + 2)), .ref (135)]) rfl rfl (h_isLast hl S hS hR (xs (i + 1)) (xs (i + 2)) 135 (by decide) g hg) (fun M1 hL1 hB1 => ?_)
  obtain ⟨cR, ⟨g1, cg, cz⟩, cl, co⟩ := hB1
  have dR := RR.kept hRR (fun j h1 h2 => co j h1 (by omega))
  refine el_blk (B := [(.istore 5, 2), (.aload_n 2, 1), (.aload_n 0, 1), (.iload 4, 2), (.iconst 1, 1), (.iadd, 1)]) (pe := 1874) (ls' := [some (.retAddr 20), some (.ref (0)), some (.ref (104)), some (.ref (135)), some (.int (nI i)), some (.int (nI (sLas S (xs (i + 1)) (xs (i + 2))).1)), none]) (st' := [.int (nI (i + 1)), .retAddr 20, .ref (104)]) ⟨dL_law_1866, dL_law_1868, dL_law_1869, dL_law_1870, dL_law_1872, dL_law_1873, rfl⟩ (by show some (([some (.retAddr 20), some (.ref (0)), some (.ref (104)), some (.ref (135)), some (.int (nI i)), some (.int (nI (sLas S (xs (i + 1)) (xs (i + 2))).1)), none] : ev_L), ([.int ((nI i) + (nI 1)), .retAddr 20, .ref (104)] : List Value)) = _; rw [nI_add i 1]) ?_
  refine el_sld (vp_in_nI (show i + 1 < N9 by omega) (by omega)) dL_law_1874 ?_
  rw [nI_clamp (show i + 1 < 2 ^ 31 by omega)]
  refine el_blk (B := [(.aload_n 0, 1), (.iload 4, 2), (.iconst 2, 1), (.iadd, 1)]) (pe := 1880) (ls' := [some (.retAddr 20), some (.ref (0)), some (.ref (104)), some (.ref (135)), some (.int (nI i)), some (.int (nI (sLas S (xs (i + 1)) (xs (i + 2))).1)), none]) (st' := [.int (nI (i + 2)), .retAddr 20, .int (xs (i + 1)), .ref (104)]) ⟨dL_law_1875, dL_law_1876, dL_law_1878, dL_law_1879, rfl⟩ (by show some (([some (.retAddr 20), some (.ref (0)), some (.ref (104)), some (.ref (135)), some (.int (nI i)), some (.int (nI (sLas S (xs (i + 1)) (xs (i + 2))).1)), none] : ev_L), ([.int ((nI i) + (nI 2)), .retAddr 20, .int (xs (i + 1)), .ref (104)] : List Value)) = _; rw [nI_add i 2]) ?_
  refine el_sld (vp_in_nI (show i + 2 < N9 by omega) (by omega)) dL_law_1880 ?_
  rw [nI_clamp (show i + 2 < 2 ^ 31 by omega)]
  refine el_cVw Y_X11_isLast L_RL_236 dL_law_1881 ⟨Nat.le_of_ble_eq_true rfl, Nat.le_of_ble_eq_true rfl, (by show kc + 2 + 0 ≤ 601024; omega), (by show ks + 12 + 0 ≤ 7293034; omega), Nat.le_of_ble_eq_true rfl⟩ dR.z (as := [.int (xs (i + 1)), .int (xs (i + 2))]) rfl rfl (r_isLast hl 104 S hS h10 h3 h20 _ _ dR (xs (i + 1)) (xs (i + 2))) (fun M2 hL2 hB2 => ?_)
  obtain ⟨zi1, zl1, eR, ez, eF⟩ := hB2
  have fR := cR.fr eF (by decide)
  have fg := (eF.2 135 (Or.inr (by decide))).trans cg
  have fl := eF.1
  refine el_blk (B := [(.istore 6, 2), (.aload_n 2, 1)]) (pe := 1887) (ls' := [some (.retAddr 20), some (.ref (0)), some (.ref (104)), some (.ref (135)), some (.int (nI i)), some (.int (nI (sLas S (xs (i + 1)) (xs (i + 2))).1)), some (.int ((sLas S (xs (i + 1)) (xs (i + 2))).2))]) (st' := [.ref (104)]) ⟨dL_law_1884, dL_law_1886, rfl⟩ rfl ?_
  refine el_cVv Y_X11_thrown L_RL_127 dL_law_1887 ⟨Nat.le_of_ble_eq_true rfl, Nat.le_of_ble_eq_true rfl, (by show kc + 2 + 0 + 0 ≤ 601024; omega), (by show ks + 12 + 0 + 0 ≤ 7293034; omega), Nat.le_of_ble_eq_true rfl⟩ eR.z (as := []) rfl rfl (c_R_thrown hl 104 zi1 zl1 eR.z) ?_
  rw [ez]
  refine el_blk (B := [(.iload 5, 2)]) (pe := 1892) (ls' := [some (.retAddr 20), some (.ref (0)), some (.ref (104)), some (.ref (135)), some (.int (nI i)), some (.int (nI (sLas S (xs (i + 1)) (xs (i + 2))).1)), some (.int ((sLas S (xs (i + 1)) (xs (i + 2))).2))]) (st' := [.int (nI (sLas S (xs (i + 1)) (xs (i + 2))).1), .int (nI (sLas S (xs (i + 1)) (xs (i + 2))).1)]) ⟨dL_law_1890, rfl⟩ rfl ?_
  refine el_ic_eq dL_law_1892 (tgt := 1897) (by decide) (fun q1892 => ?_) (fun q1892 => ?_)
  · refine el_blk (B := [(.iload 5, 2)]) (pe := 1899) (ls' := [some (.retAddr 20), some (.ref (0)), some (.ref (104)), some (.ref (135)), some (.int (nI i)), some (.int (nI (sLas S (xs (i + 1)) (xs (i + 2))).1)), some (.int ((sLas S (xs (i + 1)) (xs (i + 2))).2))]) (st' := [.int (nI (sLas S (xs (i + 1)) (xs (i + 2))).1)]) ⟨dL_law_1897, rfl⟩ rfl ?_
    refine el_if_ne dL_law_1899 (tgt := 1921) (by decide) (fun q1899 => ?_) (fun q1899 => ?_)
    · refine el_goto (tgt := 2054) dL_law_1921 (by decide) ?_
      refine el_fgt (ls' := [some (.retAddr 20), some (.ref (0)), some (.ref (104)), some (.ref (135)), some (.int (nI i)), none, none]) ⟨Or.inr rfl, Or.inr rfl, Or.inr rfl, Or.inr rfl, Or.inr rfl, Or.inl rfl, Or.inl rfl, trivial⟩ ?_
      exact el_wid (by show kc + 2 + 0 + 0 ≤ kc + 8; omega) (by show ks + 12 + 0 + 0 ≤ ks + 40; omega) (hk _ S (hS) ⟨fR, ⟨_, _, eR⟩, ⟨_, fg⟩, fl.trans (cl.trans hlen)⟩)
    · refine el_blk (B := [(.aload_n 3, 1), (.iconst 0, 1)]) (pe := 1904) (ls' := [some (.retAddr 20), some (.ref (0)), some (.ref (104)), some (.ref (135)), some (.int (nI i)), some (.int (nI (sLas S (xs (i + 1)) (xs (i + 2))).1)), some (.int ((sLas S (xs (i + 1)) (xs (i + 2))).2))]) (st' := [.int (nI 0), .ref (135)]) ⟨dL_law_1902, dL_law_1903, rfl⟩ rfl ?_
      refine el_lald dL_law_1904 fg (vp_in_nI (show 0 < 1 by omega) (by omega)) ?_
      rw [nI_clamp (show 0 < 2 ^ 31 by omega)]
      refine el_blk (B := [(.iload 6, 2)]) (pe := 1907) (ls' := [some (.retAddr 20), some (.ref (0)), some (.ref (104)), some (.ref (135)), some (.int (nI i)), some (.int (nI (sLas S (xs (i + 1)) (xs (i + 2))).1)), some (.int ((sLas S (xs (i + 1)) (xs (i + 2))).2))]) (st' := [.int ((sLas S (xs (i + 1)) (xs (i + 2))).2), .long (g1 0)]) ⟨dL_law_1905, rfl⟩ rfl ?_
      refine el_if_eq dL_law_1907 (tgt := 1914) (by decide) (fun q1907 => ?_) (fun q1907 => ?_)
      · refine el_blk (B := [(.lconst 0, 1), (.lcmp, 1)]) (pe := 1916) (ls' := [some (.retAddr 20), some (.ref (0)), some (.ref (104)), some (.ref (135)), some (.int (nI i)), some (.int (nI (sLas S (xs (i + 1)) (xs (i + 2))).1)), some (.int ((sLas S (xs (i + 1)) (xs (i + 2))).2))]) (st' := [.int (lg_cmp (g1 0) (0))]) ⟨dL_law_1914, dL_law_1915, rfl⟩ rfl ?_
        refine el_lc_eq dL_law_1916 (tgt := 1921) (by decide) (fun q1916 => ?_) (fun q1916 => ?_)
        · refine el_goto (tgt := 2054) dL_law_1921 (by decide) ?_
          refine el_fgt (ls' := [some (.retAddr 20), some (.ref (0)), some (.ref (104)), some (.ref (135)), some (.int (nI i)), none, none]) ⟨Or.inr rfl, Or.inr rfl, Or.inr rfl, Or.inr rfl, Or.inr rfl, Or.inl rfl, Or.inl rfl, trivial⟩ ?_
          exact el_wid (by show kc + 2 + 0 + 0 ≤ kc + 8; omega) (by show ks + 12 + 0 + 0 ≤ ks + 40; omega) (hk _ S (hS) ⟨fR, ⟨_, _, eR⟩, ⟨_, fg⟩, fl.trans (cl.trans hlen)⟩)
        · exact absurd ((cz q1899).trans (by first | exact if_pos q1907 | exact if_neg q1907)) q1916
      · refine el_blk (B := [(.lconst 1, 1)]) (pe := 1911) (ls' := [some (.retAddr 20), some (.ref (0)), some (.ref (104)), some (.ref (135)), some (.int (nI i)), some (.int (nI (sLas S (xs (i + 1)) (xs (i + 2))).1)), some (.int ((sLas S (xs (i + 1)) (xs (i + 2))).2))]) (st' := [.long (1), .long (g1 0)]) ⟨dL_law_1910, rfl⟩ rfl ?_
        refine el_goto (tgt := 1915) dL_law_1911 (by decide) ?_
        refine el_blk (B := [(.lcmp, 1)]) (pe := 1916) (ls' := [some (.retAddr 20), some (.ref (0)), some (.ref (104)), some (.ref (135)), some (.int (nI i)), some (.int (nI (sLas S (xs (i + 1)) (xs (i + 2))).1)), some (.int ((sLas S (xs (i + 1)) (xs (i + 2))).2))]) (st' := [.int (lg_cmp (g1 0) (1))]) ⟨dL_law_1915, rfl⟩ rfl ?_
        refine el_lc_eq dL_law_1916 (tgt := 1921) (by decide) (fun q1916 => ?_) (fun q1916 => ?_)
        · refine el_goto (tgt := 2054) dL_law_1921 (by decide) ?_
          refine el_fgt (ls' := [some (.retAddr 20), some (.ref (0)), some (.ref (104)), some (.ref (135)), some (.int (nI i)), none, none]) ⟨Or.inr rfl, Or.inr rfl, Or.inr rfl, Or.inr rfl, Or.inr rfl, Or.inl rfl, Or.inl rfl, trivial⟩ ?_
          exact el_wid (by show kc + 2 + 0 + 0 ≤ kc + 8; omega) (by show ks + 12 + 0 + 0 ≤ ks + 40; omega) (hk _ S (hS) ⟨fR, ⟨_, _, eR⟩, ⟨_, fg⟩, fl.trans (cl.trans hlen)⟩)
        · exact absurd ((cz q1899).trans (by first | exact if_pos q1907 | exact if_neg q1907)) q1916
  · exact absurd rfl q1892

set_option maxHeartbeats 4000000 in
set_option maxRecDepth 100000 in
theorem w_33 {xs : Nat → Int32} {N9 : Nat} {l : Launch} (hl : l.stackTraces = false) (hN : N9 ≤ 3072) (i : Nat) (hi : i + 6 ≤ N9) {M : ev_M} (S : St) (hS : okS S) (hLI : LI M S) (kc ks : Nat) (hkc : kc + 8 ≤ 601024) (hks : ks + 40 ≤ 7293034) (Q : ev_R → ev_M → Prop) (hk : ∀ (M1 : ev_M) (S1 : St), okS S1 → LI M1 S1 → el_ xs N9 l m_L_law (kc + 8) (ks + 40) 2054 [some (.retAddr 20), some (.ref 0), some (.ref 104), some (.ref 135), some (.int (nI i)), none, none] [] M1 Q) : el_ xs N9 l m_L_law kc ks 1924 [some (.retAddr 20), some (.ref 0), some (.ref 104), some (.ref 135), some (.int (nI i)), none, none] [] M Q := by
  obtain ⟨hR, ⟨zi, zl, hRR⟩, ⟨g, hg⟩, hlen⟩ := hLI
  have h10 : S.T.length ≤ 10 := hR.m.1
  have h3 : S.G.length ≤ 3 := hR.g.2.1
  have h20 : S.H.length ≤ 20 := by have := hR.h.2.1.2.1; rwa [hL_len] at this
  refine el_blk (B := [(.aload_n 1, 1), (.aload_n 0, 1), (.iload 4, 2), (.iconst 1, 1), (.iadd, 1)]) (pe := 1930) (ls' := [some (.retAddr 20), some (.ref (0)), some (.ref (104)), some (.ref (135)), some (.int (nI i)), none, none]) (st' := [.int (nI (i + 1)), .retAddr 20, .ref (0)]) ⟨dL_law_1924, dL_law_1925, dL_law_1926, dL_law_1928, dL_law_1929, rfl⟩ (by show some (([some (.retAddr 20), some (.ref (0)), some (.ref (104)), some (.ref (135)), some (.int (nI i)), none, none] : ev_L), ([.int ((nI i) + (nI 1)), .retAddr 20, .ref (0)] : List Value)) = _; rw [nI_add i 1]) ?_
  refine el_sld (vp_in_nI (show i + 1 < N9 by omega) (by omega)) dL_law_1930 ?_
  rw [nI_clamp (show i + 1 < 2 ^ 31 by omega)]
  refine el_blk (B := [(.i2c, 1)]) (pe := 1932) (ls' := [some (.retAddr 20), some (.ref (0)), some (.ref (104)), some (.ref (135)), some (.int (nI i)), none, none]) (st' := [.int (((xs (i + 1)).toUInt32 % 65536).toInt32), .ref (0)]) ⟨dL_law_1931, rfl⟩ rfl ?_
  rw [cc_n (xs (i + 1))]
  refine el_cSHw YH_L_append L_RL_237 dL_law_1932 ⟨Nat.le_of_ble_eq_true rfl, Nat.le_of_ble_eq_true rfl, (by show kc + 1 ≤ 601024; omega), (by show ks + 6 ≤ 7293034; omega), Nat.le_of_ble_eq_true rfl⟩ (as := [.ref (0), .int (nI (cc (xs (i + 1))))]) rfl rfl (h_append hl S hS hR (cc (xs (i + 1))) (cc_lt _)) (fun M1 hL1 hB1 => ?_)
  obtain ⟨cR, cF⟩ := hB1
  have dR := RR.kept hRR (fun j h1 h2 => cF.2 j (Or.inr h1))
  have cg := (cF.2 135 (Or.inr (by decide))).trans hg
  have cl := cF.1
  refine el_blk (B := [(.istore 5, 2), (.aload_n 2, 1), (.aload_n 0, 1), (.iload 4, 2), (.iconst 1, 1), (.iadd, 1)]) (pe := 1943) (ls' := [some (.retAddr 20), some (.ref (0)), some (.ref (104)), some (.ref (135)), some (.int (nI i)), some (.int (nI (sApp S (cc (xs (i + 1)))).1)), none]) (st' := [.int (nI (i + 1)), .retAddr 20, .ref (104)]) ⟨dL_law_1935, dL_law_1937, dL_law_1938, dL_law_1939, dL_law_1941, dL_law_1942, rfl⟩ (by show some (([some (.retAddr 20), some (.ref (0)), some (.ref (104)), some (.ref (135)), some (.int (nI i)), some (.int (nI (sApp S (cc (xs (i + 1)))).1)), none] : ev_L), ([.int ((nI i) + (nI 1)), .retAddr 20, .ref (104)] : List Value)) = _; rw [nI_add i 1]) ?_
  refine el_sld (vp_in_nI (show i + 1 < N9 by omega) (by omega)) dL_law_1943 ?_
  rw [nI_clamp (show i + 1 < 2 ^ 31 by omega)]
  refine el_blk (B := [(.i2c, 1)]) (pe := 1945) (ls' := [some (.retAddr 20), some (.ref (0)), some (.ref (104)), some (.ref (135)), some (.int (nI i)), some (.int (nI (sApp S (cc (xs (i + 1)))).1)), none]) (st' := [.int (((xs (i + 1)).toUInt32 % 65536).toInt32), .ref (104)]) ⟨dL_law_1944, rfl⟩ rfl ?_
  rw [cc_n (xs (i + 1))]
  refine el_cVn Y_X11_append L_RL_240 dL_law_1945 ⟨Nat.le_of_ble_eq_true rfl, Nat.le_of_ble_eq_true rfl, (by show kc + 1 + 0 ≤ 601024; omega), (by show ks + 6 + 0 ≤ 7293034; omega), Nat.le_of_ble_eq_true rfl⟩ dR.z (as := [.int (nI (cc (xs (i + 1))))]) rfl rfl (r_append hl 104 S hS h10 h3 h20 _ _ dR (cc (xs (i + 1))) (cc_lt _)) (fun M2 hL2 hB2 => ?_)
  obtain ⟨zi1, zl1, eR, ez, eF⟩ := hB2
  have fR := cR.fr eF (by decide)
  have fg := (eF.2 135 (Or.inr (by decide))).trans cg
  have fl := eF.1
  refine el_blk (B := [(.aload_n 2, 1)]) (pe := 1949) (ls' := [some (.retAddr 20), some (.ref (0)), some (.ref (104)), some (.ref (135)), some (.int (nI i)), some (.int (nI (sApp S (cc (xs (i + 1)))).1)), none]) (st' := [.ref (104)]) ⟨dL_law_1948, rfl⟩ rfl ?_
  refine el_cVv Y_X11_thrown L_RL_127 dL_law_1949 ⟨Nat.le_of_ble_eq_true rfl, Nat.le_of_ble_eq_true rfl, (by show kc + 1 + 0 + 0 ≤ 601024; omega), (by show ks + 6 + 0 + 0 ≤ 7293034; omega), Nat.le_of_ble_eq_true rfl⟩ eR.z (as := []) rfl rfl (c_R_thrown hl 104 zi1 zl1 eR.z) ?_
  rw [ez]
  refine el_blk (B := [(.iload 5, 2)]) (pe := 1954) (ls' := [some (.retAddr 20), some (.ref (0)), some (.ref (104)), some (.ref (135)), some (.int (nI i)), some (.int (nI (sApp S (cc (xs (i + 1)))).1)), none]) (st' := [.int (nI (sApp S (cc (xs (i + 1)))).1), .int (nI (sApp S (cc (xs (i + 1)))).1)]) ⟨dL_law_1952, rfl⟩ rfl ?_
  refine el_ic_eq dL_law_1954 (tgt := 1959) (by decide) (fun q1954 => ?_) (fun q1954 => ?_)
  · refine el_goto (tgt := 2054) dL_law_1959 (by decide) ?_
    refine el_fgt (ls' := [some (.retAddr 20), some (.ref (0)), some (.ref (104)), some (.ref (135)), some (.int (nI i)), none, none]) ⟨Or.inr rfl, Or.inr rfl, Or.inr rfl, Or.inr rfl, Or.inr rfl, Or.inl rfl, Or.inl rfl, trivial⟩ ?_
    exact el_wid (by show kc + 1 + 0 + 0 ≤ kc + 8; omega) (by show ks + 6 + 0 + 0 ≤ ks + 40; omega) (hk _ ((sApp S (cc (xs (i + 1)))).2) (k_App hS (cc_lt (xs (i + 1)))) ⟨fR, ⟨_, _, eR⟩, ⟨_, fg⟩, fl.trans (cl.trans hlen)⟩)
  · exact absurd rfl q1954

set_option maxHeartbeats 4000000 in
set_option maxRecDepth 100000 in
theorem w_34 {xs : Nat → Int32} {N9 : Nat} {l : Launch} (hl : l.stackTraces = false) (hN : N9 ≤ 3072) (i : Nat) (hi : i + 6 ≤ N9) {M : ev_M} (S : St) (hS : okS S) (hLI : LI M S) (kc ks : Nat) (hkc : kc + 8 ≤ 601024) (hks : ks + 40 ≤ 7293034) (Q : ev_R → ev_M → Prop) (hk : ∀ (M1 : ev_M) (S1 : St), okS S1 → LI M1 S1 → el_ xs N9 l m_L_law (kc + 8) (ks + 40) 2054 [some (.retAddr 20), some (.ref 0), some (.ref 104), some (.ref 135), some (.int (nI i)), none, none] [] M1 Q) : el_ xs N9 l m_L_law kc ks 1962 [some (.retAddr 20), some (.ref 0), some (.ref 104), some (.ref 135), some (.int (nI i)), none, none] [] M Q := by
  obtain ⟨hR, ⟨zi, zl, hRR⟩, ⟨g, hg⟩, hlen⟩ := hLI
  have h10 : S.T.length ≤ 10 := hR.m.1
  have h3 : S.G.length ≤ 3 := hR.g.2.1
  have h20 : S.H.length ≤ 20 := by have := hR.h.2.1.2.1; rwa [hL_len] at this
  refine el_blk (B := [(.aload_n 1, 1), (.aload_n 3, 1)]) (pe := 1964) (ls' := [some (.retAddr 20), some (.ref (0)), some (.ref (104)), some (.ref (135)), some (.int (nI i)), none, none]) (st' := [.ref (135), .ref (0)]) ⟨dL_law_1962, dL_law_1963, rfl⟩ rfl ?_
  refine el_cSHw YH_L_read L_RL_241 dL_law_1964 ⟨Nat.le_of_ble_eq_true rfl, Nat.le_of_ble_eq_true rfl, (by show kc + 2 ≤ 601024; omega), (by show ks + 12 ≤ 7293034; omega), Nat.le_of_ble_eq_true rfl⟩ (as := [.ref (0), .ref (135)]) rfl rfl (h_read hl S hS hR  135 (by decide) g hg) (fun M1 hL1 hB1 => ?_)
  obtain ⟨cR, ⟨g1, cg, cz⟩, cl, co⟩ := hB1
  have dR := RR.kept hRR (fun j h1 h2 => co j h1 (by omega))
  refine el_blk (B := [(.istore 5, 2), (.aload_n 2, 1)]) (pe := 1970) (ls' := [some (.retAddr 20), some (.ref (0)), some (.ref (104)), some (.ref (135)), some (.int (nI i)), some (.int (nI (sRea S).1.1)), none]) (st' := [.ref (104)]) ⟨dL_law_1967, dL_law_1969, rfl⟩ rfl ?_
  refine el_cVw Y_X11_read L_RL_243 dL_law_1970 ⟨Nat.le_of_ble_eq_true rfl, Nat.le_of_ble_eq_true rfl, (by show kc + 2 + 0 ≤ 601024; omega), (by show ks + 12 + 0 ≤ 7293034; omega), Nat.le_of_ble_eq_true rfl⟩ dR.z (as := []) rfl rfl (r_read hl 104 S hS h10 h3 h20 _ _ dR) (fun M2 hL2 hB2 => ?_)
  obtain ⟨zi1, zl1, eR, ez, eF⟩ := hB2
  have fR := cR.fr eF (by decide)
  have fg := (eF.2 135 (Or.inr (by decide))).trans cg
  have fl := eF.1
  refine el_blk (B := [(.istore 6, 2), (.aload_n 2, 1)]) (pe := 1976) (ls' := [some (.retAddr 20), some (.ref (0)), some (.ref (104)), some (.ref (135)), some (.int (nI i)), some (.int (nI (sRea S).1.1)), some (.int ((sRea S).1.2))]) (st' := [.ref (104)]) ⟨dL_law_1973, dL_law_1975, rfl⟩ rfl ?_
  refine el_cVv Y_X11_thrown L_RL_127 dL_law_1976 ⟨Nat.le_of_ble_eq_true rfl, Nat.le_of_ble_eq_true rfl, (by show kc + 2 + 0 + 0 ≤ 601024; omega), (by show ks + 12 + 0 + 0 ≤ 7293034; omega), Nat.le_of_ble_eq_true rfl⟩ eR.z (as := []) rfl rfl (c_R_thrown hl 104 zi1 zl1 eR.z) ?_
  rw [ez]
  refine el_blk (B := [(.iload 5, 2)]) (pe := 1981) (ls' := [some (.retAddr 20), some (.ref (0)), some (.ref (104)), some (.ref (135)), some (.int (nI i)), some (.int (nI (sRea S).1.1)), some (.int ((sRea S).1.2))]) (st' := [.int (nI (sRea S).1.1), .int (nI (sRea S).1.1)]) ⟨dL_law_1979, rfl⟩ rfl ?_
  refine el_ic_eq dL_law_1981 (tgt := 1986) (by decide) (fun q1981 => ?_) (fun q1981 => ?_)
  · refine el_blk (B := [(.iload 5, 2)]) (pe := 1988) (ls' := [some (.retAddr 20), some (.ref (0)), some (.ref (104)), some (.ref (135)), some (.int (nI i)), some (.int (nI (sRea S).1.1)), some (.int ((sRea S).1.2))]) (st' := [.int (nI (sRea S).1.1)]) ⟨dL_law_1986, rfl⟩ rfl ?_
    refine el_if_ne dL_law_1988 (tgt := 2003) (by decide) (fun q1988 => ?_) (fun q1988 => ?_)
    · refine el_goto (tgt := 2054) dL_law_2003 (by decide) ?_
      refine el_fgt (ls' := [some (.retAddr 20), some (.ref (0)), some (.ref (104)), some (.ref (135)), some (.int (nI i)), none, none]) ⟨Or.inr rfl, Or.inr rfl, Or.inr rfl, Or.inr rfl, Or.inr rfl, Or.inl rfl, Or.inl rfl, trivial⟩ ?_
      exact el_wid (by show kc + 2 + 0 + 0 ≤ kc + 8; omega) (by show ks + 12 + 0 + 0 ≤ ks + 40; omega) (hk _ ((sRea S).2) (k_Rea hS) ⟨fR, ⟨_, _, eR⟩, ⟨_, fg⟩, fl.trans (cl.trans hlen)⟩)
    · refine el_blk (B := [(.aload_n 3, 1), (.iconst 0, 1)]) (pe := 1993) (ls' := [some (.retAddr 20), some (.ref (0)), some (.ref (104)), some (.ref (135)), some (.int (nI i)), some (.int (nI (sRea S).1.1)), some (.int ((sRea S).1.2))]) (st' := [.int (nI 0), .ref (135)]) ⟨dL_law_1991, dL_law_1992, rfl⟩ rfl ?_
      refine el_lald dL_law_1993 fg (vp_in_nI (show 0 < 1 by omega) (by omega)) ?_
      rw [nI_clamp (show 0 < 2 ^ 31 by omega)]
      refine el_blk (B := [(.iload 6, 2), (.i2l, 1), (.lcmp, 1)]) (pe := 1998) (ls' := [some (.retAddr 20), some (.ref (0)), some (.ref (104)), some (.ref (135)), some (.int (nI i)), some (.int (nI (sRea S).1.1)), some (.int ((sRea S).1.2))]) (st' := [.int (lg_cmp (g1 0) (((sRea S).1.2).toInt64))]) ⟨dL_law_1994, dL_law_1996, dL_law_1997, rfl⟩ rfl ?_
      refine el_lc_eq dL_law_1998 (tgt := 2003) (by decide) (fun q1998 => ?_) (fun q1998 => ?_)
      · refine el_goto (tgt := 2054) dL_law_2003 (by decide) ?_
        refine el_fgt (ls' := [some (.retAddr 20), some (.ref (0)), some (.ref (104)), some (.ref (135)), some (.int (nI i)), none, none]) ⟨Or.inr rfl, Or.inr rfl, Or.inr rfl, Or.inr rfl, Or.inr rfl, Or.inl rfl, Or.inl rfl, trivial⟩ ?_
        exact el_wid (by show kc + 2 + 0 + 0 ≤ kc + 8; omega) (by show ks + 12 + 0 + 0 ≤ ks + 40; omega) (hk _ ((sRea S).2) (k_Rea hS) ⟨fR, ⟨_, _, eR⟩, ⟨_, fg⟩, fl.trans (cl.trans hlen)⟩)
      · exact absurd (cz q1988) q1998
  · exact absurd rfl q1981

set_option maxHeartbeats 4000000 in
set_option maxRecDepth 100000 in
theorem w_35 {xs : Nat → Int32} {N9 : Nat} {l : Launch} (hl : l.stackTraces = false) (hN : N9 ≤ 3072) (i : Nat) (hi : i + 6 ≤ N9) {M : ev_M} (S : St) (hS : okS S) (hLI : LI M S) (kc ks : Nat) (hkc : kc + 8 ≤ 601024) (hks : ks + 40 ≤ 7293034) (Q : ev_R → ev_M → Prop) (hk : ∀ (M1 : ev_M) (S1 : St), okS S1 → LI M1 S1 → el_ xs N9 l m_L_law (kc + 8) (ks + 40) 2054 [some (.retAddr 20), some (.ref 0), some (.ref 104), some (.ref 135), some (.int (nI i)), none, none] [] M1 Q) : el_ xs N9 l m_L_law kc ks 2006 [some (.retAddr 20), some (.ref 0), some (.ref 104), some (.ref 135), some (.int (nI i)), none, none] [] M Q := by
  obtain ⟨hR, ⟨zi, zl, hRR⟩, ⟨g, hg⟩, hlen⟩ := hLI
  have h10 : S.T.length ≤ 10 := hR.m.1
  have h3 : S.G.length ≤ 3 := hR.g.2.1
  have h20 : S.H.length ≤ 20 := by have := hR.h.2.1.2.1; rwa [hL_len] at this
  refine el_blk (B := [(.aload_n 1, 1)]) (pe := 2007) (ls' := [some (.retAddr 20), some (.ref (0)), some (.ref (104)), some (.ref (135)), some (.int (nI i)), none, none]) (st' := [.ref (0)]) ⟨dL_law_2006, rfl⟩ rfl ?_
  refine el_cVw Y_X10_faultPosition L_RL_244 dL_law_2007 ⟨Nat.le_of_ble_eq_true rfl, Nat.le_of_ble_eq_true rfl, (by show kc + 0 ≤ 601024; omega), (by show ks + 0 ≤ 7293034; omega), Nat.le_of_ble_eq_true rfl⟩ hR.1 (as := []) rfl rfl ((c_X10_faultPosition hl S hS hR  : ev_Mt l m_X10_faultPosition _ _ (fun r M1 => r = .inl (some (.int (sFau S).2)) ∧ RCl M1 S ∧ Fr 0 104 _ M1))) (fun M1 hL1 hB1 => ?_)
  obtain ⟨cR, cF⟩ := hB1
  have dR := RR.kept hRR (fun j h1 h2 => cF.2 j (Or.inr h1))
  have cg := (cF.2 135 (Or.inr (by decide))).trans hg
  have cl := cF.1
  refine el_blk (B := [(.aload_n 2, 1)]) (pe := 2011) (ls' := [some (.retAddr 20), some (.ref (0)), some (.ref (104)), some (.ref (135)), some (.int (nI i)), none, none]) (st' := [.ref (104), .int ((sFau S).2)]) ⟨dL_law_2010, rfl⟩ rfl ?_
  refine el_cVw Y_X11_faultPosition L_RL_247 dL_law_2011 ⟨Nat.le_of_ble_eq_true rfl, Nat.le_of_ble_eq_true rfl, (by show kc + 0 + 0 ≤ 601024; omega), (by show ks + 0 + 0 ≤ 7293034; omega), Nat.le_of_ble_eq_true rfl⟩ dR.z (as := []) rfl rfl (r_faultPosition hl 104 S hS h10 h3 h20 _ _ dR) (fun M2 hL2 hB2 => ?_)
  obtain ⟨zi1, zl1, eR, ez, eF⟩ := hB2
  have fR := cR.fr eF (by decide)
  have fg := (eF.2 135 (Or.inr (by decide))).trans cg
  have fl := eF.1
  refine el_ic_eq dL_law_2014 (tgt := 2054) (by decide) (fun q2014 => ?_) (fun q2014 => ?_)
  · exact el_wid (by show kc + 0 + 0 ≤ kc + 8; omega) (by show ks + 0 + 0 ≤ ks + 40; omega) (hk _ S (hS) ⟨fR, ⟨_, _, eR⟩, ⟨_, fg⟩, fl.trans (cl.trans hlen)⟩)
  · exact absurd rfl q2014

set_option maxHeartbeats 4000000 in
set_option maxRecDepth 100000 in
theorem w_36 {xs : Nat → Int32} {N9 : Nat} {l : Launch} (hl : l.stackTraces = false) (hN : N9 ≤ 3072) (i : Nat) (hi : i + 6 ≤ N9) {M : ev_M} (S : St) (hS : okS S) (hLI : LI M S) (kc ks : Nat) (hkc : kc + 8 ≤ 601024) (hks : ks + 40 ≤ 7293034) (Q : ev_R → ev_M → Prop) (hk : ∀ (M1 : ev_M) (S1 : St), okS S1 → LI M1 S1 → el_ xs N9 l m_L_law (kc + 8) (ks + 40) 2054 [some (.retAddr 20), some (.ref 0), some (.ref 104), some (.ref 135), some (.int (nI i)), none, none] [] M1 Q) : el_ xs N9 l m_L_law kc ks 2019 [some (.retAddr 20), some (.ref 0), some (.ref 104), some (.ref 135), some (.int (nI i)), none, none] [] M Q := by
  obtain ⟨hR, ⟨zi, zl, hRR⟩, ⟨g, hg⟩, hlen⟩ := hLI
  have h10 : S.T.length ≤ 10 := hR.m.1
  have h3 : S.G.length ≤ 3 := hR.g.2.1
  have h20 : S.H.length ≤ 20 := by have := hR.h.2.1.2.1; rwa [hL_len] at this
  refine el_blk (B := [(.aload_n 1, 1)]) (pe := 2020) (ls' := [some (.retAddr 20), some (.ref (0)), some (.ref (104)), some (.ref (135)), some (.int (nI i)), none, none]) (st' := [.ref (0)]) ⟨dL_law_2019, rfl⟩ rfl ?_
  refine el_cVn Y_X10_save L_RL_248 dL_law_2020 ⟨Nat.le_of_ble_eq_true rfl, Nat.le_of_ble_eq_true rfl, (by show kc + 0 ≤ 601024; omega), (by show ks + 0 ≤ 7293034; omega), Nat.le_of_ble_eq_true rfl⟩ hR.1 (as := []) rfl rfl (c_X10_save hl S hS hR) (fun M1 hL1 hB1 => ?_)
  obtain ⟨cR, cF⟩ := hB1
  have dR := RR.kept hRR (fun j h1 h2 => cF.2 j (Or.inr h1))
  have cg := (cF.2 135 (Or.inr (by decide))).trans hg
  have cl := cF.1
  refine el_blk (B := [(.aload_n 2, 1)]) (pe := 2024) (ls' := [some (.retAddr 20), some (.ref (0)), some (.ref (104)), some (.ref (135)), some (.int (nI i)), none, none]) (st' := [.ref (104)]) ⟨dL_law_2023, rfl⟩ rfl ?_
  refine el_cVn Y_X11_save L_RL_251 dL_law_2024 ⟨Nat.le_of_ble_eq_true rfl, Nat.le_of_ble_eq_true rfl, (by show kc + 0 + 0 ≤ 601024; omega), (by show ks + 0 + 0 ≤ 7293034; omega), Nat.le_of_ble_eq_true rfl⟩ dR.z (as := []) rfl rfl (r_save hl 104 S hS h10 h3 h20 _ _ dR) (fun M2 hL2 hB2 => ?_)
  obtain ⟨zi1, zl1, eR, ez, eF⟩ := hB2
  have fR := cR.fr eF (by decide)
  have fg := (eF.2 135 (Or.inr (by decide))).trans cg
  have fl := eF.1
  refine el_goto (tgt := 2054) dL_law_2027 (by decide) ?_
  exact el_wid (by show kc + 0 + 0 ≤ kc + 8; omega) (by show ks + 0 + 0 ≤ ks + 40; omega) (hk _ (sSav S) (k_Sav hS h10 h3) ⟨fR, ⟨_, _, eR⟩, ⟨_, fg⟩, fl.trans (cl.trans hlen)⟩)

set_option maxHeartbeats 4000000 in
set_option maxRecDepth 100000 in
theorem w_37 {xs : Nat → Int32} {N9 : Nat} {l : Launch} (hl : l.stackTraces = false) (hN : N9 ≤ 3072) (i : Nat) (hi : i + 6 ≤ N9) {M : ev_M} (S : St) (hS : okS S) (hLI : LI M S) (kc ks : Nat) (hkc : kc + 8 ≤ 601024) (hks : ks + 40 ≤ 7293034) (Q : ev_R → ev_M → Prop) (hk : ∀ (M1 : ev_M) (S1 : St), okS S1 → LI M1 S1 → el_ xs N9 l m_L_law (kc + 8) (ks + 40) 2054 [some (.retAddr 20), some (.ref 0), some (.ref 104), some (.ref 135), some (.int (nI i)), none, none] [] M1 Q) : el_ xs N9 l m_L_law kc ks 2030 [some (.retAddr 20), some (.ref 0), some (.ref 104), some (.ref 135), some (.int (nI i)), none, none] [] M Q := by
  obtain ⟨hR, ⟨zi, zl, hRR⟩, ⟨g, hg⟩, hlen⟩ := hLI
  have h10 : S.T.length ≤ 10 := hR.m.1
  have h3 : S.G.length ≤ 3 := hR.g.2.1
  have h20 : S.H.length ≤ 20 := by have := hR.h.2.1.2.1; rwa [hL_len] at this
  refine el_blk (B := [(.aload_n 1, 1)]) (pe := 2031) (ls' := [some (.retAddr 20), some (.ref (0)), some (.ref (104)), some (.ref (135)), some (.int (nI i)), none, none]) (st' := [.ref (0)]) ⟨dL_law_2030, rfl⟩ rfl ?_
  refine el_cSHw YH_L_restore L_RL_252 dL_law_2031 ⟨Nat.le_of_ble_eq_true rfl, Nat.le_of_ble_eq_true rfl, (by show kc + 1 ≤ 601024; omega), (by show ks + 6 ≤ 7293034; omega), Nat.le_of_ble_eq_true rfl⟩ (as := [.ref (0)]) rfl rfl (h_restore hl S hS hR ) (fun M1 hL1 hB1 => ?_)
  obtain ⟨cR, cF⟩ := hB1
  have dR := RR.kept hRR (fun j h1 h2 => cF.2 j (Or.inr h1))
  have cg := (cF.2 135 (Or.inr (by decide))).trans hg
  have cl := cF.1
  refine el_blk (B := [(.istore 5, 2), (.aload_n 2, 1)]) (pe := 2037) (ls' := [some (.retAddr 20), some (.ref (0)), some (.ref (104)), some (.ref (135)), some (.int (nI i)), some (.int (nI (sRes S).1)), none]) (st' := [.ref (104)]) ⟨dL_law_2034, dL_law_2036, rfl⟩ rfl ?_
  refine el_cVn Y_X11_restore L_RL_255 dL_law_2037 ⟨Nat.le_of_ble_eq_true rfl, Nat.le_of_ble_eq_true rfl, (by show kc + 1 + 0 ≤ 601024; omega), (by show ks + 6 + 0 ≤ 7293034; omega), Nat.le_of_ble_eq_true rfl⟩ dR.z (as := []) rfl rfl (r_restore hl 104 S hS h10 h3 h20 _ _ dR) (fun M2 hL2 hB2 => ?_)
  obtain ⟨zi1, zl1, eR, ez, eF⟩ := hB2
  have fR := cR.fr eF (by decide)
  have fg := (eF.2 135 (Or.inr (by decide))).trans cg
  have fl := eF.1
  refine el_blk (B := [(.aload_n 2, 1)]) (pe := 2041) (ls' := [some (.retAddr 20), some (.ref (0)), some (.ref (104)), some (.ref (135)), some (.int (nI i)), some (.int (nI (sRes S).1)), none]) (st' := [.ref (104)]) ⟨dL_law_2040, rfl⟩ rfl ?_
  refine el_cVv Y_X11_thrown L_RL_127 dL_law_2041 ⟨Nat.le_of_ble_eq_true rfl, Nat.le_of_ble_eq_true rfl, (by show kc + 1 + 0 + 0 ≤ 601024; omega), (by show ks + 6 + 0 + 0 ≤ 7293034; omega), Nat.le_of_ble_eq_true rfl⟩ eR.z (as := []) rfl rfl (c_R_thrown hl 104 zi1 zl1 eR.z) ?_
  rw [ez]
  refine el_blk (B := [(.iload 5, 2)]) (pe := 2046) (ls' := [some (.retAddr 20), some (.ref (0)), some (.ref (104)), some (.ref (135)), some (.int (nI i)), some (.int (nI (sRes S).1)), none]) (st' := [.int (nI (sRes S).1), .int (nI (sRes S).1)]) ⟨dL_law_2044, rfl⟩ rfl ?_
  refine el_ic_eq dL_law_2046 (tgt := 2051) (by decide) (fun q2046 => ?_) (fun q2046 => ?_)
  · refine el_goto (tgt := 2054) dL_law_2051 (by decide) ?_
    refine el_fgt (ls' := [some (.retAddr 20), some (.ref (0)), some (.ref (104)), some (.ref (135)), some (.int (nI i)), none, none]) ⟨Or.inr rfl, Or.inr rfl, Or.inr rfl, Or.inr rfl, Or.inr rfl, Or.inl rfl, Or.inl rfl, trivial⟩ ?_
    exact el_wid (by show kc + 1 + 0 + 0 ≤ kc + 8; omega) (by show ks + 6 + 0 + 0 ≤ ks + 40; omega) (hk _ ((sRes S).2) (k_Res hS) ⟨fR, ⟨_, _, eR⟩, ⟨_, fg⟩, fl.trans (cl.trans hlen)⟩)
  · exact absurd rfl q2046

