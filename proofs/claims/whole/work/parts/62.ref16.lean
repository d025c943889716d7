/-! ===== the reference: what it answers of the analysis ===== -/
theorem gate_c (S : St) : (gate S = 0 ∧ 0 < S.G.length ∧ (rn S.T S.G).1 = true) ∨ ¬ gate S = 0 := by
  by_cases h : S.G.length = 0
  · exact Or.inr (fun z => by unfold gate at z; rw [if_pos h] at z; cases z)
  · by_cases c : (rn S.T S.G).1 = true
    · exact Or.inl ⟨by unfold gate; rw [if_neg h, if_pos c], by omega, c⟩
    · exact Or.inr (fun z => by unfold gate at z; rw [if_neg h, if_neg c] at z; cases z)
theorem gt_n {S : St} {p : Nat × Int32} (h : ¬ gate S = 0) : gt S p = (gate S, 0) := by
  unfold gt
  cases q : gate S with
  | zero => exact absurd q h
  | succ k => rfl
theorem gt_z {S : St} {p : Nat × Int32} (h : gate S = 0) : gt S p = p := by
  unfold gt; rw [h]
theorem gate_1 {S : St} (h : S.G.length = 0) : gate S = 1 := if_pos h
theorem gate_2 {S : St} (h : S.G.length ≠ 0) (c : (rn S.T S.G).1 = false) : gate S = 2 := (if_neg h).trans (if_neg (by rw [c]; decide))
theorem gate_0 {S : St} (h : S.G.length ≠ 0) (c : (rn S.T S.G).1 = true) : gate S = 0 := (if_neg h).trans (if_pos c)
theorem rl_lt {T : List Tr} {G : List Cf} : ∀ (n k la : Nat), (rl T G n k la).1 = true → (rl T G n k la).2 < k + n ∧ k ≤ (rl T G n k la).2 ∧ ∀ j, k ≤ j → j ≤ (rl T G n k la).2 → (bl T G j).length ≤ 30
  | 0, k, la, h => by cases h
  | n + 1, k, la, h => by
    have e : rl T G (n + 1) k la = if (bl T G k).length ≤ 30 then (if chg T G (k + 1) then rl T G n (k + 1) k else (true, k)) else (false, la) := rfl
    rw [e] at h ⊢
    by_cases h1 : (bl T G k).length ≤ 30
    · rw [if_pos h1] at h ⊢
      by_cases h2 : chg T G (k + 1) = true
      · rw [if_pos h2] at h ⊢
        obtain ⟨a1, a2, a3⟩ := rl_lt n (k + 1) k h
        refine ⟨by omega, by omega, fun j hj1 hj2 => ?_⟩
        by_cases e : j = k
        · subst e; exact h1
        · exact a3 j (by omega) hj2
      · rw [if_neg h2]
        exact ⟨by show k < _; omega, Nat.le_refl _, fun j hj1 hj2 => by have : j = k := Nat.le_antisymm hj2 hj1; subst this; exact h1⟩
    · rw [if_neg h1] at h; cases h
theorem La_lt {S : St} (h : (rn S.T S.G).1 = true) : La S < 13 ∧ ∀ j, j ≤ La S → (bl S.T S.G j).length ≤ 30 := by
  obtain ⟨a1, a2, a3⟩ := rl_lt (T := S.T) (G := S.G) 13 0 0 h
  exact ⟨by unfold La; show (rl S.T S.G 13 0 0).2 < 13; omega, fun j hj => a3 j (Nat.zero_le _) hj⟩
set_option maxHeartbeats 4000000 in
set_option maxRecDepth 100000 in
theorem c_R_isAnalyzed {l : Launch} (hl : l.stackTraces = false) {M : ev_M} (o : Nat) (S : St) (hS : okS S) (hT10 : S.T.length ≤ 10) (hG3 : S.G.length ≤ 3) (zi : Nat → Int32) (zl : Nat → Int64) (hR : RR M o S zi zl) : ev_Mt l m_X11_isAnalyzed [.ref (o)] M (fun r M1 => r = .inl (some (.int (ev_b (decide (gate S = 0))))) ∧ ∃ zi', RR M1 o S zi' zl ∧ zi' 0 = nI (gate S) ∧ (gate S = 0 → zi' 30 = ev_b true) ∧ (∀ j, j ≠ 0 → j ≠ 28 → j ≠ 29 → j ≠ 30 → j ≠ 31 → zi' j = zi j) ∧ FX o (o + 11) (o + 18) M M1) := by
  refine ev_body hl rfl (by decide +kernel) (Nat.le_of_ble_eq_true rfl) ?_
  show ev_ l m_X11_isAnalyzed 0 0 0 [some (.ref (o))] [] M _
  refine ev_blk (B := [(.aload_n 0, 1), (.aload_n 0, 1)]) (pe := 2) (ls' := [some (.ref (o))]) (st' := [.ref (o), .ref (o)]) ⟨dX11_isAnalyzed_0, dX11_isAnalyzed_1, rfl⟩ rfl ?_
  refine ev_getf (v := .int (nI (S.G.length))) F_RX11_225 dX11_isAnalyzed_2 hR.z (congrArg (fun q => some (Value.int q)) hR.p.2.2.2.2.2.1) ?_
  refine ev_fN_ne dX11_isAnalyzed_5 (tgt := 12) (by decide) (by omega) (fun q5 => ?_) (fun q5 => ?_)
  · refine ev_blk (B := [(.iconst 0, 1)]) (pe := 13) (ls' := [some (.ref (o))]) (st' := [.int (nI 0), .ref (o)]) ⟨dX11_isAnalyzed_12, rfl⟩ rfl ?_
    refine ev_put F_RX11_106 dX11_isAnalyzed_13 hR.z (Nat.le_of_ble_eq_true rfl) (fun _ _ => ⟨rfl, rfl⟩) ?_
    rw [zs_0]
    refine ev_nm (M0 := M.set (o) (.inr (10, zo o (ui (zi) 0 (nI 0)) (zl)))) (fun M1 eM1 => ?_)
    have f2 : M1[o]? = some (.inr (10, zo o (ui (zi) 0 (nI 0)) (zl))) := by rw [eM1]; exact ev_sg hR.z
    refine ev_blk (B := [(.aload_n 0, 1)]) (pe := 17) (ls' := [some (.ref (o))]) (st' := [.ref (o)]) ⟨dX11_isAnalyzed_16, rfl⟩ rfl ?_
    refine ev_getf (v := .int (nI 0)) F_RX11_106 dX11_isAnalyzed_17 f2 rfl ?_
    refine ev_fN_le dX11_isAnalyzed_20 (tgt := 25) (by decide) (by omega) (fun q20 => ?_) (fun q20 => ?_)
    · refine ev_blk (B := [(.aload_n 0, 1)]) (pe := 26) (ls' := [some (.ref (o))]) (st' := [.ref (o)]) ⟨dX11_isAnalyzed_25, rfl⟩ rfl ?_
      have W3 : FX o (o + 31) (o + 31) M M1 := ⟨by rw [eM1]; simp only [List.length_set], fun j hj1 hj2 => by rw [eM1, ev_sn (by omega)]⟩
      have hRa := hR.keep f2 ⟨fun k hk => ui_ne (nm hk (by decide)), fun k hk => rfl⟩ W3
      refine ev_cVn Y_X11_refreshes L_RX11_264 dX11_isAnalyzed_26 ⟨Nat.le_of_ble_eq_true rfl, Nat.le_of_ble_eq_true rfl, Nat.le_of_ble_eq_true rfl, Nat.le_of_ble_eq_true rfl, Nat.le_of_ble_eq_true rfl⟩ f2 (as := []) rfl rfl (c_R_refreshes hl o S hS hT10 hG3 (ui (zi) 0 (nI 0)) (zl) hRa) (fun M4 hL4 hB4 => ?_)
      obtain ⟨Ai, AR, A30, AK, AF⟩ := hB4
      obtain ⟨hco, hin⟩ := AR.a.co A30
      refine ev_blk (B := [(.aload_n 0, 1), (.aload_n 0, 1)]) (pe := 31) (ls' := [some (.ref (o))]) (st' := [.ref (o), .ref (o)]) ⟨dX11_isAnalyzed_29, dX11_isAnalyzed_30, rfl⟩ rfl ?_
      refine ev_getf (v := .int (ev_b ((rn S.T S.G).1))) F_RX11_249 dX11_isAnalyzed_31 AR.z (congrArg (fun q => some (Value.int q)) hco) ?_
      refine ev_ifB_eq dX11_isAnalyzed_34 (tgt := 41) (by decide) (fun q34 => ?_) (fun q34 => ?_)
      · refine ev_blk (B := [(.iconst 2, 1)]) (pe := 42) (ls' := [some (.ref (o))]) (st' := [.int (nI 2), .ref (o)]) ⟨dX11_isAnalyzed_41, rfl⟩ rfl ?_
        refine ev_put F_RX11_106 dX11_isAnalyzed_42 AR.z (Nat.le_of_ble_eq_true rfl) (fun _ _ => ⟨rfl, rfl⟩) ?_
        rw [zs_0]
        refine ev_nm (M0 := M4.set (o) (.inr (10, zo o (ui (Ai) 0 (nI 2)) (zl)))) (fun M5 eM5 => ?_)
        have f6 : M5[o]? = some (.inr (10, zo o (ui (Ai) 0 (nI 2)) (zl))) := by rw [eM5]; exact ev_sg AR.z
        refine ev_blk (B := [(.aload_n 0, 1)]) (pe := 46) (ls' := [some (.ref (o))]) (st' := [.ref (o)]) ⟨dX11_isAnalyzed_45, rfl⟩ rfl ?_
        refine ev_getf (v := .int (ev_b ((rn S.T S.G).1))) F_RX11_249 dX11_isAnalyzed_46 f6 (congrArg (fun q => some (Value.int q)) hco) ?_
        refine ev_iret dX11_isAnalyzed_49 rfl (ev_b_nar _) ⟨Nat.le_of_ble_eq_true rfl, Nat.le_of_ble_eq_true rfl⟩ ?_
        have W7 : FX o (o + 31) (o + 31) M4 M5 := ⟨by rw [eM5]; simp only [List.length_set], fun j hj1 hj2 => by rw [eM5, ev_sn (by omega)]⟩
        have hg := gate_2 q5 q34
        rw [hg, q34]
        exact ⟨rfl, _, AR.keep f6 ⟨fun k hk => ui_ne (nm hk (by decide)), fun k hk => rfl⟩ W7, rfl, fun z => (by cases z), fun j a b c d e => (ui_ne a).trans ((AK j b c d e).trans (ui_ne a)), (W3.em (by omega)).tr (AF.tr (W7.em (by omega)))⟩
      · refine ev_blk (B := [(.iconst 0, 1)]) (pe := 38) (ls' := [some (.ref (o))]) (st' := [.int (nI 0), .ref (o)]) ⟨dX11_isAnalyzed_37, rfl⟩ rfl ?_
        refine ev_goto (tgt := 42) dX11_isAnalyzed_38 (by decide) ?_
        refine ev_put F_RX11_106 dX11_isAnalyzed_42 AR.z (Nat.le_of_ble_eq_true rfl) (fun _ _ => ⟨rfl, rfl⟩) ?_
        rw [zs_0]
        refine ev_nm (M0 := M4.set (o) (.inr (10, zo o (ui (Ai) 0 (nI 0)) (zl)))) (fun M8 eM8 => ?_)
        have f9 : M8[o]? = some (.inr (10, zo o (ui (Ai) 0 (nI 0)) (zl))) := by rw [eM8]; exact ev_sg AR.z
        refine ev_blk (B := [(.aload_n 0, 1)]) (pe := 46) (ls' := [some (.ref (o))]) (st' := [.ref (o)]) ⟨dX11_isAnalyzed_45, rfl⟩ rfl ?_
        refine ev_getf (v := .int (ev_b ((rn S.T S.G).1))) F_RX11_249 dX11_isAnalyzed_46 f9 (congrArg (fun q => some (Value.int q)) hco) ?_
        refine ev_iret dX11_isAnalyzed_49 rfl (ev_b_nar _) ⟨Nat.le_of_ble_eq_true rfl, Nat.le_of_ble_eq_true rfl⟩ ?_
        have W10 : FX o (o + 31) (o + 31) M4 M8 := ⟨by rw [eM8]; simp only [List.length_set], fun j hj1 hj2 => by rw [eM8, ev_sn (by omega)]⟩
        have hg := gate_0 q5 q34
        rw [hg, q34]
        exact ⟨rfl, _, AR.keep f9 ⟨fun k hk => ui_ne (nm hk (by decide)), fun k hk => rfl⟩ W10, rfl, fun _ => A30, fun j a b c d e => (ui_ne a).trans ((AK j b c d e).trans (ui_ne a)), (W3.em (by omega)).tr (AF.tr (W10.em (by omega)))⟩
    · exact absurd q20 (by decide)
  · refine ev_blk (B := [(.iconst 1, 1)]) (pe := 9) (ls' := [some (.ref (o))]) (st' := [.int (nI 1), .ref (o)]) ⟨dX11_isAnalyzed_8, rfl⟩ rfl ?_
    refine ev_goto (tgt := 13) dX11_isAnalyzed_9 (by decide) ?_
    refine ev_put F_RX11_106 dX11_isAnalyzed_13 hR.z (Nat.le_of_ble_eq_true rfl) (fun _ _ => ⟨rfl, rfl⟩) ?_
    rw [zs_0]
    refine ev_nm (M0 := M.set (o) (.inr (10, zo o (ui (zi) 0 (nI 1)) (zl)))) (fun M11 eM11 => ?_)
    have f12 : M11[o]? = some (.inr (10, zo o (ui (zi) 0 (nI 1)) (zl))) := by rw [eM11]; exact ev_sg hR.z
    refine ev_blk (B := [(.aload_n 0, 1)]) (pe := 17) (ls' := [some (.ref (o))]) (st' := [.ref (o)]) ⟨dX11_isAnalyzed_16, rfl⟩ rfl ?_
    refine ev_getf (v := .int (nI 1)) F_RX11_106 dX11_isAnalyzed_17 f12 rfl ?_
    refine ev_fN_le dX11_isAnalyzed_20 (tgt := 25) (by decide) (by omega) (fun q20 => ?_) (fun q20 => ?_)
    · exact absurd q20 (by decide)
    · refine ev_blk (B := [(.iconst 0, 1)]) (pe := 24) (ls' := [some (.ref (o))]) (st' := [.int (nI 0)]) ⟨dX11_isAnalyzed_23, rfl⟩ rfl ?_
      refine ev_iret dX11_isAnalyzed_24 rfl (rfl) ⟨Nat.le_of_ble_eq_true rfl, Nat.le_of_ble_eq_true rfl⟩ ?_
      have W13 : FX o (o + 31) (o + 31) M M11 := ⟨by rw [eM11]; simp only [List.length_set], fun j hj1 hj2 => by rw [eM11, ev_sn (by omega)]⟩
      have hg := gate_1 q5
      rw [hg]
      exact ⟨rfl, _, hR.keep f12 ⟨fun k hk => ui_ne (nm hk (by decide)), fun k hk => rfl⟩ W13, rfl, fun z => (by cases z), fun j a b c d e => ui_ne a, W13.em (by omega)⟩

set_option maxHeartbeats 4000000 in
set_option maxRecDepth 100000 in
theorem r_lastRound {l : Launch} (hl : l.stackTraces = false) {M : ev_M} (o : Nat) (S : St) (hS : okS S) (hT10 : S.T.length ≤ 10) (hG3 : S.G.length ≤ 3) (hH20 : S.H.length ≤ 20) (zi : Nat → Int32) (zl : Nat → Int64) (hR : RR M o S zi zl) : ev_Mt l m_X11_lastRound [.ref (o)] M (fun r M1 => r = .inl (some (.int (sLR S).2)) ∧ ∃ zi' zl', RR M1 o S zi' zl' ∧ zi' 0 = nI (sLR S).1 ∧ Fr o (o + 31) M M1) := by
  rcases gate_c S with ⟨gz, g1, c1⟩ | gn
  · obtain ⟨hL13, hb30⟩ := La_lt c1
    refine ev_body hl rfl (by decide +kernel) (Nat.le_of_ble_eq_true rfl) ?_
    show ev_ l m_X11_lastRound 0 0 0 [some (.ref (o))] [] M _
    refine ev_blk (B := [(.aload_n 0, 1)]) (pe := 1) (ls' := [some (.ref (o))]) (st' := [.ref (o)]) ⟨dX11_lastRound_0, rfl⟩ rfl ?_
    refine ev_cVw Y_X11_isAnalyzed L_RX11_267 dX11_lastRound_1 ⟨Nat.le_of_ble_eq_true rfl, Nat.le_of_ble_eq_true rfl, Nat.le_of_ble_eq_true rfl, Nat.le_of_ble_eq_true rfl, Nat.le_of_ble_eq_true rfl⟩ hR.z (as := []) rfl rfl (c_R_isAnalyzed hl o S hS hT10 hG3 (zi) (zl) hR) (fun M1 hL1 hB1 => ?_)
    obtain ⟨Ai, AR, A0, A30, AK, AF⟩ := hB1
    rw [gz] at A0
    obtain ⟨hco, hin⟩ := AR.a.co (A30 gz)
    obtain ⟨hla, hl13, hPBs⟩ := hin c1
    have hPBk := hPBs
    obtain ⟨bs, bn, bf, b2, b11, b12, b14, b15, hbb⟩ := hPBs
    refine ev_ifB_eq dX11_lastRound_4 (tgt := 14) (by decide) (fun q4 => ?_) (fun q4 => ?_)
    · exact absurd ((decide_eq_true gz).symm.trans q4) (by decide)
    · refine ev_blk (B := [(.aload_n 0, 1)]) (pe := 8) (ls' := [some (.ref (o))]) (st' := [.ref (o)]) ⟨dX11_lastRound_7, rfl⟩ rfl ?_
      refine ev_getf (v := .int (nI (La S))) F_RX11_261 dX11_lastRound_8 AR.z (congrArg (fun q => some (Value.int q)) hla) ?_
      refine ev_goto (tgt := 15) dX11_lastRound_11 (by decide) ?_
      refine ev_iret dX11_lastRound_15 rfl (rfl) ⟨Nat.le_of_ble_eq_true rfl, Nat.le_of_ble_eq_true rfl⟩ ?_
      have e9 : sLR S = (0, nI (La S)) := (gt_z gz).trans (rfl)
      rw [e9]
      exact ⟨rfl, _, _, ⟨AR.z, ⟨AR.p.1, AR.p.2.1, AR.p.2.2.1, AR.p.2.2.2.1, AR.p.2.2.2.2.1, AR.p.2.2.2.2.2.1, AR.p.2.2.2.2.2.2.1, AR.p.2.2.2.2.2.2.2.1, AR.p.2.2.2.2.2.2.2.2.1, AR.p.2.2.2.2.2.2.2.2.2⟩, AR.T, AR.H, AR.y, AR.G, AR.a, AR.u, AR.x, AR.k, AR.s⟩, A0, (FX.fr (lo := o + 1) (hi := o + 31) (AF.to (by omega) (by omega)) (by omega) (by omega))⟩
  · have y9 : True := trivial
    refine ev_body hl rfl (by decide +kernel) (Nat.le_of_ble_eq_true rfl) ?_
    show ev_ l m_X11_lastRound 0 0 0 [some (.ref (o))] [] M _
    refine ev_blk (B := [(.aload_n 0, 1)]) (pe := 1) (ls' := [some (.ref (o))]) (st' := [.ref (o)]) ⟨dX11_lastRound_0, rfl⟩ rfl ?_
    refine ev_cVw Y_X11_isAnalyzed L_RX11_267 dX11_lastRound_1 ⟨Nat.le_of_ble_eq_true rfl, Nat.le_of_ble_eq_true rfl, Nat.le_of_ble_eq_true rfl, Nat.le_of_ble_eq_true rfl, Nat.le_of_ble_eq_true rfl⟩ hR.z (as := []) rfl rfl (c_R_isAnalyzed hl o S hS hT10 hG3 (zi) (zl) hR) (fun M2 hL2 hB2 => ?_)
    obtain ⟨Ai, AR, A0, A30, AK, AF⟩ := hB2
    refine ev_ifB_eq dX11_lastRound_4 (tgt := 14) (by decide) (fun q4 => ?_) (fun q4 => ?_)
    · refine ev_blk (B := [(.iconst 0, 1)]) (pe := 15) (ls' := [some (.ref (o))]) (st' := [.int (nI 0)]) ⟨dX11_lastRound_14, rfl⟩ rfl ?_
      refine ev_iret dX11_lastRound_15 rfl (rfl) ⟨Nat.le_of_ble_eq_true rfl, Nat.le_of_ble_eq_true rfl⟩ ?_
      have e9 : sLR S = (gate S, 0) := gt_n gn
      rw [e9]
      exact ⟨rfl, Ai, zl, AR, A0, (FX.fr (lo := o + 1) (hi := o + 31) (AF.to (by omega) (by omega)) (by omega) (by omega))⟩
    · exact absurd ((decide_eq_false gn).symm.trans q4) (by decide)

set_option maxHeartbeats 4000000 in
set_option maxRecDepth 100000 in
theorem r_basisSize {l : Launch} (hl : l.stackTraces = false) {M : ev_M} (o : Nat) (S : St) (hS : okS S) (hT10 : S.T.length ≤ 10) (hG3 : S.G.length ≤ 3) (hH20 : S.H.length ≤ 20) (zi : Nat → Int32) (zl : Nat → Int64) (hR : RR M o S zi zl) (a : Int32) : ev_Mt l m_X11_basisSize [.ref (o), .int (a)] M (fun r M1 => r = .inl (some (.int (sBS S a).2)) ∧ ∃ zi' zl', RR M1 o S zi' zl' ∧ zi' 0 = nI (sBS S a).1 ∧ Fr o (o + 31) M M1) := by
  rcases gate_c S with ⟨gz, g1, c1⟩ | gn
  · obtain ⟨hL13, hb30⟩ := La_lt c1
    rcases inR_c a (La S + 1) (by omega) with ⟨k, hk, rfl⟩ | ia
    · have jk : inR (nI k) (La S + 1) = true := inR_n hk (by omega)
      have tk : (nI k).toNatClampNeg = k := nI_clamp (by omega)
      refine ev_body hl rfl (by decide +kernel) (Nat.le_of_ble_eq_true rfl) ?_
      show ev_ l m_X11_basisSize 0 0 0 [some (.ref (o)), some (.int (nI k))] [] M _
      refine ev_blk (B := [(.aload_n 0, 1)]) (pe := 1) (ls' := [some (.ref (o)), some (.int (nI k))]) (st' := [.ref (o)]) ⟨dX11_basisSize_0, rfl⟩ rfl ?_
      refine ev_cVw Y_X11_isAnalyzed L_RX11_267 dX11_basisSize_1 ⟨Nat.le_of_ble_eq_true rfl, Nat.le_of_ble_eq_true rfl, Nat.le_of_ble_eq_true rfl, Nat.le_of_ble_eq_true rfl, Nat.le_of_ble_eq_true rfl⟩ hR.z (as := []) rfl rfl (c_R_isAnalyzed hl o S hS hT10 hG3 (zi) (zl) hR) (fun M1 hL1 hB1 => ?_)
      obtain ⟨Ai, AR, A0, A30, AK, AF⟩ := hB1
      rw [gz] at A0
      obtain ⟨hco, hin⟩ := AR.a.co (A30 gz)
      obtain ⟨hla, hl13, hPBs⟩ := hin c1
      have hPBk := hPBs
      obtain ⟨bs, bn, bf, b2, b11, b12, b14, b15, hbb⟩ := hPBs
      refine ev_ifB_ne dX11_basisSize_4 (tgt := 9) (by decide) (fun q4 => ?_) (fun q4 => ?_)
      · refine ev_blk (B := [(.iload_n 1, 1), (.iconst 0, 1), (.aload_n 0, 1)]) (pe := 12) (ls' := [some (.ref (o)), some (.int (nI k))]) (st' := [.ref (o), .int (nI 0), .int (nI k)]) ⟨dX11_basisSize_9, dX11_basisSize_10, dX11_basisSize_11, rfl⟩ rfl ?_
        refine ev_getf (v := .int (nI (La S))) F_RX11_261 dX11_basisSize_12 AR.z (congrArg (fun q => some (Value.int q)) hla) ?_
        refine ev_cSv Y_X11_isBetween L_RX11_134 dX11_basisSize_15 ⟨Nat.le_of_ble_eq_true rfl, Nat.le_of_ble_eq_true rfl, Nat.le_of_ble_eq_true rfl, Nat.le_of_ble_eq_true rfl, Nat.le_of_ble_eq_true rfl⟩ (as := [.int (nI k), .int (nI 0), .int (nI (La S))]) rfl rfl (c_R_isBT hl _ _ _ (nI_le (Nat.zero_le _) (by omega)) (nI_le (by omega) (by omega))) ?_
        refine ev_ifB_ne dX11_basisSize_18 (tgt := 27) (by decide) (fun q18 => ?_) (fun q18 => ?_)
        · refine ev_blk (B := [(.aload_n 0, 1)]) (pe := 28) (ls' := [some (.ref (o)), some (.int (nI k))]) (st' := [.ref (o)]) ⟨dX11_basisSize_27, rfl⟩ rfl ?_
          refine ev_getf (v := .ref (o + 12)) F_RX11_44 dX11_basisSize_28 AR.z rfl ?_
          refine ev_blk (B := [(.iload_n 1, 1)]) (pe := 32) (ls' := [some (.ref (o)), some (.int (nI k))]) (st' := [.int (nI k), .ref (o + 12)]) ⟨dX11_basisSize_31, rfl⟩ rfl ?_
          refine ev_iald dX11_basisSize_32 b12 (vp_in_nI (show k < 13 by omega) (by omega)) ?_
          rw [nI_clamp (show k < 2 ^ 31 by omega)]
          rw [show bn k = nI ((bl S.T S.G k).length) from (hbb k (by unfold La at hk; omega)).2.1]
          refine ev_iret dX11_basisSize_33 rfl (rfl) ⟨Nat.le_of_ble_eq_true rfl, Nat.le_of_ble_eq_true rfl⟩ ?_
          have e9 : sBS S (nI k) = (0, nI (bl S.T S.G k).length) := (gt_z gz).trans (by rw [jk, tN, tk]; rfl)
          rw [e9]
          exact ⟨rfl, _, _, ⟨AR.z, ⟨AR.p.1, AR.p.2.1, AR.p.2.2.1, AR.p.2.2.2.1, AR.p.2.2.2.2.1, AR.p.2.2.2.2.2.1, AR.p.2.2.2.2.2.2.1, AR.p.2.2.2.2.2.2.2.1, AR.p.2.2.2.2.2.2.2.2.1, AR.p.2.2.2.2.2.2.2.2.2⟩, AR.T, AR.H, AR.y, AR.G, AR.a, AR.u, AR.x, AR.k, AR.s⟩, A0, (FX.fr (lo := o + 1) (hi := o + 31) (AF.to (by omega) (by omega)) (by omega) (by omega))⟩
        · exact absurd q18 (by decide)
      · exact absurd ((decide_eq_true gz).symm.trans q4) (by decide)
    · have ia9 := ia
      refine ev_body hl rfl (by decide +kernel) (Nat.le_of_ble_eq_true rfl) ?_
      show ev_ l m_X11_basisSize 0 0 0 [some (.ref (o)), some (.int (a))] [] M _
      refine ev_blk (B := [(.aload_n 0, 1)]) (pe := 1) (ls' := [some (.ref (o)), some (.int (a))]) (st' := [.ref (o)]) ⟨dX11_basisSize_0, rfl⟩ rfl ?_
      refine ev_cVw Y_X11_isAnalyzed L_RX11_267 dX11_basisSize_1 ⟨Nat.le_of_ble_eq_true rfl, Nat.le_of_ble_eq_true rfl, Nat.le_of_ble_eq_true rfl, Nat.le_of_ble_eq_true rfl, Nat.le_of_ble_eq_true rfl⟩ hR.z (as := []) rfl rfl (c_R_isAnalyzed hl o S hS hT10 hG3 (zi) (zl) hR) (fun M2 hL2 hB2 => ?_)
      obtain ⟨Ai, AR, A0, A30, AK, AF⟩ := hB2
      rw [gz] at A0
      obtain ⟨hco, hin⟩ := AR.a.co (A30 gz)
      obtain ⟨hla, hl13, hPBs⟩ := hin c1
      have hPBk := hPBs
      obtain ⟨bs, bn, bf, b2, b11, b12, b14, b15, hbb⟩ := hPBs
      refine ev_ifB_ne dX11_basisSize_4 (tgt := 9) (by decide) (fun q4 => ?_) (fun q4 => ?_)
      · refine ev_blk (B := [(.iload_n 1, 1), (.iconst 0, 1), (.aload_n 0, 1)]) (pe := 12) (ls' := [some (.ref (o)), some (.int (a))]) (st' := [.ref (o), .int (nI 0), .int (a)]) ⟨dX11_basisSize_9, dX11_basisSize_10, dX11_basisSize_11, rfl⟩ rfl ?_
        refine ev_getf (v := .int (nI (La S))) F_RX11_261 dX11_basisSize_12 AR.z (congrArg (fun q => some (Value.int q)) hla) ?_
        refine ev_cSv Y_X11_isBetween L_RX11_134 dX11_basisSize_15 ⟨Nat.le_of_ble_eq_true rfl, Nat.le_of_ble_eq_true rfl, Nat.le_of_ble_eq_true rfl, Nat.le_of_ble_eq_true rfl, Nat.le_of_ble_eq_true rfl⟩ (as := [.int (a), .int (nI 0), .int (nI (La S))]) rfl rfl (c_R_isBF hl _ _ _ (isb_c (by omega) rfl ia)) ?_
        refine ev_ifB_ne dX11_basisSize_18 (tgt := 27) (by decide) (fun q18 => ?_) (fun q18 => ?_)
        · exact absurd q18 (by decide)
        · refine ev_blk (B := [(.aload_n 0, 1), (.iconst 3, 1)]) (pe := 23) (ls' := [some (.ref (o)), some (.int (a))]) (st' := [.int (nI 3), .ref (o)]) ⟨dX11_basisSize_21, dX11_basisSize_22, rfl⟩ rfl ?_
          refine ev_cVv Y_X11_fails L_RX11_144 dX11_basisSize_23 ⟨Nat.le_of_ble_eq_true rfl, Nat.le_of_ble_eq_true rfl, Nat.le_of_ble_eq_true rfl, Nat.le_of_ble_eq_true rfl, Nat.le_of_ble_eq_true rfl⟩ AR.z (as := [.int (nI 3)]) rfl rfl (c_R_fails hl o (Ai) (zl) AR.z 3) ?_
          refine ev_nm (M0 := M2.set o (.inr (10, zo o (ui (Ai) 0 (nI 3)) (zl)))) (fun Mf eMf => ?_)
          have ff : Mf[o]? = some (.inr (10, zo o (ui (Ai) 0 (nI 3)) (zl))) := by rw [eMf]; exact ev_sg AR.z
          refine ev_iret dX11_basisSize_26 rfl (rfl) ⟨Nat.le_of_ble_eq_true rfl, Nat.le_of_ble_eq_true rfl⟩ ?_
          have W3 : FX o (o + 31) (o + 31) M2 Mf := ⟨by rw [eMf]; simp only [List.length_set], fun j hj1 hj2 => by rw [eMf, ev_sn (by omega)]⟩
          have e9 : sBS S a = (3, 0) := (gt_z gz).trans (if_pos ia)
          rw [e9]
          exact ⟨rfl, _, _, ⟨ff, ⟨AR.p.1, AR.p.2.1, AR.p.2.2.1, AR.p.2.2.2.1, AR.p.2.2.2.2.1, AR.p.2.2.2.2.2.1, AR.p.2.2.2.2.2.2.1, AR.p.2.2.2.2.2.2.2.1, AR.p.2.2.2.2.2.2.2.2.1, AR.p.2.2.2.2.2.2.2.2.2⟩, (AR.T.fx W3 (by omega) (by omega)), (AR.H.fx W3 (by omega)), (AR.y.fx W3 (by omega)), (AR.G.fx W3 (by omega) (by omega)), (AR.a.fx W3 (by omega)), (AR.u.fx W3 (by omega)), (AR.x.fx W3 (by omega)), (AR.k.fx W3 (by omega)), (AR.s.fx W3 (by omega))⟩, rfl, (FX.fr (lo := o + 1) (hi := o + 31) ((AF.to (by omega) (by omega)).tr (W3.to (by omega) (by omega))) (by omega) (by omega))⟩
      · exact absurd ((decide_eq_true gz).symm.trans q4) (by decide)
  · have y9 : True := trivial
    refine ev_body hl rfl (by decide +kernel) (Nat.le_of_ble_eq_true rfl) ?_
    show ev_ l m_X11_basisSize 0 0 0 [some (.ref (o)), some (.int (a))] [] M _
    refine ev_blk (B := [(.aload_n 0, 1)]) (pe := 1) (ls' := [some (.ref (o)), some (.int (a))]) (st' := [.ref (o)]) ⟨dX11_basisSize_0, rfl⟩ rfl ?_
    refine ev_cVw Y_X11_isAnalyzed L_RX11_267 dX11_basisSize_1 ⟨Nat.le_of_ble_eq_true rfl, Nat.le_of_ble_eq_true rfl, Nat.le_of_ble_eq_true rfl, Nat.le_of_ble_eq_true rfl, Nat.le_of_ble_eq_true rfl⟩ hR.z (as := []) rfl rfl (c_R_isAnalyzed hl o S hS hT10 hG3 (zi) (zl) hR) (fun M4 hL4 hB4 => ?_)
    obtain ⟨Ai, AR, A0, A30, AK, AF⟩ := hB4
    refine ev_ifB_ne dX11_basisSize_4 (tgt := 9) (by decide) (fun q4 => ?_) (fun q4 => ?_)
    · exact absurd ((decide_eq_false gn).symm.trans q4) (by decide)
    · refine ev_blk (B := [(.iconst 0, 1)]) (pe := 8) (ls' := [some (.ref (o)), some (.int (a))]) (st' := [.int (nI 0)]) ⟨dX11_basisSize_7, rfl⟩ rfl ?_
      refine ev_iret dX11_basisSize_8 rfl (rfl) ⟨Nat.le_of_ble_eq_true rfl, Nat.le_of_ble_eq_true rfl⟩ ?_
      have e9 : sBS S a = (gate S, 0) := gt_n gn
      rw [e9]
      exact ⟨rfl, Ai, zl, AR, A0, (FX.fr (lo := o + 1) (hi := o + 31) (AF.to (by omega) (by omega)) (by omega) (by omega))⟩

set_option maxHeartbeats 4000000 in
set_option maxRecDepth 100000 in
theorem r_basis {l : Launch} (hl : l.stackTraces = false) {M : ev_M} (o : Nat) (S : St) (hS : okS S) (hT10 : S.T.length ≤ 10) (hG3 : S.G.length ≤ 3) (hH20 : S.H.length ≤ 20) (zi : Nat → Int32) (zl : Nat → Int64) (hR : RR M o S zi zl) (a : Int32) (b : Int32) (c : Int32) : ev_Mt l m_X11_basis [.ref (o), .int (a), .int (b), .int (c)] M (fun r M1 => r = .inl (some (.int (sBa S a b c).2)) ∧ ∃ zi' zl', RR M1 o S zi' zl' ∧ zi' 0 = nI (sBa S a b c).1 ∧ Fr o (o + 31) M M1) := by
  rcases gate_c S with ⟨gz, g1, c1⟩ | gn
  · obtain ⟨hL13, hb30⟩ := La_lt c1
    rcases inR_c a (La S + 1) (by omega) with ⟨k, hk, rfl⟩ | ia
    · have jk : inR (nI k) (La S + 1) = true := inR_n hk (by omega)
      have tk : (nI k).toNatClampNeg = k := nI_clamp (by omega)
      have hbk := hb30 k (by omega)
      rcases inR_c b ((bl S.T S.G k).length) (by omega) with ⟨j, hj, rfl⟩ | ib
      · have jj : inR (nI j) ((bl S.T S.G k).length) = true := inR_n hj (by omega)
        have tj : (nI j).toNatClampNeg = j := nI_clamp (by omega)
        have hcj := cfs_cg (bl_ok hS.T hS.G k) hj
        have hc6 := hcj.1
        have hj30 : j < 30 := by omega
        rcases inR_c c 3 (by omega) with ⟨m, hm, rfl⟩ | ic
        · have jm : inR (nI m) 3 = true := inR_n hm (by omega)
          have tm : (nI m).toNatClampNeg = m := nI_clamp (by omega)
          refine ev_body hl rfl (by decide +kernel) (Nat.le_of_ble_eq_true rfl) ?_
          show ev_ l m_X11_basis 0 0 0 [some (.ref (o)), some (.int (nI k)), some (.int (nI j)), some (.int (nI m)), none] [] M _
          refine ev_blk (B := [(.aload_n 0, 1)]) (pe := 1) (ls' := [some (.ref (o)), some (.int (nI k)), some (.int (nI j)), some (.int (nI m)), none]) (st' := [.ref (o)]) ⟨dX11_basis_0, rfl⟩ rfl ?_
          refine ev_cVw Y_X11_isAnalyzed L_RX11_267 dX11_basis_1 ⟨Nat.le_of_ble_eq_true rfl, Nat.le_of_ble_eq_true rfl, Nat.le_of_ble_eq_true rfl, Nat.le_of_ble_eq_true rfl, Nat.le_of_ble_eq_true rfl⟩ hR.z (as := []) rfl rfl (c_R_isAnalyzed hl o S hS hT10 hG3 (zi) (zl) hR) (fun M1 hL1 hB1 => ?_)
          obtain ⟨Ai, AR, A0, A30, AK, AF⟩ := hB1
          rw [gz] at A0
          obtain ⟨hco, hin⟩ := AR.a.co (A30 gz)
          obtain ⟨hla, hl13, hPBs⟩ := hin c1
          have hPBk := hPBs
          obtain ⟨bs, bn, bf, b2, b11, b12, b14, b15, hbb⟩ := hPBs
          refine ev_ifB_ne dX11_basis_4 (tgt := 9) (by decide) (fun q4 => ?_) (fun q4 => ?_)
          · refine ev_blk (B := [(.iload_n 1, 1), (.iconst 0, 1), (.aload_n 0, 1)]) (pe := 12) (ls' := [some (.ref (o)), some (.int (nI k)), some (.int (nI j)), some (.int (nI m)), none]) (st' := [.ref (o), .int (nI 0), .int (nI k)]) ⟨dX11_basis_9, dX11_basis_10, dX11_basis_11, rfl⟩ rfl ?_
            refine ev_getf (v := .int (nI (La S))) F_RX11_261 dX11_basis_12 AR.z (congrArg (fun q => some (Value.int q)) hla) ?_
            refine ev_cSv Y_X11_isBetween L_RX11_134 dX11_basis_15 ⟨Nat.le_of_ble_eq_true rfl, Nat.le_of_ble_eq_true rfl, Nat.le_of_ble_eq_true rfl, Nat.le_of_ble_eq_true rfl, Nat.le_of_ble_eq_true rfl⟩ (as := [.int (nI k), .int (nI 0), .int (nI (La S))]) rfl rfl (c_R_isBT hl _ _ _ (nI_le (Nat.zero_le _) (by omega)) (nI_le (by omega) (by omega))) ?_
            refine ev_ifB_eq dX11_basis_18 (tgt := 46) (by decide) (fun q18 => ?_) (fun q18 => ?_)
            · exact absurd q18 (by decide)
            · refine ev_blk (B := [(.iload_n 2, 1), (.iconst 0, 1), (.aload_n 0, 1)]) (pe := 24) (ls' := [some (.ref (o)), some (.int (nI k)), some (.int (nI j)), some (.int (nI m)), none]) (st' := [.ref (o), .int (nI 0), .int (nI j)]) ⟨dX11_basis_21, dX11_basis_22, dX11_basis_23, rfl⟩ rfl ?_
              refine ev_getf (v := .ref (o + 12)) F_RX11_44 dX11_basis_24 AR.z rfl ?_
              refine ev_blk (B := [(.iload_n 1, 1)]) (pe := 28) (ls' := [some (.ref (o)), some (.int (nI k)), some (.int (nI j)), some (.int (nI m)), none]) (st' := [.int (nI k), .ref (o + 12), .int (nI 0), .int (nI j)]) ⟨dX11_basis_27, rfl⟩ rfl ?_
              refine ev_iald dX11_basis_28 b12 (vp_in_nI (show k < 13 by omega) (by omega)) ?_
              rw [nI_clamp (show k < 2 ^ 31 by omega)]
              rw [show bn k = nI ((bl S.T S.G k).length) from (hbb k (by unfold La at hk; omega)).2.1]
              refine ev_blk (B := [(.iconst 1, 1), (.isub, 1)]) (pe := 31) (ls' := [some (.ref (o)), some (.int (nI k)), some (.int (nI j)), some (.int (nI m)), none]) (st' := [.int (nI (((bl S.T S.G k).length) - 1)), .int (nI 0), .int (nI j)]) ⟨dX11_basis_29, dX11_basis_30, rfl⟩ (by show some (([some (.ref (o)), some (.int (nI k)), some (.int (nI j)), some (.int (nI m)), none] : ev_L), ([.int ((nI ((bl S.T S.G k).length)) - (nI 1)), .int (nI 0), .int (nI j)] : List Value)) = _; rw [pk_sub (show 1 ≤ ((bl S.T S.G k).length) by omega)]) ?_
              refine ev_cSv Y_X11_isBetween L_RX11_134 dX11_basis_31 ⟨Nat.le_of_ble_eq_true rfl, Nat.le_of_ble_eq_true rfl, Nat.le_of_ble_eq_true rfl, Nat.le_of_ble_eq_true rfl, Nat.le_of_ble_eq_true rfl⟩ (as := [.int (nI j), .int (nI 0), .int (nI (((bl S.T S.G k).length) - 1))]) rfl rfl (c_R_isBT hl _ _ _ (nI_le (Nat.zero_le _) (by omega)) (by first | exact nI_le (by omega) (by omega) | (rw [pk_sub (show 1 ≤ (bl S.T S.G k).length by omega)]; exact nI_le (by omega) (by omega)))) ?_
              refine ev_ifB_eq dX11_basis_34 (tgt := 46) (by decide) (fun q34 => ?_) (fun q34 => ?_)
              · exact absurd q34 (by decide)
              · refine ev_blk (B := [(.iload_n 3, 1), (.iconst 0, 1), (.iconst 2, 1)]) (pe := 40) (ls' := [some (.ref (o)), some (.int (nI k)), some (.int (nI j)), some (.int (nI m)), none]) (st' := [.int (nI 2), .int (nI 0), .int (nI m)]) ⟨dX11_basis_37, dX11_basis_38, dX11_basis_39, rfl⟩ rfl ?_
                refine ev_cSv Y_X11_isBetween L_RX11_134 dX11_basis_40 ⟨Nat.le_of_ble_eq_true rfl, Nat.le_of_ble_eq_true rfl, Nat.le_of_ble_eq_true rfl, Nat.le_of_ble_eq_true rfl, Nat.le_of_ble_eq_true rfl⟩ (as := [.int (nI m), .int (nI 0), .int (nI 2)]) rfl rfl (c_R_isBT hl _ _ _ (nI_le (Nat.zero_le _) (by omega)) (nI_le (by omega) (by omega))) ?_
                refine ev_ifB_ne dX11_basis_43 (tgt := 52) (by decide) (fun q43 => ?_) (fun q43 => ?_)
                · refine ev_blk (B := [(.bipush 30, 2), (.iload_n 1, 1), (.imul, 1), (.iload_n 2, 1), (.iadd, 1), (.istore 4, 2), (.iload_n 3, 1)]) (pe := 61) (ls' := [some (.ref (o)), some (.int (nI k)), some (.int (nI j)), some (.int (nI m)), some (.int (nI ((30 * k) + j)))]) (st' := [.int (nI m)]) ⟨dX11_basis_52, dX11_basis_54, dX11_basis_55, dX11_basis_56, dX11_basis_57, dX11_basis_58, dX11_basis_60, rfl⟩ (by show some (([some (.ref (o)), some (.int (nI k)), some (.int (nI j)), some (.int (nI m)), some (.int (((nI 30) * (nI k)) + (nI j)))] : ev_L), ([.int (nI m)] : List Value)) = _; rw [pk_mul 30 k, nI_add (30 * k) j]) ?_
                  refine ev_fN_ne dX11_basis_61 (tgt := 74) (by decide) (by omega) (fun q61 => ?_) (fun q61 => ?_)
                  · refine ev_blk (B := [(.iload_n 3, 1), (.iconst 1, 1)]) (pe := 76) (ls' := [some (.ref (o)), some (.int (nI k)), some (.int (nI j)), some (.int (nI m)), some (.int (nI ((30 * k) + j)))]) (st' := [.int (nI 1), .int (nI m)]) ⟨dX11_basis_74, dX11_basis_75, rfl⟩ rfl ?_
                    refine ev_iN_ne dX11_basis_76 (tgt := 89) (by decide) (by omega) (by omega) (fun q76 => ?_) (fun q76 => ?_)
                    · refine ev_blk (B := [(.aload_n 0, 1)]) (pe := 90) (ls' := [some (.ref (o)), some (.int (nI k)), some (.int (nI j)), some (.int (nI m)), some (.int (nI ((30 * k) + j)))]) (st' := [.ref (o)]) ⟨dX11_basis_89, rfl⟩ rfl ?_
                      refine ev_getf (v := .ref (o + 15)) F_RX11_53 dX11_basis_90 AR.z rfl ?_
                      refine ev_blk (B := [(.iload 4, 2)]) (pe := 95) (ls' := [some (.ref (o)), some (.int (nI k)), some (.int (nI j)), some (.int (nI m)), some (.int (nI ((30 * k) + j)))]) (st' := [.int (nI ((30 * k) + j)), .ref (o + 15)]) ⟨dX11_basis_93, rfl⟩ rfl ?_
                      refine ev_lald dX11_basis_95 b15 (vp_in_nI (show (30 * k) + j < 390 by omega) (by omega)) ?_
                      rw [nI_clamp (show (30 * k) + j < 2 ^ 31 by omega)]
                      rw [show b2 ((30 * k) + j) = e2 (cg (bl S.T S.G k) j).2.2 from ((hbb k (by unfold La at hk; omega)).2.2 j hj).2.2]
                      have hlw : ((cg (bl S.T S.G k) j).2.2).length < 2 ^ 31 := Nat.lt_of_le_of_lt hcj.2.2.2.2 (by omega)
                      refine ev_cSv Y_X11_lengthOf L_RX11_111 dX11_basis_96 ⟨Nat.le_of_ble_eq_true rfl, Nat.le_of_ble_eq_true rfl, Nat.le_of_ble_eq_true rfl, Nat.le_of_ble_eq_true rfl, Nat.le_of_ble_eq_true rfl⟩ (as := [.long (e2 (cg (bl S.T S.G k) j).2.2)]) rfl rfl (c_R_lengthOf hl ((cg (bl S.T S.G k) j).2.2) hcj.2.2.2.1 (Nat.le_trans hcj.2.2.2.2 (by omega))) ?_
                      refine ev_iret dX11_basis_99 rfl (rfl) ⟨Nat.le_of_ble_eq_true rfl, Nat.le_of_ble_eq_true rfl⟩ ?_
                      have e9 : sBa S (nI k) (nI j) (nI m) = (0, if m = 0 then nI (cg (bl S.T S.G k) j).1 else nI (cw (cg (bl S.T S.G k) j) (m - 1)).length) := (gt_z gz).trans (by
                        simp only [tN, tk, tj, tm]
                        rw [if_neg (show ¬ inR (nI k) (La S + 1) = false by rw [jk]; decide), if_neg (show ¬ inR (nI j) (bl S.T S.G k).length = false by rw [jj]; decide), if_neg (show ¬ inR (nI m) 3 = false by rw [jm]; decide)])
                      rw [e9]
                      exact ⟨(by rw [if_neg q61, cw_1 (show ¬ m - 1 = 0 by omega)]), _, _, ⟨AR.z, ⟨AR.p.1, AR.p.2.1, AR.p.2.2.1, AR.p.2.2.2.1, AR.p.2.2.2.2.1, AR.p.2.2.2.2.2.1, AR.p.2.2.2.2.2.2.1, AR.p.2.2.2.2.2.2.2.1, AR.p.2.2.2.2.2.2.2.2.1, AR.p.2.2.2.2.2.2.2.2.2⟩, AR.T, AR.H, AR.y, AR.G, AR.a, AR.u, AR.x, AR.k, AR.s⟩, A0, (FX.fr (lo := o + 1) (hi := o + 31) (AF.to (by omega) (by omega)) (by omega) (by omega))⟩
                    · refine ev_blk (B := [(.aload_n 0, 1)]) (pe := 80) (ls' := [some (.ref (o)), some (.int (nI k)), some (.int (nI j)), some (.int (nI m)), some (.int (nI ((30 * k) + j)))]) (st' := [.ref (o)]) ⟨dX11_basis_79, rfl⟩ rfl ?_
                      refine ev_getf (v := .ref (o + 14)) F_RX11_50 dX11_basis_80 AR.z rfl ?_
                      refine ev_blk (B := [(.iload 4, 2)]) (pe := 85) (ls' := [some (.ref (o)), some (.int (nI k)), some (.int (nI j)), some (.int (nI m)), some (.int (nI ((30 * k) + j)))]) (st' := [.int (nI ((30 * k) + j)), .ref (o + 14)]) ⟨dX11_basis_83, rfl⟩ rfl ?_
                      refine ev_lald dX11_basis_85 b14 (vp_in_nI (show (30 * k) + j < 390 by omega) (by omega)) ?_
                      rw [nI_clamp (show (30 * k) + j < 2 ^ 31 by omega)]
                      rw [show bf ((30 * k) + j) = e2 (cg (bl S.T S.G k) j).2.1 from ((hbb k (by unfold La at hk; omega)).2.2 j hj).2.1]
                      refine ev_goto (tgt := 96) dX11_basis_86 (by decide) ?_
                      have hlw : ((cg (bl S.T S.G k) j).2.1).length < 2 ^ 31 := Nat.lt_of_le_of_lt hcj.2.2.1 (by omega)
                      refine ev_cSv Y_X11_lengthOf L_RX11_111 dX11_basis_96 ⟨Nat.le_of_ble_eq_true rfl, Nat.le_of_ble_eq_true rfl, Nat.le_of_ble_eq_true rfl, Nat.le_of_ble_eq_true rfl, Nat.le_of_ble_eq_true rfl⟩ (as := [.long (e2 (cg (bl S.T S.G k) j).2.1)]) rfl rfl (c_R_lengthOf hl ((cg (bl S.T S.G k) j).2.1) hcj.2.1 (Nat.le_trans hcj.2.2.1 (by omega))) ?_
                      refine ev_iret dX11_basis_99 rfl (rfl) ⟨Nat.le_of_ble_eq_true rfl, Nat.le_of_ble_eq_true rfl⟩ ?_
                      have e9 : sBa S (nI k) (nI j) (nI m) = (0, if m = 0 then nI (cg (bl S.T S.G k) j).1 else nI (cw (cg (bl S.T S.G k) j) (m - 1)).length) := (gt_z gz).trans (by
                        simp only [tN, tk, tj, tm]
                        rw [if_neg (show ¬ inR (nI k) (La S + 1) = false by rw [jk]; decide), if_neg (show ¬ inR (nI j) (bl S.T S.G k).length = false by rw [jj]; decide), if_neg (show ¬ inR (nI m) 3 = false by rw [jm]; decide)])
                      rw [e9]
                      exact ⟨(by rw [if_neg q61, cw_0 (show m - 1 = 0 by omega)]), _, _, ⟨AR.z, ⟨AR.p.1, AR.p.2.1, AR.p.2.2.1, AR.p.2.2.2.1, AR.p.2.2.2.2.1, AR.p.2.2.2.2.2.1, AR.p.2.2.2.2.2.2.1, AR.p.2.2.2.2.2.2.2.1, AR.p.2.2.2.2.2.2.2.2.1, AR.p.2.2.2.2.2.2.2.2.2⟩, AR.T, AR.H, AR.y, AR.G, AR.a, AR.u, AR.x, AR.k, AR.s⟩, A0, (FX.fr (lo := o + 1) (hi := o + 31) (AF.to (by omega) (by omega)) (by omega) (by omega))⟩
                  · refine ev_blk (B := [(.aload_n 0, 1)]) (pe := 65) (ls' := [some (.ref (o)), some (.int (nI k)), some (.int (nI j)), some (.int (nI m)), some (.int (nI ((30 * k) + j)))]) (st' := [.ref (o)]) ⟨dX11_basis_64, rfl⟩ rfl ?_
                    refine ev_getf (v := .ref (o + 11)) F_RX11_41 dX11_basis_65 AR.z rfl ?_
                    refine ev_blk (B := [(.iload 4, 2)]) (pe := 70) (ls' := [some (.ref (o)), some (.int (nI k)), some (.int (nI j)), some (.int (nI m)), some (.int (nI ((30 * k) + j)))]) (st' := [.int (nI ((30 * k) + j)), .ref (o + 11)]) ⟨dX11_basis_68, rfl⟩ rfl ?_
                    refine ev_iald dX11_basis_70 b11 (vp_in_nI (show (30 * k) + j < 390 by omega) (by omega)) ?_
                    rw [nI_clamp (show (30 * k) + j < 2 ^ 31 by omega)]
                    rw [show bs ((30 * k) + j) = nI ((cg (bl S.T S.G k) j).1) from ((hbb k (by unfold La at hk; omega)).2.2 j hj).1]
                    refine ev_goto (tgt := 99) dX11_basis_71 (by decide) ?_
                    refine ev_iret dX11_basis_99 rfl (rfl) ⟨Nat.le_of_ble_eq_true rfl, Nat.le_of_ble_eq_true rfl⟩ ?_
                    have e9 : sBa S (nI k) (nI j) (nI m) = (0, if m = 0 then nI (cg (bl S.T S.G k) j).1 else nI (cw (cg (bl S.T S.G k) j) (m - 1)).length) := (gt_z gz).trans (by
                      simp only [tN, tk, tj, tm]
                      rw [if_neg (show ¬ inR (nI k) (La S + 1) = false by rw [jk]; decide), if_neg (show ¬ inR (nI j) (bl S.T S.G k).length = false by rw [jj]; decide), if_neg (show ¬ inR (nI m) 3 = false by rw [jm]; decide)])
                    rw [e9]
                    exact ⟨(by rw [if_pos q61]), _, _, ⟨AR.z, ⟨AR.p.1, AR.p.2.1, AR.p.2.2.1, AR.p.2.2.2.1, AR.p.2.2.2.2.1, AR.p.2.2.2.2.2.1, AR.p.2.2.2.2.2.2.1, AR.p.2.2.2.2.2.2.2.1, AR.p.2.2.2.2.2.2.2.2.1, AR.p.2.2.2.2.2.2.2.2.2⟩, AR.T, AR.H, AR.y, AR.G, AR.a, AR.u, AR.x, AR.k, AR.s⟩, A0, (FX.fr (lo := o + 1) (hi := o + 31) (AF.to (by omega) (by omega)) (by omega) (by omega))⟩
                · exact absurd q43 (by decide)
          · exact absurd ((decide_eq_true gz).symm.trans q4) (by decide)
        · have ic9 := ic
          refine ev_body hl rfl (by decide +kernel) (Nat.le_of_ble_eq_true rfl) ?_
          show ev_ l m_X11_basis 0 0 0 [some (.ref (o)), some (.int (nI k)), some (.int (nI j)), some (.int (c)), none] [] M _
          refine ev_blk (B := [(.aload_n 0, 1)]) (pe := 1) (ls' := [some (.ref (o)), some (.int (nI k)), some (.int (nI j)), some (.int (c)), none]) (st' := [.ref (o)]) ⟨dX11_basis_0, rfl⟩ rfl ?_
          refine ev_cVw Y_X11_isAnalyzed L_RX11_267 dX11_basis_1 ⟨Nat.le_of_ble_eq_true rfl, Nat.le_of_ble_eq_true rfl, Nat.le_of_ble_eq_true rfl, Nat.le_of_ble_eq_true rfl, Nat.le_of_ble_eq_true rfl⟩ hR.z (as := []) rfl rfl (c_R_isAnalyzed hl o S hS hT10 hG3 (zi) (zl) hR) (fun M2 hL2 hB2 => ?_)
          obtain ⟨Ai, AR, A0, A30, AK, AF⟩ := hB2
          rw [gz] at A0
          obtain ⟨hco, hin⟩ := AR.a.co (A30 gz)
          obtain ⟨hla, hl13, hPBs⟩ := hin c1
          have hPBk := hPBs
          obtain ⟨bs, bn, bf, b2, b11, b12, b14, b15, hbb⟩ := hPBs
          refine ev_ifB_ne dX11_basis_4 (tgt := 9) (by decide) (fun q4 => ?_) (fun q4 => ?_)
          · refine ev_blk (B := [(.iload_n 1, 1), (.iconst 0, 1), (.aload_n 0, 1)]) (pe := 12) (ls' := [some (.ref (o)), some (.int (nI k)), some (.int (nI j)), some (.int (c)), none]) (st' := [.ref (o), .int (nI 0), .int (nI k)]) ⟨dX11_basis_9, dX11_basis_10, dX11_basis_11, rfl⟩ rfl ?_
            refine ev_getf (v := .int (nI (La S))) F_RX11_261 dX11_basis_12 AR.z (congrArg (fun q => some (Value.int q)) hla) ?_
            refine ev_cSv Y_X11_isBetween L_RX11_134 dX11_basis_15 ⟨Nat.le_of_ble_eq_true rfl, Nat.le_of_ble_eq_true rfl, Nat.le_of_ble_eq_true rfl, Nat.le_of_ble_eq_true rfl, Nat.le_of_ble_eq_true rfl⟩ (as := [.int (nI k), .int (nI 0), .int (nI (La S))]) rfl rfl (c_R_isBT hl _ _ _ (nI_le (Nat.zero_le _) (by omega)) (nI_le (by omega) (by omega))) ?_
            refine ev_ifB_eq dX11_basis_18 (tgt := 46) (by decide) (fun q18 => ?_) (fun q18 => ?_)
            · exact absurd q18 (by decide)
            · refine ev_blk (B := [(.iload_n 2, 1), (.iconst 0, 1), (.aload_n 0, 1)]) (pe := 24) (ls' := [some (.ref (o)), some (.int (nI k)), some (.int (nI j)), some (.int (c)), none]) (st' := [.ref (o), .int (nI 0), .int (nI j)]) ⟨dX11_basis_21, dX11_basis_22, dX11_basis_23, rfl⟩ rfl ?_
              refine ev_getf (v := .ref (o + 12)) F_RX11_44 dX11_basis_24 AR.z rfl ?_
              refine ev_blk (B := [(.iload_n 1, 1)]) (pe := 28) (ls' := [some (.ref (o)), some (.int (nI k)), some (.int (nI j)), some (.int (c)), none]) (st' := [.int (nI k), .ref (o + 12), .int (nI 0), .int (nI j)]) ⟨dX11_basis_27, rfl⟩ rfl ?_
              refine ev_iald dX11_basis_28 b12 (vp_in_nI (show k < 13 by omega) (by omega)) ?_
              rw [nI_clamp (show k < 2 ^ 31 by omega)]
              rw [show bn k = nI ((bl S.T S.G k).length) from (hbb k (by unfold La at hk; omega)).2.1]
              refine ev_blk (B := [(.iconst 1, 1), (.isub, 1)]) (pe := 31) (ls' := [some (.ref (o)), some (.int (nI k)), some (.int (nI j)), some (.int (c)), none]) (st' := [.int ((nI ((bl S.T S.G k).length)) - (nI 1)), .int (nI 0), .int (nI j)]) ⟨dX11_basis_29, dX11_basis_30, rfl⟩ rfl ?_
              refine ev_cSv Y_X11_isBetween L_RX11_134 dX11_basis_31 ⟨Nat.le_of_ble_eq_true rfl, Nat.le_of_ble_eq_true rfl, Nat.le_of_ble_eq_true rfl, Nat.le_of_ble_eq_true rfl, Nat.le_of_ble_eq_true rfl⟩ (as := [.int (nI j), .int (nI 0), .int ((nI ((bl S.T S.G k).length)) - (nI 1))]) rfl rfl (c_R_isBT hl _ _ _ (nI_le (Nat.zero_le _) (by omega)) (by first | exact nI_le (by omega) (by omega) | (rw [pk_sub (show 1 ≤ (bl S.T S.G k).length by omega)]; exact nI_le (by omega) (by omega)))) ?_
              refine ev_ifB_eq dX11_basis_34 (tgt := 46) (by decide) (fun q34 => ?_) (fun q34 => ?_)
              · exact absurd q34 (by decide)
              · refine ev_blk (B := [(.iload_n 3, 1), (.iconst 0, 1), (.iconst 2, 1)]) (pe := 40) (ls' := [some (.ref (o)), some (.int (nI k)), some (.int (nI j)), some (.int (c)), none]) (st' := [.int (nI 2), .int (nI 0), .int (c)]) ⟨dX11_basis_37, dX11_basis_38, dX11_basis_39, rfl⟩ rfl ?_
                refine ev_cSv Y_X11_isBetween L_RX11_134 dX11_basis_40 ⟨Nat.le_of_ble_eq_true rfl, Nat.le_of_ble_eq_true rfl, Nat.le_of_ble_eq_true rfl, Nat.le_of_ble_eq_true rfl, Nat.le_of_ble_eq_true rfl⟩ (as := [.int (c), .int (nI 0), .int (nI 2)]) rfl rfl (c_R_isBF hl _ _ _ (isb_c (by decide) rfl ic)) ?_
                refine ev_ifB_ne dX11_basis_43 (tgt := 52) (by decide) (fun q43 => ?_) (fun q43 => ?_)
                · exact absurd q43 (by decide)
                · refine ev_blk (B := [(.aload_n 0, 1), (.iconst 3, 1)]) (pe := 48) (ls' := [some (.ref (o)), some (.int (nI k)), some (.int (nI j)), some (.int (c)), none]) (st' := [.int (nI 3), .ref (o)]) ⟨dX11_basis_46, dX11_basis_47, rfl⟩ rfl ?_
                  refine ev_cVv Y_X11_fails L_RX11_144 dX11_basis_48 ⟨Nat.le_of_ble_eq_true rfl, Nat.le_of_ble_eq_true rfl, Nat.le_of_ble_eq_true rfl, Nat.le_of_ble_eq_true rfl, Nat.le_of_ble_eq_true rfl⟩ AR.z (as := [.int (nI 3)]) rfl rfl (c_R_fails hl o (Ai) (zl) AR.z 3) ?_
                  refine ev_nm (M0 := M2.set o (.inr (10, zo o (ui (Ai) 0 (nI 3)) (zl)))) (fun Mf eMf => ?_)
                  have ff : Mf[o]? = some (.inr (10, zo o (ui (Ai) 0 (nI 3)) (zl))) := by rw [eMf]; exact ev_sg AR.z
                  refine ev_iret dX11_basis_51 rfl (rfl) ⟨Nat.le_of_ble_eq_true rfl, Nat.le_of_ble_eq_true rfl⟩ ?_
                  have W3 : FX o (o + 31) (o + 31) M2 Mf := ⟨by rw [eMf]; simp only [List.length_set], fun j hj1 hj2 => by rw [eMf, ev_sn (by omega)]⟩
                  have e9 : sBa S (nI k) (nI j) c = (3, 0) := (gt_z gz).trans (by
                    simp only [tN, tk, tj]
                    rw [if_neg (show ¬ inR (nI k) (La S + 1) = false by rw [jk]; decide), if_neg (show ¬ inR (nI j) (bl S.T S.G k).length = false by rw [jj]; decide), if_pos ic])
                  rw [e9]
                  exact ⟨rfl, _, _, ⟨ff, ⟨AR.p.1, AR.p.2.1, AR.p.2.2.1, AR.p.2.2.2.1, AR.p.2.2.2.2.1, AR.p.2.2.2.2.2.1, AR.p.2.2.2.2.2.2.1, AR.p.2.2.2.2.2.2.2.1, AR.p.2.2.2.2.2.2.2.2.1, AR.p.2.2.2.2.2.2.2.2.2⟩, (AR.T.fx W3 (by omega) (by omega)), (AR.H.fx W3 (by omega)), (AR.y.fx W3 (by omega)), (AR.G.fx W3 (by omega) (by omega)), (AR.a.fx W3 (by omega)), (AR.u.fx W3 (by omega)), (AR.x.fx W3 (by omega)), (AR.k.fx W3 (by omega)), (AR.s.fx W3 (by omega))⟩, rfl, (FX.fr (lo := o + 1) (hi := o + 31) ((AF.to (by omega) (by omega)).tr (W3.to (by omega) (by omega))) (by omega) (by omega))⟩
          · exact absurd ((decide_eq_true gz).symm.trans q4) (by decide)
      · have ib9 := ib
        refine ev_body hl rfl (by decide +kernel) (Nat.le_of_ble_eq_true rfl) ?_
        show ev_ l m_X11_basis 0 0 0 [some (.ref (o)), some (.int (nI k)), some (.int (b)), some (.int (c)), none] [] M _
        refine ev_blk (B := [(.aload_n 0, 1)]) (pe := 1) (ls' := [some (.ref (o)), some (.int (nI k)), some (.int (b)), some (.int (c)), none]) (st' := [.ref (o)]) ⟨dX11_basis_0, rfl⟩ rfl ?_
        refine ev_cVw Y_X11_isAnalyzed L_RX11_267 dX11_basis_1 ⟨Nat.le_of_ble_eq_true rfl, Nat.le_of_ble_eq_true rfl, Nat.le_of_ble_eq_true rfl, Nat.le_of_ble_eq_true rfl, Nat.le_of_ble_eq_true rfl⟩ hR.z (as := []) rfl rfl (c_R_isAnalyzed hl o S hS hT10 hG3 (zi) (zl) hR) (fun M4 hL4 hB4 => ?_)
        obtain ⟨Ai, AR, A0, A30, AK, AF⟩ := hB4
        rw [gz] at A0
        obtain ⟨hco, hin⟩ := AR.a.co (A30 gz)
        obtain ⟨hla, hl13, hPBs⟩ := hin c1
        have hPBk := hPBs
        obtain ⟨bs, bn, bf, b2, b11, b12, b14, b15, hbb⟩ := hPBs
        refine ev_ifB_ne dX11_basis_4 (tgt := 9) (by decide) (fun q4 => ?_) (fun q4 => ?_)
        · refine ev_blk (B := [(.iload_n 1, 1), (.iconst 0, 1), (.aload_n 0, 1)]) (pe := 12) (ls' := [some (.ref (o)), some (.int (nI k)), some (.int (b)), some (.int (c)), none]) (st' := [.ref (o), .int (nI 0), .int (nI k)]) ⟨dX11_basis_9, dX11_basis_10, dX11_basis_11, rfl⟩ rfl ?_
          refine ev_getf (v := .int (nI (La S))) F_RX11_261 dX11_basis_12 AR.z (congrArg (fun q => some (Value.int q)) hla) ?_
          refine ev_cSv Y_X11_isBetween L_RX11_134 dX11_basis_15 ⟨Nat.le_of_ble_eq_true rfl, Nat.le_of_ble_eq_true rfl, Nat.le_of_ble_eq_true rfl, Nat.le_of_ble_eq_true rfl, Nat.le_of_ble_eq_true rfl⟩ (as := [.int (nI k), .int (nI 0), .int (nI (La S))]) rfl rfl (c_R_isBT hl _ _ _ (nI_le (Nat.zero_le _) (by omega)) (nI_le (by omega) (by omega))) ?_
          refine ev_ifB_eq dX11_basis_18 (tgt := 46) (by decide) (fun q18 => ?_) (fun q18 => ?_)
          · exact absurd q18 (by decide)
          · refine ev_blk (B := [(.iload_n 2, 1), (.iconst 0, 1), (.aload_n 0, 1)]) (pe := 24) (ls' := [some (.ref (o)), some (.int (nI k)), some (.int (b)), some (.int (c)), none]) (st' := [.ref (o), .int (nI 0), .int (b)]) ⟨dX11_basis_21, dX11_basis_22, dX11_basis_23, rfl⟩ rfl ?_
            refine ev_getf (v := .ref (o + 12)) F_RX11_44 dX11_basis_24 AR.z rfl ?_
            refine ev_blk (B := [(.iload_n 1, 1)]) (pe := 28) (ls' := [some (.ref (o)), some (.int (nI k)), some (.int (b)), some (.int (c)), none]) (st' := [.int (nI k), .ref (o + 12), .int (nI 0), .int (b)]) ⟨dX11_basis_27, rfl⟩ rfl ?_
            refine ev_iald dX11_basis_28 b12 (vp_in_nI (show k < 13 by omega) (by omega)) ?_
            rw [nI_clamp (show k < 2 ^ 31 by omega)]
            rw [show bn k = nI ((bl S.T S.G k).length) from (hbb k (by unfold La at hk; omega)).2.1]
            refine ev_blk (B := [(.iconst 1, 1), (.isub, 1)]) (pe := 31) (ls' := [some (.ref (o)), some (.int (nI k)), some (.int (b)), some (.int (c)), none]) (st' := [.int ((nI ((bl S.T S.G k).length)) - (nI 1)), .int (nI 0), .int (b)]) ⟨dX11_basis_29, dX11_basis_30, rfl⟩ rfl ?_
            refine ev_cSv Y_X11_isBetween L_RX11_134 dX11_basis_31 ⟨Nat.le_of_ble_eq_true rfl, Nat.le_of_ble_eq_true rfl, Nat.le_of_ble_eq_true rfl, Nat.le_of_ble_eq_true rfl, Nat.le_of_ble_eq_true rfl⟩ (as := [.int (b), .int (nI 0), .int ((nI ((bl S.T S.G k).length)) - (nI 1))]) rfl rfl (c_R_isBF hl _ _ _ (isb_no (by omega) ib)) ?_
            refine ev_ifB_eq dX11_basis_34 (tgt := 46) (by decide) (fun q34 => ?_) (fun q34 => ?_)
            · refine ev_blk (B := [(.aload_n 0, 1), (.iconst 3, 1)]) (pe := 48) (ls' := [some (.ref (o)), some (.int (nI k)), some (.int (b)), some (.int (c)), none]) (st' := [.int (nI 3), .ref (o)]) ⟨dX11_basis_46, dX11_basis_47, rfl⟩ rfl ?_
              refine ev_cVv Y_X11_fails L_RX11_144 dX11_basis_48 ⟨Nat.le_of_ble_eq_true rfl, Nat.le_of_ble_eq_true rfl, Nat.le_of_ble_eq_true rfl, Nat.le_of_ble_eq_true rfl, Nat.le_of_ble_eq_true rfl⟩ AR.z (as := [.int (nI 3)]) rfl rfl (c_R_fails hl o (Ai) (zl) AR.z 3) ?_
              refine ev_nm (M0 := M4.set o (.inr (10, zo o (ui (Ai) 0 (nI 3)) (zl)))) (fun Mf eMf => ?_)
              have ff : Mf[o]? = some (.inr (10, zo o (ui (Ai) 0 (nI 3)) (zl))) := by rw [eMf]; exact ev_sg AR.z
              refine ev_iret dX11_basis_51 rfl (rfl) ⟨Nat.le_of_ble_eq_true rfl, Nat.le_of_ble_eq_true rfl⟩ ?_
              have W5 : FX o (o + 31) (o + 31) M4 Mf := ⟨by rw [eMf]; simp only [List.length_set], fun j hj1 hj2 => by rw [eMf, ev_sn (by omega)]⟩
              have e9 : sBa S (nI k) b c = (3, 0) := (gt_z gz).trans (by
                simp only [tN, tk]
                rw [if_neg (show ¬ inR (nI k) (La S + 1) = false by rw [jk]; decide), if_pos ib])
              rw [e9]
              exact ⟨rfl, _, _, ⟨ff, ⟨AR.p.1, AR.p.2.1, AR.p.2.2.1, AR.p.2.2.2.1, AR.p.2.2.2.2.1, AR.p.2.2.2.2.2.1, AR.p.2.2.2.2.2.2.1, AR.p.2.2.2.2.2.2.2.1, AR.p.2.2.2.2.2.2.2.2.1, AR.p.2.2.2.2.2.2.2.2.2⟩, (AR.T.fx W5 (by omega) (by omega)), (AR.H.fx W5 (by omega)), (AR.y.fx W5 (by omega)), (AR.G.fx W5 (by omega) (by omega)), (AR.a.fx W5 (by omega)), (AR.u.fx W5 (by omega)), (AR.x.fx W5 (by omega)), (AR.k.fx W5 (by omega)), (AR.s.fx W5 (by omega))⟩, rfl, (FX.fr (lo := o + 1) (hi := o + 31) ((AF.to (by omega) (by omega)).tr (W5.to (by omega) (by omega))) (by omega) (by omega))⟩
            · exact absurd q34 (by decide)
        · exact absurd ((decide_eq_true gz).symm.trans q4) (by decide)
    · have ia9 := ia
      refine ev_body hl rfl (by decide +kernel) (Nat.le_of_ble_eq_true rfl) ?_
      show ev_ l m_X11_basis 0 0 0 [some (.ref (o)), some (.int (a)), some (.int (b)), some (.int (c)), none] [] M _
      refine ev_blk (B := [(.aload_n 0, 1)]) (pe := 1) (ls' := [some (.ref (o)), some (.int (a)), some (.int (b)), some (.int (c)), none]) (st' := [.ref (o)]) ⟨dX11_basis_0, rfl⟩ rfl ?_
      refine ev_cVw Y_X11_isAnalyzed L_RX11_267 dX11_basis_1 ⟨Nat.le_of_ble_eq_true rfl, Nat.le_of_ble_eq_true rfl, Nat.le_of_ble_eq_true rfl, Nat.le_of_ble_eq_true rfl, Nat.le_of_ble_eq_true rfl⟩ hR.z (as := []) rfl rfl (c_R_isAnalyzed hl o S hS hT10 hG3 (zi) (zl) hR) (fun M6 hL6 hB6 => ?_)
      obtain ⟨Ai, AR, A0, A30, AK, AF⟩ := hB6
      rw [gz] at A0
      obtain ⟨hco, hin⟩ := AR.a.co (A30 gz)
      obtain ⟨hla, hl13, hPBs⟩ := hin c1
      have hPBk := hPBs
      obtain ⟨bs, bn, bf, b2, b11, b12, b14, b15, hbb⟩ := hPBs
      refine ev_ifB_ne dX11_basis_4 (tgt := 9) (by decide) (fun q4 => ?_) (fun q4 => ?_)
      · refine ev_blk (B := [(.iload_n 1, 1), (.iconst 0, 1), (.aload_n 0, 1)]) (pe := 12) (ls' := [some (.ref (o)), some (.int (a)), some (.int (b)), some (.int (c)), none]) (st' := [.ref (o), .int (nI 0), .int (a)]) ⟨dX11_basis_9, dX11_basis_10, dX11_basis_11, rfl⟩ rfl ?_
        refine ev_getf (v := .int (nI (La S))) F_RX11_261 dX11_basis_12 AR.z (congrArg (fun q => some (Value.int q)) hla) ?_
        refine ev_cSv Y_X11_isBetween L_RX11_134 dX11_basis_15 ⟨Nat.le_of_ble_eq_true rfl, Nat.le_of_ble_eq_true rfl, Nat.le_of_ble_eq_true rfl, Nat.le_of_ble_eq_true rfl, Nat.le_of_ble_eq_true rfl⟩ (as := [.int (a), .int (nI 0), .int (nI (La S))]) rfl rfl (c_R_isBF hl _ _ _ (isb_c (by omega) rfl ia)) ?_
        refine ev_ifB_eq dX11_basis_18 (tgt := 46) (by decide) (fun q18 => ?_) (fun q18 => ?_)
        · refine ev_blk (B := [(.aload_n 0, 1), (.iconst 3, 1)]) (pe := 48) (ls' := [some (.ref (o)), some (.int (a)), some (.int (b)), some (.int (c)), none]) (st' := [.int (nI 3), .ref (o)]) ⟨dX11_basis_46, dX11_basis_47, rfl⟩ rfl ?_
          refine ev_cVv Y_X11_fails L_RX11_144 dX11_basis_48 ⟨Nat.le_of_ble_eq_true rfl, Nat.le_of_ble_eq_true rfl, Nat.le_of_ble_eq_true rfl, Nat.le_of_ble_eq_true rfl, Nat.le_of_ble_eq_true rfl⟩ AR.z (as := [.int (nI 3)]) rfl rfl (c_R_fails hl o (Ai) (zl) AR.z 3) ?_
          refine ev_nm (M0 := M6.set o (.inr (10, zo o (ui (Ai) 0 (nI 3)) (zl)))) (fun Mf eMf => ?_)
          have ff : Mf[o]? = some (.inr (10, zo o (ui (Ai) 0 (nI 3)) (zl))) := by rw [eMf]; exact ev_sg AR.z
          refine ev_iret dX11_basis_51 rfl (rfl) ⟨Nat.le_of_ble_eq_true rfl, Nat.le_of_ble_eq_true rfl⟩ ?_
          have W7 : FX o (o + 31) (o + 31) M6 Mf := ⟨by rw [eMf]; simp only [List.length_set], fun j hj1 hj2 => by rw [eMf, ev_sn (by omega)]⟩
          have e9 : sBa S a b c = (3, 0) := (gt_z gz).trans (if_pos ia)
          rw [e9]
          exact ⟨rfl, _, _, ⟨ff, ⟨AR.p.1, AR.p.2.1, AR.p.2.2.1, AR.p.2.2.2.1, AR.p.2.2.2.2.1, AR.p.2.2.2.2.2.1, AR.p.2.2.2.2.2.2.1, AR.p.2.2.2.2.2.2.2.1, AR.p.2.2.2.2.2.2.2.2.1, AR.p.2.2.2.2.2.2.2.2.2⟩, (AR.T.fx W7 (by omega) (by omega)), (AR.H.fx W7 (by omega)), (AR.y.fx W7 (by omega)), (AR.G.fx W7 (by omega) (by omega)), (AR.a.fx W7 (by omega)), (AR.u.fx W7 (by omega)), (AR.x.fx W7 (by omega)), (AR.k.fx W7 (by omega)), (AR.s.fx W7 (by omega))⟩, rfl, (FX.fr (lo := o + 1) (hi := o + 31) ((AF.to (by omega) (by omega)).tr (W7.to (by omega) (by omega))) (by omega) (by omega))⟩
        · exact absurd q18 (by decide)
      · exact absurd ((decide_eq_true gz).symm.trans q4) (by decide)
  · have y9 : True := trivial
    refine ev_body hl rfl (by decide +kernel) (Nat.le_of_ble_eq_true rfl) ?_
    show ev_ l m_X11_basis 0 0 0 [some (.ref (o)), some (.int (a)), some (.int (b)), some (.int (c)), none] [] M _
    refine ev_blk (B := [(.aload_n 0, 1)]) (pe := 1) (ls' := [some (.ref (o)), some (.int (a)), some (.int (b)), some (.int (c)), none]) (st' := [.ref (o)]) ⟨dX11_basis_0, rfl⟩ rfl ?_
    refine ev_cVw Y_X11_isAnalyzed L_RX11_267 dX11_basis_1 ⟨Nat.le_of_ble_eq_true rfl, Nat.le_of_ble_eq_true rfl, Nat.le_of_ble_eq_true rfl, Nat.le_of_ble_eq_true rfl, Nat.le_of_ble_eq_true rfl⟩ hR.z (as := []) rfl rfl (c_R_isAnalyzed hl o S hS hT10 hG3 (zi) (zl) hR) (fun M8 hL8 hB8 => ?_)
    obtain ⟨Ai, AR, A0, A30, AK, AF⟩ := hB8
    refine ev_ifB_ne dX11_basis_4 (tgt := 9) (by decide) (fun q4 => ?_) (fun q4 => ?_)
    · exact absurd ((decide_eq_false gn).symm.trans q4) (by decide)
    · refine ev_blk (B := [(.iconst 0, 1)]) (pe := 8) (ls' := [some (.ref (o)), some (.int (a)), some (.int (b)), some (.int (c)), none]) (st' := [.int (nI 0)]) ⟨dX11_basis_7, rfl⟩ rfl ?_
      refine ev_iret dX11_basis_8 rfl (rfl) ⟨Nat.le_of_ble_eq_true rfl, Nat.le_of_ble_eq_true rfl⟩ ?_
      have e9 : sBa S a b c = (gate S, 0) := gt_n gn
      rw [e9]
      exact ⟨rfl, Ai, zl, AR, A0, (FX.fr (lo := o + 1) (hi := o + 31) (AF.to (by omega) (by omega)) (by omega) (by omega))⟩

set_option maxHeartbeats 4000000 in
set_option maxRecDepth 100000 in
theorem r_basisLetter {l : Launch} (hl : l.stackTraces = false) {M : ev_M} (o : Nat) (S : St) (hS : okS S) (hT10 : S.T.length ≤ 10) (hG3 : S.G.length ≤ 3) (hH20 : S.H.length ≤ 20) (zi : Nat → Int32) (zl : Nat → Int64) (hR : RR M o S zi zl) (a : Int32) (b : Int32) (c : Int32) : ev_Mt l m_X11_basisLetter [.ref (o), .int (a), .int (b), .int (c)] M (fun r M1 => r = .inl (some (.int (sBL S a b c).2)) ∧ ∃ zi' zl', RR M1 o S zi' zl' ∧ zi' 0 = nI (sBL S a b c).1 ∧ Fr o (o + 31) M M1) := by
  rcases gate_c S with ⟨gz, g1, c1⟩ | gn
  · obtain ⟨hL13, hb30⟩ := La_lt c1
    have hbl9 := hb30 (La S) (Nat.le_refl _)
    rcases inR_c a ((bl S.T S.G (La S)).length) (by omega) with ⟨k, hk, rfl⟩ | ia
    · have jk : inR (nI k) ((bl S.T S.G (La S)).length) = true := inR_n hk (by omega)
      have tk : (nI k).toNatClampNeg = k := nI_clamp (by omega)
      have hck := cfs_cg (bl_ok hS.T hS.G (La S)) hk
      have hk30 : k < 30 := by omega
      rcases inR_c b 2 (by omega) with ⟨j, hj, rfl⟩ | ib
      · have jj : inR (nI j) 2 = true := inR_n hj (by omega)
        have tj : (nI j).toNatClampNeg = j := nI_clamp (by omega)
        have hcz := cw_ok hck j
        have hcy := hcz.2
        rcases inR_c c ((cw (cg (bl S.T S.G (La S)) k) j).length) (by omega) with ⟨m, hm, rfl⟩ | ic
        · have jm : inR (nI m) ((cw (cg (bl S.T S.G (La S)) k) j).length) = true := inR_n hm (by omega)
          have tm : (nI m).toNatClampNeg = m := nI_clamp (by omega)
          refine ev_body hl rfl (by decide +kernel) (Nat.le_of_ble_eq_true rfl) ?_
          show ev_ l m_X11_basisLetter 0 0 0 [some (.ref (o)), some (.int (nI k)), some (.int (nI j)), some (.int (nI m)), none, none] [] M _
          refine ev_blk (B := [(.aload_n 0, 1)]) (pe := 1) (ls' := [some (.ref (o)), some (.int (nI k)), some (.int (nI j)), some (.int (nI m)), none, none]) (st' := [.ref (o)]) ⟨dX11_basisLetter_0, rfl⟩ rfl ?_
          refine ev_cVw Y_X11_isAnalyzed L_RX11_267 dX11_basisLetter_1 ⟨Nat.le_of_ble_eq_true rfl, Nat.le_of_ble_eq_true rfl, Nat.le_of_ble_eq_true rfl, Nat.le_of_ble_eq_true rfl, Nat.le_of_ble_eq_true rfl⟩ hR.z (as := []) rfl rfl (c_R_isAnalyzed hl o S hS hT10 hG3 (zi) (zl) hR) (fun M1 hL1 hB1 => ?_)
          obtain ⟨Ai, AR, A0, A30, AK, AF⟩ := hB1
          rw [gz] at A0
          obtain ⟨hco, hin⟩ := AR.a.co (A30 gz)
          obtain ⟨hla, hl13, hPBs⟩ := hin c1
          have hPBk := hPBs
          obtain ⟨bs, bn, bf, b2, b11, b12, b14, b15, hbb⟩ := hPBs
          refine ev_ifB_ne dX11_basisLetter_4 (tgt := 9) (by decide) (fun q4 => ?_) (fun q4 => ?_)
          · refine ev_blk (B := [(.iload_n 1, 1), (.iconst 0, 1), (.aload_n 0, 1)]) (pe := 12) (ls' := [some (.ref (o)), some (.int (nI k)), some (.int (nI j)), some (.int (nI m)), none, none]) (st' := [.ref (o), .int (nI 0), .int (nI k)]) ⟨dX11_basisLetter_9, dX11_basisLetter_10, dX11_basisLetter_11, rfl⟩ rfl ?_
            refine ev_getf (v := .ref (o + 12)) F_RX11_44 dX11_basisLetter_12 AR.z rfl ?_
            refine ev_blk (B := [(.aload_n 0, 1)]) (pe := 16) (ls' := [some (.ref (o)), some (.int (nI k)), some (.int (nI j)), some (.int (nI m)), none, none]) (st' := [.ref (o), .ref (o + 12), .int (nI 0), .int (nI k)]) ⟨dX11_basisLetter_15, rfl⟩ rfl ?_
            refine ev_getf (v := .int (nI (La S))) F_RX11_261 dX11_basisLetter_16 AR.z (congrArg (fun q => some (Value.int q)) hla) ?_
            refine ev_iald dX11_basisLetter_19 b12 (vp_in_nI (show La S < 13 by omega) (by omega)) ?_
            rw [nI_clamp (show La S < 2 ^ 31 by omega)]
            rw [show bn (La S) = nI ((bl S.T S.G (La S)).length) from (hbb (La S) (by unfold La; omega)).2.1]
            refine ev_blk (B := [(.iconst 1, 1), (.isub, 1)]) (pe := 22) (ls' := [some (.ref (o)), some (.int (nI k)), some (.int (nI j)), some (.int (nI m)), none, none]) (st' := [.int (nI (((bl S.T S.G (La S)).length) - 1)), .int (nI 0), .int (nI k)]) ⟨dX11_basisLetter_20, dX11_basisLetter_21, rfl⟩ (by show some (([some (.ref (o)), some (.int (nI k)), some (.int (nI j)), some (.int (nI m)), none, none] : ev_L), ([.int ((nI ((bl S.T S.G (La S)).length)) - (nI 1)), .int (nI 0), .int (nI k)] : List Value)) = _; rw [pk_sub (show 1 ≤ ((bl S.T S.G (La S)).length) by omega)]) ?_
            refine ev_cSv Y_X11_isBetween L_RX11_134 dX11_basisLetter_22 ⟨Nat.le_of_ble_eq_true rfl, Nat.le_of_ble_eq_true rfl, Nat.le_of_ble_eq_true rfl, Nat.le_of_ble_eq_true rfl, Nat.le_of_ble_eq_true rfl⟩ (as := [.int (nI k), .int (nI 0), .int (nI (((bl S.T S.G (La S)).length) - 1))]) rfl rfl (c_R_isBT hl _ _ _ (nI_le (Nat.zero_le _) (by omega)) (by first | exact nI_le (by omega) (by omega) | (rw [pk_sub (show 1 ≤ (bl S.T S.G (La S)).length by omega)]; exact nI_le (by omega) (by omega)))) ?_
            refine ev_ifB_eq dX11_basisLetter_25 (tgt := 35) (by decide) (fun q25 => ?_) (fun q25 => ?_)
            · exact absurd q25 (by decide)
            · refine ev_blk (B := [(.iload_n 2, 1)]) (pe := 29) (ls' := [some (.ref (o)), some (.int (nI k)), some (.int (nI j)), some (.int (nI m)), none, none]) (st' := [.int (nI j)]) ⟨dX11_basisLetter_28, rfl⟩ rfl ?_
              refine ev_cSv Y_X11_isChannel L_RX11_138 dX11_basisLetter_29 ⟨Nat.le_of_ble_eq_true rfl, Nat.le_of_ble_eq_true rfl, Nat.le_of_ble_eq_true rfl, Nat.le_of_ble_eq_true rfl, Nat.le_of_ble_eq_true rfl⟩ (as := [.int (nI j)]) rfl rfl (c_R_isChannel hl (nI j)) ?_
              refine ev_ifB_ne dX11_basisLetter_32 (tgt := 41) (by decide) (fun q32 => ?_) (fun q32 => ?_)
              · refine ev_blk (B := [(.iload_n 2, 1)]) (pe := 42) (ls' := [some (.ref (o)), some (.int (nI k)), some (.int (nI j)), some (.int (nI m)), none, none]) (st' := [.int (nI j)]) ⟨dX11_basisLetter_41, rfl⟩ rfl ?_
                refine ev_fN_ne dX11_basisLetter_42 (tgt := 62) (by decide) (by omega) (fun q42 => ?_) (fun q42 => ?_)
                · refine ev_blk (B := [(.aload_n 0, 1)]) (pe := 63) (ls' := [some (.ref (o)), some (.int (nI k)), some (.int (nI j)), some (.int (nI m)), none, none]) (st' := [.ref (o)]) ⟨dX11_basisLetter_62, rfl⟩ rfl ?_
                  refine ev_getf (v := .ref (o + 15)) F_RX11_53 dX11_basisLetter_63 AR.z rfl ?_
                  refine ev_blk (B := [(.bipush 30, 2), (.aload_n 0, 1)]) (pe := 69) (ls' := [some (.ref (o)), some (.int (nI k)), some (.int (nI j)), some (.int (nI m)), none, none]) (st' := [.ref (o), .int (nI 30), .ref (o + 15)]) ⟨dX11_basisLetter_66, dX11_basisLetter_68, rfl⟩ rfl ?_
                  refine ev_getf (v := .int (nI (La S))) F_RX11_261 dX11_basisLetter_69 AR.z (congrArg (fun q => some (Value.int q)) hla) ?_
                  refine ev_blk (B := [(.imul, 1), (.iload_n 1, 1), (.iadd, 1)]) (pe := 75) (ls' := [some (.ref (o)), some (.int (nI k)), some (.int (nI j)), some (.int (nI m)), none, none]) (st' := [.int (nI ((30 * (La S)) + k)), .ref (o + 15)]) ⟨dX11_basisLetter_72, dX11_basisLetter_73, dX11_basisLetter_74, rfl⟩ (by show some (([some (.ref (o)), some (.int (nI k)), some (.int (nI j)), some (.int (nI m)), none, none] : ev_L), ([.int (((nI 30) * (nI (La S))) + (nI k)), .ref (o + 15)] : List Value)) = _; rw [pk_mul 30 (La S), nI_add (30 * (La S)) k]) ?_
                  refine ev_lald dX11_basisLetter_75 b15 (vp_in_nI (show (30 * (La S)) + k < 390 by omega) (by omega)) ?_
                  rw [nI_clamp (show (30 * (La S)) + k < 2 ^ 31 by omega)]
                  rw [show b2 ((30 * (La S)) + k) = e2 (cg (bl S.T S.G (La S)) k).2.2 from ((hbb (La S) (by unfold La; omega)).2.2 k hk).2.2]
                  have hcx : cw (cg (bl S.T S.G (La S)) k) j = (cg (bl S.T S.G (La S)) k).2.2 := cw_1 q42
                  rw [← hcx]
                  refine ev_blk (B := [(.lstore 4, 2), (.iload_n 3, 1), (.iconst 0, 1), (.lload 4, 2)]) (pe := 82) (ls' := [some (.ref (o)), some (.int (nI k)), some (.int (nI j)), some (.int (nI m)), some (.long (e2 (cw (cg (bl S.T S.G (La S)) k) j))), none]) (st' := [.long (e2 (cw (cg (bl S.T S.G (La S)) k) j)), .int (nI 0), .int (nI m)]) ⟨dX11_basisLetter_76, dX11_basisLetter_78, dX11_basisLetter_79, dX11_basisLetter_80, rfl⟩ rfl ?_
                  refine ev_cSv Y_X11_lengthOf L_RX11_111 dX11_basisLetter_82 ⟨Nat.le_of_ble_eq_true rfl, Nat.le_of_ble_eq_true rfl, Nat.le_of_ble_eq_true rfl, Nat.le_of_ble_eq_true rfl, Nat.le_of_ble_eq_true rfl⟩ (as := [.long (e2 (cw (cg (bl S.T S.G (La S)) k) j))]) rfl rfl (c_R_lengthOf hl ((cw (cg (bl S.T S.G (La S)) k) j)) hcz.1 (Nat.le_trans hcz.2 (by omega))) ?_
                  refine ev_blk (B := [(.iconst 1, 1), (.isub, 1)]) (pe := 87) (ls' := [some (.ref (o)), some (.int (nI k)), some (.int (nI j)), some (.int (nI m)), some (.long (e2 (cw (cg (bl S.T S.G (La S)) k) j))), none]) (st' := [.int (nI ((((cw (cg (bl S.T S.G (La S)) k) j)).length) - 1)), .int (nI 0), .int (nI m)]) ⟨dX11_basisLetter_85, dX11_basisLetter_86, rfl⟩ (by show some (([some (.ref (o)), some (.int (nI k)), some (.int (nI j)), some (.int (nI m)), some (.long (e2 (cw (cg (bl S.T S.G (La S)) k) j))), none] : ev_L), ([.int ((nI (((cw (cg (bl S.T S.G (La S)) k) j)).length)) - (nI 1)), .int (nI 0), .int (nI m)] : List Value)) = _; rw [pk_sub (show 1 ≤ (((cw (cg (bl S.T S.G (La S)) k) j)).length) by omega)]) ?_
                  refine ev_cSv Y_X11_isBetween L_RX11_134 dX11_basisLetter_87 ⟨Nat.le_of_ble_eq_true rfl, Nat.le_of_ble_eq_true rfl, Nat.le_of_ble_eq_true rfl, Nat.le_of_ble_eq_true rfl, Nat.le_of_ble_eq_true rfl⟩ (as := [.int (nI m), .int (nI 0), .int (nI ((((cw (cg (bl S.T S.G (La S)) k) j)).length) - 1))]) rfl rfl (c_R_isBT hl _ _ _ (nI_le (Nat.zero_le _) (by omega)) (by first | exact nI_le (by omega) (by omega) | (rw [pk_sub (show 1 ≤ (cw (cg (bl S.T S.G (La S)) k) j).length by omega)]; exact nI_le (by omega) (by omega)))) ?_
                  refine ev_ifB_eq dX11_basisLetter_90 (tgt := 102) (by decide) (fun q90 => ?_) (fun q90 => ?_)
                  · exact absurd q90 (by decide)
                  · refine ev_blk (B := [(.lload 4, 2), (.iload_n 3, 1)]) (pe := 96) (ls' := [some (.ref (o)), some (.int (nI k)), some (.int (nI j)), some (.int (nI m)), some (.long (e2 (cw (cg (bl S.T S.G (La S)) k) j))), none]) (st' := [.int (nI m), .long (e2 (cw (cg (bl S.T S.G (La S)) k) j))]) ⟨dX11_basisLetter_93, dX11_basisLetter_95, rfl⟩ rfl ?_
                    refine ev_cSv Y_X11_letterAt L_RX11_119 dX11_basisLetter_96 ⟨Nat.le_of_ble_eq_true rfl, Nat.le_of_ble_eq_true rfl, Nat.le_of_ble_eq_true rfl, Nat.le_of_ble_eq_true rfl, Nat.le_of_ble_eq_true rfl⟩ (as := [.long (e2 (cw (cg (bl S.T S.G (La S)) k) j)), .int (nI m)]) rfl rfl (c_R_letterAt hl ((cw (cg (bl S.T S.G (La S)) k) j)) hcz.1 (Nat.le_trans hcz.2 (by omega)) m hm) ?_
                    refine ev_goto (tgt := 107) dX11_basisLetter_99 (by decide) ?_
                    refine ev_iret dX11_basisLetter_107 rfl (rfl) ⟨Nat.le_of_ble_eq_true rfl, Nat.le_of_ble_eq_true rfl⟩ ?_
                    have e9 : sBL S (nI k) (nI j) (nI m) = (0, nI ((cw (cg (bl S.T S.G (La S)) k) j).getD m 0)) := (gt_z gz).trans (by
                      simp only [tN, tk, tj, tm]
                      rw [if_neg (show ¬ inR (nI k) (bl S.T S.G (La S)).length = false by rw [jk]; decide), if_neg (show ¬ inR (nI j) 2 = false by rw [jj]; decide), if_neg (show ¬ inR (nI m) (cw (cg (bl S.T S.G (La S)) k) j).length = false by rw [jm]; decide)])
                    rw [e9]
                    exact ⟨(by rw [gd_at hm]), _, _, ⟨AR.z, ⟨AR.p.1, AR.p.2.1, AR.p.2.2.1, AR.p.2.2.2.1, AR.p.2.2.2.2.1, AR.p.2.2.2.2.2.1, AR.p.2.2.2.2.2.2.1, AR.p.2.2.2.2.2.2.2.1, AR.p.2.2.2.2.2.2.2.2.1, AR.p.2.2.2.2.2.2.2.2.2⟩, AR.T, AR.H, AR.y, AR.G, AR.a, AR.u, AR.x, AR.k, AR.s⟩, A0, (FX.fr (lo := o + 1) (hi := o + 31) (AF.to (by omega) (by omega)) (by omega) (by omega))⟩
                · refine ev_blk (B := [(.aload_n 0, 1)]) (pe := 46) (ls' := [some (.ref (o)), some (.int (nI k)), some (.int (nI j)), some (.int (nI m)), none, none]) (st' := [.ref (o)]) ⟨dX11_basisLetter_45, rfl⟩ rfl ?_
                  refine ev_getf (v := .ref (o + 14)) F_RX11_50 dX11_basisLetter_46 AR.z rfl ?_
                  refine ev_blk (B := [(.bipush 30, 2), (.aload_n 0, 1)]) (pe := 52) (ls' := [some (.ref (o)), some (.int (nI k)), some (.int (nI j)), some (.int (nI m)), none, none]) (st' := [.ref (o), .int (nI 30), .ref (o + 14)]) ⟨dX11_basisLetter_49, dX11_basisLetter_51, rfl⟩ rfl ?_
                  refine ev_getf (v := .int (nI (La S))) F_RX11_261 dX11_basisLetter_52 AR.z (congrArg (fun q => some (Value.int q)) hla) ?_
                  refine ev_blk (B := [(.imul, 1), (.iload_n 1, 1), (.iadd, 1)]) (pe := 58) (ls' := [some (.ref (o)), some (.int (nI k)), some (.int (nI j)), some (.int (nI m)), none, none]) (st' := [.int (nI ((30 * (La S)) + k)), .ref (o + 14)]) ⟨dX11_basisLetter_55, dX11_basisLetter_56, dX11_basisLetter_57, rfl⟩ (by show some (([some (.ref (o)), some (.int (nI k)), some (.int (nI j)), some (.int (nI m)), none, none] : ev_L), ([.int (((nI 30) * (nI (La S))) + (nI k)), .ref (o + 14)] : List Value)) = _; rw [pk_mul 30 (La S), nI_add (30 * (La S)) k]) ?_
                  refine ev_lald dX11_basisLetter_58 b14 (vp_in_nI (show (30 * (La S)) + k < 390 by omega) (by omega)) ?_
                  rw [nI_clamp (show (30 * (La S)) + k < 2 ^ 31 by omega)]
                  rw [show bf ((30 * (La S)) + k) = e2 (cg (bl S.T S.G (La S)) k).2.1 from ((hbb (La S) (by unfold La; omega)).2.2 k hk).2.1]
                  refine ev_goto (tgt := 76) dX11_basisLetter_59 (by decide) ?_
                  have hcx : cw (cg (bl S.T S.G (La S)) k) j = (cg (bl S.T S.G (La S)) k).2.1 := cw_0 q42
                  rw [← hcx]
                  refine ev_blk (B := [(.lstore 4, 2), (.iload_n 3, 1), (.iconst 0, 1), (.lload 4, 2)]) (pe := 82) (ls' := [some (.ref (o)), some (.int (nI k)), some (.int (nI j)), some (.int (nI m)), some (.long (e2 (cw (cg (bl S.T S.G (La S)) k) j))), none]) (st' := [.long (e2 (cw (cg (bl S.T S.G (La S)) k) j)), .int (nI 0), .int (nI m)]) ⟨dX11_basisLetter_76, dX11_basisLetter_78, dX11_basisLetter_79, dX11_basisLetter_80, rfl⟩ rfl ?_
                  refine ev_cSv Y_X11_lengthOf L_RX11_111 dX11_basisLetter_82 ⟨Nat.le_of_ble_eq_true rfl, Nat.le_of_ble_eq_true rfl, Nat.le_of_ble_eq_true rfl, Nat.le_of_ble_eq_true rfl, Nat.le_of_ble_eq_true rfl⟩ (as := [.long (e2 (cw (cg (bl S.T S.G (La S)) k) j))]) rfl rfl (c_R_lengthOf hl ((cw (cg (bl S.T S.G (La S)) k) j)) hcz.1 (Nat.le_trans hcz.2 (by omega))) ?_
                  refine ev_blk (B := [(.iconst 1, 1), (.isub, 1)]) (pe := 87) (ls' := [some (.ref (o)), some (.int (nI k)), some (.int (nI j)), some (.int (nI m)), some (.long (e2 (cw (cg (bl S.T S.G (La S)) k) j))), none]) (st' := [.int (nI ((((cw (cg (bl S.T S.G (La S)) k) j)).length) - 1)), .int (nI 0), .int (nI m)]) ⟨dX11_basisLetter_85, dX11_basisLetter_86, rfl⟩ (by show some (([some (.ref (o)), some (.int (nI k)), some (.int (nI j)), some (.int (nI m)), some (.long (e2 (cw (cg (bl S.T S.G (La S)) k) j))), none] : ev_L), ([.int ((nI (((cw (cg (bl S.T S.G (La S)) k) j)).length)) - (nI 1)), .int (nI 0), .int (nI m)] : List Value)) = _; rw [pk_sub (show 1 ≤ (((cw (cg (bl S.T S.G (La S)) k) j)).length) by omega)]) ?_
                  refine ev_cSv Y_X11_isBetween L_RX11_134 dX11_basisLetter_87 ⟨Nat.le_of_ble_eq_true rfl, Nat.le_of_ble_eq_true rfl, Nat.le_of_ble_eq_true rfl, Nat.le_of_ble_eq_true rfl, Nat.le_of_ble_eq_true rfl⟩ (as := [.int (nI m), .int (nI 0), .int (nI ((((cw (cg (bl S.T S.G (La S)) k) j)).length) - 1))]) rfl rfl (c_R_isBT hl _ _ _ (nI_le (Nat.zero_le _) (by omega)) (by first | exact nI_le (by omega) (by omega) | (rw [pk_sub (show 1 ≤ (cw (cg (bl S.T S.G (La S)) k) j).length by omega)]; exact nI_le (by omega) (by omega)))) ?_
                  refine ev_ifB_eq dX11_basisLetter_90 (tgt := 102) (by decide) (fun q90 => ?_) (fun q90 => ?_)
                  · exact absurd q90 (by decide)
                  · refine ev_blk (B := [(.lload 4, 2), (.iload_n 3, 1)]) (pe := 96) (ls' := [some (.ref (o)), some (.int (nI k)), some (.int (nI j)), some (.int (nI m)), some (.long (e2 (cw (cg (bl S.T S.G (La S)) k) j))), none]) (st' := [.int (nI m), .long (e2 (cw (cg (bl S.T S.G (La S)) k) j))]) ⟨dX11_basisLetter_93, dX11_basisLetter_95, rfl⟩ rfl ?_
                    refine ev_cSv Y_X11_letterAt L_RX11_119 dX11_basisLetter_96 ⟨Nat.le_of_ble_eq_true rfl, Nat.le_of_ble_eq_true rfl, Nat.le_of_ble_eq_true rfl, Nat.le_of_ble_eq_true rfl, Nat.le_of_ble_eq_true rfl⟩ (as := [.long (e2 (cw (cg (bl S.T S.G (La S)) k) j)), .int (nI m)]) rfl rfl (c_R_letterAt hl ((cw (cg (bl S.T S.G (La S)) k) j)) hcz.1 (Nat.le_trans hcz.2 (by omega)) m hm) ?_
                    refine ev_goto (tgt := 107) dX11_basisLetter_99 (by decide) ?_
                    refine ev_iret dX11_basisLetter_107 rfl (rfl) ⟨Nat.le_of_ble_eq_true rfl, Nat.le_of_ble_eq_true rfl⟩ ?_
                    have e9 : sBL S (nI k) (nI j) (nI m) = (0, nI ((cw (cg (bl S.T S.G (La S)) k) j).getD m 0)) := (gt_z gz).trans (by
                      simp only [tN, tk, tj, tm]
                      rw [if_neg (show ¬ inR (nI k) (bl S.T S.G (La S)).length = false by rw [jk]; decide), if_neg (show ¬ inR (nI j) 2 = false by rw [jj]; decide), if_neg (show ¬ inR (nI m) (cw (cg (bl S.T S.G (La S)) k) j).length = false by rw [jm]; decide)])
                    rw [e9]
                    exact ⟨(by rw [gd_at hm]), _, _, ⟨AR.z, ⟨AR.p.1, AR.p.2.1, AR.p.2.2.1, AR.p.2.2.2.1, AR.p.2.2.2.2.1, AR.p.2.2.2.2.2.1, AR.p.2.2.2.2.2.2.1, AR.p.2.2.2.2.2.2.2.1, AR.p.2.2.2.2.2.2.2.2.1, AR.p.2.2.2.2.2.2.2.2.2⟩, AR.T, AR.H, AR.y, AR.G, AR.a, AR.u, AR.x, AR.k, AR.s⟩, A0, (FX.fr (lo := o + 1) (hi := o + 31) (AF.to (by omega) (by omega)) (by omega) (by omega))⟩
              · exact absurd (jj.symm.trans q32) (by decide)
          · exact absurd ((decide_eq_true gz).symm.trans q4) (by decide)
        · have ic9 := ic
          refine ev_body hl rfl (by decide +kernel) (Nat.le_of_ble_eq_true rfl) ?_
          show ev_ l m_X11_basisLetter 0 0 0 [some (.ref (o)), some (.int (nI k)), some (.int (nI j)), some (.int (c)), none, none] [] M _
          refine ev_blk (B := [(.aload_n 0, 1)]) (pe := 1) (ls' := [some (.ref (o)), some (.int (nI k)), some (.int (nI j)), some (.int (c)), none, none]) (st' := [.ref (o)]) ⟨dX11_basisLetter_0, rfl⟩ rfl ?_
          refine ev_cVw Y_X11_isAnalyzed L_RX11_267 dX11_basisLetter_1 ⟨Nat.le_of_ble_eq_true rfl, Nat.le_of_ble_eq_true rfl, Nat.le_of_ble_eq_true rfl, Nat.le_of_ble_eq_true rfl, Nat.le_of_ble_eq_true rfl⟩ hR.z (as := []) rfl rfl (c_R_isAnalyzed hl o S hS hT10 hG3 (zi) (zl) hR) (fun M2 hL2 hB2 => ?_)
          obtain ⟨Ai, AR, A0, A30, AK, AF⟩ := hB2
          rw [gz] at A0
          obtain ⟨hco, hin⟩ := AR.a.co (A30 gz)
          obtain ⟨hla, hl13, hPBs⟩ := hin c1
          have hPBk := hPBs
          obtain ⟨bs, bn, bf, b2, b11, b12, b14, b15, hbb⟩ := hPBs
          refine ev_ifB_ne dX11_basisLetter_4 (tgt := 9) (by decide) (fun q4 => ?_) (fun q4 => ?_)
          · refine ev_blk (B := [(.iload_n 1, 1), (.iconst 0, 1), (.aload_n 0, 1)]) (pe := 12) (ls' := [some (.ref (o)), some (.int (nI k)), some (.int (nI j)), some (.int (c)), none, none]) (st' := [.ref (o), .int (nI 0), .int (nI k)]) ⟨dX11_basisLetter_9, dX11_basisLetter_10, dX11_basisLetter_11, rfl⟩ rfl ?_
            refine ev_getf (v := .ref (o + 12)) F_RX11_44 dX11_basisLetter_12 AR.z rfl ?_
            refine ev_blk (B := [(.aload_n 0, 1)]) (pe := 16) (ls' := [some (.ref (o)), some (.int (nI k)), some (.int (nI j)), some (.int (c)), none, none]) (st' := [.ref (o), .ref (o + 12), .int (nI 0), .int (nI k)]) ⟨dX11_basisLetter_15, rfl⟩ rfl ?_
            refine ev_getf (v := .int (nI (La S))) F_RX11_261 dX11_basisLetter_16 AR.z (congrArg (fun q => some (Value.int q)) hla) ?_
            refine ev_iald dX11_basisLetter_19 b12 (vp_in_nI (show La S < 13 by omega) (by omega)) ?_
            rw [nI_clamp (show La S < 2 ^ 31 by omega)]
            rw [show bn (La S) = nI ((bl S.T S.G (La S)).length) from (hbb (La S) (by unfold La; omega)).2.1]
            refine ev_blk (B := [(.iconst 1, 1), (.isub, 1)]) (pe := 22) (ls' := [some (.ref (o)), some (.int (nI k)), some (.int (nI j)), some (.int (c)), none, none]) (st' := [.int ((nI ((bl S.T S.G (La S)).length)) - (nI 1)), .int (nI 0), .int (nI k)]) ⟨dX11_basisLetter_20, dX11_basisLetter_21, rfl⟩ rfl ?_
            refine ev_cSv Y_X11_isBetween L_RX11_134 dX11_basisLetter_22 ⟨Nat.le_of_ble_eq_true rfl, Nat.le_of_ble_eq_true rfl, Nat.le_of_ble_eq_true rfl, Nat.le_of_ble_eq_true rfl, Nat.le_of_ble_eq_true rfl⟩ (as := [.int (nI k), .int (nI 0), .int ((nI ((bl S.T S.G (La S)).length)) - (nI 1))]) rfl rfl (c_R_isBT hl _ _ _ (nI_le (Nat.zero_le _) (by omega)) (by first | exact nI_le (by omega) (by omega) | (rw [pk_sub (show 1 ≤ (bl S.T S.G (La S)).length by omega)]; exact nI_le (by omega) (by omega)))) ?_
            refine ev_ifB_eq dX11_basisLetter_25 (tgt := 35) (by decide) (fun q25 => ?_) (fun q25 => ?_)
            · exact absurd q25 (by decide)
            · refine ev_blk (B := [(.iload_n 2, 1)]) (pe := 29) (ls' := [some (.ref (o)), some (.int (nI k)), some (.int (nI j)), some (.int (c)), none, none]) (st' := [.int (nI j)]) ⟨dX11_basisLetter_28, rfl⟩ rfl ?_
              refine ev_cSv Y_X11_isChannel L_RX11_138 dX11_basisLetter_29 ⟨Nat.le_of_ble_eq_true rfl, Nat.le_of_ble_eq_true rfl, Nat.le_of_ble_eq_true rfl, Nat.le_of_ble_eq_true rfl, Nat.le_of_ble_eq_true rfl⟩ (as := [.int (nI j)]) rfl rfl (c_R_isChannel hl (nI j)) ?_
              refine ev_ifB_ne dX11_basisLetter_32 (tgt := 41) (by decide) (fun q32 => ?_) (fun q32 => ?_)
              · refine ev_blk (B := [(.iload_n 2, 1)]) (pe := 42) (ls' := [some (.ref (o)), some (.int (nI k)), some (.int (nI j)), some (.int (c)), none, none]) (st' := [.int (nI j)]) ⟨dX11_basisLetter_41, rfl⟩ rfl ?_
                refine ev_fN_ne dX11_basisLetter_42 (tgt := 62) (by decide) (by omega) (fun q42 => ?_) (fun q42 => ?_)
                · refine ev_blk (B := [(.aload_n 0, 1)]) (pe := 63) (ls' := [some (.ref (o)), some (.int (nI k)), some (.int (nI j)), some (.int (c)), none, none]) (st' := [.ref (o)]) ⟨dX11_basisLetter_62, rfl⟩ rfl ?_
                  refine ev_getf (v := .ref (o + 15)) F_RX11_53 dX11_basisLetter_63 AR.z rfl ?_
                  refine ev_blk (B := [(.bipush 30, 2), (.aload_n 0, 1)]) (pe := 69) (ls' := [some (.ref (o)), some (.int (nI k)), some (.int (nI j)), some (.int (c)), none, none]) (st' := [.ref (o), .int (nI 30), .ref (o + 15)]) ⟨dX11_basisLetter_66, dX11_basisLetter_68, rfl⟩ rfl ?_
                  refine ev_getf (v := .int (nI (La S))) F_RX11_261 dX11_basisLetter_69 AR.z (congrArg (fun q => some (Value.int q)) hla) ?_
                  refine ev_blk (B := [(.imul, 1), (.iload_n 1, 1), (.iadd, 1)]) (pe := 75) (ls' := [some (.ref (o)), some (.int (nI k)), some (.int (nI j)), some (.int (c)), none, none]) (st' := [.int (nI ((30 * (La S)) + k)), .ref (o + 15)]) ⟨dX11_basisLetter_72, dX11_basisLetter_73, dX11_basisLetter_74, rfl⟩ (by show some (([some (.ref (o)), some (.int (nI k)), some (.int (nI j)), some (.int (c)), none, none] : ev_L), ([.int (((nI 30) * (nI (La S))) + (nI k)), .ref (o + 15)] : List Value)) = _; rw [pk_mul 30 (La S), nI_add (30 * (La S)) k]) ?_
                  refine ev_lald dX11_basisLetter_75 b15 (vp_in_nI (show (30 * (La S)) + k < 390 by omega) (by omega)) ?_
                  rw [nI_clamp (show (30 * (La S)) + k < 2 ^ 31 by omega)]
                  rw [show b2 ((30 * (La S)) + k) = e2 (cg (bl S.T S.G (La S)) k).2.2 from ((hbb (La S) (by unfold La; omega)).2.2 k hk).2.2]
                  have hcx : cw (cg (bl S.T S.G (La S)) k) j = (cg (bl S.T S.G (La S)) k).2.2 := cw_1 q42
                  rw [← hcx]
                  refine ev_blk (B := [(.lstore 4, 2), (.iload_n 3, 1), (.iconst 0, 1), (.lload 4, 2)]) (pe := 82) (ls' := [some (.ref (o)), some (.int (nI k)), some (.int (nI j)), some (.int (c)), some (.long (e2 (cw (cg (bl S.T S.G (La S)) k) j))), none]) (st' := [.long (e2 (cw (cg (bl S.T S.G (La S)) k) j)), .int (nI 0), .int (c)]) ⟨dX11_basisLetter_76, dX11_basisLetter_78, dX11_basisLetter_79, dX11_basisLetter_80, rfl⟩ rfl ?_
                  refine ev_cSv Y_X11_lengthOf L_RX11_111 dX11_basisLetter_82 ⟨Nat.le_of_ble_eq_true rfl, Nat.le_of_ble_eq_true rfl, Nat.le_of_ble_eq_true rfl, Nat.le_of_ble_eq_true rfl, Nat.le_of_ble_eq_true rfl⟩ (as := [.long (e2 (cw (cg (bl S.T S.G (La S)) k) j))]) rfl rfl (c_R_lengthOf hl ((cw (cg (bl S.T S.G (La S)) k) j)) hcz.1 (Nat.le_trans hcz.2 (by omega))) ?_
                  refine ev_blk (B := [(.iconst 1, 1), (.isub, 1)]) (pe := 87) (ls' := [some (.ref (o)), some (.int (nI k)), some (.int (nI j)), some (.int (c)), some (.long (e2 (cw (cg (bl S.T S.G (La S)) k) j))), none]) (st' := [.int ((nI (((cw (cg (bl S.T S.G (La S)) k) j)).length)) - (nI 1)), .int (nI 0), .int (c)]) ⟨dX11_basisLetter_85, dX11_basisLetter_86, rfl⟩ rfl ?_
                  refine ev_cSv Y_X11_isBetween L_RX11_134 dX11_basisLetter_87 ⟨Nat.le_of_ble_eq_true rfl, Nat.le_of_ble_eq_true rfl, Nat.le_of_ble_eq_true rfl, Nat.le_of_ble_eq_true rfl, Nat.le_of_ble_eq_true rfl⟩ (as := [.int (c), .int (nI 0), .int ((nI (((cw (cg (bl S.T S.G (La S)) k) j)).length)) - (nI 1))]) rfl rfl (c_R_isBF hl _ _ _ (isb_no (by omega) ic)) ?_
                  refine ev_ifB_eq dX11_basisLetter_90 (tgt := 102) (by decide) (fun q90 => ?_) (fun q90 => ?_)
                  · refine ev_blk (B := [(.aload_n 0, 1), (.iconst 3, 1)]) (pe := 104) (ls' := [some (.ref (o)), some (.int (nI k)), some (.int (nI j)), some (.int (c)), some (.long (e2 (cw (cg (bl S.T S.G (La S)) k) j))), none]) (st' := [.int (nI 3), .ref (o)]) ⟨dX11_basisLetter_102, dX11_basisLetter_103, rfl⟩ rfl ?_
                    refine ev_cVv Y_X11_fails L_RX11_144 dX11_basisLetter_104 ⟨Nat.le_of_ble_eq_true rfl, Nat.le_of_ble_eq_true rfl, Nat.le_of_ble_eq_true rfl, Nat.le_of_ble_eq_true rfl, Nat.le_of_ble_eq_true rfl⟩ AR.z (as := [.int (nI 3)]) rfl rfl (c_R_fails hl o (Ai) (zl) AR.z 3) ?_
                    refine ev_nm (M0 := M2.set o (.inr (10, zo o (ui (Ai) 0 (nI 3)) (zl)))) (fun Mf eMf => ?_)
                    have ff : Mf[o]? = some (.inr (10, zo o (ui (Ai) 0 (nI 3)) (zl))) := by rw [eMf]; exact ev_sg AR.z
                    refine ev_iret dX11_basisLetter_107 rfl (rfl) ⟨Nat.le_of_ble_eq_true rfl, Nat.le_of_ble_eq_true rfl⟩ ?_
                    have W3 : FX o (o + 31) (o + 31) M2 Mf := ⟨by rw [eMf]; simp only [List.length_set], fun j hj1 hj2 => by rw [eMf, ev_sn (by omega)]⟩
                    have e9 : sBL S (nI k) (nI j) c = (3, 0) := (gt_z gz).trans (by
                      simp only [tN, tk, tj]
                      rw [if_neg (show ¬ inR (nI k) (bl S.T S.G (La S)).length = false by rw [jk]; decide), if_neg (show ¬ inR (nI j) 2 = false by rw [jj]; decide), if_pos ic])
                    rw [e9]
                    exact ⟨rfl, _, _, ⟨ff, ⟨AR.p.1, AR.p.2.1, AR.p.2.2.1, AR.p.2.2.2.1, AR.p.2.2.2.2.1, AR.p.2.2.2.2.2.1, AR.p.2.2.2.2.2.2.1, AR.p.2.2.2.2.2.2.2.1, AR.p.2.2.2.2.2.2.2.2.1, AR.p.2.2.2.2.2.2.2.2.2⟩, (AR.T.fx W3 (by omega) (by omega)), (AR.H.fx W3 (by omega)), (AR.y.fx W3 (by omega)), (AR.G.fx W3 (by omega) (by omega)), (AR.a.fx W3 (by omega)), (AR.u.fx W3 (by omega)), (AR.x.fx W3 (by omega)), (AR.k.fx W3 (by omega)), (AR.s.fx W3 (by omega))⟩, rfl, (FX.fr (lo := o + 1) (hi := o + 31) ((AF.to (by omega) (by omega)).tr (W3.to (by omega) (by omega))) (by omega) (by omega))⟩
                  · exact absurd q90 (by decide)
                · refine ev_blk (B := [(.aload_n 0, 1)]) (pe := 46) (ls' := [some (.ref (o)), some (.int (nI k)), some (.int (nI j)), some (.int (c)), none, none]) (st' := [.ref (o)]) ⟨dX11_basisLetter_45, rfl⟩ rfl ?_
                  refine ev_getf (v := .ref (o + 14)) F_RX11_50 dX11_basisLetter_46 AR.z rfl ?_
                  refine ev_blk (B := [(.bipush 30, 2), (.aload_n 0, 1)]) (pe := 52) (ls' := [some (.ref (o)), some (.int (nI k)), some (.int (nI j)), some (.int (c)), none, none]) (st' := [.ref (o), .int (nI 30), .ref (o + 14)]) ⟨dX11_basisLetter_49, dX11_basisLetter_51, rfl⟩ rfl ?_
                  refine ev_getf (v := .int (nI (La S))) F_RX11_261 dX11_basisLetter_52 AR.z (congrArg (fun q => some (Value.int q)) hla) ?_
                  refine ev_blk (B := [(.imul, 1), (.iload_n 1, 1), (.iadd, 1)]) (pe := 58) (ls' := [some (.ref (o)), some (.int (nI k)), some (.int (nI j)), some (.int (c)), none, none]) (st' := [.int (nI ((30 * (La S)) + k)), .ref (o + 14)]) ⟨dX11_basisLetter_55, dX11_basisLetter_56, dX11_basisLetter_57, rfl⟩ (by show some (([some (.ref (o)), some (.int (nI k)), some (.int (nI j)), some (.int (c)), none, none] : ev_L), ([.int (((nI 30) * (nI (La S))) + (nI k)), .ref (o + 14)] : List Value)) = _; rw [pk_mul 30 (La S), nI_add (30 * (La S)) k]) ?_
                  refine ev_lald dX11_basisLetter_58 b14 (vp_in_nI (show (30 * (La S)) + k < 390 by omega) (by omega)) ?_
                  rw [nI_clamp (show (30 * (La S)) + k < 2 ^ 31 by omega)]
                  rw [show bf ((30 * (La S)) + k) = e2 (cg (bl S.T S.G (La S)) k).2.1 from ((hbb (La S) (by unfold La; omega)).2.2 k hk).2.1]
                  refine ev_goto (tgt := 76) dX11_basisLetter_59 (by decide) ?_
                  have hcx : cw (cg (bl S.T S.G (La S)) k) j = (cg (bl S.T S.G (La S)) k).2.1 := cw_0 q42
                  rw [← hcx]
                  refine ev_blk (B := [(.lstore 4, 2), (.iload_n 3, 1), (.iconst 0, 1), (.lload 4, 2)]) (pe := 82) (ls' := [some (.ref (o)), some (.int (nI k)), some (.int (nI j)), some (.int (c)), some (.long (e2 (cw (cg (bl S.T S.G (La S)) k) j))), none]) (st' := [.long (e2 (cw (cg (bl S.T S.G (La S)) k) j)), .int (nI 0), .int (c)]) ⟨dX11_basisLetter_76, dX11_basisLetter_78, dX11_basisLetter_79, dX11_basisLetter_80, rfl⟩ rfl ?_
                  refine ev_cSv Y_X11_lengthOf L_RX11_111 dX11_basisLetter_82 ⟨Nat.le_of_ble_eq_true rfl, Nat.le_of_ble_eq_true rfl, Nat.le_of_ble_eq_true rfl, Nat.le_of_ble_eq_true rfl, Nat.le_of_ble_eq_true rfl⟩ (as := [.long (e2 (cw (cg (bl S.T S.G (La S)) k) j))]) rfl rfl (c_R_lengthOf hl ((cw (cg (bl S.T S.G (La S)) k) j)) hcz.1 (Nat.le_trans hcz.2 (by omega))) ?_
                  refine ev_blk (B := [(.iconst 1, 1), (.isub, 1)]) (pe := 87) (ls' := [some (.ref (o)), some (.int (nI k)), some (.int (nI j)), some (.int (c)), some (.long (e2 (cw (cg (bl S.T S.G (La S)) k) j))), none]) (st' := [.int ((nI (((cw (cg (bl S.T S.G (La S)) k) j)).length)) - (nI 1)), .int (nI 0), .int (c)]) ⟨dX11_basisLetter_85, dX11_basisLetter_86, rfl⟩ rfl ?_
                  refine ev_cSv Y_X11_isBetween L_RX11_134 dX11_basisLetter_87 ⟨Nat.le_of_ble_eq_true rfl, Nat.le_of_ble_eq_true rfl, Nat.le_of_ble_eq_true rfl, Nat.le_of_ble_eq_true rfl, Nat.le_of_ble_eq_true rfl⟩ (as := [.int (c), .int (nI 0), .int ((nI (((cw (cg (bl S.T S.G (La S)) k) j)).length)) - (nI 1))]) rfl rfl (c_R_isBF hl _ _ _ (isb_no (by omega) ic)) ?_
                  refine ev_ifB_eq dX11_basisLetter_90 (tgt := 102) (by decide) (fun q90 => ?_) (fun q90 => ?_)
                  · refine ev_blk (B := [(.aload_n 0, 1), (.iconst 3, 1)]) (pe := 104) (ls' := [some (.ref (o)), some (.int (nI k)), some (.int (nI j)), some (.int (c)), some (.long (e2 (cw (cg (bl S.T S.G (La S)) k) j))), none]) (st' := [.int (nI 3), .ref (o)]) ⟨dX11_basisLetter_102, dX11_basisLetter_103, rfl⟩ rfl ?_
                    refine ev_cVv Y_X11_fails L_RX11_144 dX11_basisLetter_104 ⟨Nat.le_of_ble_eq_true rfl, Nat.le_of_ble_eq_true rfl, Nat.le_of_ble_eq_true rfl, Nat.le_of_ble_eq_true rfl, Nat.le_of_ble_eq_true rfl⟩ AR.z (as := [.int (nI 3)]) rfl rfl (c_R_fails hl o (Ai) (zl) AR.z 3) ?_
                    refine ev_nm (M0 := M2.set o (.inr (10, zo o (ui (Ai) 0 (nI 3)) (zl)))) (fun Mf eMf => ?_)
                    have ff : Mf[o]? = some (.inr (10, zo o (ui (Ai) 0 (nI 3)) (zl))) := by rw [eMf]; exact ev_sg AR.z
                    refine ev_iret dX11_basisLetter_107 rfl (rfl) ⟨Nat.le_of_ble_eq_true rfl, Nat.le_of_ble_eq_true rfl⟩ ?_
                    have W4 : FX o (o + 31) (o + 31) M2 Mf := ⟨by rw [eMf]; simp only [List.length_set], fun j hj1 hj2 => by rw [eMf, ev_sn (by omega)]⟩
                    have e9 : sBL S (nI k) (nI j) c = (3, 0) := (gt_z gz).trans (by
                      simp only [tN, tk, tj]
                      rw [if_neg (show ¬ inR (nI k) (bl S.T S.G (La S)).length = false by rw [jk]; decide), if_neg (show ¬ inR (nI j) 2 = false by rw [jj]; decide), if_pos ic])
                    rw [e9]
                    exact ⟨rfl, _, _, ⟨ff, ⟨AR.p.1, AR.p.2.1, AR.p.2.2.1, AR.p.2.2.2.1, AR.p.2.2.2.2.1, AR.p.2.2.2.2.2.1, AR.p.2.2.2.2.2.2.1, AR.p.2.2.2.2.2.2.2.1, AR.p.2.2.2.2.2.2.2.2.1, AR.p.2.2.2.2.2.2.2.2.2⟩, (AR.T.fx W4 (by omega) (by omega)), (AR.H.fx W4 (by omega)), (AR.y.fx W4 (by omega)), (AR.G.fx W4 (by omega) (by omega)), (AR.a.fx W4 (by omega)), (AR.u.fx W4 (by omega)), (AR.x.fx W4 (by omega)), (AR.k.fx W4 (by omega)), (AR.s.fx W4 (by omega))⟩, rfl, (FX.fr (lo := o + 1) (hi := o + 31) ((AF.to (by omega) (by omega)).tr (W4.to (by omega) (by omega))) (by omega) (by omega))⟩
                  · exact absurd q90 (by decide)
              · exact absurd (jj.symm.trans q32) (by decide)
          · exact absurd ((decide_eq_true gz).symm.trans q4) (by decide)
      · have ib9 := ib
        refine ev_body hl rfl (by decide +kernel) (Nat.le_of_ble_eq_true rfl) ?_
        show ev_ l m_X11_basisLetter 0 0 0 [some (.ref (o)), some (.int (nI k)), some (.int (b)), some (.int (c)), none, none] [] M _
        refine ev_blk (B := [(.aload_n 0, 1)]) (pe := 1) (ls' := [some (.ref (o)), some (.int (nI k)), some (.int (b)), some (.int (c)), none, none]) (st' := [.ref (o)]) ⟨dX11_basisLetter_0, rfl⟩ rfl ?_
        refine ev_cVw Y_X11_isAnalyzed L_RX11_267 dX11_basisLetter_1 ⟨Nat.le_of_ble_eq_true rfl, Nat.le_of_ble_eq_true rfl, Nat.le_of_ble_eq_true rfl, Nat.le_of_ble_eq_true rfl, Nat.le_of_ble_eq_true rfl⟩ hR.z (as := []) rfl rfl (c_R_isAnalyzed hl o S hS hT10 hG3 (zi) (zl) hR) (fun M5 hL5 hB5 => ?_)
        obtain ⟨Ai, AR, A0, A30, AK, AF⟩ := hB5
        rw [gz] at A0
        obtain ⟨hco, hin⟩ := AR.a.co (A30 gz)
        obtain ⟨hla, hl13, hPBs⟩ := hin c1
        have hPBk := hPBs
        obtain ⟨bs, bn, bf, b2, b11, b12, b14, b15, hbb⟩ := hPBs
        refine ev_ifB_ne dX11_basisLetter_4 (tgt := 9) (by decide) (fun q4 => ?_) (fun q4 => ?_)
        · refine ev_blk (B := [(.iload_n 1, 1), (.iconst 0, 1), (.aload_n 0, 1)]) (pe := 12) (ls' := [some (.ref (o)), some (.int (nI k)), some (.int (b)), some (.int (c)), none, none]) (st' := [.ref (o), .int (nI 0), .int (nI k)]) ⟨dX11_basisLetter_9, dX11_basisLetter_10, dX11_basisLetter_11, rfl⟩ rfl ?_
          refine ev_getf (v := .ref (o + 12)) F_RX11_44 dX11_basisLetter_12 AR.z rfl ?_
          refine ev_blk (B := [(.aload_n 0, 1)]) (pe := 16) (ls' := [some (.ref (o)), some (.int (nI k)), some (.int (b)), some (.int (c)), none, none]) (st' := [.ref (o), .ref (o + 12), .int (nI 0), .int (nI k)]) ⟨dX11_basisLetter_15, rfl⟩ rfl ?_
          refine ev_getf (v := .int (nI (La S))) F_RX11_261 dX11_basisLetter_16 AR.z (congrArg (fun q => some (Value.int q)) hla) ?_
          refine ev_iald dX11_basisLetter_19 b12 (vp_in_nI (show La S < 13 by omega) (by omega)) ?_
          rw [nI_clamp (show La S < 2 ^ 31 by omega)]
          rw [show bn (La S) = nI ((bl S.T S.G (La S)).length) from (hbb (La S) (by unfold La; omega)).2.1]
          refine ev_blk (B := [(.iconst 1, 1), (.isub, 1)]) (pe := 22) (ls' := [some (.ref (o)), some (.int (nI k)), some (.int (b)), some (.int (c)), none, none]) (st' := [.int ((nI ((bl S.T S.G (La S)).length)) - (nI 1)), .int (nI 0), .int (nI k)]) ⟨dX11_basisLetter_20, dX11_basisLetter_21, rfl⟩ rfl ?_
          refine ev_cSv Y_X11_isBetween L_RX11_134 dX11_basisLetter_22 ⟨Nat.le_of_ble_eq_true rfl, Nat.le_of_ble_eq_true rfl, Nat.le_of_ble_eq_true rfl, Nat.le_of_ble_eq_true rfl, Nat.le_of_ble_eq_true rfl⟩ (as := [.int (nI k), .int (nI 0), .int ((nI ((bl S.T S.G (La S)).length)) - (nI 1))]) rfl rfl (c_R_isBT hl _ _ _ (nI_le (Nat.zero_le _) (by omega)) (by first | exact nI_le (by omega) (by omega) | (rw [pk_sub (show 1 ≤ (bl S.T S.G (La S)).length by omega)]; exact nI_le (by omega) (by omega)))) ?_
          refine ev_ifB_eq dX11_basisLetter_25 (tgt := 35) (by decide) (fun q25 => ?_) (fun q25 => ?_)
          · exact absurd q25 (by decide)
          · refine ev_blk (B := [(.iload_n 2, 1)]) (pe := 29) (ls' := [some (.ref (o)), some (.int (nI k)), some (.int (b)), some (.int (c)), none, none]) (st' := [.int (b)]) ⟨dX11_basisLetter_28, rfl⟩ rfl ?_
            refine ev_cSv Y_X11_isChannel L_RX11_138 dX11_basisLetter_29 ⟨Nat.le_of_ble_eq_true rfl, Nat.le_of_ble_eq_true rfl, Nat.le_of_ble_eq_true rfl, Nat.le_of_ble_eq_true rfl, Nat.le_of_ble_eq_true rfl⟩ (as := [.int (b)]) rfl rfl (c_R_isChannel hl b) ?_
            refine ev_ifB_ne dX11_basisLetter_32 (tgt := 41) (by decide) (fun q32 => ?_) (fun q32 => ?_)
            · exact absurd (ib.symm.trans q32) (by decide)
            · refine ev_blk (B := [(.aload_n 0, 1), (.iconst 3, 1)]) (pe := 37) (ls' := [some (.ref (o)), some (.int (nI k)), some (.int (b)), some (.int (c)), none, none]) (st' := [.int (nI 3), .ref (o)]) ⟨dX11_basisLetter_35, dX11_basisLetter_36, rfl⟩ rfl ?_
              refine ev_cVv Y_X11_fails L_RX11_144 dX11_basisLetter_37 ⟨Nat.le_of_ble_eq_true rfl, Nat.le_of_ble_eq_true rfl, Nat.le_of_ble_eq_true rfl, Nat.le_of_ble_eq_true rfl, Nat.le_of_ble_eq_true rfl⟩ AR.z (as := [.int (nI 3)]) rfl rfl (c_R_fails hl o (Ai) (zl) AR.z 3) ?_
              refine ev_nm (M0 := M5.set o (.inr (10, zo o (ui (Ai) 0 (nI 3)) (zl)))) (fun Mf eMf => ?_)
              have ff : Mf[o]? = some (.inr (10, zo o (ui (Ai) 0 (nI 3)) (zl))) := by rw [eMf]; exact ev_sg AR.z
              refine ev_iret dX11_basisLetter_40 rfl (rfl) ⟨Nat.le_of_ble_eq_true rfl, Nat.le_of_ble_eq_true rfl⟩ ?_
              have W6 : FX o (o + 31) (o + 31) M5 Mf := ⟨by rw [eMf]; simp only [List.length_set], fun j hj1 hj2 => by rw [eMf, ev_sn (by omega)]⟩
              have e9 : sBL S (nI k) b c = (3, 0) := (gt_z gz).trans (by
                simp only [tN, tk]
                rw [if_neg (show ¬ inR (nI k) (bl S.T S.G (La S)).length = false by rw [jk]; decide), if_pos ib])
              rw [e9]
              exact ⟨rfl, _, _, ⟨ff, ⟨AR.p.1, AR.p.2.1, AR.p.2.2.1, AR.p.2.2.2.1, AR.p.2.2.2.2.1, AR.p.2.2.2.2.2.1, AR.p.2.2.2.2.2.2.1, AR.p.2.2.2.2.2.2.2.1, AR.p.2.2.2.2.2.2.2.2.1, AR.p.2.2.2.2.2.2.2.2.2⟩, (AR.T.fx W6 (by omega) (by omega)), (AR.H.fx W6 (by omega)), (AR.y.fx W6 (by omega)), (AR.G.fx W6 (by omega) (by omega)), (AR.a.fx W6 (by omega)), (AR.u.fx W6 (by omega)), (AR.x.fx W6 (by omega)), (AR.k.fx W6 (by omega)), (AR.s.fx W6 (by omega))⟩, rfl, (FX.fr (lo := o + 1) (hi := o + 31) ((AF.to (by omega) (by omega)).tr (W6.to (by omega) (by omega))) (by omega) (by omega))⟩
        · exact absurd ((decide_eq_true gz).symm.trans q4) (by decide)
    · have ia9 := ia
      refine ev_body hl rfl (by decide +kernel) (Nat.le_of_ble_eq_true rfl) ?_
      show ev_ l m_X11_basisLetter 0 0 0 [some (.ref (o)), some (.int (a)), some (.int (b)), some (.int (c)), none, none] [] M _
      refine ev_blk (B := [(.aload_n 0, 1)]) (pe := 1) (ls' := [some (.ref (o)), some (.int (a)), some (.int (b)), some (.int (c)), none, none]) (st' := [.ref (o)]) ⟨dX11_basisLetter_0, rfl⟩ rfl ?_
      refine ev_cVw Y_X11_isAnalyzed L_RX11_267 dX11_basisLetter_1 ⟨Nat.le_of_ble_eq_true rfl, Nat.le_of_ble_eq_true rfl, Nat.le_of_ble_eq_true rfl, Nat.le_of_ble_eq_true rfl, Nat.le_of_ble_eq_true rfl⟩ hR.z (as := []) rfl rfl (c_R_isAnalyzed hl o S hS hT10 hG3 (zi) (zl) hR) (fun M7 hL7 hB7 => ?_)
      obtain ⟨Ai, AR, A0, A30, AK, AF⟩ := hB7
      rw [gz] at A0
      obtain ⟨hco, hin⟩ := AR.a.co (A30 gz)
      obtain ⟨hla, hl13, hPBs⟩ := hin c1
      have hPBk := hPBs
      obtain ⟨bs, bn, bf, b2, b11, b12, b14, b15, hbb⟩ := hPBs
      refine ev_ifB_ne dX11_basisLetter_4 (tgt := 9) (by decide) (fun q4 => ?_) (fun q4 => ?_)
      · refine ev_blk (B := [(.iload_n 1, 1), (.iconst 0, 1), (.aload_n 0, 1)]) (pe := 12) (ls' := [some (.ref (o)), some (.int (a)), some (.int (b)), some (.int (c)), none, none]) (st' := [.ref (o), .int (nI 0), .int (a)]) ⟨dX11_basisLetter_9, dX11_basisLetter_10, dX11_basisLetter_11, rfl⟩ rfl ?_
        refine ev_getf (v := .ref (o + 12)) F_RX11_44 dX11_basisLetter_12 AR.z rfl ?_
        refine ev_blk (B := [(.aload_n 0, 1)]) (pe := 16) (ls' := [some (.ref (o)), some (.int (a)), some (.int (b)), some (.int (c)), none, none]) (st' := [.ref (o), .ref (o + 12), .int (nI 0), .int (a)]) ⟨dX11_basisLetter_15, rfl⟩ rfl ?_
        refine ev_getf (v := .int (nI (La S))) F_RX11_261 dX11_basisLetter_16 AR.z (congrArg (fun q => some (Value.int q)) hla) ?_
        refine ev_iald dX11_basisLetter_19 b12 (vp_in_nI (show La S < 13 by omega) (by omega)) ?_
        rw [nI_clamp (show La S < 2 ^ 31 by omega)]
        rw [show bn (La S) = nI ((bl S.T S.G (La S)).length) from (hbb (La S) (by unfold La; omega)).2.1]
        refine ev_blk (B := [(.iconst 1, 1), (.isub, 1)]) (pe := 22) (ls' := [some (.ref (o)), some (.int (a)), some (.int (b)), some (.int (c)), none, none]) (st' := [.int ((nI ((bl S.T S.G (La S)).length)) - (nI 1)), .int (nI 0), .int (a)]) ⟨dX11_basisLetter_20, dX11_basisLetter_21, rfl⟩ rfl ?_
        refine ev_cSv Y_X11_isBetween L_RX11_134 dX11_basisLetter_22 ⟨Nat.le_of_ble_eq_true rfl, Nat.le_of_ble_eq_true rfl, Nat.le_of_ble_eq_true rfl, Nat.le_of_ble_eq_true rfl, Nat.le_of_ble_eq_true rfl⟩ (as := [.int (a), .int (nI 0), .int ((nI ((bl S.T S.G (La S)).length)) - (nI 1))]) rfl rfl (c_R_isBF hl _ _ _ (isb_no (by omega) ia)) ?_
        refine ev_ifB_eq dX11_basisLetter_25 (tgt := 35) (by decide) (fun q25 => ?_) (fun q25 => ?_)
        · refine ev_blk (B := [(.aload_n 0, 1), (.iconst 3, 1)]) (pe := 37) (ls' := [some (.ref (o)), some (.int (a)), some (.int (b)), some (.int (c)), none, none]) (st' := [.int (nI 3), .ref (o)]) ⟨dX11_basisLetter_35, dX11_basisLetter_36, rfl⟩ rfl ?_
          refine ev_cVv Y_X11_fails L_RX11_144 dX11_basisLetter_37 ⟨Nat.le_of_ble_eq_true rfl, Nat.le_of_ble_eq_true rfl, Nat.le_of_ble_eq_true rfl, Nat.le_of_ble_eq_true rfl, Nat.le_of_ble_eq_true rfl⟩ AR.z (as := [.int (nI 3)]) rfl rfl (c_R_fails hl o (Ai) (zl) AR.z 3) ?_
          refine ev_nm (M0 := M7.set o (.inr (10, zo o (ui (Ai) 0 (nI 3)) (zl)))) (fun Mf eMf => ?_)
          have ff : Mf[o]? = some (.inr (10, zo o (ui (Ai) 0 (nI 3)) (zl))) := by rw [eMf]; exact ev_sg AR.z
          refine ev_iret dX11_basisLetter_40 rfl (rfl) ⟨Nat.le_of_ble_eq_true rfl, Nat.le_of_ble_eq_true rfl⟩ ?_
          have W8 : FX o (o + 31) (o + 31) M7 Mf := ⟨by rw [eMf]; simp only [List.length_set], fun j hj1 hj2 => by rw [eMf, ev_sn (by omega)]⟩
          have e9 : sBL S a b c = (3, 0) := (gt_z gz).trans (if_pos ia)
          rw [e9]
          exact ⟨rfl, _, _, ⟨ff, ⟨AR.p.1, AR.p.2.1, AR.p.2.2.1, AR.p.2.2.2.1, AR.p.2.2.2.2.1, AR.p.2.2.2.2.2.1, AR.p.2.2.2.2.2.2.1, AR.p.2.2.2.2.2.2.2.1, AR.p.2.2.2.2.2.2.2.2.1, AR.p.2.2.2.2.2.2.2.2.2⟩, (AR.T.fx W8 (by omega) (by omega)), (AR.H.fx W8 (by omega)), (AR.y.fx W8 (by omega)), (AR.G.fx W8 (by omega) (by omega)), (AR.a.fx W8 (by omega)), (AR.u.fx W8 (by omega)), (AR.x.fx W8 (by omega)), (AR.k.fx W8 (by omega)), (AR.s.fx W8 (by omega))⟩, rfl, (FX.fr (lo := o + 1) (hi := o + 31) ((AF.to (by omega) (by omega)).tr (W8.to (by omega) (by omega))) (by omega) (by omega))⟩
        · exact absurd q25 (by decide)
      · exact absurd ((decide_eq_true gz).symm.trans q4) (by decide)
  · have y9 : True := trivial
    refine ev_body hl rfl (by decide +kernel) (Nat.le_of_ble_eq_true rfl) ?_
    show ev_ l m_X11_basisLetter 0 0 0 [some (.ref (o)), some (.int (a)), some (.int (b)), some (.int (c)), none, none] [] M _
    refine ev_blk (B := [(.aload_n 0, 1)]) (pe := 1) (ls' := [some (.ref (o)), some (.int (a)), some (.int (b)), some (.int (c)), none, none]) (st' := [.ref (o)]) ⟨dX11_basisLetter_0, rfl⟩ rfl ?_
    refine ev_cVw Y_X11_isAnalyzed L_RX11_267 dX11_basisLetter_1 ⟨Nat.le_of_ble_eq_true rfl, Nat.le_of_ble_eq_true rfl, Nat.le_of_ble_eq_true rfl, Nat.le_of_ble_eq_true rfl, Nat.le_of_ble_eq_true rfl⟩ hR.z (as := []) rfl rfl (c_R_isAnalyzed hl o S hS hT10 hG3 (zi) (zl) hR) (fun M9 hL9 hB9 => ?_)
    obtain ⟨Ai, AR, A0, A30, AK, AF⟩ := hB9
    refine ev_ifB_ne dX11_basisLetter_4 (tgt := 9) (by decide) (fun q4 => ?_) (fun q4 => ?_)
    · exact absurd ((decide_eq_false gn).symm.trans q4) (by decide)
    · refine ev_blk (B := [(.iconst 0, 1)]) (pe := 8) (ls' := [some (.ref (o)), some (.int (a)), some (.int (b)), some (.int (c)), none, none]) (st' := [.int (nI 0)]) ⟨dX11_basisLetter_7, rfl⟩ rfl ?_
      refine ev_iret dX11_basisLetter_8 rfl (rfl) ⟨Nat.le_of_ble_eq_true rfl, Nat.le_of_ble_eq_true rfl⟩ ?_
      have e9 : sBL S a b c = (gate S, 0) := gt_n gn
      rw [e9]
      exact ⟨rfl, Ai, zl, AR, A0, (FX.fr (lo := o + 1) (hi := o + 31) (AF.to (by omega) (by omega)) (by omega) (by omega))⟩

set_option maxHeartbeats 4000000 in
set_option maxRecDepth 100000 in
theorem r_analyze {l : Launch} (hl : l.stackTraces = false) {M : ev_M} (o : Nat) (S : St) (hS : okS S) (hT10 : S.T.length ≤ 10) (hG3 : S.G.length ≤ 3) (hH20 : S.H.length ≤ 20) (zi : Nat → Int32) (zl : Nat → Int64) (hR : RR M o S zi zl) : ev_Mt l m_X11_analyze [.ref (o)] M (fun r M1 => r = .inl (some (.int (sAna S).2)) ∧ ∃ zi' zl', RR M1 o S zi' zl' ∧ zi' 0 = nI (sAna S).1 ∧ Fr o (o + 31) M M1) := by
  refine ev_body hl rfl (by decide +kernel) (Nat.le_of_ble_eq_true rfl) ?_
  show ev_ l m_X11_analyze 0 0 0 [some (.ref (o))] [] M _
  refine ev_blk (B := [(.aload_n 0, 1)]) (pe := 1) (ls' := [some (.ref (o))]) (st' := [.ref (o)]) ⟨dX11_analyze_0, rfl⟩ rfl ?_
  refine ev_getf (v := .int (nI (S.G.length))) F_RX11_225 dX11_analyze_1 hR.z (congrArg (fun q => some (Value.int q)) hR.p.2.2.2.2.2.1) ?_
  refine ev_fN_ne dX11_analyze_4 (tgt := 13) (by decide) (by omega) (fun q4 => ?_) (fun q4 => ?_)
  · refine ev_blk (B := [(.aload_n 0, 1), (.iconst 0, 1)]) (pe := 15) (ls' := [some (.ref (o))]) (st' := [.int (nI 0), .ref (o)]) ⟨dX11_analyze_13, dX11_analyze_14, rfl⟩ rfl ?_
    refine ev_put F_RX11_106 dX11_analyze_15 hR.z (Nat.le_of_ble_eq_true rfl) (fun _ _ => ⟨rfl, rfl⟩) ?_
    rw [zs_0]
    refine ev_nm (M0 := M.set (o) (.inr (10, zo o (ui (zi) 0 (nI 0)) (zl)))) (fun M1 eM1 => ?_)
    have f2 : M1[o]? = some (.inr (10, zo o (ui (zi) 0 (nI 0)) (zl))) := by rw [eM1]; exact ev_sg hR.z
    refine ev_blk (B := [(.aload_n 0, 1)]) (pe := 19) (ls' := [some (.ref (o))]) (st' := [.ref (o)]) ⟨dX11_analyze_18, rfl⟩ rfl ?_
    have W3 : FX o (o + 31) (o + 31) M M1 := ⟨by rw [eM1]; simp only [List.length_set], fun j hj1 hj2 => by rw [eM1, ev_sn (by omega)]⟩
    have hRa := hR.keep f2 ⟨fun k hk => ui_ne (nm hk (by decide)), fun k hk => rfl⟩ W3
    refine ev_cVn Y_X11_refreshes L_RX11_264 dX11_analyze_19 ⟨Nat.le_of_ble_eq_true rfl, Nat.le_of_ble_eq_true rfl, Nat.le_of_ble_eq_true rfl, Nat.le_of_ble_eq_true rfl, Nat.le_of_ble_eq_true rfl⟩ f2 (as := []) rfl rfl (c_R_refreshes hl o S hS hT10 hG3 (ui (zi) 0 (nI 0)) (zl) hRa) (fun M4 hL4 hB4 => ?_)
    obtain ⟨Ai, AR, A30, AK, AF⟩ := hB4
    obtain ⟨hco, hin⟩ := AR.a.co A30
    refine ev_blk (B := [(.aload_n 0, 1)]) (pe := 23) (ls' := [some (.ref (o))]) (st' := [.ref (o)]) ⟨dX11_analyze_22, rfl⟩ rfl ?_
    refine ev_getf (v := .int (ev_b ((rn S.T S.G).1))) F_RX11_249 dX11_analyze_23 AR.z (congrArg (fun q => some (Value.int q)) hco) ?_
    refine ev_ifB_eq dX11_analyze_26 (tgt := 33) (by decide) (fun q26 => ?_) (fun q26 => ?_)
    · refine ev_blk (B := [(.iconst 0, 1)]) (pe := 34) (ls' := [some (.ref (o))]) (st' := [.int (nI 0)]) ⟨dX11_analyze_33, rfl⟩ rfl ?_
      refine ev_iret dX11_analyze_34 rfl (rfl) ⟨Nat.le_of_ble_eq_true rfl, Nat.le_of_ble_eq_true rfl⟩ ?_
      have e9 : sAna S = (0, ev_b (rn S.T S.G).1) := if_neg q4
      rw [e9, q26]
      exact ⟨rfl, _, _, AR, AK 0 (by decide) (by decide) (by decide) (by decide), (FX.fr (lo := o + 1) (hi := o + 31) ((W3.to (by omega) (by omega)).tr (AF.to (by omega) (by omega))) (by omega) (by omega))⟩
    · refine ev_blk (B := [(.iconst 1, 1)]) (pe := 30) (ls' := [some (.ref (o))]) (st' := [.int (nI 1)]) ⟨dX11_analyze_29, rfl⟩ rfl ?_
      refine ev_goto (tgt := 34) dX11_analyze_30 (by decide) ?_
      refine ev_iret dX11_analyze_34 rfl (rfl) ⟨Nat.le_of_ble_eq_true rfl, Nat.le_of_ble_eq_true rfl⟩ ?_
      have e9 : sAna S = (0, ev_b (rn S.T S.G).1) := if_neg q4
      rw [e9, q26]
      exact ⟨rfl, _, _, AR, AK 0 (by decide) (by decide) (by decide) (by decide), (FX.fr (lo := o + 1) (hi := o + 31) ((W3.to (by omega) (by omega)).tr (AF.to (by omega) (by omega))) (by omega) (by omega))⟩
  · refine ev_blk (B := [(.aload_n 0, 1), (.iconst 1, 1)]) (pe := 9) (ls' := [some (.ref (o))]) (st' := [.int (nI 1), .ref (o)]) ⟨dX11_analyze_7, dX11_analyze_8, rfl⟩ rfl ?_
    refine ev_cVv Y_X11_fails L_RX11_144 dX11_analyze_9 ⟨Nat.le_of_ble_eq_true rfl, Nat.le_of_ble_eq_true rfl, Nat.le_of_ble_eq_true rfl, Nat.le_of_ble_eq_true rfl, Nat.le_of_ble_eq_true rfl⟩ hR.z (as := [.int (nI 1)]) rfl rfl (c_R_fails hl o (zi) (zl) hR.z 1) ?_
    refine ev_nm (M0 := M.set o (.inr (10, zo o (ui (zi) 0 (nI 1)) (zl)))) (fun Mf eMf => ?_)
    have ff : Mf[o]? = some (.inr (10, zo o (ui (zi) 0 (nI 1)) (zl))) := by rw [eMf]; exact ev_sg hR.z
    refine ev_iret dX11_analyze_12 rfl (rfl) ⟨Nat.le_of_ble_eq_true rfl, Nat.le_of_ble_eq_true rfl⟩ ?_
    have W5 : FX o (o + 31) (o + 31) M Mf := ⟨by rw [eMf]; simp only [List.length_set], fun j hj1 hj2 => by rw [eMf, ev_sn (by omega)]⟩
    have e9 : sAna S = (1, 0) := if_pos q4
    rw [e9]
    exact ⟨rfl, _, _, ⟨ff, ⟨hR.p.1, hR.p.2.1, hR.p.2.2.1, hR.p.2.2.2.1, hR.p.2.2.2.2.1, hR.p.2.2.2.2.2.1, hR.p.2.2.2.2.2.2.1, hR.p.2.2.2.2.2.2.2.1, hR.p.2.2.2.2.2.2.2.2.1, hR.p.2.2.2.2.2.2.2.2.2⟩, (hR.T.fx W5 (by omega) (by omega)), (hR.H.fx W5 (by omega)), (hR.y.fx W5 (by omega)), (hR.G.fx W5 (by omega) (by omega)), (hR.a.fx W5 (by omega)), (hR.u.fx W5 (by omega)), (hR.x.fx W5 (by omega)), (hR.k.fx W5 (by omega)), (hR.s.fx W5 (by omega))⟩, rfl, (FX.fr (lo := o + 1) (hi := o + 31) (W5.to (by omega) (by omega)) (by omega) (by omega))⟩

