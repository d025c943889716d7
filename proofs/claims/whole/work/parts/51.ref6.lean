/-! ===== the reference: steps ===== -/
theorem nm {L : List Nat} {k j : Nat} (h : k ∈ L) (h2 : ¬ j ∈ L) : k ≠ j := fun e => h2 (e ▸ h)
/-- the scalars that hold the state are the same -/
def SK (zi zi' : Nat → Int32) (zl zl' : Nat → Int64) : Prop := (∀ k, k ∈ [2, 3, 4, 20, 29, 30, 31, 42, 45, 50, 51, 52, 55] → zi' k = zi k) ∧ ∀ k, k ∈ [5, 6, 53, 54] → zl' k = zl k
theorem SK.rf {zi : Nat → Int32} {zl : Nat → Int64} : SK zi zi zl zl := ⟨fun _ _ => rfl, fun _ _ => rfl⟩
theorem SK.tr {zi zi' zi2 : Nat → Int32} {zl zl' zl2 : Nat → Int64} (h : SK zi zi' zl zl') (h2 : SK zi' zi2 zl' zl2) : SK zi zi2 zl zl2 := ⟨fun k hk => (h2.1 k hk).trans (h.1 k hk), fun k hk => (h2.2 k hk).trans (h.2 k hk)⟩
theorem SK.hd {zi zi' : Nat → Int32} {zl zl' : Nat → Int64} {lo : Nat} {y : Cf} (h : HD zi zl zi' zl' lo y) : SK zi zi' zl zl' := ⟨fun k hk => h.2.2.2.2.1 k (nm hk (by decide)) (nm hk (by decide)), fun k hk => h.2.2.2.2.2 k (nm hk (by decide)) (nm hk (by decide))⟩
theorem PZ.keep {S : St} {zi zi' : Nat → Int32} {zl zl' : Nat → Int64} (h : PZ S zi zl) (hk : SK zi zi' zl zl') : PZ S zi' zl' := by
  obtain ⟨a, b⟩ := hk
  unfold PZ
  rw [a 2 (by decide), a 3 (by decide), a 4 (by decide), a 20 (by decide), a 42 (by decide), a 45 (by decide), a 55 (by decide), a 50 (by decide), a 51 (by decide), a 52 (by decide), b 5 (by decide), b 6 (by decide), b 53 (by decide), b 54 (by decide)]
  exact h
theorem RR.keep {M M1 : ev_M} {o : Nat} {S : St} {zi zi' : Nat → Int32} {zl zl' : Nat → Int64} (h : RR M o S zi zl) (h1 : M1[o]? = some (.inr (10, zo o zi' zl'))) (hk : SK zi zi' zl zl') (hf : FX o (o + 31) (o + 31) M M1) : RR M1 o S zi' zl' := by
  refine ⟨h1, h.p.keep hk, h.T.fx hf (by omega) (by omega), h.H.fx hf (by omega), h.y.fx hf (by omega), h.G.fx hf (by omega) (by omega), ?_, h.u.fx hf (by omega), h.x.fx hf (by omega), h.k.fx hf (by omega), h.s.fx hf (by omega)⟩
  rw [hk.1 29 (by decide), hk.1 30 (by decide), hk.1 31 (by decide)]
  exact h.a.fx hf (by omega)
/-- a new present configuration and a new trail -/
theorem RR.xh {M M1 : ev_M} {o : Nat} {S : St} {zi zi' : Nat → Int32} {zl zl' : Nat → Int64} (h : RR M o S zi zl) {x : Cf} {H : Hs} (h1 : M1[o]? = some (.inr (10, zo o zi' zl'))) (hf : FX o (o + 2) (o + 6) M M1) (hH : PH M1 o H) (p3 : zi' 3 = nI x.1) (p4 : zi' 4 = nI H.length) (p5 : zl' 5 = e2 x.2.1) (p6 : zl' 6 = e2 x.2.2) (ki : ∀ k, k ∈ [2, 20, 29, 30, 31, 42, 45, 50, 51, 52, 55] → zi' k = zi k) (kl : ∀ k, k ∈ [53, 54] → zl' k = zl k) : RR M1 o (St.mk S.T x S.G H S.n S.t S.f S.tk S.T9 S.x9 S.G9) zi' zl' := by
  obtain ⟨a1, a2, a3, a4, a5, a6, a7, a8, a9, a10⟩ := h.p
  refine ⟨h1, ⟨(ki 2 (by decide)).trans a1, p3, p4, p5, p6, (ki 20 (by decide)).trans a6, (ki 42 (by decide)).trans a7, (ki 45 (by decide)).trans a8, (ki 55 (by decide)).trans a9, fun z => ?_⟩, h.T.fx hf (by omega) (by omega), hH, h.y.fx hf (by omega), h.G.fx hf (by omega) (by omega), ?_, h.u.fx hf (by omega), h.x.fx hf (by omega), h.k.fx hf (by omega), h.s.fx hf (by omega)⟩
  · rw [ki 50 (by decide), ki 51 (by decide), ki 52 (by decide), kl 53 (by decide), kl 54 (by decide)]
    exact a10 z
  · rw [ki 29 (by decide), ki 30 (by decide), ki 31 (by decide)]
    exact h.a.fx hf (by omega)
theorem mf_c0 {x : Cf} {t : Tr} (h : mf x t true = false) : mf x t false = false := by
  by_cases h1 : t.1 = x.1
  · by_cases h2 : t.2.2.1 = 2
    · rw [mfr_2 h1 h2] at h ⊢
      cases hi : ix (cw x t.2.2.2.1) t.2.2.2.2 with
      | none => rfl
      | some i => rw [hi] at h; cases h
    · rw [mfr_1 h1 h2] at h; cases h
  · exact mfr_0 h1
theorem mf_c1 {x : Cf} {t : Tr} (h : mf x t true = true) (h2 : ¬ t.2.2.1 = 2) : mf x t false = true := by
  by_cases h1 : t.1 = x.1
  · exact mfr_1 h1 h2
  · rw [mfr_0 h1] at h; cases h
theorem mf_c2 {x : Cf} {t : Tr} (h : mf x t true = true) (h2 : t.2.2.1 = 2) : mf x t false = decide ((ix (cw x t.2.2.2.1) t.2.2.2.2).getD (cw x t.2.2.2.1).length = 0) := by
  by_cases h1 : t.1 = x.1
  · rw [mfr_2 h1 h2] at h ⊢
    cases hi : ix (cw x t.2.2.2.1) t.2.2.2.2 with
    | none => rw [hi] at h; cases h
    | some i =>
      show (false || i == 0) = decide (i = 0)
      rw [Bool.false_or]; rfl
  · rw [mfr_0 h1] at h; cases h
theorem or0 (x : Int32) : x ||| nI 0 = x := by
  apply Int32.toBitVec_inj.mp
  show x.toBitVec ||| 0#32 = x.toBitVec
  simp
theorem QP.push {n : Nat} {f : Nat → Int32} {g h : Nat → Int64} {L : List Cf} {x : Cf} (hn : n = L.length) (hP : QP 0 n f g h L) : QP 0 (n + 1) (upd f n (nI x.1)) (vp_updL g n (e2 x.2.1)) (vp_updL h n (e2 x.2.2)) (L ++ [x]) := by
  subst hn
  intro i hi
  rw [upd_at, updL_at, updL_at]
  by_cases e : i = L.length
  · subst e
    rw [if_pos (by omega), if_pos (by omega), if_pos (by omega)]
    have := cg_app_r (L := L) (R := [x]) (i := 0)
    rw [Nat.add_zero] at this
    rw [this]; exact ⟨rfl, rfl, rfl⟩
  · rw [if_neg (by omega), if_neg (by omega), if_neg (by omega), cg_app_l (by omega)]
    exact hP i (by omega)
theorem QP.at {n : Nat} {f : Nat → Int32} {g h : Nat → Int64} {L : List Cf} (hP : QP 0 n f g h L) {i : Nat} (hi : i < n) : f i = nI (cg L i).1 ∧ g i = e2 (cg L i).2.1 ∧ h i = e2 (cg L i).2.2 := by
  have := hP i hi
  rwa [Nat.zero_add] at this
theorem QP.of {n : Nat} {f : Nat → Int32} {g h : Nat → Int64} {L : List Cf} (hP : ∀ i, i < n → f i = nI (cg L i).1 ∧ g i = e2 (cg L i).2.1 ∧ h i = e2 (cg L i).2.2) : QP 0 n f g h L := fun i hi => by rw [Nat.zero_add]; exact hP i hi
set_option maxHeartbeats 4000000 in
set_option maxRecDepth 100000 in
theorem c_R_mayFireNow {l : Launch} (hl : l.stackTraces = false) {M : ev_M} (o : Nat) (S : St) (hS : okS S) (hT10 : S.T.length ≤ 10) (hG3 : S.G.length ≤ 3) (hH20 : S.H.length ≤ 20) (zi : Nat → Int32) (zl : Nat → Int64) (hR : RR M o S zi zl) (t : Nat) (ht : t < S.T.length) : ev_Mt l m_X11_mayFireNow [.ref (o), .int (nI t)] M (fun r M1 => r = .inl (some (.int (ev_b (mf S.x (tg S.T t) false)))) ∧ ∃ zi' zl', RR M1 o S zi' zl' ∧ zi' 11 = nI S.x.1 ∧ zl' 13 = e2 S.x.2.1 ∧ zl' 14 = e2 S.x.2.2 ∧ (∀ k, k ≠ 11 → zi' k = zi k) ∧ (∀ k, k ≠ 13 → k ≠ 14 → zl' k = zl k) ∧ FX o (o + 31) (o + 31) M M1) := by
  obtain ⟨fT, hfT, hPT⟩ := hR.T
  have hto := trs_tg hS.T ht
  have hcw := cw_ok hS.x (tg S.T t).2.2.2.1
  have hy1 := hto.1
  have hy2 := hto.2.1
  have hy3 := hto.2.2.1
  have hy4 := hto.2.2.2.1
  have hy5 := hto.2.2.2.2
  have hcl := hcw.2
  refine ev_body hl rfl (by decide +kernel) (Nat.le_of_ble_eq_true rfl) ?_
  show ev_ l m_X11_mayFireNow 0 0 0 [some (.ref (o)), some (.int (nI t))] [] M _
  refine ev_blk (B := [(.aload_n 0, 1), (.aload_n 0, 1)]) (pe := 2) (ls' := [some (.ref (o)), some (.int (nI t))]) (st' := [.ref (o), .ref (o)]) ⟨dX11_mayFireNow_0, dX11_mayFireNow_1, rfl⟩ rfl ?_
  refine ev_getf (v := .int (nI (S.x.1))) F_RX11_169 dX11_mayFireNow_2 hR.z (congrArg (fun q => some (Value.int q)) hR.p.2.1) ?_
  refine ev_blk (B := [(.aload_n 0, 1)]) (pe := 6) (ls' := [some (.ref (o)), some (.int (nI t))]) (st' := [.ref (o), .int (nI (S.x.1)), .ref (o)]) ⟨dX11_mayFireNow_5, rfl⟩ rfl ?_
  refine ev_getf (v := .long (e2 S.x.2.1)) F_RX11_159 dX11_mayFireNow_6 hR.z (congrArg (fun q => some (Value.long q)) hR.p.2.2.2.1) ?_
  refine ev_blk (B := [(.aload_n 0, 1)]) (pe := 10) (ls' := [some (.ref (o)), some (.int (nI t))]) (st' := [.ref (o), .long (e2 S.x.2.1), .int (nI (S.x.1)), .ref (o)]) ⟨dX11_mayFireNow_9, rfl⟩ rfl ?_
  refine ev_getf (v := .long (e2 S.x.2.2)) F_RX11_163 dX11_mayFireNow_10 hR.z (congrArg (fun q => some (Value.long q)) hR.p.2.2.2.2.1) ?_
  refine ev_cVn Y_X11_takes L_RX11_198 dX11_mayFireNow_13 ⟨Nat.le_of_ble_eq_true rfl, Nat.le_of_ble_eq_true rfl, Nat.le_of_ble_eq_true rfl, Nat.le_of_ble_eq_true rfl, Nat.le_of_ble_eq_true rfl⟩ hR.z (as := [.int (nI (S.x.1)), .long (e2 S.x.2.1), .long (e2 S.x.2.2)]) rfl rfl (c_R_takes hl o (zi) (zl) hR.z S.x) (fun M1 hL1 hB1 => ?_)
  obtain ⟨T2z, T2f⟩ := hB1
  refine ev_blk (B := [(.aload_n 0, 1), (.iload_n 1, 1)]) (pe := 18) (ls' := [some (.ref (o)), some (.int (nI t))]) (st' := [.int (nI t), .ref (o)]) ⟨dX11_mayFireNow_16, dX11_mayFireNow_17, rfl⟩ rfl ?_
  refine ev_cVv Y_X11_mayFire L_RX11_202 dX11_mayFireNow_18 ⟨Nat.le_of_ble_eq_true rfl, Nat.le_of_ble_eq_true rfl, Nat.le_of_ble_eq_true rfl, Nat.le_of_ble_eq_true rfl, Nat.le_of_ble_eq_true rfl⟩ T2z (as := [.int (nI t)]) rfl rfl (c_R_mayFire hl o (ui (zi) 11 (nI S.x.1)) (ul (ul (zl) 13 (e2 S.x.2.1)) 14 (e2 S.x.2.2)) T2z _ (T2f.at hfT (by omega) (by omega)) S.T hPT hT10 hS.T t (by omega) S.x (hS.x.le (by omega) : cfW 25 S.x) rfl rfl rfl) ?_
  refine ev_ifB_eq dX11_mayFireNow_21 (tgt := 60) (by decide) (fun q21 => ?_) (fun q21 => ?_)
  · refine ev_blk (B := [(.iconst 0, 1)]) (pe := 61) (ls' := [some (.ref (o)), some (.int (nI t))]) (st' := [.int (nI 0)]) ⟨dX11_mayFireNow_60, rfl⟩ rfl ?_
    refine ev_iret dX11_mayFireNow_61 rfl (rfl) ⟨Nat.le_of_ble_eq_true rfl, Nat.le_of_ble_eq_true rfl⟩ ?_
    have e9 : mf S.x (tg S.T t) false = false := mf_c0 q21
    rw [e9]
    exact ⟨rfl, _, _, hR.keep T2z ⟨fun k hk => ui_ne (nm hk (by decide)), fun k hk => (ul_ne (nm hk (by decide))).trans (ul_ne (nm hk (by decide)))⟩ (T2f.em (by omega)), rfl, rfl, rfl, fun k hk => ui_ne hk, fun k h1 h2 => (ul_ne h2).trans (ul_ne h1), T2f.em (by omega)⟩
  · refine ev_blk (B := [(.aload_n 0, 1), (.iload_n 1, 1), (.iconst 2, 1)]) (pe := 27) (ls' := [some (.ref (o)), some (.int (nI t))]) (st' := [.int (nI 2), .int (nI t), .ref (o)]) ⟨dX11_mayFireNow_24, dX11_mayFireNow_25, dX11_mayFireNow_26, rfl⟩ rfl ?_
    refine ev_cVv Y_X11_partOf L_RX11_155 dX11_mayFireNow_27 ⟨Nat.le_of_ble_eq_true rfl, Nat.le_of_ble_eq_true rfl, Nat.le_of_ble_eq_true rfl, Nat.le_of_ble_eq_true rfl, Nat.le_of_ble_eq_true rfl⟩ T2z (as := [.int (nI t), .int (nI 2)]) rfl rfl (c_R_partOf hl o (ui (zi) 11 (nI S.x.1)) (ul (ul (zl) 13 (e2 S.x.2.1)) 14 (e2 S.x.2.2)) T2z _ (T2f.at hfT (by omega) (by omega)) S.T hPT hT10 t (by omega) 2 (by decide)) ?_
    refine ev_blk (B := [(.iconst 2, 1)]) (pe := 31) (ls' := [some (.ref (o)), some (.int (nI t))]) (st' := [.int (nI 2), .int (nI ((tg S.T t).2.2.1))]) ⟨dX11_mayFireNow_30, rfl⟩ rfl ?_
    refine ev_iN_ne dX11_mayFireNow_31 (tgt := 56) (by decide) (by omega) (by omega) (fun q31 => ?_) (fun q31 => ?_)
    · refine ev_blk (B := [(.iconst 1, 1)]) (pe := 57) (ls' := [some (.ref (o)), some (.int (nI t))]) (st' := [.int (nI 1)]) ⟨dX11_mayFireNow_56, rfl⟩ rfl ?_
      refine ev_goto (tgt := 61) dX11_mayFireNow_57 (by decide) ?_
      refine ev_iret dX11_mayFireNow_61 rfl (rfl) ⟨Nat.le_of_ble_eq_true rfl, Nat.le_of_ble_eq_true rfl⟩ ?_
      have e9 : mf S.x (tg S.T t) false = true := mf_c1 q21 q31
      rw [e9]
      exact ⟨rfl, _, _, hR.keep T2z ⟨fun k hk => ui_ne (nm hk (by decide)), fun k hk => (ul_ne (nm hk (by decide))).trans (ul_ne (nm hk (by decide)))⟩ (T2f.em (by omega)), rfl, rfl, rfl, fun k hk => ui_ne hk, fun k h1 h2 => (ul_ne h2).trans (ul_ne h1), T2f.em (by omega)⟩
    · refine ev_blk (B := [(.aload_n 0, 1), (.aload_n 0, 1), (.iload_n 1, 1), (.iconst 3, 1)]) (pe := 38) (ls' := [some (.ref (o)), some (.int (nI t))]) (st' := [.int (nI 3), .int (nI t), .ref (o), .ref (o)]) ⟨dX11_mayFireNow_34, dX11_mayFireNow_35, dX11_mayFireNow_36, dX11_mayFireNow_37, rfl⟩ rfl ?_
      refine ev_cVv Y_X11_partOf L_RX11_155 dX11_mayFireNow_38 ⟨Nat.le_of_ble_eq_true rfl, Nat.le_of_ble_eq_true rfl, Nat.le_of_ble_eq_true rfl, Nat.le_of_ble_eq_true rfl, Nat.le_of_ble_eq_true rfl⟩ T2z (as := [.int (nI t), .int (nI 3)]) rfl rfl (c_R_partOf3N hl o (ui (zi) 11 (nI S.x.1)) (ul (ul (zl) 13 (e2 S.x.2.1)) 14 (e2 S.x.2.2)) T2z _ (T2f.at hfT (by omega) (by omega)) S.T hPT hT10 t (by omega) (by omega)) ?_
      refine ev_cVv Y_X11_wordOf L_RX11_172 dX11_mayFireNow_41 ⟨Nat.le_of_ble_eq_true rfl, Nat.le_of_ble_eq_true rfl, Nat.le_of_ble_eq_true rfl, Nat.le_of_ble_eq_true rfl, Nat.le_of_ble_eq_true rfl⟩ T2z (as := [.int (nI ((tg S.T t).2.2.2.1))]) rfl rfl (c_R_wordOf hl o (ui (zi) 11 (nI S.x.1)) (ul (ul (zl) 13 (e2 S.x.2.1)) 14 (e2 S.x.2.2)) T2z S.x hR.p.2.2.2.1 hR.p.2.2.2.2.1 ((tg S.T t).2.2.2.1) (by omega)) ?_
      refine ev_blk (B := [(.aload_n 0, 1), (.iload_n 1, 1), (.iconst 4, 1)]) (pe := 47) (ls' := [some (.ref (o)), some (.int (nI t))]) (st' := [.int (nI 4), .int (nI t), .ref (o), .long (e2 (cw S.x ((tg S.T t).2.2.2.1)))]) ⟨dX11_mayFireNow_44, dX11_mayFireNow_45, dX11_mayFireNow_46, rfl⟩ rfl ?_
      refine ev_cVv Y_X11_partOf L_RX11_155 dX11_mayFireNow_47 ⟨Nat.le_of_ble_eq_true rfl, Nat.le_of_ble_eq_true rfl, Nat.le_of_ble_eq_true rfl, Nat.le_of_ble_eq_true rfl, Nat.le_of_ble_eq_true rfl⟩ T2z (as := [.int (nI t), .int (nI 4)]) rfl rfl (c_R_partOf4N hl o (ui (zi) 11 (nI S.x.1)) (ul (ul (zl) 13 (e2 S.x.2.1)) 14 (e2 S.x.2.2)) T2z _ (T2f.at hfT (by omega) (by omega)) S.T hPT hT10 t (by omega) (by omega)) ?_
      have hgd := ix_le (w := (cw S.x ((tg S.T t).2.2.2.1))) (x := ((tg S.T t).2.2.2.2))
      refine ev_cSv Y_X11_placeOf L_RX11_188 dX11_mayFireNow_50 ⟨Nat.le_of_ble_eq_true rfl, Nat.le_of_ble_eq_true rfl, Nat.le_of_ble_eq_true rfl, Nat.le_of_ble_eq_true rfl, Nat.le_of_ble_eq_true rfl⟩ (as := [.long (e2 (cw S.x ((tg S.T t).2.2.2.1))), .int (nI ((tg S.T t).2.2.2.2))]) rfl rfl (c_R_placeOf hl (cw S.x ((tg S.T t).2.2.2.1)) hcw.1 (Nat.le_trans hcw.2 (by decide)) ((tg S.T t).2.2.2.2) hto.2.2.2.2) ?_
      refine ev_fN_ne dX11_mayFireNow_53 (tgt := 60) (by decide) (by omega) (fun q53 => ?_) (fun q53 => ?_)
      · refine ev_blk (B := [(.iconst 0, 1)]) (pe := 61) (ls' := [some (.ref (o)), some (.int (nI t))]) (st' := [.int (nI 0)]) ⟨dX11_mayFireNow_60, rfl⟩ rfl ?_
        refine ev_iret dX11_mayFireNow_61 rfl (rfl) ⟨Nat.le_of_ble_eq_true rfl, Nat.le_of_ble_eq_true rfl⟩ ?_
        have e9 : mf S.x (tg S.T t) false = false := (mf_c2 q21 q31).trans (decide_eq_false q53)
        rw [e9]
        exact ⟨rfl, _, _, hR.keep T2z ⟨fun k hk => ui_ne (nm hk (by decide)), fun k hk => (ul_ne (nm hk (by decide))).trans (ul_ne (nm hk (by decide)))⟩ (T2f.em (by omega)), rfl, rfl, rfl, fun k hk => ui_ne hk, fun k h1 h2 => (ul_ne h2).trans (ul_ne h1), T2f.em (by omega)⟩
      · refine ev_blk (B := [(.iconst 1, 1)]) (pe := 57) (ls' := [some (.ref (o)), some (.int (nI t))]) (st' := [.int (nI 1)]) ⟨dX11_mayFireNow_56, rfl⟩ rfl ?_
        refine ev_goto (tgt := 61) dX11_mayFireNow_57 (by decide) ?_
        refine ev_iret dX11_mayFireNow_61 rfl (rfl) ⟨Nat.le_of_ble_eq_true rfl, Nat.le_of_ble_eq_true rfl⟩ ?_
        have e9 : mf S.x (tg S.T t) false = true := (mf_c2 q21 q31).trans (decide_eq_true q53)
        rw [e9]
        exact ⟨rfl, _, _, hR.keep T2z ⟨fun k hk => ui_ne (nm hk (by decide)), fun k hk => (ul_ne (nm hk (by decide))).trans (ul_ne (nm hk (by decide)))⟩ (T2f.em (by omega)), rfl, rfl, rfl, fun k hk => ui_ne hk, fun k h1 h2 => (ul_ne h2).trans (ul_ne h1), T2f.em (by omega)⟩

set_option maxHeartbeats 4000000 in
set_option maxRecDepth 100000 in
theorem r_isBelow {l : Launch} (hl : l.stackTraces = false) {M : ev_M} (o : Nat) (S : St) (hS : okS S) (hT10 : S.T.length ≤ 10) (hG3 : S.G.length ≤ 3) (hH20 : S.H.length ≤ 20) (zi : Nat → Int32) (zl : Nat → Int64) (hR : RR M o S zi zl) (a : Int32) : ev_Mt l m_X11_isBelow [.ref (o), .int (a)] M (fun r M1 => r = .inl (some (.int (sBel S a).2)) ∧ ∃ zi' zl', RR M1 o S zi' zl' ∧ zi' 0 = nI (sBel S a).1 ∧ Fr o (o + 31) M M1) := by
  rcases inR_c a 2 (by omega) with ⟨k, hk, rfl⟩ | ia
  · have jk : inR (nI k) 2 = true := inR_n hk (by omega)
    have tk : (nI k).toNatClampNeg = k := nI_clamp (by omega)
    have hcw := cw_ok hS.x k
    have hcw9 : (cw S.x k).length ≤ 10 := hcw.2
    have hcv := cw_ok hS.x (1 - k)
    have hcv9 : (cw S.x (1 - k)).length ≤ 10 := hcv.2
    refine ev_body hl rfl (by decide +kernel) (Nat.le_of_ble_eq_true rfl) ?_
    show ev_ l m_X11_isBelow 0 0 0 [some (.ref (o)), some (.int (nI k))] [] M _
    refine ev_blk (B := [(.iload_n 1, 1)]) (pe := 1) (ls' := [some (.ref (o)), some (.int (nI k))]) (st' := [.int (nI k)]) ⟨dX11_isBelow_0, rfl⟩ rfl ?_
    refine ev_cSv Y_X11_isChannel L_RX11_138 dX11_isBelow_1 ⟨Nat.le_of_ble_eq_true rfl, Nat.le_of_ble_eq_true rfl, Nat.le_of_ble_eq_true rfl, Nat.le_of_ble_eq_true rfl, Nat.le_of_ble_eq_true rfl⟩ (as := [.int (nI k)]) rfl rfl (c_R_isChannel hl (nI k)) ?_
    refine ev_ifB_ne dX11_isBelow_4 (tgt := 13) (by decide) (fun q4 => ?_) (fun q4 => ?_)
    · refine ev_blk (B := [(.aload_n 0, 1), (.iconst 0, 1)]) (pe := 15) (ls' := [some (.ref (o)), some (.int (nI k))]) (st' := [.int (nI 0), .ref (o)]) ⟨dX11_isBelow_13, dX11_isBelow_14, rfl⟩ rfl ?_
      refine ev_put F_RX11_106 dX11_isBelow_15 hR.z (Nat.le_of_ble_eq_true rfl) (fun _ _ => ⟨rfl, rfl⟩) ?_
      rw [zs_0]
      refine ev_nm (M0 := M.set (o) (.inr (10, zo o (ui (zi) 0 (nI 0)) (zl)))) (fun M1 eM1 => ?_)
      have f2 : M1[o]? = some (.inr (10, zo o (ui (zi) 0 (nI 0)) (zl))) := by rw [eM1]; exact ev_sg hR.z
      refine ev_blk (B := [(.aload_n 0, 1), (.iload_n 1, 1)]) (pe := 20) (ls' := [some (.ref (o)), some (.int (nI k))]) (st' := [.int (nI k), .ref (o)]) ⟨dX11_isBelow_18, dX11_isBelow_19, rfl⟩ rfl ?_
      refine ev_cVv Y_X11_wordOf L_RX11_172 dX11_isBelow_20 ⟨Nat.le_of_ble_eq_true rfl, Nat.le_of_ble_eq_true rfl, Nat.le_of_ble_eq_true rfl, Nat.le_of_ble_eq_true rfl, Nat.le_of_ble_eq_true rfl⟩ f2 (as := [.int (nI k)]) rfl rfl (c_R_wordOf hl o (ui (zi) 0 (nI 0)) (zl) f2 S.x hR.p.2.2.2.1 hR.p.2.2.2.2.1 k hk) ?_
      refine ev_blk (B := [(.aload_n 0, 1), (.iconst 1, 1), (.iload_n 1, 1), (.isub, 1)]) (pe := 27) (ls' := [some (.ref (o)), some (.int (nI k))]) (st' := [.int (nI (1 - k)), .ref (o), .long (e2 (cw S.x k))]) ⟨dX11_isBelow_23, dX11_isBelow_24, dX11_isBelow_25, dX11_isBelow_26, rfl⟩ (by show some (([some (.ref (o)), some (.int (nI k))] : ev_L), ([.int ((nI 1) - (nI k)), .ref (o), .long (e2 (cw S.x k))] : List Value)) = _; rw [pk_sub (show k ≤ 1 by omega)]) ?_
      refine ev_cVv Y_X11_wordOf L_RX11_172 dX11_isBelow_27 ⟨Nat.le_of_ble_eq_true rfl, Nat.le_of_ble_eq_true rfl, Nat.le_of_ble_eq_true rfl, Nat.le_of_ble_eq_true rfl, Nat.le_of_ble_eq_true rfl⟩ f2 (as := [.int (nI (1 - k))]) rfl rfl (c_R_wordOf hl o (ui (zi) 0 (nI 0)) (zl) f2 S.x hR.p.2.2.2.1 hR.p.2.2.2.2.1 (1 - k) (by omega)) ?_
      refine ev_cSv Y_X11_isWordBelow L_RX11_218 dX11_isBelow_30 ⟨Nat.le_of_ble_eq_true rfl, Nat.le_of_ble_eq_true rfl, Nat.le_of_ble_eq_true rfl, Nat.le_of_ble_eq_true rfl, Nat.le_of_ble_eq_true rfl⟩ (as := [.long (e2 (cw S.x k)), .long (e2 (cw S.x (1 - k)))]) rfl rfl (c_R_isWordBelow hl (cw S.x k) (cw S.x (1 - k)) hcw.1 (Nat.le_trans hcw.2 (by decide)) hcv.1 (Nat.le_trans hcv.2 (by decide))) ?_
      refine ev_iret dX11_isBelow_33 rfl (ev_b_nar _) ⟨Nat.le_of_ble_eq_true rfl, Nat.le_of_ble_eq_true rfl⟩ ?_
      have W3 : FX o (o + 31) (o + 31) M M1 := ⟨by rw [eM1]; simp only [List.length_set], fun j hj1 hj2 => by rw [eM1, ev_sn (by omega)]⟩
      have e9 : sBel S (nI k) = (0, ev_b (wb (cw S.x k) (cw S.x (1 - k)))) := by simp [sBel, jk, tk, q4]
      rw [e9]
      exact ⟨rfl, _, _, ⟨f2, ⟨hR.p.1, hR.p.2.1, hR.p.2.2.1, hR.p.2.2.2.1, hR.p.2.2.2.2.1, hR.p.2.2.2.2.2.1, hR.p.2.2.2.2.2.2.1, hR.p.2.2.2.2.2.2.2.1, hR.p.2.2.2.2.2.2.2.2.1, hR.p.2.2.2.2.2.2.2.2.2⟩, (hR.T.fx W3 (by omega) (by omega)), (hR.H.fx W3 (by omega)), (hR.y.fx W3 (by omega)), (hR.G.fx W3 (by omega) (by omega)), (hR.a.fx W3 (by omega)), (hR.u.fx W3 (by omega)), (hR.x.fx W3 (by omega)), (hR.k.fx W3 (by omega)), (hR.s.fx W3 (by omega))⟩, rfl, (FX.fr (lo := o + 1) (hi := o + 31) (W3.to (by omega) (by omega)) (by omega) (by omega))⟩
    · exact absurd (jk.symm.trans q4) (by decide)
  · have ia9 := ia
    refine ev_body hl rfl (by decide +kernel) (Nat.le_of_ble_eq_true rfl) ?_
    show ev_ l m_X11_isBelow 0 0 0 [some (.ref (o)), some (.int (a))] [] M _
    refine ev_blk (B := [(.iload_n 1, 1)]) (pe := 1) (ls' := [some (.ref (o)), some (.int (a))]) (st' := [.int (a)]) ⟨dX11_isBelow_0, rfl⟩ rfl ?_
    refine ev_cSv Y_X11_isChannel L_RX11_138 dX11_isBelow_1 ⟨Nat.le_of_ble_eq_true rfl, Nat.le_of_ble_eq_true rfl, Nat.le_of_ble_eq_true rfl, Nat.le_of_ble_eq_true rfl, Nat.le_of_ble_eq_true rfl⟩ (as := [.int (a)]) rfl rfl (c_R_isChannel hl a) ?_
    refine ev_ifB_ne dX11_isBelow_4 (tgt := 13) (by decide) (fun q4 => ?_) (fun q4 => ?_)
    · exact absurd (ia.symm.trans q4) (by decide)
    · refine ev_blk (B := [(.aload_n 0, 1), (.iconst 1, 1)]) (pe := 9) (ls' := [some (.ref (o)), some (.int (a))]) (st' := [.int (nI 1), .ref (o)]) ⟨dX11_isBelow_7, dX11_isBelow_8, rfl⟩ rfl ?_
      refine ev_cVv Y_X11_refuses L_RX11_222 dX11_isBelow_9 ⟨Nat.le_of_ble_eq_true rfl, Nat.le_of_ble_eq_true rfl, Nat.le_of_ble_eq_true rfl, Nat.le_of_ble_eq_true rfl, Nat.le_of_ble_eq_true rfl⟩ hR.z (as := [.int (nI 1)]) rfl rfl (c_R_refuses hl o (zi) (zl) hR.z 1) ?_
      refine ev_nm (M0 := M.set o (.inr (10, zo o (ui (zi) 0 (nI 1)) (zl)))) (fun Mf eMf => ?_)
      have ff : Mf[o]? = some (.inr (10, zo o (ui (zi) 0 (nI 1)) (zl))) := by rw [eMf]; exact ev_sg hR.z
      refine ev_iret dX11_isBelow_12 rfl (ev_b_nar _) ⟨Nat.le_of_ble_eq_true rfl, Nat.le_of_ble_eq_true rfl⟩ ?_
      have W4 : FX o (o + 31) (o + 31) M Mf := ⟨by rw [eMf]; simp only [List.length_set], fun j hj1 hj2 => by rw [eMf, ev_sn (by omega)]⟩
      have e9 : sBel S a = (1, 0) := by simp [sBel, ia, q4]
      rw [e9]
      exact ⟨rfl, _, _, ⟨ff, ⟨hR.p.1, hR.p.2.1, hR.p.2.2.1, hR.p.2.2.2.1, hR.p.2.2.2.2.1, hR.p.2.2.2.2.2.1, hR.p.2.2.2.2.2.2.1, hR.p.2.2.2.2.2.2.2.1, hR.p.2.2.2.2.2.2.2.2.1, hR.p.2.2.2.2.2.2.2.2.2⟩, (hR.T.fx W4 (by omega) (by omega)), (hR.H.fx W4 (by omega)), (hR.y.fx W4 (by omega)), (hR.G.fx W4 (by omega) (by omega)), (hR.a.fx W4 (by omega)), (hR.u.fx W4 (by omega)), (hR.x.fx W4 (by omega)), (hR.k.fx W4 (by omega)), (hR.s.fx W4 (by omega))⟩, rfl, (FX.fr (lo := o + 1) (hi := o + 31) (W4.to (by omega) (by omega)) (by omega) (by omega))⟩

set_option maxHeartbeats 4000000 in
set_option maxRecDepth 100000 in
theorem c_R_enabled_l {l : Launch} (hl : l.stackTraces = false)  (M0 : ev_M) (o : Nat) (S : St) (hS : okS S) (hT10 : S.T.length ≤ 10) (hG3 : S.G.length ≤ 3) (hH20 : S.H.length ≤ 20) (b : Bool) : ∀ (n9 : Nat) (i : Nat) (M : ev_M) (zi : Nat → Int32) (zl : Nat → Int64), i ≤ S.T.length → RR M o S zi zl → zi 0 = nI 0 → zi 11 = nI S.x.1 → zl 13 = e2 S.x.2.1 → zl 14 = e2 S.x.2.2 → FX o (o + 31) (o + 31) M0 M → S.T.length - i < n9 → ev_ l m_X11_enabled 0 0 25 [some (.ref (o)), some (.int (ev_b (b))), some (.int (mk (fun t => mf S.x (tg S.T t) b) i)), some (.int (nI i))] [] M (fun r M1 => r = .inl (some (.int (sEna S b))) ∧ ∃ zi' zl', RR M1 o S zi' zl' ∧ zi' 0 = nI 0 ∧ Fr o (o + 31) M0 M1) := by
  intro n9
  induction n9 with
  | zero => intro i M zi zl hi hR h0 h11 h13 h14 hF hm9; exact absurd hm9 (by omega)
  | succ n9 ih =>
    intro i M zi zl hi hR h0 h11 h13 h14 hF hm9
    obtain ⟨fT, hfT, hPT⟩ := hR.T
    refine ev_blk (B := [(.iload_n 3, 1), (.aload_n 0, 1)]) (pe := 27) (ls' := [some (.ref (o)), some (.int (ev_b (b))), some (.int (mk (fun t => mf S.x (tg S.T t) b) i)), some (.int (nI i))]) (st' := [.ref (o), .int (nI i)]) ⟨dX11_enabled_25, dX11_enabled_26, rfl⟩ rfl ?_
    refine ev_getf (v := .int (nI (S.T.length))) F_RX11_123 dX11_enabled_27 hR.z (congrArg (fun q => some (Value.int q)) hR.p.1) ?_
    refine ev_iN_ge dX11_enabled_30 (tgt := 72) (by decide) (by omega) (by omega) (fun q30 => ?_) (fun q30 => ?_)
    · refine ev_blk (B := [(.iload_n 2, 1)]) (pe := 73) (ls' := [some (.ref (o)), some (.int (ev_b (b))), some (.int (mk (fun t => mf S.x (tg S.T t) b) i)), some (.int (nI i))]) (st' := [.int (mk (fun t => mf S.x (tg S.T t) b) i)]) ⟨dX11_enabled_72, rfl⟩ rfl ?_
      refine ev_iret dX11_enabled_73 rfl (rfl) ⟨Nat.le_of_ble_eq_true rfl, Nat.le_of_ble_eq_true rfl⟩ ?_
      have e7 : i = S.T.length := by omega
      subst e7
      exact ⟨rfl, _, _, hR, h0, hF.fr (by omega) (by omega)⟩
    · refine ev_blk (B := [(.iload_n 2, 1), (.iload_n 1, 1)]) (pe := 35) (ls' := [some (.ref (o)), some (.int (ev_b (b))), some (.int (mk (fun t => mf S.x (tg S.T t) b) i)), some (.int (nI i))]) (st' := [.int (ev_b (b)), .int (mk (fun t => mf S.x (tg S.T t) b) i)]) ⟨dX11_enabled_33, dX11_enabled_34, rfl⟩ rfl ?_
      refine ev_ifB_eq dX11_enabled_35 (tgt := 49) (by decide) (fun q35 => ?_) (fun q35 => ?_)
      · refine ev_blk (B := [(.aload_n 0, 1), (.iload_n 3, 1)]) (pe := 51) (ls' := [some (.ref (o)), some (.int (ev_b (b))), some (.int (mk (fun t => mf S.x (tg S.T t) b) i)), some (.int (nI i))]) (st' := [.int (nI i), .ref (o), .int (mk (fun t => mf S.x (tg S.T t) b) i)]) ⟨dX11_enabled_49, dX11_enabled_50, rfl⟩ rfl ?_
        refine ev_cVw Y_X11_mayFireNow L_RX11_205 dX11_enabled_51 ⟨Nat.le_of_ble_eq_true rfl, Nat.le_of_ble_eq_true rfl, Nat.le_of_ble_eq_true rfl, Nat.le_of_ble_eq_true rfl, Nat.le_of_ble_eq_true rfl⟩ hR.z (as := [.int (nI i)]) rfl rfl (c_R_mayFireNow hl o S hS hT10 hG3 hH20 (zi) (zl) hR i (by omega)) (fun M1 hL1 hB1 => ?_)
        obtain ⟨Z2i, Z2l, Z2R, Z21, Z23, Z24, Z2K, Z2L, Z2F⟩ := hB1
        refine ev_ifB_eq dX11_enabled_54 (tgt := 63) (by decide) (fun q54 => ?_) (fun q54 => ?_)
        · refine ev_blk (B := [(.iconst 0, 1), (.ior, 1), (.istore_n 2, 1), (.iinc 3 1, 3)]) (pe := 69) (ls' := [some (.ref (o)), some (.int (ev_b (b))), some (.int ((mk (fun t => mf S.x (tg S.T t) b) i) ||| (nI 0))), some (.int (nI (i + 1)))]) (st' := []) ⟨dX11_enabled_63, dX11_enabled_64, dX11_enabled_65, dX11_enabled_66, rfl⟩ (by show some (([some (.ref (o)), some (.int (ev_b (b))), some (.int ((mk (fun t => mf S.x (tg S.T t) b) i) ||| (nI 0))), some (.int ((nI i) + Int32.ofInt (1)))] : ev_L), ([] : List Value)) = _; rw [ev_inc1 i]) ?_
          refine ev_goto (tgt := 25) dX11_enabled_69 (by decide) ?_
          have e9 : mk (fun t => mf S.x (tg S.T t) b) (i + 1) = (mk (fun t => mf S.x (tg S.T t) b) i) ||| (nI 0) := (if_neg (by show ¬ mf S.x (tg S.T i) b = true; rw [q35, q54]; decide)).trans (or0 _).symm
          rw [← e9]
          exact ih (i + 1) _ _ _ (by omega) Z2R ((Z2K 0 (by decide)).trans h0) Z21 Z23 Z24 (hF.tr Z2F) (by omega)
        · refine ev_blk (B := [(.iconst 1, 1), (.iload_n 3, 1), (.ishl, 1)]) (pe := 60) (ls' := [some (.ref (o)), some (.int (ev_b (b))), some (.int (mk (fun t => mf S.x (tg S.T t) b) i)), some (.int (nI i))]) (st' := [.int ((nI 1) <<< ((nI i) &&& 31)), .int (mk (fun t => mf S.x (tg S.T t) b) i)]) ⟨dX11_enabled_57, dX11_enabled_58, dX11_enabled_59, rfl⟩ rfl ?_
          refine ev_goto (tgt := 64) dX11_enabled_60 (by decide) ?_
          refine ev_blk (B := [(.ior, 1), (.istore_n 2, 1), (.iinc 3 1, 3)]) (pe := 69) (ls' := [some (.ref (o)), some (.int (ev_b (b))), some (.int ((mk (fun t => mf S.x (tg S.T t) b) i) ||| ((nI 1) <<< ((nI i) &&& 31)))), some (.int (nI (i + 1)))]) (st' := []) ⟨dX11_enabled_64, dX11_enabled_65, dX11_enabled_66, rfl⟩ (by show some (([some (.ref (o)), some (.int (ev_b (b))), some (.int ((mk (fun t => mf S.x (tg S.T t) b) i) ||| ((nI 1) <<< ((nI i) &&& 31)))), some (.int ((nI i) + Int32.ofInt (1)))] : ev_L), ([] : List Value)) = _; rw [ev_inc1 i]) ?_
          refine ev_goto (tgt := 25) dX11_enabled_69 (by decide) ?_
          have e9 : mk (fun t => mf S.x (tg S.T t) b) (i + 1) = (mk (fun t => mf S.x (tg S.T t) b) i) ||| ((nI 1) <<< ((nI i) &&& 31)) := if_pos (by show mf S.x (tg S.T i) b = true; rw [q35]; exact q54)
          rw [← e9]
          exact ih (i + 1) _ _ _ (by omega) Z2R ((Z2K 0 (by decide)).trans h0) Z21 Z23 Z24 (hF.tr Z2F) (by omega)
      · refine ev_blk (B := [(.aload_n 0, 1), (.iload_n 3, 1)]) (pe := 40) (ls' := [some (.ref (o)), some (.int (ev_b (b))), some (.int (mk (fun t => mf S.x (tg S.T t) b) i)), some (.int (nI i))]) (st' := [.int (nI i), .ref (o), .int (mk (fun t => mf S.x (tg S.T t) b) i)]) ⟨dX11_enabled_38, dX11_enabled_39, rfl⟩ rfl ?_
        refine ev_cVv Y_X11_mayFire L_RX11_202 dX11_enabled_40 ⟨Nat.le_of_ble_eq_true rfl, Nat.le_of_ble_eq_true rfl, Nat.le_of_ble_eq_true rfl, Nat.le_of_ble_eq_true rfl, Nat.le_of_ble_eq_true rfl⟩ hR.z (as := [.int (nI i)]) rfl rfl (c_R_mayFire hl o (zi) (zl) hR.z _ hfT S.T hPT hT10 hS.T i (by omega) S.x (hS.x.le (by omega) : cfW 25 S.x) h11 h13 h14) ?_
        refine ev_ifB_eq dX11_enabled_43 (tgt := 63) (by decide) (fun q43 => ?_) (fun q43 => ?_)
        · refine ev_blk (B := [(.iconst 0, 1), (.ior, 1), (.istore_n 2, 1), (.iinc 3 1, 3)]) (pe := 69) (ls' := [some (.ref (o)), some (.int (ev_b (b))), some (.int ((mk (fun t => mf S.x (tg S.T t) b) i) ||| (nI 0))), some (.int (nI (i + 1)))]) (st' := []) ⟨dX11_enabled_63, dX11_enabled_64, dX11_enabled_65, dX11_enabled_66, rfl⟩ (by show some (([some (.ref (o)), some (.int (ev_b (b))), some (.int ((mk (fun t => mf S.x (tg S.T t) b) i) ||| (nI 0))), some (.int ((nI i) + Int32.ofInt (1)))] : ev_L), ([] : List Value)) = _; rw [ev_inc1 i]) ?_
          refine ev_goto (tgt := 25) dX11_enabled_69 (by decide) ?_
          have e9 : mk (fun t => mf S.x (tg S.T t) b) (i + 1) = (mk (fun t => mf S.x (tg S.T t) b) i) ||| (nI 0) := (if_neg (by show ¬ mf S.x (tg S.T i) b = true; rw [q35, q43]; decide)).trans (or0 _).symm
          rw [← e9]
          exact ih (i + 1) M zi zl (by omega) hR h0 h11 h13 h14 hF (by omega)
        · refine ev_goto (tgt := 57) dX11_enabled_46 (by decide) ?_
          refine ev_blk (B := [(.iconst 1, 1), (.iload_n 3, 1), (.ishl, 1)]) (pe := 60) (ls' := [some (.ref (o)), some (.int (ev_b (b))), some (.int (mk (fun t => mf S.x (tg S.T t) b) i)), some (.int (nI i))]) (st' := [.int ((nI 1) <<< ((nI i) &&& 31)), .int (mk (fun t => mf S.x (tg S.T t) b) i)]) ⟨dX11_enabled_57, dX11_enabled_58, dX11_enabled_59, rfl⟩ rfl ?_
          refine ev_goto (tgt := 64) dX11_enabled_60 (by decide) ?_
          refine ev_blk (B := [(.ior, 1), (.istore_n 2, 1), (.iinc 3 1, 3)]) (pe := 69) (ls' := [some (.ref (o)), some (.int (ev_b (b))), some (.int ((mk (fun t => mf S.x (tg S.T t) b) i) ||| ((nI 1) <<< ((nI i) &&& 31)))), some (.int (nI (i + 1)))]) (st' := []) ⟨dX11_enabled_64, dX11_enabled_65, dX11_enabled_66, rfl⟩ (by show some (([some (.ref (o)), some (.int (ev_b (b))), some (.int ((mk (fun t => mf S.x (tg S.T t) b) i) ||| ((nI 1) <<< ((nI i) &&& 31)))), some (.int ((nI i) + Int32.ofInt (1)))] : ev_L), ([] : List Value)) = _; rw [ev_inc1 i]) ?_
          refine ev_goto (tgt := 25) dX11_enabled_69 (by decide) ?_
          have e9 : mk (fun t => mf S.x (tg S.T t) b) (i + 1) = (mk (fun t => mf S.x (tg S.T t) b) i) ||| ((nI 1) <<< ((nI i) &&& 31)) := if_pos (by show mf S.x (tg S.T i) b = true; rw [q35]; exact q43)
          rw [← e9]
          exact ih (i + 1) M zi zl (by omega) hR h0 h11 h13 h14 hF (by omega)

set_option maxHeartbeats 4000000 in
set_option maxRecDepth 100000 in
theorem r_enabled {l : Launch} (hl : l.stackTraces = false) {M : ev_M} (o : Nat) (S : St) (hS : okS S) (hT10 : S.T.length ≤ 10) (hG3 : S.G.length ≤ 3) (hH20 : S.H.length ≤ 20) (zi : Nat → Int32) (zl : Nat → Int64) (hR : RR M o S zi zl) (b : Bool) : ev_Mt l m_X11_enabled [.ref (o), .int (ev_b (b))] M (fun r M1 => r = .inl (some (.int (sEna S b))) ∧ ∃ zi' zl', RR M1 o S zi' zl' ∧ zi' 0 = nI 0 ∧ Fr o (o + 31) M M1) := by
  refine ev_body hl rfl (by decide +kernel) (Nat.le_of_ble_eq_true rfl) ?_
  show ev_ l m_X11_enabled 0 0 0 [some (.ref (o)), some (.int (ev_b (b))), none, none] [] M _
  refine ev_blk (B := [(.aload_n 0, 1), (.iconst 0, 1)]) (pe := 2) (ls' := [some (.ref (o)), some (.int (ev_b (b))), none, none]) (st' := [.int (nI 0), .ref (o)]) ⟨dX11_enabled_0, dX11_enabled_1, rfl⟩ rfl ?_
  refine ev_put F_RX11_106 dX11_enabled_2 hR.z (Nat.le_of_ble_eq_true rfl) (fun _ _ => ⟨rfl, rfl⟩) ?_
  rw [zs_0]
  refine ev_nm (M0 := M.set (o) (.inr (10, zo o (ui (zi) 0 (nI 0)) (zl)))) (fun M1 eM1 => ?_)
  have f2 : M1[o]? = some (.inr (10, zo o (ui (zi) 0 (nI 0)) (zl))) := by rw [eM1]; exact ev_sg hR.z
  refine ev_blk (B := [(.iconst 0, 1), (.istore_n 2, 1), (.aload_n 0, 1), (.aload_n 0, 1)]) (pe := 9) (ls' := [some (.ref (o)), some (.int (ev_b (b))), some (.int (nI 0)), none]) (st' := [.ref (o), .ref (o)]) ⟨dX11_enabled_5, dX11_enabled_6, dX11_enabled_7, dX11_enabled_8, rfl⟩ rfl ?_
  refine ev_getf (v := .int (nI (S.x.1))) F_RX11_169 dX11_enabled_9 f2 (congrArg (fun q => some (Value.int q)) hR.p.2.1) ?_
  refine ev_blk (B := [(.aload_n 0, 1)]) (pe := 13) (ls' := [some (.ref (o)), some (.int (ev_b (b))), some (.int (nI 0)), none]) (st' := [.ref (o), .int (nI (S.x.1)), .ref (o)]) ⟨dX11_enabled_12, rfl⟩ rfl ?_
  refine ev_getf (v := .long (e2 S.x.2.1)) F_RX11_159 dX11_enabled_13 f2 (congrArg (fun q => some (Value.long q)) hR.p.2.2.2.1) ?_
  refine ev_blk (B := [(.aload_n 0, 1)]) (pe := 17) (ls' := [some (.ref (o)), some (.int (ev_b (b))), some (.int (nI 0)), none]) (st' := [.ref (o), .long (e2 S.x.2.1), .int (nI (S.x.1)), .ref (o)]) ⟨dX11_enabled_16, rfl⟩ rfl ?_
  refine ev_getf (v := .long (e2 S.x.2.2)) F_RX11_163 dX11_enabled_17 f2 (congrArg (fun q => some (Value.long q)) hR.p.2.2.2.2.1) ?_
  have W3 : FX o (o + 31) (o + 31) M M1 := ⟨by rw [eM1]; simp only [List.length_set], fun j hj1 hj2 => by rw [eM1, ev_sn (by omega)]⟩
  have Wp := W3
  refine ev_cVn Y_X11_takes L_RX11_198 dX11_enabled_20 ⟨Nat.le_of_ble_eq_true rfl, Nat.le_of_ble_eq_true rfl, Nat.le_of_ble_eq_true rfl, Nat.le_of_ble_eq_true rfl, Nat.le_of_ble_eq_true rfl⟩ f2 (as := [.int (nI (S.x.1)), .long (e2 S.x.2.1), .long (e2 S.x.2.2)]) rfl rfl (c_R_takes hl o (ui (zi) 0 (nI 0)) (zl) f2 S.x) (fun M4 hL4 hB4 => ?_)
  obtain ⟨T5z, T5f⟩ := hB4
  refine ev_blk (B := [(.iconst 0, 1), (.istore_n 3, 1)]) (pe := 25) (ls' := [some (.ref (o)), some (.int (ev_b (b))), some (.int (nI 0)), some (.int (nI 0))]) (st' := []) ⟨dX11_enabled_23, dX11_enabled_24, rfl⟩ rfl ?_
  exact c_R_enabled_l hl M o S hS hT10 hG3 hH20 b _ 0 _ _ _ (Nat.zero_le _) (hR.keep T5z ⟨fun k hk => (ui_ne (nm hk (by decide))).trans (ui_ne (nm hk (by decide))), fun k hk => (ul_ne (nm hk (by decide))).trans (ul_ne (nm hk (by decide)))⟩ (Wp.tr (T5f.em (by omega)))) rfl rfl rfl rfl (Wp.tr (T5f.em (by omega))) (Nat.lt_succ_self _)

