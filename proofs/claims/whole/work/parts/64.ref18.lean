/-! ===== the reference: the covering run ===== -/
theorem wo_min {T : List Tr} {L : List Cf} {x : Cf} {t : Nat} (h : wo T L x = some t) {j : Nat} (hj : j < t) : (mf x (tg T j) true && cv L (ap (tg T j) x).2) = false := by
  unfold wo at h
  rw [List.find?_range_eq_some] at h
  have := h.2.2 j hj
  rwa [Bool.not_eq_true'] at this
theorem wsq_s {T : List Tr} {B : Nat → List Cf} {d : Nat} {s : Cf × Nat × Nat} {i t : Nat} (h : wo T (B (d - 1 - i)) (wsq T B d s i).1 = some t) : wsq T B d s (i + 1) = ((ap (tg T t) (wsq T B d s i).1).2, t, (ap (tg T t) (wsq T B d s i).1).1) := wst_some h
theorem PB.fx {M M1 : ev_M} {o k lo hi : Nat} {B : List Cf} (h : PB M o k B) (hf : FX o lo hi M M1) (h2 : hi ≤ lo) : PB M1 o k B := by
  obtain ⟨bs, bn, bf, b2, a1, a2, a3, a4, a5⟩ := h
  exact ⟨bs, bn, bf, b2, hf.at a1 (by omega) (by omega), hf.at a2 (by omega) (by omega), hf.at a3 (by omega) (by omega), hf.at a4 (by omega) (by omega), a5⟩
set_option maxHeartbeats 4000000 in
set_option maxRecDepth 100000 in
theorem c_R_fnext_l {l : Launch} (hl : l.stackTraces = false)  (o : Nat) (S : St) (hS : okS S) (hT10 : S.T.length ≤ 10) (zi0 : Nat → Int32) (zl0 : Nat → Int64) (h2 : zi0 2 = nI S.T.length) (fT : Nat → Int32) (hPT : RP5 S.T.length fT S.T) (n : Nat) (hn0 : 0 < n) (hn13 : n < 14) (B : List Cf) (hB30 : B.length ≤ 30) (hB : cfs 25 B) (x : Cf) (hx : cfW 24 x) (t : Nat) (hwo : wo S.T B x = some t) (M0 : ev_M) (hfT : M0[o + 1]? = some (.inl (0, 50, .inl fT))) (hPB : PB M0 o (n - 1) B) : ∀ (n9 : Nat) (i : Nat) (M : ev_M) (zi : Nat → Int32) (zl : Nat → Int64), i ≤ t → M[o]? = some (.inr (10, zo o zi zl)) → (∀ j, j ≠ 11 → j ≠ 12 → zi j = zi0 j) → (∀ j, j ≠ 13 → j ≠ 14 → zl j = zl0 j) → FX o (o + 1) (o + 1) M0 M → S.T.length - i < n9 → ev_ l m_X11_firesNext 0 0 19 [some (.ref (o)), some (.int (nI n)), some (.int (nI (x.1))), some (.long (e2 x.2.1)), none, some (.long (e2 x.2.2)), none, some (.int (nI i))] [] M (fun r M1 => r = .inl (some (.int (nI t))) ∧ ∃ zi' zl', M1[o]? = some (.inr (10, zo o zi' zl')) ∧ HD zi0 zl0 zi' zl' (ap (tg S.T t) x).1 (ap (tg S.T t) x).2 ∧ FX o (o + 1) (o + 1) M0 M1) := by
  intro n9
  induction n9 with
  | zero => intro i M zi zl hi hO hzi hzl hF hm9; exact absurd hm9 (by omega)
  | succ n9 ih =>
    intro i M zi zl hi hO hzi hzl hF hm9
    have htl := (wo_lt hwo).1
    have hx6 := hx.1
    refine ev_blk (B := [(.iload 7, 2), (.aload_n 0, 1)]) (pe := 22) (ls' := [some (.ref (o)), some (.int (nI n)), some (.int (nI (x.1))), some (.long (e2 x.2.1)), none, some (.long (e2 x.2.2)), none, some (.int (nI i))]) (st' := [.ref (o), .int (nI i)]) ⟨dX11_firesNext_19, dX11_firesNext_21, rfl⟩ rfl ?_
    refine ev_getf (v := .int (nI (S.T.length))) F_RX11_123 dX11_firesNext_22 hO (congrArg (fun q => some (Value.int q)) ((hzi 2 (by decide) (by decide)).trans h2)) ?_
    refine ev_iN_ge dX11_firesNext_25 (tgt := 73) (by decide) (by omega) (by omega) (fun q25 => ?_) (fun q25 => ?_)
    · exfalso; omega
    · refine ev_blk (B := [(.aload_n 0, 1), (.iload_n 2, 1), (.lload_n 3, 1), (.lload 5, 2)]) (pe := 33) (ls' := [some (.ref (o)), some (.int (nI n)), some (.int (nI (x.1))), some (.long (e2 x.2.1)), none, some (.long (e2 x.2.2)), none, some (.int (nI i))]) (st' := [.long (e2 x.2.2), .long (e2 x.2.1), .int (nI (x.1)), .ref (o)]) ⟨dX11_firesNext_28, dX11_firesNext_29, dX11_firesNext_30, dX11_firesNext_31, rfl⟩ rfl ?_
      refine ev_cVn Y_X11_takes L_RX11_198 dX11_firesNext_33 ⟨Nat.le_of_ble_eq_true rfl, Nat.le_of_ble_eq_true rfl, Nat.le_of_ble_eq_true rfl, Nat.le_of_ble_eq_true rfl, Nat.le_of_ble_eq_true rfl⟩ hO (as := [.int (nI (x.1)), .long (e2 x.2.1), .long (e2 x.2.2)]) rfl rfl (c_R_takes hl o (zi) (zl) hO x) (fun M1 hL1 hB1 => ?_)
      obtain ⟨T2z, T2f⟩ := hB1
      refine ev_blk (B := [(.aload_n 0, 1), (.iload 7, 2)]) (pe := 39) (ls' := [some (.ref (o)), some (.int (nI n)), some (.int (nI (x.1))), some (.long (e2 x.2.1)), none, some (.long (e2 x.2.2)), none, some (.int (nI i))]) (st' := [.int (nI i), .ref (o)]) ⟨dX11_firesNext_36, dX11_firesNext_37, rfl⟩ rfl ?_
      refine ev_cVv Y_X11_mayFire L_RX11_202 dX11_firesNext_39 ⟨Nat.le_of_ble_eq_true rfl, Nat.le_of_ble_eq_true rfl, Nat.le_of_ble_eq_true rfl, Nat.le_of_ble_eq_true rfl, Nat.le_of_ble_eq_true rfl⟩ T2z (as := [.int (nI i)]) rfl rfl (c_R_mayFire hl o (ui (zi) 11 (nI x.1)) (ul (ul (zl) 13 (e2 x.2.1)) 14 (e2 x.2.2)) T2z _ (T2f.at (hF.at hfT (by omega) (by omega)) (by omega) (by omega)) S.T hPT hT10 hS.T i (by omega) x (hx.le (by omega) : cfW 25 x) rfl rfl rfl) ?_
      refine ev_ifB_ne dX11_firesNext_42 (tgt := 48) (by decide) (fun q42 => ?_) (fun q42 => ?_)
      · refine ev_blk (B := [(.aload_n 0, 1), (.iload 7, 2)]) (pe := 51) (ls' := [some (.ref (o)), some (.int (nI n)), some (.int (nI (x.1))), some (.long (e2 x.2.1)), none, some (.long (e2 x.2.2)), none, some (.int (nI i))]) (st' := [.int (nI i), .ref (o)]) ⟨dX11_firesNext_48, dX11_firesNext_49, rfl⟩ rfl ?_
        refine ev_cVn Y_X11_fires L_RX11_212 dX11_firesNext_51 ⟨Nat.le_of_ble_eq_true rfl, Nat.le_of_ble_eq_true rfl, Nat.le_of_ble_eq_true rfl, Nat.le_of_ble_eq_true rfl, Nat.le_of_ble_eq_true rfl⟩ T2z (as := [.int (nI i)]) rfl rfl (c_R_fires hl o (ui (zi) 11 (nI x.1)) (ul (ul (zl) 13 (e2 x.2.1)) 14 (e2 x.2.2)) T2z _ (T2f.at (hF.at hfT (by omega) (by omega)) (by omega) (by omega)) S.T hPT hT10 hS.T i (by omega) x hx rfl rfl rfl q42) (fun M3 hL3 hB3 => ?_)
        obtain ⟨Xi, Xl, Xz, XD, XF⟩ := hB3
        refine ev_blk (B := [(.aload_n 0, 1), (.iload_n 1, 1), (.iconst 1, 1), (.isub, 1)]) (pe := 58) (ls' := [some (.ref (o)), some (.int (nI n)), some (.int (nI (x.1))), some (.long (e2 x.2.1)), none, some (.long (e2 x.2.2)), none, some (.int (nI i))]) (st' := [.int (nI (n - 1)), .ref (o)]) ⟨dX11_firesNext_54, dX11_firesNext_55, dX11_firesNext_56, dX11_firesNext_57, rfl⟩ (by show some (([some (.ref (o)), some (.int (nI n)), some (.int (nI (x.1))), some (.long (e2 x.2.1)), none, some (.long (e2 x.2.2)), none, some (.int (nI i))] : ev_L), ([.int ((nI n) - (nI 1)), .ref (o)] : List Value)) = _; rw [pk_sub (show 1 ≤ n by omega)]) ?_
        refine ev_cVv Y_X11_isCovered L_RX11_271 dX11_firesNext_58 ⟨Nat.le_of_ble_eq_true rfl, Nat.le_of_ble_eq_true rfl, Nat.le_of_ble_eq_true rfl, Nat.le_of_ble_eq_true rfl, Nat.le_of_ble_eq_true rfl⟩ Xz (as := [.int (nI (n - 1))]) rfl rfl (c_R_isCovered hl o Xi Xl Xz (n - 1) (by omega) B hB30 hB ((hPB.fx hF (by omega)).fx (T2f.tr XF) (by omega)) (ap (tg S.T i) x).2 ((ap_ok hx (trs_tg hS.T (by omega))).le (by omega)) XD.1 XD.2.2.1 XD.2.2.2.1) ?_
        refine ev_ifB_eq dX11_firesNext_61 (tgt := 67) (by decide) (fun q61 => ?_) (fun q61 => ?_)
        · refine ev_blk (B := [(.iinc 7 1, 3)]) (pe := 70) (ls' := [some (.ref (o)), some (.int (nI n)), some (.int (nI (x.1))), some (.long (e2 x.2.1)), none, some (.long (e2 x.2.2)), none, some (.int (nI (i + 1)))]) (st' := []) ⟨dX11_firesNext_67, rfl⟩ (by show some (([some (.ref (o)), some (.int (nI n)), some (.int (nI (x.1))), some (.long (e2 x.2.1)), none, some (.long (e2 x.2.2)), none, some (.int ((nI i) + Int32.ofInt (1)))] : ev_L), ([] : List Value)) = _; rw [ev_inc1 i]) ?_
          refine ev_goto (tgt := 19) dX11_firesNext_70 (by decide) ?_
          have hit : i ≠ t := by
            rintro rfl
            have := (wo_lt hwo).2.2
            rw [q61] at this; cases this
          exact ih (i + 1) _ _ _ (by omega) Xz (fun j a b => (XD.2.2.2.2.1 j a b).trans ((ui_ne a).trans (hzi j a b))) (fun j a b => (XD.2.2.2.2.2 j a b).trans ((ul_ne b).trans ((ul_ne a).trans (hzl j a b)))) (hF.tr (T2f.tr XF)) (by omega)
        · refine ev_blk (B := [(.iload 7, 2)]) (pe := 66) (ls' := [some (.ref (o)), some (.int (nI n)), some (.int (nI (x.1))), some (.long (e2 x.2.1)), none, some (.long (e2 x.2.2)), none, some (.int (nI i))]) (st' := [.int (nI i)]) ⟨dX11_firesNext_64, rfl⟩ rfl ?_
          refine ev_iret dX11_firesNext_66 rfl (rfl) ⟨Nat.le_of_ble_eq_true rfl, Nat.le_of_ble_eq_true rfl⟩ ?_
          have hit : i = t := by
            by_cases e : i < t
            · have := wo_min hwo e
              rw [q42, q61] at this; cases this
            · omega
          subst hit
          exact ⟨rfl, Xi, Xl, Xz, ⟨XD.1, XD.2.1, XD.2.2.1, XD.2.2.2.1, fun j a b => (XD.2.2.2.2.1 j a b).trans ((ui_ne a).trans (hzi j a b)), fun j a b => (XD.2.2.2.2.2 j a b).trans ((ul_ne b).trans ((ul_ne a).trans (hzl j a b)))⟩, hF.tr (T2f.tr XF)⟩
      · refine ev_goto (tgt := 67) dX11_firesNext_45 (by decide) ?_
        refine ev_blk (B := [(.iinc 7 1, 3)]) (pe := 70) (ls' := [some (.ref (o)), some (.int (nI n)), some (.int (nI (x.1))), some (.long (e2 x.2.1)), none, some (.long (e2 x.2.2)), none, some (.int (nI (i + 1)))]) (st' := []) ⟨dX11_firesNext_67, rfl⟩ (by show some (([some (.ref (o)), some (.int (nI n)), some (.int (nI (x.1))), some (.long (e2 x.2.1)), none, some (.long (e2 x.2.2)), none, some (.int ((nI i) + Int32.ofInt (1)))] : ev_L), ([] : List Value)) = _; rw [ev_inc1 i]) ?_
        refine ev_goto (tgt := 19) dX11_firesNext_70 (by decide) ?_
        have hit : i ≠ t := by
          rintro rfl
          have := (wo_lt hwo).2.1
          rw [q42] at this; cases this
        exact ih (i + 1) _ _ _ (by omega) T2z (fun j a b => (ui_ne a).trans (hzi j a b)) (fun j a b => (ul_ne b).trans ((ul_ne a).trans (hzl j a b))) (hF.tr T2f) (by omega)

set_option maxHeartbeats 4000000 in
set_option maxRecDepth 100000 in
theorem c_R_firesNext {l : Launch} (hl : l.stackTraces = false) {M : ev_M} (o : Nat) (S : St) (hS : okS S) (hT10 : S.T.length ≤ 10) (zi : Nat → Int32) (zl : Nat → Int64) (h2 : zi 2 = nI S.T.length) (fT : Nat → Int32) (hPT : RP5 S.T.length fT S.T) (n : Nat) (hn0 : 0 < n) (hn13 : n < 14) (B : List Cf) (hB30 : B.length ≤ 30) (hB : cfs 25 B) (x : Cf) (hx : cfW 24 x) (t : Nat) (hwo : wo S.T B x = some t) (hO : M[o]? = some (.inr (10, zo o zi zl))) (h11 : zi 11 = nI x.1) (h13 : zl 13 = e2 x.2.1) (h14 : zl 14 = e2 x.2.2) (hfT : M[o + 1]? = some (.inl (0, 50, .inl fT))) (hPB : PB M o (n - 1) B) : ev_Mt l m_X11_firesNext [.ref (o), .int (nI n)] M (fun r M1 => r = .inl (some (.int (nI t))) ∧ ∃ zi' zl', M1[o]? = some (.inr (10, zo o zi' zl')) ∧ HD zi zl zi' zl' (ap (tg S.T t) x).1 (ap (tg S.T t) x).2 ∧ FX o (o + 1) (o + 1) M M1) := by
  refine ev_body hl rfl (by decide +kernel) (Nat.le_of_ble_eq_true rfl) ?_
  show ev_ l m_X11_firesNext 0 0 0 [some (.ref (o)), some (.int (nI n)), none, none, none, none, none, none] [] M _
  refine ev_blk (B := [(.aload_n 0, 1)]) (pe := 1) (ls' := [some (.ref (o)), some (.int (nI n)), none, none, none, none, none, none]) (st' := [.ref (o)]) ⟨dX11_firesNext_0, rfl⟩ rfl ?_
  refine ev_getf (v := .int (nI (x.1))) F_RX11_179 dX11_firesNext_1 hO (congrArg (fun q => some (Value.int q)) h11) ?_
  refine ev_blk (B := [(.istore_n 2, 1), (.aload_n 0, 1)]) (pe := 6) (ls' := [some (.ref (o)), some (.int (nI n)), some (.int (nI (x.1))), none, none, none, none, none]) (st' := [.ref (o)]) ⟨dX11_firesNext_4, dX11_firesNext_5, rfl⟩ rfl ?_
  refine ev_getf (v := .long (e2 x.2.1)) F_RX11_182 dX11_firesNext_6 hO (congrArg (fun q => some (Value.long q)) h13) ?_
  refine ev_blk (B := [(.lstore_n 3, 1), (.aload_n 0, 1)]) (pe := 11) (ls' := [some (.ref (o)), some (.int (nI n)), some (.int (nI (x.1))), some (.long (e2 x.2.1)), none, none, none, none]) (st' := [.ref (o)]) ⟨dX11_firesNext_9, dX11_firesNext_10, rfl⟩ rfl ?_
  refine ev_getf (v := .long (e2 x.2.2)) F_RX11_185 dX11_firesNext_11 hO (congrArg (fun q => some (Value.long q)) h14) ?_
  refine ev_blk (B := [(.lstore 5, 2), (.iconst 0, 1), (.istore 7, 2)]) (pe := 19) (ls' := [some (.ref (o)), some (.int (nI n)), some (.int (nI (x.1))), some (.long (e2 x.2.1)), none, some (.long (e2 x.2.2)), none, some (.int (nI 0))]) (st' := []) ⟨dX11_firesNext_14, dX11_firesNext_16, dX11_firesNext_17, rfl⟩ rfl ?_
  exact c_R_fnext_l hl o S hS hT10 zi zl h2 fT hPT n hn0 hn13 B hB30 hB x hx t hwo M hfT hPB _ 0 M zi zl (Nat.zero_le _) hO (fun _ _ _ => rfl) (fun _ _ _ => rfl) FX.rf (Nat.lt_succ_self _)

set_option maxHeartbeats 4000000 in
set_option maxRecDepth 100000 in
theorem c_R_goes_l {l : Launch} (hl : l.stackTraces = false)  (o : Nat) (S : St) (hS : okS S) (hT10 : S.T.length ≤ 10) (hL13 : La S < 13) (zi0 : Nat → Int32) (zl0 : Nat → Int64) (M0 : ev_M) (hR : RR M0 o S zi0 zl0) (hPBs : PBs M0 o S.T S.G (La S + 1)) (fT : Nat → Int32) (hfT : M0[o + 1]? = some (.inl (0, 50, .inl fT))) (hPT : RP5 S.T.length fT S.T) (hW : walks S) (d : Nat) (hd : dN S = some d) (hdL : d ≤ La S) (j : Nat) (hj : j < d) : ∀ (n9 : Nat) (k : Nat) (M : ev_M) (zi : Nat → Int32) (zl : Nat → Int64), k ≤ j + 1 → M[o]? = some (.inr (10, zo o zi zl)) → zi 11 = nI (wsq S.T (bl S.T S.G) d (S.x, 0, 0) k).1.1 → zl 13 = e2 (wsq S.T (bl S.T S.G) d (S.x, 0, 0) k).1.2.1 → zl 14 = e2 (wsq S.T (bl S.T S.G) d (S.x, 0, 0) k).1.2.2 → (0 < k → zi 12 = nI (wsq S.T (bl S.T S.G) d (S.x, 0, 0) k).2.2) → (∀ i, i ≠ 11 → i ≠ 12 → zi i = zi0 i) → (∀ i, i ≠ 13 → i ≠ 14 → zl i = zl0 i) → FX o (o + 1) (o + 1) M0 M → j + 1 - k < n9 → ev_ l m_X11_goesTo 0 0 45 [some (.ref (o)), some (.int (nI j)), some (.int (nI d)), some (.int (nI ((wsq S.T (bl S.T S.G) d (S.x, 0, 0) k).2.1))), some (.int (nI k))] [] M (fun r M1 => r = .inl (some (.int (nI (wsq S.T (bl S.T S.G) d (S.x, 0, 0) (j + 1)).2.1))) ∧ ∃ zi' zl', RR M1 o S zi' zl' ∧ zi' 12 = nI (wsq S.T (bl S.T S.G) d (S.x, 0, 0) (j + 1)).2.2 ∧ (∀ j, j ≠ 11 → j ≠ 12 → zi' j = zi0 j) ∧ FX o (o + 1) (o + 1) M0 M1) := by
  intro n9
  induction n9 with
  | zero => intro k M zi zl hk hO h11 h13 h14 h12 hzi hzl hF hm9; exact absurd hm9 (by omega)
  | succ n9 ih =>
    intro k M zi zl hk hO h11 h13 h14 h12 hzi hzl hF hm9
    refine ev_blk (B := [(.iload 4, 2), (.iload_n 1, 1)]) (pe := 48) (ls' := [some (.ref (o)), some (.int (nI j)), some (.int (nI d)), some (.int (nI ((wsq S.T (bl S.T S.G) d (S.x, 0, 0) k).2.1))), some (.int (nI k))]) (st' := [.int (nI j), .int (nI k)]) ⟨dX11_goesTo_45, dX11_goesTo_47, rfl⟩ rfl ?_
    refine ev_iN_gt dX11_goesTo_48 (tgt := 66) (by decide) (by omega) (by omega) (fun q48 => ?_) (fun q48 => ?_)
    · refine ev_blk (B := [(.iload_n 3, 1)]) (pe := 67) (ls' := [some (.ref (o)), some (.int (nI j)), some (.int (nI d)), some (.int (nI ((wsq S.T (bl S.T S.G) d (S.x, 0, 0) k).2.1))), some (.int (nI k))]) (st' := [.int (nI ((wsq S.T (bl S.T S.G) d (S.x, 0, 0) k).2.1))]) ⟨dX11_goesTo_66, rfl⟩ rfl ?_
      refine ev_iret dX11_goesTo_67 rfl (rfl) ⟨Nat.le_of_ble_eq_true rfl, Nat.le_of_ble_eq_true rfl⟩ ?_
      have e7 : k = j + 1 := by omega
      subst e7
      exact ⟨rfl, zi, zl, hR.keep hO ⟨fun q hq => hzi q (nm hq (by decide)) (nm hq (by decide)), fun q hq => hzl q (nm hq (by decide)) (nm hq (by decide))⟩ (hF.em (by omega)), h12 (by omega), hzi, hF⟩
    · refine ev_blk (B := [(.aload_n 0, 1), (.iload_n 2, 1), (.iload 4, 2), (.isub, 1)]) (pe := 56) (ls' := [some (.ref (o)), some (.int (nI j)), some (.int (nI d)), some (.int (nI ((wsq S.T (bl S.T S.G) d (S.x, 0, 0) k).2.1))), some (.int (nI k))]) (st' := [.int (nI (d - k)), .ref (o)]) ⟨dX11_goesTo_51, dX11_goesTo_52, dX11_goesTo_53, dX11_goesTo_55, rfl⟩ (by show some (([some (.ref (o)), some (.int (nI j)), some (.int (nI d)), some (.int (nI ((wsq S.T (bl S.T S.G) d (S.x, 0, 0) k).2.1))), some (.int (nI k))] : ev_L), ([.int ((nI d) - (nI k)), .ref (o)] : List Value)) = _; rw [pk_sub (show k ≤ d by omega)]) ?_
      obtain ⟨t, hwo⟩ : ∃ t, wo S.T (bl S.T S.G (d - 1 - k)) (wsq S.T (bl S.T S.G) d (S.x, 0, 0) k).1 = some t := Option.ne_none_iff_exists'.mp (hW d hd k (by omega))
      have hwk := wsq_ok (d := d) (B := bl S.T S.G) (s := (S.x, 0, 0)) hS.T hS.x k
      rw [show d - 1 - k = d - k - 1 by omega] at hwo
      refine ev_cVw Y_X11_firesNext L_RX11_278 dX11_goesTo_56 ⟨Nat.le_of_ble_eq_true rfl, Nat.le_of_ble_eq_true rfl, Nat.le_of_ble_eq_true rfl, Nat.le_of_ble_eq_true rfl, Nat.le_of_ble_eq_true rfl⟩ hO (as := [.int (nI (d - k))]) rfl rfl (c_R_firesNext hl o S hS hT10 zi zl ((hzi 2 (by decide) (by decide)).trans hR.p.1) fT hPT (d - k) (by omega) (by omega) (bl S.T S.G (d - k - 1)) (hPBs.len (show d - k - 1 < La S + 1 by omega)) ((bl_ok hS.T hS.G (d - k - 1)).le (by omega)) (wsq S.T (bl S.T S.G) d (S.x, 0, 0) k).1 (hwk.le (by omega)) t hwo hO h11 h13 h14 (hF.at hfT (by omega) (by omega)) ((hPBs.pb (show d - k - 1 < La S + 1 by omega)).fx hF (by omega))) (fun M1 hL1 hB1 => ?_)
      obtain ⟨Xi, Xl, Xz, XD, XF⟩ := hB1
      refine ev_blk (B := [(.istore_n 3, 1), (.iinc 4 1, 3)]) (pe := 63) (ls' := [some (.ref (o)), some (.int (nI j)), some (.int (nI d)), some (.int (nI t)), some (.int (nI (k + 1)))]) (st' := []) ⟨dX11_goesTo_59, dX11_goesTo_60, rfl⟩ (by show some (([some (.ref (o)), some (.int (nI j)), some (.int (nI d)), some (.int (nI t)), some (.int ((nI k) + Int32.ofInt (1)))] : ev_L), ([] : List Value)) = _; rw [ev_inc1 k]) ?_
      refine ev_goto (tgt := 45) dX11_goesTo_63 (by decide) ?_
      rw [show d - k - 1 = d - 1 - k by omega] at hwo
      have hws := wsq_s hwo
      have e1 : (wsq S.T (bl S.T S.G) d (S.x, 0, 0) (k + 1)).2.1 = t := by rw [hws]
      rw [← e1]
      exact ih (k + 1) _ _ _ (by omega) Xz (by rw [hws]; exact XD.1) (by rw [hws]; exact XD.2.2.1) (by rw [hws]; exact XD.2.2.2.1) (fun _ => by rw [hws]; exact XD.2.1) (fun i a b => (XD.2.2.2.2.1 i a b).trans (hzi i a b)) (fun i a b => (XD.2.2.2.2.2 i a b).trans (hzl i a b)) (hF.tr XF) (by omega)

set_option maxHeartbeats 4000000 in
set_option maxRecDepth 100000 in
theorem c_R_goesToT {l : Launch} (hl : l.stackTraces = false) {M : ev_M} (o : Nat) (S : St) (hS : okS S) (hT10 : S.T.length ≤ 10) (zi : Nat → Int32) (zl : Nat → Int64) (hR : RR M o S zi zl) (hL13 : La S < 13) (h29 : zi 29 = nI (La S)) (hPBs : PBs M o S.T S.G (La S + 1)) (hW : walks S) (d : Nat) (hd : dN S = some d) (j : Nat) (hj : j < d) : ev_Mt l m_X11_goesTo [.ref (o), .int (nI j)] M (fun r M1 => r = .inl (some (.int (nI (wsq S.T (bl S.T S.G) d (S.x, 0, 0) (j + 1)).2.1))) ∧ ∃ zi' zl', RR M1 o S zi' zl' ∧ zi' 12 = nI (wsq S.T (bl S.T S.G) d (S.x, 0, 0) (j + 1)).2.2 ∧ (∀ j, j ≠ 11 → j ≠ 12 → zi' j = zi j) ∧ FX o (o + 1) (o + 1) M M1) := by
  have hdL : d ≤ La S := (ds_lt hd).1
  refine ev_body hl rfl (by decide +kernel) (Nat.le_of_ble_eq_true rfl) ?_
  show ev_ l m_X11_goesTo 0 0 0 [some (.ref (o)), some (.int (nI j)), none, none, none] [] M _
  refine ev_blk (B := [(.aload_n 0, 1)]) (pe := 1) (ls' := [some (.ref (o)), some (.int (nI j)), none, none, none]) (st' := [.ref (o)]) ⟨dX11_goesTo_0, rfl⟩ rfl ?_
  refine ev_cVw Y_X11_distanceNow L_RX11_274 dX11_goesTo_1 ⟨Nat.le_of_ble_eq_true rfl, Nat.le_of_ble_eq_true rfl, Nat.le_of_ble_eq_true rfl, Nat.le_of_ble_eq_true rfl, Nat.le_of_ble_eq_true rfl⟩ hR.z (as := []) rfl rfl (c_R_distanceNow hl o S hS zi zl hR hL13 h29 hPBs) (fun M1 hL1 hB1 => ?_)
  obtain ⟨Di, Dl, DR, DK, DL, D11, D13, D14, DF⟩ := hB1
  rw [show oI (dN S) = nI d from by rw [hd]; rfl]
  refine ev_blk (B := [(.istore_n 2, 1), (.iload_n 1, 1), (.iconst 0, 1), (.iload_n 2, 1), (.iconst 1, 1), (.isub, 1)]) (pe := 10) (ls' := [some (.ref (o)), some (.int (nI j)), some (.int (nI d)), none, none]) (st' := [.int (nI (d - 1)), .int (nI 0), .int (nI j)]) ⟨dX11_goesTo_4, dX11_goesTo_5, dX11_goesTo_6, dX11_goesTo_7, dX11_goesTo_8, dX11_goesTo_9, rfl⟩ (by show some (([some (.ref (o)), some (.int (nI j)), some (.int (nI d)), none, none] : ev_L), ([.int ((nI d) - (nI 1)), .int (nI 0), .int (nI j)] : List Value)) = _; rw [pk_sub (show 1 ≤ d by omega)]) ?_
  refine ev_cSv Y_X11_isBetween L_RX11_134 dX11_goesTo_10 ⟨Nat.le_of_ble_eq_true rfl, Nat.le_of_ble_eq_true rfl, Nat.le_of_ble_eq_true rfl, Nat.le_of_ble_eq_true rfl, Nat.le_of_ble_eq_true rfl⟩ (as := [.int (nI j), .int (nI 0), .int (nI (d - 1))]) rfl rfl (c_R_isBT hl _ _ _ (nI_le (Nat.zero_le _) (by omega)) (nI_le (by omega) (by omega))) ?_
  refine ev_ifB_ne dX11_goesTo_13 (tgt := 24) (by decide) (fun q13 => ?_) (fun q13 => ?_)
  · refine ev_blk (B := [(.aload_n 0, 1), (.aload_n 0, 1)]) (pe := 26) (ls' := [some (.ref (o)), some (.int (nI j)), some (.int (nI d)), none, none]) (st' := [.ref (o), .ref (o)]) ⟨dX11_goesTo_24, dX11_goesTo_25, rfl⟩ rfl ?_
    refine ev_getf (v := .int (nI (S.x.1))) F_RX11_169 dX11_goesTo_26 DR.z (congrArg (fun q => some (Value.int q)) DR.p.2.1) ?_
    refine ev_blk (B := [(.aload_n 0, 1)]) (pe := 30) (ls' := [some (.ref (o)), some (.int (nI j)), some (.int (nI d)), none, none]) (st' := [.ref (o), .int (nI (S.x.1)), .ref (o)]) ⟨dX11_goesTo_29, rfl⟩ rfl ?_
    refine ev_getf (v := .long (e2 S.x.2.1)) F_RX11_159 dX11_goesTo_30 DR.z (congrArg (fun q => some (Value.long q)) DR.p.2.2.2.1) ?_
    refine ev_blk (B := [(.aload_n 0, 1)]) (pe := 34) (ls' := [some (.ref (o)), some (.int (nI j)), some (.int (nI d)), none, none]) (st' := [.ref (o), .long (e2 S.x.2.1), .int (nI (S.x.1)), .ref (o)]) ⟨dX11_goesTo_33, rfl⟩ rfl ?_
    refine ev_getf (v := .long (e2 S.x.2.2)) F_RX11_163 dX11_goesTo_34 DR.z (congrArg (fun q => some (Value.long q)) DR.p.2.2.2.2.1) ?_
    obtain ⟨fT2, hfT2, hPT2⟩ := DR.T
    refine ev_cVn Y_X11_takes L_RX11_198 dX11_goesTo_37 ⟨Nat.le_of_ble_eq_true rfl, Nat.le_of_ble_eq_true rfl, Nat.le_of_ble_eq_true rfl, Nat.le_of_ble_eq_true rfl, Nat.le_of_ble_eq_true rfl⟩ DR.z (as := [.int (nI (S.x.1)), .long (e2 S.x.2.1), .long (e2 S.x.2.2)]) rfl rfl (c_R_takes hl o (Di) (Dl) DR.z S.x) (fun M2 hL2 hB2 => ?_)
    obtain ⟨T3z, T3f⟩ := hB2
    refine ev_blk (B := [(.iconst 0, 1), (.istore_n 3, 1), (.iconst 0, 1), (.istore 4, 2)]) (pe := 45) (ls' := [some (.ref (o)), some (.int (nI j)), some (.int (nI d)), some (.int (nI 0)), some (.int (nI 0))]) (st' := []) ⟨dX11_goesTo_40, dX11_goesTo_41, dX11_goesTo_42, dX11_goesTo_43, rfl⟩ rfl ?_
    refine ev_mono (fun r M9 hq => ?_) (c_R_goes_l hl o S hS hT10 hL13 Di Dl M1 DR (hPBs.fx DF (by omega)) fT2 hfT2 hPT2 hW d hd hdL j hj _ 0 _ _ _ (Nat.zero_le _) T3z rfl rfl rfl (fun z => absurd z (Nat.lt_irrefl _)) (fun i a b => ui_ne a) (fun i a b => (ul_ne b).trans (ul_ne a)) T3f (Nat.lt_succ_self _))
    obtain ⟨q1, zi2, zl2, q2, q3, q4, q5⟩ := hq
    exact ⟨q1, zi2, zl2, q2, q3, fun i a b => (q4 i a b).trans (DK i a), DF.tr q5⟩
  · exact absurd q13 (by decide)

set_option maxHeartbeats 4000000 in
set_option maxRecDepth 100000 in
theorem c_R_goesToF {l : Launch} (hl : l.stackTraces = false) {M : ev_M} (o : Nat) (S : St) (hS : okS S) (hT10 : S.T.length ≤ 10) (zi : Nat → Int32) (zl : Nat → Int64) (hR : RR M o S zi zl) (hL13 : La S < 13) (h29 : zi 29 = nI (La S)) (hPBs : PBs M o S.T S.G (La S + 1)) (a : Int32) (hno : ¬ (nI 0 ≤ a ∧ a ≤ oI (dN S) - nI 1)) : ev_Mt l m_X11_goesTo [.ref (o), .int (a)] M (fun r M1 => r = .inl (some (.int (nI 0 - nI 1))) ∧ ∃ zi' zl', RR M1 o S zi' zl' ∧ zi' 0 = nI 3 ∧ FX o (o + 1) (o + 1) M M1) := by
  refine ev_body hl rfl (by decide +kernel) (Nat.le_of_ble_eq_true rfl) ?_
  show ev_ l m_X11_goesTo 0 0 0 [some (.ref (o)), some (.int (a)), none, none, none] [] M _
  refine ev_blk (B := [(.aload_n 0, 1)]) (pe := 1) (ls' := [some (.ref (o)), some (.int (a)), none, none, none]) (st' := [.ref (o)]) ⟨dX11_goesTo_0, rfl⟩ rfl ?_
  refine ev_cVw Y_X11_distanceNow L_RX11_274 dX11_goesTo_1 ⟨Nat.le_of_ble_eq_true rfl, Nat.le_of_ble_eq_true rfl, Nat.le_of_ble_eq_true rfl, Nat.le_of_ble_eq_true rfl, Nat.le_of_ble_eq_true rfl⟩ hR.z (as := []) rfl rfl (c_R_distanceNow hl o S hS zi zl hR hL13 h29 hPBs) (fun M1 hL1 hB1 => ?_)
  obtain ⟨Di, Dl, DR, DK, DL, D11, D13, D14, DF⟩ := hB1
  refine ev_blk (B := [(.istore_n 2, 1), (.iload_n 1, 1), (.iconst 0, 1), (.iload_n 2, 1), (.iconst 1, 1), (.isub, 1)]) (pe := 10) (ls' := [some (.ref (o)), some (.int (a)), some (.int (oI (dN S))), none, none]) (st' := [.int ((oI (dN S)) - (nI 1)), .int (nI 0), .int (a)]) ⟨dX11_goesTo_4, dX11_goesTo_5, dX11_goesTo_6, dX11_goesTo_7, dX11_goesTo_8, dX11_goesTo_9, rfl⟩ rfl ?_
  refine ev_cSv Y_X11_isBetween L_RX11_134 dX11_goesTo_10 ⟨Nat.le_of_ble_eq_true rfl, Nat.le_of_ble_eq_true rfl, Nat.le_of_ble_eq_true rfl, Nat.le_of_ble_eq_true rfl, Nat.le_of_ble_eq_true rfl⟩ (as := [.int (a), .int (nI 0), .int ((oI (dN S)) - (nI 1))]) rfl rfl (c_R_isBF hl _ _ _ hno) ?_
  refine ev_ifB_ne dX11_goesTo_13 (tgt := 24) (by decide) (fun q13 => ?_) (fun q13 => ?_)
  · exact absurd q13 (by decide)
  · refine ev_blk (B := [(.aload_n 0, 1), (.iconst 3, 1)]) (pe := 18) (ls' := [some (.ref (o)), some (.int (a)), some (.int (oI (dN S))), none, none]) (st' := [.int (nI 3), .ref (o)]) ⟨dX11_goesTo_16, dX11_goesTo_17, rfl⟩ rfl ?_
    refine ev_cVv Y_X11_fails L_RX11_144 dX11_goesTo_18 ⟨Nat.le_of_ble_eq_true rfl, Nat.le_of_ble_eq_true rfl, Nat.le_of_ble_eq_true rfl, Nat.le_of_ble_eq_true rfl, Nat.le_of_ble_eq_true rfl⟩ DR.z (as := [.int (nI 3)]) rfl rfl (c_R_fails hl o (Di) (Dl) DR.z 3) ?_
    refine ev_nm (M0 := M1.set o (.inr (10, zo o (ui (Di) 0 (nI 3)) (Dl)))) (fun Mf eMf => ?_)
    have ff : Mf[o]? = some (.inr (10, zo o (ui (Di) 0 (nI 3)) (Dl))) := by rw [eMf]; exact ev_sg DR.z
    refine ev_blk (B := [(.iconst 1, 1), (.isub, 1)]) (pe := 23) (ls' := [some (.ref (o)), some (.int (a)), some (.int (oI (dN S))), none, none]) (st' := [.int ((nI 0) - (nI 1))]) ⟨dX11_goesTo_21, dX11_goesTo_22, rfl⟩ rfl ?_
    refine ev_iret dX11_goesTo_23 rfl (rfl) ⟨Nat.le_of_ble_eq_true rfl, Nat.le_of_ble_eq_true rfl⟩ ?_
    have W2 : FX o (o + 31) (o + 31) M1 Mf := ⟨by rw [eMf]; simp only [List.length_set], fun j hj1 hj2 => by rw [eMf, ev_sn (by omega)]⟩
    exact ⟨rfl, _, _, DR.keep ff ⟨fun k hk => ui_ne (nm hk (by decide)), fun k hk => rfl⟩ W2, rfl, DF.tr (W2.em (by omega))⟩

theorem hno_c {S : St} {a : Int32} (c1 : (rn S.T S.G).1 = true) (h : ¬ ∃ d j, dN S = some d ∧ j < d ∧ a = nI j) : ¬ (nI 0 ≤ a ∧ a ≤ oI (dN S) - nI 1) := by
  cases hd : dN S with
  | none =>
    rintro ⟨h1, h2⟩
    have h3 : nI 0 ≤ oI none - nI 1 := Int32.le_trans h1 h2
    exact absurd h3 (by decide)
  | some d =>
    have h4 := (ds_lt hd).1
    have h5 := (La_lt c1).1
    refine isb_no (by omega) ?_
    rcases inR_c a d (by omega) with ⟨k, hk, e⟩ | q
    · exact absurd ⟨d, k, hd, hk, e⟩ h
    · exact q
theorem sCv_F {S : St} {a : Int32} (gz : gate S = 0) (c1 : (rn S.T S.G).1 = true) (h : ¬ ∃ d j, dN S = some d ∧ j < d ∧ a = nI j) : sCv S a = (3, 0) ∧ sLo S a = (3, 0) := by
  have key : ∀ d, dN S = some d → inR a d = false := fun d hd => by
    have h4 := (ds_lt hd).1
    have h5 := (La_lt c1).1
    rcases inR_c a d (by omega) with ⟨k, hk, e⟩ | q
    · exact absurd ⟨d, k, hd, hk, e⟩ h
    · exact q
  constructor
  · refine (gt_z gz).trans ?_
    cases hd : dN S with
    | none => rfl
    | some d => exact if_pos (key d hd)
  · refine (gt_z gz).trans ?_
    cases hd : dN S with
    | none => rfl
    | some d => exact if_pos (key d hd)
theorem sCv_T {S : St} {d j : Nat} (gz : gate S = 0) (c1 : (rn S.T S.G).1 = true) (hd : dN S = some d) (hj : j < d) : sCv S (nI j) = (0, nI (wsq S.T (bl S.T S.G) d (S.x, 0, 0) (j + 1)).2.1) ∧ sLo S (nI j) = (0, nI (wsq S.T (bl S.T S.G) d (S.x, 0, 0) (j + 1)).2.2) := by
  have h4 := (ds_lt hd).1
  have h5 := (La_lt c1).1
  have jj : inR (nI j) d = true := inR_n hj (by omega)
  have tj : tN (nI j) = j := nI_clamp (by omega)
  constructor
  · refine (gt_z gz).trans ?_
    rw [hd]
    show (if inR (nI j) d = false then _ else _) = _
    rw [if_neg (by rw [jj]; decide), tj]
  · refine (gt_z gz).trans ?_
    rw [hd]
    show (if inR (nI j) d = false then _ else _) = _
    rw [if_neg (by rw [jj]; decide), tj]
set_option maxHeartbeats 4000000 in
set_option maxRecDepth 100000 in
theorem r_covering {l : Launch} (hl : l.stackTraces = false) {M : ev_M} (o : Nat) (S : St) (hS : okS S) (hT10 : S.T.length ≤ 10) (hG3 : S.G.length ≤ 3) (hH20 : S.H.length ≤ 20) (zi : Nat → Int32) (zl : Nat → Int64) (hR : RR M o S zi zl) (hW : walks S) (a : Int32) : ev_Mt l m_X11_covering [.ref (o), .int (a)] M (fun r M1 => r = .inl (some (.int (sCv S a).2)) ∧ ∃ zi' zl', RR M1 o S zi' zl' ∧ zi' 0 = nI (sCv S a).1 ∧ Fr o (o + 31) M M1) := by
  rcases gate_c S with ⟨gz, g1, c1⟩ | gn
  · obtain ⟨hL13, hb30⟩ := La_lt c1
    by_cases hin9 : ∃ d j, dN S = some d ∧ j < d ∧ a = nI j
    · obtain ⟨d, j, hd, hj, rfl⟩ := hin9
      have hdL := (ds_lt hd).1
      refine ev_body hl rfl (by decide +kernel) (Nat.le_of_ble_eq_true rfl) ?_
      show ev_ l m_X11_covering 0 0 0 [some (.ref (o)), some (.int (nI j)), none] [] M _
      refine ev_blk (B := [(.aload_n 0, 1)]) (pe := 1) (ls' := [some (.ref (o)), some (.int (nI j)), none]) (st' := [.ref (o)]) ⟨dX11_covering_0, rfl⟩ rfl ?_
      refine ev_cVw Y_X11_isAnalyzed L_RX11_267 dX11_covering_1 ⟨Nat.le_of_ble_eq_true rfl, Nat.le_of_ble_eq_true rfl, Nat.le_of_ble_eq_true rfl, Nat.le_of_ble_eq_true rfl, Nat.le_of_ble_eq_true rfl⟩ hR.z (as := []) rfl rfl (c_R_isAnalyzed hl o S hS hT10 hG3 (zi) (zl) hR) (fun M1 hL1 hB1 => ?_)
      obtain ⟨Ai, AR, A0, A30, AK, AF⟩ := hB1
      rw [gz] at A0
      obtain ⟨hco, hin⟩ := AR.a.co (A30 gz)
      obtain ⟨hla, hl13, hPBs⟩ := hin c1
      have hPBk := hPBs
      obtain ⟨bs, bn, bf, b2, b11, b12, b14, b15, hbb⟩ := hPBs
      refine ev_ifB_ne dX11_covering_4 (tgt := 9) (by decide) (fun q4 => ?_) (fun q4 => ?_)
      · refine ev_blk (B := [(.aload_n 0, 1), (.iload_n 1, 1)]) (pe := 11) (ls' := [some (.ref (o)), some (.int (nI j)), none]) (st' := [.int (nI j), .ref (o)]) ⟨dX11_covering_9, dX11_covering_10, rfl⟩ rfl ?_
        refine ev_cVw Y_X11_goesTo L_RX11_281 dX11_covering_11 ⟨Nat.le_of_ble_eq_true rfl, Nat.le_of_ble_eq_true rfl, Nat.le_of_ble_eq_true rfl, Nat.le_of_ble_eq_true rfl, Nat.le_of_ble_eq_true rfl⟩ AR.z (as := [.int (nI j)]) rfl rfl (c_R_goesToT hl o S hS hT10 Ai zl AR hl13 hla hPBk hW d hd j hj) (fun M2 hL2 hB2 => ?_)
        obtain ⟨Gi, Gl, GR, G12, GK, GF⟩ := hB2
        refine ev_blk (B := [(.istore_n 2, 1), (.aload_n 0, 1)]) (pe := 16) (ls' := [some (.ref (o)), some (.int (nI j)), some (.int (nI ((wsq S.T (bl S.T S.G) d (S.x, 0, 0) (j + 1)).2.1)))]) (st' := [.ref (o)]) ⟨dX11_covering_14, dX11_covering_15, rfl⟩ rfl ?_
        refine ev_getf (v := .int (nI 0)) F_RX11_106 dX11_covering_16 GR.z (congrArg (fun q => some (Value.int q)) ((GK 0 (by decide) (by decide)).trans A0)) ?_
        refine ev_fN_le dX11_covering_19 (tgt := 26) (by decide) (by omega) (fun q19 => ?_) (fun q19 => ?_)
        · refine ev_blk (B := [(.iload_n 2, 1)]) (pe := 27) (ls' := [some (.ref (o)), some (.int (nI j)), some (.int (nI ((wsq S.T (bl S.T S.G) d (S.x, 0, 0) (j + 1)).2.1)))]) (st' := [.int (nI ((wsq S.T (bl S.T S.G) d (S.x, 0, 0) (j + 1)).2.1))]) ⟨dX11_covering_26, rfl⟩ rfl ?_
          refine ev_iret dX11_covering_27 rfl (rfl) ⟨Nat.le_of_ble_eq_true rfl, Nat.le_of_ble_eq_true rfl⟩ ?_
          rw [(sCv_T gz c1 hd hj).1]
          exact ⟨rfl, Gi, Gl, GR, (GK 0 (by decide) (by decide)).trans A0, (FX.fr (lo := o + 1) (hi := o + 31) ((AF.to (by omega) (by omega)).tr (GF.to (by omega) (by omega))) (by omega) (by omega))⟩
        · exact absurd q19 (by decide)
      · exact absurd ((decide_eq_true gz).symm.trans q4) (by decide)
    · have y9 : True := trivial
      refine ev_body hl rfl (by decide +kernel) (Nat.le_of_ble_eq_true rfl) ?_
      show ev_ l m_X11_covering 0 0 0 [some (.ref (o)), some (.int (a)), none] [] M _
      refine ev_blk (B := [(.aload_n 0, 1)]) (pe := 1) (ls' := [some (.ref (o)), some (.int (a)), none]) (st' := [.ref (o)]) ⟨dX11_covering_0, rfl⟩ rfl ?_
      refine ev_cVw Y_X11_isAnalyzed L_RX11_267 dX11_covering_1 ⟨Nat.le_of_ble_eq_true rfl, Nat.le_of_ble_eq_true rfl, Nat.le_of_ble_eq_true rfl, Nat.le_of_ble_eq_true rfl, Nat.le_of_ble_eq_true rfl⟩ hR.z (as := []) rfl rfl (c_R_isAnalyzed hl o S hS hT10 hG3 (zi) (zl) hR) (fun M3 hL3 hB3 => ?_)
      obtain ⟨Ai, AR, A0, A30, AK, AF⟩ := hB3
      rw [gz] at A0
      obtain ⟨hco, hin⟩ := AR.a.co (A30 gz)
      obtain ⟨hla, hl13, hPBs⟩ := hin c1
      have hPBk := hPBs
      obtain ⟨bs, bn, bf, b2, b11, b12, b14, b15, hbb⟩ := hPBs
      refine ev_ifB_ne dX11_covering_4 (tgt := 9) (by decide) (fun q4 => ?_) (fun q4 => ?_)
      · refine ev_blk (B := [(.aload_n 0, 1), (.iload_n 1, 1)]) (pe := 11) (ls' := [some (.ref (o)), some (.int (a)), none]) (st' := [.int (a), .ref (o)]) ⟨dX11_covering_9, dX11_covering_10, rfl⟩ rfl ?_
        refine ev_cVw Y_X11_goesTo L_RX11_281 dX11_covering_11 ⟨Nat.le_of_ble_eq_true rfl, Nat.le_of_ble_eq_true rfl, Nat.le_of_ble_eq_true rfl, Nat.le_of_ble_eq_true rfl, Nat.le_of_ble_eq_true rfl⟩ AR.z (as := [.int (a)]) rfl rfl (c_R_goesToF hl o S hS hT10 Ai zl AR hl13 hla hPBk a (hno_c c1 hin9)) (fun M4 hL4 hB4 => ?_)
        obtain ⟨Gi, Gl, GR, G0, GF⟩ := hB4
        refine ev_blk (B := [(.istore_n 2, 1), (.aload_n 0, 1)]) (pe := 16) (ls' := [some (.ref (o)), some (.int (a)), some (.int (nI 0 - nI 1))]) (st' := [.ref (o)]) ⟨dX11_covering_14, dX11_covering_15, rfl⟩ rfl ?_
        refine ev_getf (v := .int (nI 3)) F_RX11_106 dX11_covering_16 GR.z (congrArg (fun q => some (Value.int q)) G0) ?_
        refine ev_fN_le dX11_covering_19 (tgt := 26) (by decide) (by omega) (fun q19 => ?_) (fun q19 => ?_)
        · exact absurd q19 (by decide)
        · refine ev_blk (B := [(.iconst 0, 1)]) (pe := 23) (ls' := [some (.ref (o)), some (.int (a)), some (.int (nI 0 - nI 1))]) (st' := [.int (nI 0)]) ⟨dX11_covering_22, rfl⟩ rfl ?_
          refine ev_goto (tgt := 27) dX11_covering_23 (by decide) ?_
          refine ev_iret dX11_covering_27 rfl (rfl) ⟨Nat.le_of_ble_eq_true rfl, Nat.le_of_ble_eq_true rfl⟩ ?_
          rw [(sCv_F gz c1 hin9).1]
          exact ⟨rfl, Gi, Gl, GR, G0, (FX.fr (lo := o + 1) (hi := o + 31) ((AF.to (by omega) (by omega)).tr (GF.to (by omega) (by omega))) (by omega) (by omega))⟩
      · exact absurd ((decide_eq_true gz).symm.trans q4) (by decide)
  · have y9 : True := trivial
    refine ev_body hl rfl (by decide +kernel) (Nat.le_of_ble_eq_true rfl) ?_
    show ev_ l m_X11_covering 0 0 0 [some (.ref (o)), some (.int (a)), none] [] M _
    refine ev_blk (B := [(.aload_n 0, 1)]) (pe := 1) (ls' := [some (.ref (o)), some (.int (a)), none]) (st' := [.ref (o)]) ⟨dX11_covering_0, rfl⟩ rfl ?_
    refine ev_cVw Y_X11_isAnalyzed L_RX11_267 dX11_covering_1 ⟨Nat.le_of_ble_eq_true rfl, Nat.le_of_ble_eq_true rfl, Nat.le_of_ble_eq_true rfl, Nat.le_of_ble_eq_true rfl, Nat.le_of_ble_eq_true rfl⟩ hR.z (as := []) rfl rfl (c_R_isAnalyzed hl o S hS hT10 hG3 (zi) (zl) hR) (fun M5 hL5 hB5 => ?_)
    obtain ⟨Ai, AR, A0, A30, AK, AF⟩ := hB5
    refine ev_ifB_ne dX11_covering_4 (tgt := 9) (by decide) (fun q4 => ?_) (fun q4 => ?_)
    · exact absurd ((decide_eq_false gn).symm.trans q4) (by decide)
    · refine ev_blk (B := [(.iconst 0, 1)]) (pe := 8) (ls' := [some (.ref (o)), some (.int (a)), none]) (st' := [.int (nI 0)]) ⟨dX11_covering_7, rfl⟩ rfl ?_
      refine ev_iret dX11_covering_8 rfl (rfl) ⟨Nat.le_of_ble_eq_true rfl, Nat.le_of_ble_eq_true rfl⟩ ?_
      have e9 : sCv S a = (gate S, 0) := gt_n gn
      rw [e9]
      exact ⟨rfl, Ai, zl, AR, A0, (FX.fr (lo := o + 1) (hi := o + 31) (AF.to (by omega) (by omega)) (by omega) (by omega))⟩

set_option maxHeartbeats 4000000 in
set_option maxRecDepth 100000 in
theorem r_lost {l : Launch} (hl : l.stackTraces = false) {M : ev_M} (o : Nat) (S : St) (hS : okS S) (hT10 : S.T.length ≤ 10) (hG3 : S.G.length ≤ 3) (hH20 : S.H.length ≤ 20) (zi : Nat → Int32) (zl : Nat → Int64) (hR : RR M o S zi zl) (hW : walks S) (a : Int32) : ev_Mt l m_X11_lost [.ref (o), .int (a)] M (fun r M1 => r = .inl (some (.int (sLo S a).2)) ∧ ∃ zi' zl', RR M1 o S zi' zl' ∧ zi' 0 = nI (sLo S a).1 ∧ Fr o (o + 31) M M1) := by
  rcases gate_c S with ⟨gz, g1, c1⟩ | gn
  · obtain ⟨hL13, hb30⟩ := La_lt c1
    by_cases hin9 : ∃ d j, dN S = some d ∧ j < d ∧ a = nI j
    · obtain ⟨d, j, hd, hj, rfl⟩ := hin9
      have hdL := (ds_lt hd).1
      refine ev_body hl rfl (by decide +kernel) (Nat.le_of_ble_eq_true rfl) ?_
      show ev_ l m_X11_lost 0 0 0 [some (.ref (o)), some (.int (nI j))] [] M _
      refine ev_blk (B := [(.aload_n 0, 1)]) (pe := 1) (ls' := [some (.ref (o)), some (.int (nI j))]) (st' := [.ref (o)]) ⟨dX11_lost_0, rfl⟩ rfl ?_
      refine ev_cVw Y_X11_isAnalyzed L_RX11_267 dX11_lost_1 ⟨Nat.le_of_ble_eq_true rfl, Nat.le_of_ble_eq_true rfl, Nat.le_of_ble_eq_true rfl, Nat.le_of_ble_eq_true rfl, Nat.le_of_ble_eq_true rfl⟩ hR.z (as := []) rfl rfl (c_R_isAnalyzed hl o S hS hT10 hG3 (zi) (zl) hR) (fun M1 hL1 hB1 => ?_)
      obtain ⟨Ai, AR, A0, A30, AK, AF⟩ := hB1
      rw [gz] at A0
      obtain ⟨hco, hin⟩ := AR.a.co (A30 gz)
      obtain ⟨hla, hl13, hPBs⟩ := hin c1
      have hPBk := hPBs
      obtain ⟨bs, bn, bf, b2, b11, b12, b14, b15, hbb⟩ := hPBs
      refine ev_ifB_ne dX11_lost_4 (tgt := 9) (by decide) (fun q4 => ?_) (fun q4 => ?_)
      · refine ev_blk (B := [(.aload_n 0, 1), (.iload_n 1, 1)]) (pe := 11) (ls' := [some (.ref (o)), some (.int (nI j))]) (st' := [.int (nI j), .ref (o)]) ⟨dX11_lost_9, dX11_lost_10, rfl⟩ rfl ?_
        refine ev_cVw Y_X11_goesTo L_RX11_281 dX11_lost_11 ⟨Nat.le_of_ble_eq_true rfl, Nat.le_of_ble_eq_true rfl, Nat.le_of_ble_eq_true rfl, Nat.le_of_ble_eq_true rfl, Nat.le_of_ble_eq_true rfl⟩ AR.z (as := [.int (nI j)]) rfl rfl (c_R_goesToT hl o S hS hT10 Ai zl AR hl13 hla hPBk hW d hd j hj) (fun M2 hL2 hB2 => ?_)
        obtain ⟨Gi, Gl, GR, G12, GK, GF⟩ := hB2
        refine ev_blk (B := [(.pop, 1), (.aload_n 0, 1)]) (pe := 16) (ls' := [some (.ref (o)), some (.int (nI j))]) (st' := [.ref (o)]) ⟨dX11_lost_14, dX11_lost_15, rfl⟩ rfl ?_
        refine ev_getf (v := .int (nI 0)) F_RX11_106 dX11_lost_16 GR.z (congrArg (fun q => some (Value.int q)) ((GK 0 (by decide) (by decide)).trans A0)) ?_
        refine ev_fN_le dX11_lost_19 (tgt := 26) (by decide) (by omega) (fun q19 => ?_) (fun q19 => ?_)
        · refine ev_blk (B := [(.aload_n 0, 1)]) (pe := 27) (ls' := [some (.ref (o)), some (.int (nI j))]) (st' := [.ref (o)]) ⟨dX11_lost_26, rfl⟩ rfl ?_
          refine ev_getf (v := .int (nI ((wsq S.T (bl S.T S.G) d (S.x, 0, 0) (j + 1)).2.2))) F_RX11_191 dX11_lost_27 GR.z (congrArg (fun q => some (Value.int q)) G12) ?_
          refine ev_iret dX11_lost_30 rfl (rfl) ⟨Nat.le_of_ble_eq_true rfl, Nat.le_of_ble_eq_true rfl⟩ ?_
          rw [(sCv_T gz c1 hd hj).2]
          exact ⟨rfl, Gi, Gl, GR, (GK 0 (by decide) (by decide)).trans A0, (FX.fr (lo := o + 1) (hi := o + 31) ((AF.to (by omega) (by omega)).tr (GF.to (by omega) (by omega))) (by omega) (by omega))⟩
        · exact absurd q19 (by decide)
      · exact absurd ((decide_eq_true gz).symm.trans q4) (by decide)
    · have y9 : True := trivial
      refine ev_body hl rfl (by decide +kernel) (Nat.le_of_ble_eq_true rfl) ?_
      show ev_ l m_X11_lost 0 0 0 [some (.ref (o)), some (.int (a))] [] M _
      refine ev_blk (B := [(.aload_n 0, 1)]) (pe := 1) (ls' := [some (.ref (o)), some (.int (a))]) (st' := [.ref (o)]) ⟨dX11_lost_0, rfl⟩ rfl ?_
      refine ev_cVw Y_X11_isAnalyzed L_RX11_267 dX11_lost_1 ⟨Nat.le_of_ble_eq_true rfl, Nat.le_of_ble_eq_true rfl, Nat.le_of_ble_eq_true rfl, Nat.le_of_ble_eq_true rfl, Nat.le_of_ble_eq_true rfl⟩ hR.z (as := []) rfl rfl (c_R_isAnalyzed hl o S hS hT10 hG3 (zi) (zl) hR) (fun M3 hL3 hB3 => ?_)
      obtain ⟨Ai, AR, A0, A30, AK, AF⟩ := hB3
      rw [gz] at A0
      obtain ⟨hco, hin⟩ := AR.a.co (A30 gz)
      obtain ⟨hla, hl13, hPBs⟩ := hin c1
      have hPBk := hPBs
      obtain ⟨bs, bn, bf, b2, b11, b12, b14, b15, hbb⟩ := hPBs
      refine ev_ifB_ne dX11_lost_4 (tgt := 9) (by decide) (fun q4 => ?_) (fun q4 => ?_)
      · refine ev_blk (B := [(.aload_n 0, 1), (.iload_n 1, 1)]) (pe := 11) (ls' := [some (.ref (o)), some (.int (a))]) (st' := [.int (a), .ref (o)]) ⟨dX11_lost_9, dX11_lost_10, rfl⟩ rfl ?_
        refine ev_cVw Y_X11_goesTo L_RX11_281 dX11_lost_11 ⟨Nat.le_of_ble_eq_true rfl, Nat.le_of_ble_eq_true rfl, Nat.le_of_ble_eq_true rfl, Nat.le_of_ble_eq_true rfl, Nat.le_of_ble_eq_true rfl⟩ AR.z (as := [.int (a)]) rfl rfl (c_R_goesToF hl o S hS hT10 Ai zl AR hl13 hla hPBk a (hno_c c1 hin9)) (fun M4 hL4 hB4 => ?_)
        obtain ⟨Gi, Gl, GR, G0, GF⟩ := hB4
        refine ev_blk (B := [(.pop, 1), (.aload_n 0, 1)]) (pe := 16) (ls' := [some (.ref (o)), some (.int (a))]) (st' := [.ref (o)]) ⟨dX11_lost_14, dX11_lost_15, rfl⟩ rfl ?_
        refine ev_getf (v := .int (nI 3)) F_RX11_106 dX11_lost_16 GR.z (congrArg (fun q => some (Value.int q)) G0) ?_
        refine ev_fN_le dX11_lost_19 (tgt := 26) (by decide) (by omega) (fun q19 => ?_) (fun q19 => ?_)
        · exact absurd q19 (by decide)
        · refine ev_blk (B := [(.iconst 0, 1)]) (pe := 23) (ls' := [some (.ref (o)), some (.int (a))]) (st' := [.int (nI 0)]) ⟨dX11_lost_22, rfl⟩ rfl ?_
          refine ev_goto (tgt := 30) dX11_lost_23 (by decide) ?_
          refine ev_iret dX11_lost_30 rfl (rfl) ⟨Nat.le_of_ble_eq_true rfl, Nat.le_of_ble_eq_true rfl⟩ ?_
          rw [(sCv_F gz c1 hin9).2]
          exact ⟨rfl, Gi, Gl, GR, G0, (FX.fr (lo := o + 1) (hi := o + 31) ((AF.to (by omega) (by omega)).tr (GF.to (by omega) (by omega))) (by omega) (by omega))⟩
      · exact absurd ((decide_eq_true gz).symm.trans q4) (by decide)
  · have y9 : True := trivial
    refine ev_body hl rfl (by decide +kernel) (Nat.le_of_ble_eq_true rfl) ?_
    show ev_ l m_X11_lost 0 0 0 [some (.ref (o)), some (.int (a))] [] M _
    refine ev_blk (B := [(.aload_n 0, 1)]) (pe := 1) (ls' := [some (.ref (o)), some (.int (a))]) (st' := [.ref (o)]) ⟨dX11_lost_0, rfl⟩ rfl ?_
    refine ev_cVw Y_X11_isAnalyzed L_RX11_267 dX11_lost_1 ⟨Nat.le_of_ble_eq_true rfl, Nat.le_of_ble_eq_true rfl, Nat.le_of_ble_eq_true rfl, Nat.le_of_ble_eq_true rfl, Nat.le_of_ble_eq_true rfl⟩ hR.z (as := []) rfl rfl (c_R_isAnalyzed hl o S hS hT10 hG3 (zi) (zl) hR) (fun M5 hL5 hB5 => ?_)
    obtain ⟨Ai, AR, A0, A30, AK, AF⟩ := hB5
    refine ev_ifB_ne dX11_lost_4 (tgt := 9) (by decide) (fun q4 => ?_) (fun q4 => ?_)
    · exact absurd ((decide_eq_false gn).symm.trans q4) (by decide)
    · refine ev_blk (B := [(.iconst 0, 1)]) (pe := 8) (ls' := [some (.ref (o)), some (.int (a))]) (st' := [.int (nI 0)]) ⟨dX11_lost_7, rfl⟩ rfl ?_
      refine ev_iret dX11_lost_8 rfl (rfl) ⟨Nat.le_of_ble_eq_true rfl, Nat.le_of_ble_eq_true rfl⟩ ?_
      have e9 : sLo S a = (gate S, 0) := gt_n gn
      rw [e9]
      exact ⟨rfl, Ai, zl, AR, A0, (FX.fr (lo := o + 1) (hi := o + 31) (AF.to (by omega) (by omega)) (by omega) (by omega))⟩

