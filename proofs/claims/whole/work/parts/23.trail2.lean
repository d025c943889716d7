set_option maxHeartbeats 4000000 in
set_option maxRecDepth 100000 in
theorem c_X8_record_e {l : Launch} (hl : l.stackTraces = false) (M : ev_M) (o : Nat) (H : Hs) (hR : RT M o H) (hlt : H.length < 20) (c : Nat) (x : Cf) (hF : RF M c x) (hco : c < o ∨ o + 7 ≤ c) (k : Nat) : ev_ l m_X8_record 0 0 16 [some (.ref o), some (.ref c), some (.int (nI k)), none] [] M (fun r M1 => r = .inl none ∧ RT M1 o (H ++ [(x, k)]) ∧ Fr o (o + 7) M M1) := by
  obtain ⟨hT0, hT1, ⟨f, hT2, hK⟩, y, hT3⟩ := hR
  have eH := hL_len (H := H)
  have h20 := hT1.2.1
  refine ev_blk (B := [(.aload_n 0, 1)]) (pe := 17) (ls' := [some (.ref (o)), some (.ref (c)), some (.int (nI k)), none]) (st' := [.ref (o)]) ⟨dX8_record_16, rfl⟩ rfl ?_
  refine ev_getf (v := .ref (o + 1)) F_RX8_14 dX8_record_17 hT0 rfl ?_
  refine ev_cVv Y_X2_size L_RX8_31 dX8_record_20 ⟨Nat.le_of_ble_eq_true rfl, Nat.le_of_ble_eq_true rfl, Nat.le_of_ble_eq_true rfl, Nat.le_of_ble_eq_true rfl, Nat.le_of_ble_eq_true rfl⟩ hT1.obj (as := []) rfl rfl (c_X2_size hl _ _ _ hT1) ?_
  refine ev_blk (B := [(.istore_n 3, 1), (.iload_n 3, 1), (.aload_n 0, 1)]) (pe := 26) (ls' := [some (.ref (o)), some (.ref (c)), some (.int (nI k)), some (.int (nI ((hL H).length)))]) (st' := [.ref (o), .int (nI ((hL H).length))]) ⟨dX8_record_23, dX8_record_24, dX8_record_25, rfl⟩ rfl ?_
  refine ev_getf (v := .ref (o + 5)) F_RX8_20 dX8_record_26 hT0 rfl ?_
  refine ev_alen (v := nI (20)) dX8_record_29 hT2 (by decide) rfl ?_
  refine ev_iN_ge dX8_record_30 (tgt := 48) (by decide) (by omega) (by omega) (fun q30 => ?_) (fun q30 => ?_)
  · exfalso; omega
  · refine ev_blk (B := [(.aload_n 0, 1)]) (pe := 34) (ls' := [some (.ref (o)), some (.ref (c)), some (.int (nI k)), some (.int (nI ((hL H).length)))]) (st' := [.ref (o)]) ⟨dX8_record_33, rfl⟩ rfl ?_
    refine ev_getf (v := .ref (o + 5)) F_RX8_20 dX8_record_34 hT0 rfl ?_
    refine ev_blk (B := [(.iload_n 3, 1), (.iload_n 2, 1)]) (pe := 39) (ls' := [some (.ref (o)), some (.ref (c)), some (.int (nI k)), some (.int (nI ((hL H).length)))]) (st' := [.int (nI k), .int (nI ((hL H).length)), .ref (o + 5)]) ⟨dX8_record_37, dX8_record_38, rfl⟩ rfl ?_
    refine ev_iast dX8_record_39 hT2 (vp_in_nI (show (hL H).length < 20 by omega) (by omega)) ?_
    rw [nI_clamp (show (hL H).length < 2 ^ 31 by omega)]
    refine ev_nm (M0 := M.set (o + 5) (.inl (0, 20, .inl (upd f ((hL H).length) (nI k))))) (fun M1 eM1 => ?_)
    have f2 : M1[o]? = some (.inr (8, [.ref (o + 1), .ref (o + 5), .ref (o + 6)])) := by rw [eM1, ev_sn (by omega)]; exact hT0
    have f3 : M1[o + 5]? = some (.inl (0, 20, .inl (upd f ((hL H).length) (nI k)))) := by rw [eM1]; exact ev_sg hT2
    have f4 : M1[o + 1]? = some (.inr (2, [.ref (o + 1 + 1), .ref (o + 1 + 2), .ref (o + 1 + 3), .int (nI ((hL H).length))])) := by rw [eM1, ev_sn (by omega)]; exact hT1.obj
    refine ev_blk (B := [(.aload_n 0, 1)]) (pe := 41) (ls' := [some (.ref (o)), some (.ref (c)), some (.int (nI k)), some (.int (nI ((hL H).length)))]) (st' := [.ref (o)]) ⟨dX8_record_40, rfl⟩ rfl ?_
    refine ev_getf (v := .ref (o + 1)) F_RX8_14 dX8_record_41 f2 rfl ?_
    refine ev_blk (B := [(.aload_n 1, 1)]) (pe := 45) (ls' := [some (.ref (o)), some (.ref (c)), some (.int (nI k)), some (.int (nI ((hL H).length)))]) (st' := [.ref (c), .ref (o + 1)]) ⟨dX8_record_44, rfl⟩ rfl ?_
    have f2z := f3
    have hFa : Fr (o + 5) (o + 6) M M1 := ⟨by rw [eM1]; simp only [List.length_set], fun j hj => by rw [eM1, ev_sn (by omega)]⟩
    have hT1b := hT1.fr hFa (by omega)
    have hF2 := hF.fr hFa (by omega)
    refine ev_cVn Y_X2_add L_RX8_41 dX8_record_45 ⟨Nat.le_of_ble_eq_true rfl, Nat.le_of_ble_eq_true rfl, Nat.le_of_ble_eq_true rfl, Nat.le_of_ble_eq_true rfl, Nat.le_of_ble_eq_true rfl⟩ f4 (as := [.ref (c)]) rfl rfl (c_X2_add hl _ _ _ hT1b c x hF2 (by omega) (by omega)) (fun M5 hL5 hB5 => ?_)
    obtain ⟨hB1, hB2⟩ := hB5
    refine ev_vret dX8_record_48 rfl ⟨Nat.le_of_ble_eq_true rfl, Nat.le_of_ble_eq_true rfl⟩ ?_
    refine ⟨rfl, ⟨(hB2.2 o (by omega)).trans ((hFa.2 o (by omega)).trans hT0), by rw [hL_app]; exact hB1, ⟨_, (hB2.2 (o + 5) (by omega)).trans f2z, fun i hi => ?_⟩, y, (hT3.fr hFa (by omega)).fr hB2 (by omega)⟩, (hFa.to (by omega) (by omega)).tr (hB2.to (by omega) (by omega))⟩
    rw [List.length_append, List.length_singleton] at hi
    rw [upd_at]
    by_cases e : i = (hL H).length
    · subst e; rw [if_pos rfl, eH, kg_app_r]
    · rw [if_neg e, kg_app_l (by omega)]; exact hK i (by omega)

set_option maxHeartbeats 4000000 in
set_option maxRecDepth 100000 in
theorem c_X8_record {l : Launch} (hl : l.stackTraces = false) {M : ev_M} (o : Nat) (H : Hs) (hR : RT M o H) (c : Nat) (x : Cf) (hF : RF M c x) (hco : c < o ∨ o + 7 ≤ c) (k : Nat) : ev_Mt l m_X8_record [.ref (o), .ref (c), .int (nI k)] M (fun r M1 => r = .inl none ∧ RT M1 o (rec H x k) ∧ Fr o (o + 7) M M1) := by
  have hR0 := hR
  obtain ⟨hT0, hT1, ⟨f, hT2, hK⟩, y, hT3⟩ := hR0
  have eH := hL_len (H := H)
  have h20 := hT1.2.1
  refine ev_body hl rfl (by decide +kernel) (Nat.le_of_ble_eq_true rfl) ?_
  show ev_ l m_X8_record 0 0 0 [some (.ref (o)), some (.ref (c)), some (.int (nI k)), none] [] M _
  refine ev_blk (B := [(.aload_n 0, 1)]) (pe := 1) (ls' := [some (.ref (o)), some (.ref (c)), some (.int (nI k)), none]) (st' := [.ref (o)]) ⟨dX8_record_0, rfl⟩ rfl ?_
  refine ev_getf (v := .ref (o + 1)) F_RX8_14 dX8_record_1 hT0 rfl ?_
  refine ev_cVv Y_X2_size L_RX8_31 dX8_record_4 ⟨Nat.le_of_ble_eq_true rfl, Nat.le_of_ble_eq_true rfl, Nat.le_of_ble_eq_true rfl, Nat.le_of_ble_eq_true rfl, Nat.le_of_ble_eq_true rfl⟩ hT1.obj (as := []) rfl rfl (c_X2_size hl _ _ _ hT1) ?_
  refine ev_blk (B := [(.bipush 20, 2)]) (pe := 9) (ls' := [some (.ref (o)), some (.ref (c)), some (.int (nI k)), none]) (st' := [.int (nI 20), .int (nI ((hL H).length))]) ⟨dX8_record_7, rfl⟩ rfl ?_
  refine ev_iN_lt dX8_record_9 (tgt := 16) (by decide) (by omega) (by omega) (fun q9 => ?_) (fun q9 => ?_)
  · refine ev_mono ?_ (c_X8_record_e hl M o H hR (by omega) c x hF hco k)
    intro r M9 ⟨z1, z2, z3⟩
    exact ⟨z1, by unfold rec; rw [if_pos (by omega)]; exact z2, z3⟩
  · refine ev_blk (B := [(.aload_n 0, 1)]) (pe := 13) (ls' := [some (.ref (o)), some (.ref (c)), some (.int (nI k)), none]) (st' := [.ref (o)]) ⟨dX8_record_12, rfl⟩ rfl ?_
    refine ev_cVn Y_X8_dropOldest L_RX8_38 dX8_record_13 ⟨Nat.le_of_ble_eq_true rfl, Nat.le_of_ble_eq_true rfl, Nat.le_of_ble_eq_true rfl, Nat.le_of_ble_eq_true rfl, Nat.le_of_ble_eq_true rfl⟩ hT0 (as := []) rfl rfl (c_X8_dropOldest hl o H hR (by omega)) (fun M1 hL1 hB1 => ?_)
    obtain ⟨hR9, hB2⟩ := hB1
    have hF9 := hF.fr hB2 (by omega)
    refine ev_mono ?_ (c_X8_record_e hl M1 o H.tail hR9 (by rw [List.length_tail]; omega) c x hF9 hco k)
    intro r M9 ⟨z1, z2, z3⟩
    exact ⟨z1, by unfold rec; rw [if_neg (by omega)]; exact z2, hB2.tr z3⟩

theorem cgx {L : List Cf} {x : Cf} (hL : cfs 24 L) (hx : cfW 24 x) {j : Nat} (hj : j ≤ L.length) : cfO (cg (L ++ [x]) j) := by
  by_cases e : j < L.length
  · rw [cg_app_l e]; exact (cfs_cg hL e).le (by decide)
  · have e2 : j = L.length + 0 := by omega
    rw [e2, cg_app_r]; exact hx.le (by decide)
theorem ld_any {l : Launch} (hl : l.stackTraces = false) {M : ev_M} {o cap : Nat} (L : List Cf) (hR : RQ M o cap L) (j : Nat) (hj : j ≤ L.length) (c : Nat) (x : Cf) (hF : RF M c x) (hco : c < o ∨ o + 4 ≤ c) : ev_Mt l m_X2_load [.ref o, .int (nI j), .ref c] M (fun r M1 => r = .inl none ∧ RF M1 c (cg (L ++ [x]) j) ∧ Fr c (c + 1) M M1) := by
  have h1 := hR.1
  have h2 := hR.2.1
  by_cases e : j < L.length
  · rw [cg_app_l e]
    exact c_X2_load hl o cap L hR j (by omega) c x hF hco e
  · have e2 : j = L.length + 0 := by omega
    refine ev_Mt_mono ?_ (c_X2_loadN hl o cap L hR j (by omega) c x hF hco (by omega))
    rintro r M1 ⟨rfl, rfl⟩
    rw [e2, cg_app_r]
    exact ⟨rfl, hF, Fr.rf⟩
set_option maxHeartbeats 4000000 in
set_option maxRecDepth 100000 in
theorem c_X8_firstIncrease_l {l : Launch} (hl : l.stackTraces = false)  (o : Nat) (H : Hs) (hL9 : cfs 24 (hL H)) (c : Nat) (x : Cf) (hx : cfW 24 x) (hco : c < o ∨ o + 7 ≤ c) (M0 : ev_M) : ∀ (n9 : Nat) (j : Nat) (M : ev_M), 1 ≤ j → j ≤ H.length + 1 → RT M o H → RF M c x → Fr (o + 6) (o + 7) M0 M → (∀ k, 1 ≤ k → k < j → fb (hL H) (cg (hL H ++ [x]) k) k = none) → H.length + 1 - j < n9 → ev_ l m_X8_firstIncrease 0 0 2 [some (.ref (o)), some (.ref (c)), some (.int (nI j)), none] [] M (fun r M1 => r = .inl (some (.int (fiI (fi (hL H) x)))) ∧ RT M1 o H ∧ RF M1 c x ∧ Fr (o + 6) (o + 7) M0 M1) := by
  intro n9
  induction n9 with
  | zero => intro j M hj1 hj hR hF hFr ha hm9; exact absurd hm9 (by omega)
  | succ n9 ih =>
    intro j M hj1 hj hR hF hFr ha hm9
    have hR0 := hR
    obtain ⟨hT0, hT1, ⟨f, hT2, hK⟩, y, hT3⟩ := hR0
    have eH := hL_len (H := H)
    have h20 := hT1.2.1
    refine ev_blk (B := [(.iload_n 2, 1), (.aload_n 0, 1)]) (pe := 4) (ls' := [some (.ref (o)), some (.ref (c)), some (.int (nI j)), none]) (st' := [.ref (o), .int (nI j)]) ⟨dX8_firstIncrease_2, dX8_firstIncrease_3, rfl⟩ rfl ?_
    refine ev_getf (v := .ref (o + 1)) F_RX8_14 dX8_firstIncrease_4 hT0 rfl ?_
    refine ev_cVv Y_X2_size L_RX8_31 dX8_firstIncrease_7 ⟨Nat.le_of_ble_eq_true rfl, Nat.le_of_ble_eq_true rfl, Nat.le_of_ble_eq_true rfl, Nat.le_of_ble_eq_true rfl, Nat.le_of_ble_eq_true rfl⟩ hT1.obj (as := []) rfl rfl (c_X2_size hl _ _ _ hT1) ?_
    refine ev_iN_gt dX8_firstIncrease_10 (tgt := 63) (by decide) (by omega) (by omega) (fun q10 => ?_) (fun q10 => ?_)
    · refine ev_blk (B := [(.iconst (-1), 1)]) (pe := 64) (ls' := [some (.ref (o)), some (.ref (c)), some (.int (nI j)), none]) (st' := [.int ((-1))]) ⟨dX8_firstIncrease_63, rfl⟩ rfl ?_
      refine ev_iret dX8_firstIncrease_64 rfl (rfl) ⟨Nat.le_of_ble_eq_true rfl, Nat.le_of_ble_eq_true rfl⟩ ?_
      exact ⟨by rw [fi_none (fun k h1 h2 => ha k h1 (by omega))]; rfl, hR, hF, hFr⟩
    · refine ev_blk (B := [(.aload_n 0, 1)]) (pe := 14) (ls' := [some (.ref (o)), some (.ref (c)), some (.int (nI j)), none]) (st' := [.ref (o)]) ⟨dX8_firstIncrease_13, rfl⟩ rfl ?_
      refine ev_getf (v := .ref (o + 6)) F_RX8_27 dX8_firstIncrease_14 hT0 rfl ?_
      refine ev_blk (B := [(.aload_n 1, 1)]) (pe := 18) (ls' := [some (.ref (o)), some (.ref (c)), some (.int (nI j)), none]) (st' := [.ref (c), .ref (o + 6)]) ⟨dX8_firstIncrease_17, rfl⟩ rfl ?_
      refine ev_cVn Y_X1_copyFrom L_RX8_52 dX8_firstIncrease_18 ⟨Nat.le_of_ble_eq_true rfl, Nat.le_of_ble_eq_true rfl, Nat.le_of_ble_eq_true rfl, Nat.le_of_ble_eq_true rfl, Nat.le_of_ble_eq_true rfl⟩ hT3 (as := [.ref (c)]) rfl rfl (c_X1_copyFrom hl (o + 6) y hT3 c x hF (by omega)) (fun M1 hL1 hB1 => ?_)
      obtain ⟨hB1, hB2⟩ := hB1
      have hU0 := (hB2.2 o (by omega)).trans hT0
      have hU1 := hT1.fr hB2 (by omega)
      have hU2 := (hB2.2 (o + 5) (by omega)).trans hT2
      have hFU := hF.fr hB2 (by omega)
      refine ev_blk (B := [(.aload_n 0, 1)]) (pe := 22) (ls' := [some (.ref (o)), some (.ref (c)), some (.int (nI j)), none]) (st' := [.ref (o)]) ⟨dX8_firstIncrease_21, rfl⟩ rfl ?_
      refine ev_getf (v := .ref (o + 1)) F_RX8_14 dX8_firstIncrease_22 hU0 rfl ?_
      refine ev_blk (B := [(.iload_n 2, 1), (.aload_n 0, 1)]) (pe := 27) (ls' := [some (.ref (o)), some (.ref (c)), some (.int (nI j)), none]) (st' := [.ref (o), .int (nI j), .ref (o + 1)]) ⟨dX8_firstIncrease_25, dX8_firstIncrease_26, rfl⟩ rfl ?_
      refine ev_getf (v := .ref (o + 6)) F_RX8_27 dX8_firstIncrease_27 hU0 rfl ?_
      refine ev_cVn Y_X2_load L_RX8_45 dX8_firstIncrease_30 ⟨Nat.le_of_ble_eq_true rfl, Nat.le_of_ble_eq_true rfl, Nat.le_of_ble_eq_true rfl, Nat.le_of_ble_eq_true rfl, Nat.le_of_ble_eq_true rfl⟩ hU1.obj (as := [.int (nI j), .ref (o + 6)]) rfl rfl (ld_any hl (hL H) hU1 j (by omega) _ x hB1 (by omega)) (fun M2 hL2 hB2 => ?_)
      obtain ⟨hC1, hC2⟩ := hB2
      have hV0 := (hC2.2 o (by omega)).trans hU0
      have hV1 := hU1.fr hC2 (by omega)
      have hV2 := (hC2.2 (o + 5) (by omega)).trans hU2
      have hFV := hFU.fr hC2 (by omega)
      have hFr3 := hFr.tr (hB2.tr hC2)
      refine ev_blk (B := [(.aload_n 0, 1)]) (pe := 34) (ls' := [some (.ref (o)), some (.ref (c)), some (.int (nI j)), none]) (st' := [.ref (o)]) ⟨dX8_firstIncrease_33, rfl⟩ rfl ?_
      refine ev_getf (v := .ref (o + 1)) F_RX8_14 dX8_firstIncrease_34 hV0 rfl ?_
      refine ev_blk (B := [(.aload_n 0, 1)]) (pe := 38) (ls' := [some (.ref (o)), some (.ref (c)), some (.int (nI j)), none]) (st' := [.ref (o), .ref (o + 1)]) ⟨dX8_firstIncrease_37, rfl⟩ rfl ?_
      refine ev_getf (v := .ref (o + 6)) F_RX8_27 dX8_firstIncrease_38 hV0 rfl ?_
      refine ev_blk (B := [(.iload_n 2, 1)]) (pe := 42) (ls' := [some (.ref (o)), some (.ref (c)), some (.int (nI j)), none]) (st' := [.int (nI j), .ref (o + 6), .ref (o + 1)]) ⟨dX8_firstIncrease_41, rfl⟩ rfl ?_
      refine ev_cVv Y_X2_firstBelow L_RX8_55 dX8_firstIncrease_42 ⟨Nat.le_of_ble_eq_true rfl, Nat.le_of_ble_eq_true rfl, Nat.le_of_ble_eq_true rfl, Nat.le_of_ble_eq_true rfl, Nat.le_of_ble_eq_true rfl⟩ hV1.obj (as := [.ref (o + 6), .int (nI j)]) rfl rfl (c_X2_firstBelow hl _ _ _ hV1 (hL9.le (by omega)) _ _ hC1 (cgx hL9 hx (by omega)) j (by omega)) ?_
      refine ev_blk (B := [(.istore_n 3, 1), (.iload_n 3, 1)]) (pe := 47) (ls' := [some (.ref (o)), some (.ref (c)), some (.int (nI j)), some (.int (oI (fb (hL H) (cg (hL H ++ [x]) j) j)))]) (st' := [.int (oI (fb (hL H) (cg (hL H ++ [x]) j) j))]) ⟨dX8_firstIncrease_45, dX8_firstIncrease_46, rfl⟩ rfl ?_
      refine ev_if_lt dX8_firstIncrease_47 (tgt := 57) (by decide) (fun q47 => ?_) (fun q47 => ?_)
      · refine ev_blk (B := [(.iinc 2 1, 3)]) (pe := 60) (ls' := [some (.ref (o)), some (.ref (c)), some (.int (nI (j + 1))), some (.int (oI (fb (hL H) (cg (hL H ++ [x]) j) j)))]) (st' := []) ⟨dX8_firstIncrease_57, rfl⟩ (by show some (([some (.ref (o)), some (.ref (c)), some (.int ((nI j) + Int32.ofInt (1))), some (.int (oI (fb (hL H) (cg (hL H ++ [x]) j) j)))] : ev_L), ([] : List Value)) = _; rw [ev_inc1 j]) ?_
        refine ev_goto (tgt := 2) dX8_firstIncrease_60 (by decide) ?_
        refine ev_fgt (ls' := [some (.ref (o)), some (.ref (c)), some (.int (nI (j + 1))), none]) ⟨Or.inr rfl, Or.inr rfl, Or.inr rfl, Or.inl rfl, trivial⟩ ?_
        refine ih (j + 1) _ (by omega) (by omega) ⟨hV0, hV1, ⟨f, hV2, hK⟩, _, hC1⟩ hFV hFr3 (fun k h1 h2 => ?_) (by omega)
        by_cases e : k = j
        · subst e
          cases hz : fb (hL H) (cg (hL H ++ [x]) k) k with
          | none => rfl
          | some z =>
            have hz2 := fb_lt hz
            rw [hz] at q47
            exact absurd q47 (show ¬ nI z < 0 from nI_pos (by omega))
        · exact ha k h1 (by omega)
      · obtain ⟨z, hz⟩ : ∃ z, fb (hL H) (cg (hL H ++ [x]) j) j = some z := by
          cases hz : fb (hL H) (cg (hL H ++ [x]) j) j with
          | none => rw [hz] at q47; exact absurd (show (-1 : Int32) < 0 by decide) q47
          | some z => exact ⟨z, rfl⟩
        rw [show oI (fb (hL H) (cg (hL H ++ [x]) j) j) = nI z by rw [hz]; rfl]
        refine ev_blk (B := [(.bipush 100, 2), (.iload_n 3, 1), (.imul, 1), (.iload_n 2, 1), (.iadd, 1)]) (pe := 56) (ls' := [some (.ref (o)), some (.ref (c)), some (.int (nI j)), some (.int (nI z))]) (st' := [.int (nI ((100 * z) + j))]) ⟨dX8_firstIncrease_50, dX8_firstIncrease_52, dX8_firstIncrease_53, dX8_firstIncrease_54, dX8_firstIncrease_55, rfl⟩ (by show some (([some (.ref (o)), some (.ref (c)), some (.int (nI j)), some (.int (nI z))] : ev_L), ([.int (((nI 100) * (nI z)) + (nI j))] : List Value)) = _; rw [pk_mul 100 z, nI_add (100 * z) j]) ?_
        refine ev_iret dX8_firstIncrease_56 rfl (rfl) ⟨Nat.le_of_ble_eq_true rfl, Nat.le_of_ble_eq_true rfl⟩ ?_
        exact ⟨by rw [fi_some (i := z) (j := j) hj1 (by omega) hz ha]; rfl, ⟨hV0, hV1, ⟨f, hV2, hK⟩, _, hC1⟩, hFV, hFr3⟩

set_option maxHeartbeats 4000000 in
set_option maxRecDepth 100000 in
theorem c_X8_firstIncrease {l : Launch} (hl : l.stackTraces = false) {M : ev_M} (o : Nat) (H : Hs) (hR : RT M o H) (hL9 : cfs 24 (hL H)) (c : Nat) (x : Cf) (hF : RF M c x) (hx : cfW 24 x) (hco : c < o ∨ o + 7 ≤ c) : ev_Mt l m_X8_firstIncrease [.ref (o), .ref (c)] M (fun r M1 => r = .inl (some (.int (fiI (fi (hL H) x)))) ∧ RT M1 o H ∧ RF M1 c x ∧ Fr (o + 6) (o + 7) M M1) := by
  refine ev_body hl rfl (by decide +kernel) (Nat.le_of_ble_eq_true rfl) ?_
  show ev_ l m_X8_firstIncrease 0 0 0 [some (.ref (o)), some (.ref (c)), none, none] [] M _
  refine ev_blk (B := [(.iconst 1, 1), (.istore_n 2, 1)]) (pe := 2) (ls' := [some (.ref (o)), some (.ref (c)), some (.int (nI 1)), none]) (st' := []) ⟨dX8_firstIncrease_0, dX8_firstIncrease_1, rfl⟩ rfl ?_
  exact c_X8_firstIncrease_l hl o H hL9 c x hx hco M _ 1 M (Nat.le_refl _) (by omega) hR hF Fr.rf (fun k h1 h2 => absurd h2 (by omega)) (Nat.lt_succ_self _)

