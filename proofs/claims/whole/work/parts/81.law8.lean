set_option maxHeartbeats 4000000 in
set_option maxRecDepth 100000 in
theorem w_turn {xs : Nat → Int32} {N9 : Nat} {l : Launch} (hl : l.stackTraces = false) (hN : N9 ≤ 3072) (i : Nat) (hi : i + 6 ≤ N9) {M : ev_M} (S : St) (hS : okS S) (hLI : LI M S) (kc ks : Nat) (hkc : kc + 8 ≤ 601024) (hks : ks + 40 ≤ 7293034) (Q : ev_R → ev_M → Prop) (hk : ∀ (M1 : ev_M) (S1 : St), okS S1 → LI M1 S1 → el_ xs N9 l m_L_law (kc + 8) (ks + 40) 2054 [some (.retAddr 20), some (.ref 0), some (.ref 104), some (.ref 135), some (.int (nI i)), none, none] [] M1 Q) : el_ xs N9 l m_L_law kc ks 33 [some (.retAddr 20), some (.ref 0), some (.ref 104), some (.ref 135), some (.int (nI i)), none, none] [] M Q := by
  refine el_blk (B := [(.aload_n 0, 1), (.iload 4, 2)]) (pe := 36) (ls' := [some (.retAddr 20), some (.ref 0), some (.ref 104), some (.ref 135), some (.int (nI i)), none, none]) (st' := [.int (nI i), .retAddr 20]) ⟨dL_law_33, dL_law_34, rfl⟩ rfl ?_
  refine el_sld (vp_in_nI (show i < N9 by omega) (by omega)) dL_law_36 ?_
  rw [nI_clamp (show i < 2 ^ 31 by omega)]
  refine el_blk (B := [(.bipush 63, 2), (.iand, 1)]) (pe := 40) (ls' := [some (.retAddr 20), some (.ref 0), some (.ref 104), some (.ref 135), some (.int (nI i)), none, none]) (st' := [.int (xs i &&& nI 63)]) ⟨dL_law_37, dL_law_39, rfl⟩ rfl ?_
  obtain ⟨t, ht, e⟩ := and63 (xs i)
  rw [e]
  clear e
  by_cases h : 37 < t
  · refine el_tabOut (tgt := 2054) dL_law_40 (Or.inr (by rw [nI_toInt (by omega)]; omega)) (by decide) ?_
    exact el_wid (Nat.le_add_right _ _) (Nat.le_add_right _ _) (hk M S hS hLI)
  · have h38 : t ≤ 37 := by omega
    clear ht h
    match t, h38 with
    | 0, _ => exact el_tabIn (off := 168) (tgt := 208) dL_law_40 (by decide) (by decide) (by decide +kernel) (by decide) (w_0 hl hN i hi S hS hLI kc ks hkc hks Q hk)
    | 1, _ => exact el_tabIn (off := 272) (tgt := 312) dL_law_40 (by decide) (by decide) (by decide +kernel) (by decide) (w_1 hl hN i hi S hS hLI kc ks hkc hks Q hk)
    | 2, _ => exact el_tabIn (off := 328) (tgt := 368) dL_law_40 (by decide) (by decide) (by decide +kernel) (by decide) (w_2 hl hN i hi S hS hLI kc ks hkc hks Q hk)
    | 3, _ => exact el_tabIn (off := 396) (tgt := 436) dL_law_40 (by decide) (by decide) (by decide +kernel) (by decide) (w_3 hl hN i hi S hS hLI kc ks hkc hks Q hk)
    | 4, _ => exact el_tabIn (off := 409) (tgt := 449) dL_law_40 (by decide) (by decide) (by decide +kernel) (by decide) (w_4 hl hN i hi S hS hLI kc ks hkc hks Q hk)
    | 5, _ => exact el_tabIn (off := 465) (tgt := 505) dL_law_40 (by decide) (by decide) (by decide +kernel) (by decide) (w_5 hl hN i hi S hS hLI kc ks hkc hks Q hk)
    | 6, _ => exact el_tabIn (off := 533) (tgt := 573) dL_law_40 (by decide) (by decide) (by decide +kernel) (by decide) (w_6 hl hN i hi S hS hLI kc ks hkc hks Q hk)
    | 7, _ => exact el_tabIn (off := 589) (tgt := 629) dL_law_40 (by decide) (by decide) (by decide +kernel) (by decide) (w_7 hl hN i hi S hS hLI kc ks hkc hks Q hk)
    | 8, _ => exact el_tabIn (off := 602) (tgt := 642) dL_law_40 (by decide) (by decide) (by decide +kernel) (by decide) (w_8 hl hN i hi S hS hLI kc ks hkc hks Q hk)
    | 9, _ => exact el_tabIn (off := 658) (tgt := 698) dL_law_40 (by decide) (by decide) (by decide +kernel) (by decide) (w_9 hl hN i hi S hS hLI kc ks hkc hks Q hk)
    | 10, _ => exact el_tabIn (off := 726) (tgt := 766) dL_law_40 (by decide) (by decide) (by decide +kernel) (by decide) (w_10 hl hN i hi S hS hLI kc ks hkc hks Q hk)
    | 11, _ => exact el_tabIn (off := 767) (tgt := 807) dL_law_40 (by decide) (by decide) (by decide +kernel) (by decide) (w_11 hl hN i hi S hS hLI kc ks hkc hks Q hk)
    | 12, _ => exact el_tabIn (off := 823) (tgt := 863) dL_law_40 (by decide) (by decide) (by decide +kernel) (by decide) (w_12 hl hN i hi S hS hLI kc ks hkc hks Q hk)
    | 13, _ => exact el_tabIn (off := 891) (tgt := 931) dL_law_40 (by decide) (by decide) (by decide +kernel) (by decide) (w_13 hl hN i hi S hS hLI kc ks hkc hks Q hk)
    | 14, _ => exact el_tabIn (off := 935) (tgt := 975) dL_law_40 (by decide) (by decide) (by decide +kernel) (by decide) (w_14 hl hN i hi S hS hLI kc ks hkc hks Q hk)
    | 15, _ => exact el_tabIn (off := 948) (tgt := 988) dL_law_40 (by decide) (by decide) (by decide +kernel) (by decide) (w_15 hl hN i hi S hS hLI kc ks hkc hks Q hk)
    | 16, _ => exact el_tabIn (off := 1011) (tgt := 1051) dL_law_40 (by decide) (by decide) (by decide +kernel) (by decide) (w_16 hl hN i hi S hS hLI kc ks hkc hks Q hk)
    | 17, _ => exact el_tabIn (off := 1067) (tgt := 1107) dL_law_40 (by decide) (by decide) (by decide +kernel) (by decide) (w_17 hl hN i hi S hS hLI kc ks hkc hks Q hk)
    | 18, _ => exact el_tabIn (off := 1080) (tgt := 1120) dL_law_40 (by decide) (by decide) (by decide +kernel) (by decide) (w_18 hl hN i hi S hS hLI kc ks hkc hks Q hk)
    | 19, _ => exact el_tabIn (off := 1136) (tgt := 1176) dL_law_40 (by decide) (by decide) (by decide +kernel) (by decide) (w_19 hl hN i hi S hS hLI kc ks hkc hks Q hk)
    | 20, _ => exact el_tabIn (off := 1180) (tgt := 1220) dL_law_40 (by decide) (by decide) (by decide +kernel) (by decide) (w_20 hl hN i hi S hS hLI kc ks hkc hks Q hk)
    | 21, _ => exact el_tabIn (off := 1193) (tgt := 1233) dL_law_40 (by decide) (by decide) (by decide +kernel) (by decide) (w_21 hl hN i hi S hS hLI kc ks hkc hks Q hk)
    | 22, _ => exact el_tabIn (off := 1237) (tgt := 1277) dL_law_40 (by decide) (by decide) (by decide +kernel) (by decide) (w_22 hl hN i hi S hS hLI kc ks hkc hks Q hk)
    | 23, _ => exact el_tabIn (off := 1281) (tgt := 1321) dL_law_40 (by decide) (by decide) (by decide +kernel) (by decide) (w_23 hl hN i hi S hS hLI kc ks hkc hks Q hk)
    | 24, _ => exact el_tabIn (off := 1337) (tgt := 1377) dL_law_40 (by decide) (by decide) (by decide +kernel) (by decide) (w_24 hl hN i hi S hS hLI kc ks hkc hks Q hk)
    | 25, _ => exact el_tabIn (off := 1417) (tgt := 1457) dL_law_40 (by decide) (by decide) (by decide +kernel) (by decide) (w_25 hl hN i hi S hS hLI kc ks hkc hks Q hk)
    | 26, _ => exact el_tabIn (off := 1497) (tgt := 1537) dL_law_40 (by decide) (by decide) (by decide +kernel) (by decide) (w_26 hl hN i hi S hS hLI kc ks hkc hks Q hk)
    | 27, _ => exact el_tabIn (off := 1541) (tgt := 1581) dL_law_40 (by decide) (by decide) (by decide +kernel) (by decide) (w_27 hl hN i hi S hS hLI kc ks hkc hks Q hk)
    | 28, _ => exact el_tabIn (off := 1597) (tgt := 1637) dL_law_40 (by decide) (by decide) (by decide +kernel) (by decide) (w_28 hl hN i hi S hS hLI kc ks hkc hks Q hk)
    | 29, _ => exact el_tabIn (off := 1641) (tgt := 1681) dL_law_40 (by decide) (by decide) (by decide +kernel) (by decide) (w_29 hl hN i hi S hS hLI kc ks hkc hks Q hk)
    | 30, _ => exact el_tabIn (off := 1697) (tgt := 1737) dL_law_40 (by decide) (by decide) (by decide +kernel) (by decide) (w_30 hl hN i hi S hS hLI kc ks hkc hks Q hk)
    | 31, _ => exact el_tabIn (off := 1753) (tgt := 1793) dL_law_40 (by decide) (by decide) (by decide +kernel) (by decide) (w_31 hl hN i hi S hS hLI kc ks hkc hks Q hk)
    | 32, _ => exact el_tabIn (off := 1809) (tgt := 1849) dL_law_40 (by decide) (by decide) (by decide +kernel) (by decide) (w_32 hl hN i hi S hS hLI kc ks hkc hks Q hk)
    | 33, _ => exact el_tabIn (off := 1884) (tgt := 1924) dL_law_40 (by decide) (by decide) (by decide +kernel) (by decide) (w_33 hl hN i hi S hS hLI kc ks hkc hks Q hk)
    | 34, _ => exact el_tabIn (off := 1922) (tgt := 1962) dL_law_40 (by decide) (by decide) (by decide +kernel) (by decide) (w_34 hl hN i hi S hS hLI kc ks hkc hks Q hk)
    | 35, _ => exact el_tabIn (off := 1966) (tgt := 2006) dL_law_40 (by decide) (by decide) (by decide +kernel) (by decide) (w_35 hl hN i hi S hS hLI kc ks hkc hks Q hk)
    | 36, _ => exact el_tabIn (off := 1979) (tgt := 2019) dL_law_40 (by decide) (by decide) (by decide +kernel) (by decide) (w_36 hl hN i hi S hS hLI kc ks hkc hks Q hk)
    | 37, _ => exact el_tabIn (off := 1990) (tgt := 2030) dL_law_40 (by decide) (by decide) (by decide +kernel) (by decide) (w_37 hl hN i hi S hS hLI kc ks hkc hks Q hk)
    | n + 38, h => exact absurd h (by omega)
set_option maxHeartbeats 4000000 in
set_option maxRecDepth 100000 in
theorem w_loop {xs : Nat → Int32} {N9 : Nat} {l : Launch} (hl : l.stackTraces = false) (hN : N9 ≤ 3072) : ∀ (n9 t : Nat) (M : ev_M) (S : St), okS S → LI M S → t ≤ 512 → 512 - t < n9 → el_ xs N9 l m_L_law (200 + 8 * t) (20000 + 40 * t) 23 [some (.retAddr 20), some (.ref 0), some (.ref 104), some (.ref 135), some (.int (nI (6 * t))), none, none] [] M (fun r _ => r = .inl (some (.int 1))) := by
  intro n9
  induction n9 with
  | zero => intro t M S hS hLI ht hm; exact absurd hm (by omega)
  | succ n9 ih =>
    intro t M S hS hLI ht hm
    refine el_blk (B := [(.iload 4, 2), (.aload_n 0, 1)]) (pe := 26) (ls' := [some (.retAddr 20), some (.ref 0), some (.ref 104), some (.ref 135), some (.int (nI (6 * t))), none, none]) (st' := [.retAddr 20, .int (nI (6 * t))]) ⟨dL_law_23, dL_law_25, rfl⟩ rfl ?_
    refine el_slen rfl dL_law_26 ?_
    refine el_blk (B := [(.bipush 6, 2), (.isub, 1)]) (pe := 30) (ls' := [some (.retAddr 20), some (.ref 0), some (.ref 104), some (.ref 135), some (.int (nI (6 * t))), none, none]) (st' := [.int (nI N9 - nI 6), .int (nI (6 * t))]) ⟨dL_law_27, dL_law_29, rfl⟩ rfl ?_
    have hsub := pk_sub_toInt (a := N9) (b := 6) (by omega) (by decide)
    refine el_ic_gt (tgt := 2060) dL_law_30 (by decide) (fun q => ?_) (fun q => ?_)
    · refine el_blk (B := [(.iconst 1, 1)]) (pe := 2061) (ls' := [some (.retAddr 20), some (.ref 0), some (.ref 104), some (.ref 135), some (.int (nI (6 * t))), none, none]) (st' := [.int (nI 1)]) ⟨dL_law_2060, rfl⟩ rfl ?_
      exact el_iret dL_law_2061 rfl rfl ⟨by show 200 + 8 * t ≤ 601024; omega, by show 20000 + 40 * t ≤ 7293034; omega⟩ rfl
    · have q2 : 6 * t + 6 ≤ N9 := by
        have q3 : ¬ (nI N9 - nI 6).toInt < (nI (6 * t)).toInt := fun z => q (Int32.lt_iff_toInt_lt.mpr z)
        rw [hsub, nI_toInt (by omega)] at q3
        omega
      refine w_turn hl hN (6 * t) q2 S hS hLI _ _ (by omega) (by omega) _ (fun M1 S1 hS1 hL1 => ?_)
      refine el_blk (B := [(.iinc 4 6, 3)]) (pe := 2057) (ls' := [some (.retAddr 20), some (.ref 0), some (.ref 104), some (.ref 135), some (.int (nI (6 * (t + 1)))), none, none]) (st' := []) ⟨dL_law_2054, rfl⟩ ?_ ?_
      · show some (([some (.retAddr 20), some (.ref 0), some (.ref 104), some (.ref 135), some (.int (nI (6 * t) + Int32.ofInt 6)), none, none] : ev_L), ([] : List Value)) = _
        rw [show nI (6 * t) + Int32.ofInt 6 = nI (6 * (t + 1)) from ((congrArg (nI (6 * t) + ·) (show Int32.ofInt 6 = nI 6 by decide)).trans (nI_add (6 * t) 6))]
      · refine el_goto (tgt := 23) dL_law_2057 (by decide) ?_
        exact el_wid (by omega) (by omega) (ih (t + 1) M1 S1 hS1 hL1 (by omega) (by omega))
theorem k9_len : (k9 0).length = 104 := by
  unfold k9
  simp only [List.length_append, List.length_cons, List.length_nil, k0f_len, k1_len, k2_len, k3_len, k4_len, k8_len, k0_len9, k5_len, k6_len, k7_len]
theorem kM_len : (kM 104).length = 31 := rfl
theorem at_pre {M0 X : ev_M} {o : Nat} {c : List va_E} (h : at_ M0 o c) (hl : o + c.length ≤ M0.length) : at_ (M0 ++ X) o c := fun j hj => by
  rw [List.getElem?_append_left (by omega)]; exact h j hj
theorem at_self {c : List va_E} : at_ c 0 c := fun j hj => by rw [Nat.zero_add]

set_option maxHeartbeats 4000000 in
set_option maxRecDepth 100000 in
theorem w_start {xs : Nat → Int32} {N9 : Nat} {l : Launch} (hl : l.stackTraces = false) (hN : N9 ≤ 3072) : el_ xs N9 l m_L_law 0 0 0 [some (.retAddr 20), none, none, none, none, none, none] [] [] (fun r _ => r = .inl (some (.int 1))) := by
  refine el_new (ci := 9) (q0 := (RX10, TX10, 9)) (fs := [.null, .null, .null, .null, .null, .null, .null, .null, .null]) rfl CL_RL_8 CI_RX10.1 CI_RX10.2 rfl dL_law_0 ⟨Nat.le_of_ble_eq_true rfl, Nat.le_of_ble_eq_true rfl⟩ ?_
  refine el_blk (B := [(.dup, 1)]) (pe := 4) (ls' := [some (.retAddr 20), none, none, none, none, none, none]) (st' := [.ref 0, .ref 0]) ⟨dL_law_3, rfl⟩ rfl ?_
  refine el_cI0 Y_X10_init L_RL_117 dL_law_4 ⟨Nat.le_of_ble_eq_true rfl, Nat.le_of_ble_eq_true rfl, Nat.le_of_ble_eq_true rfl, Nat.le_of_ble_eq_true rfl, Nat.le_of_ble_eq_true rfl⟩ (as := []) rfl rfl (c_X10_init hl [] 0 rfl) ?_
  refine el_blk (B := [(.astore_n 1, 1)]) (pe := 8) (ls' := [some (.retAddr 20), some (.ref 0), none, none, none, none, none]) (st' := []) ⟨dL_law_7, rfl⟩ rfl ?_
  refine el_new (ci := 10) (q0 := (RX11, TX11, 56)) (fs := zn 104 0 (nI 0)) rfl CL_RL_118 CI_RX11.1 CI_RX11.2 rfl dL_law_8 ⟨Nat.le_of_ble_eq_true rfl, Nat.le_of_ble_eq_true rfl⟩ ?_
  rw [List.nil_append, k9_len]
  refine el_blk (B := [(.dup, 1)]) (pe := 12) (ls' := [some (.retAddr 20), some (.ref 0), none, none, none, none, none]) (st' := [.ref 104, .ref 104]) ⟨dL_law_11, rfl⟩ rfl ?_
  refine el_cI0 Y_X11_init L_RL_120 dL_law_12 ⟨Nat.le_of_ble_eq_true rfl, Nat.le_of_ble_eq_true rfl, Nat.le_of_ble_eq_true rfl, Nat.le_of_ble_eq_true rfl, Nat.le_of_ble_eq_true rfl⟩ (as := []) rfl rfl (c_X11_init hl (k9 0) 104 k9_len) ?_
  refine el_blk (B := [(.astore_n 2, 1), (.iconst 1, 1)]) (pe := 17) (ls' := [some (.retAddr 20), some (.ref 0), some (.ref 104), none, none, none, none]) (st' := [.int (nI 1)]) ⟨dL_law_15, dL_law_16, rfl⟩ rfl ?_
  refine el_newaL (N := 1) A_long (by decide) (by decide) (by decide) dL_law_17 ⟨Nat.le_of_ble_eq_true rfl, Nat.le_of_ble_eq_true rfl⟩ ?_
  rw [show (k9 0 ++ kM 104).length = 135 by rw [List.length_append, k9_len, kM_len]]
  refine el_blk (B := [(.astore_n 3, 1), (.iconst 0, 1), (.istore 4, 2)]) (pe := 23) (ls' := [some (.retAddr 20), some (.ref 0), some (.ref 104), some (.ref 135), some (.int (nI (6 * 0))), none, none]) (st' := []) ⟨dL_law_19, dL_law_20, dL_law_21, rfl⟩ rfl ?_
  have hR : RCl (k9 0 ++ kM 104 ++ [.inl (1, 1, .inr (.inl (fun _ => 0)))]) St0 := by
    refine RCl_0 ?_
    rw [List.append_assoc]
    exact at_pre at_self (by rw [Nat.zero_add]; exact Nat.le_refl _)
  have hM : RR (k9 0 ++ kM 104 ++ [.inl (1, 1, .inr (.inl (fun _ => 0)))]) 104 St0 _ _ := RR_0 (at_pre (at_new k9_len) (by rw [List.length_append, k9_len]; exact Nat.le_refl _))
  have hlen : (k9 0 ++ kM 104 ++ [(.inl (1, 1, .inr (.inl (fun _ => 0))) : va_E)]).length = 136 := by rw [List.length_append, List.length_append, k9_len, kM_len]; rfl
  have hg : (k9 0 ++ kM 104 ++ [(.inl (1, 1, .inr (.inl (fun _ => 0))) : va_E)])[135]? = some (.inl (1, 1, .inr (.inl (fun _ => 0)))) := by
    rw [List.getElem?_append_right (by rw [List.length_append, k9_len, kM_len]; exact Nat.le_refl _), List.length_append, k9_len, kM_len]; rfl
  exact el_wid (by decide) (by decide) (w_loop hl hN _ 0 _ St0 okS_0 ⟨hR, ⟨_, _, hM⟩, ⟨_, hg⟩, hlen⟩ (Nat.zero_le _) (Nat.lt_succ_self _))
