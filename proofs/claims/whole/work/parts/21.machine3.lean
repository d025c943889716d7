/-! ===== Machine: firing, and back ===== -/
theorem mf_some {x : Cf} {t : Tr} {wl : Bool} (h : mf x t wl = true) (h2 : t.2.2.1 = 2) : ∃ z, ix (cw x t.2.2.2.1) t.2.2.2.2 = some z := by
  unfold mf at h
  rw [h2] at h
  cases hz : ix (cw x t.2.2.2.1) t.2.2.2.2 with
  | none =>
    rw [hz] at h
    simp at h
  | some z => exact ⟨z, rfl⟩
theorem cset_1 (x : Cf) (ch : Nat) (w : List Nat) : (cset x ch w).1 = x.1 := by unfold cset; split <;> rfl
set_option maxHeartbeats 4000000 in
set_option maxRecDepth 100000 in
theorem c_X4_apply {l : Launch} (hl : l.stackTraces = false) {M : ev_M} (o : Nat) (T : List Tr) (hR : RM M o T) (hT : trs T) (i : Nat) (hi : i < T.length) (c : Nat) (x : Cf) (hF : RF M c x) (hx : cfW 24 x) (hco : c < o ∨ o + 2 ≤ c) (hf : mf x (tg T i) true = true) : ev_Mt l m_X4_apply [.ref (o), .int (nI i), .ref (c)] M (fun r M1 => r = .inl (some (.int (nI (ap (tg T i) x).1))) ∧ RF M1 c (ap (tg T i) x).2 ∧ Fr c (c + 1) M M1) := by
  obtain ⟨b0, b1, b2, b3, b4⟩ := trs_tg hT hi
  have b5 : x.1 < 6 := hx.1
  refine ev_body hl rfl (by decide +kernel) (Nat.le_of_ble_eq_true rfl) ?_
  show ev_ l m_X4_apply 0 0 0 [some (.ref (o)), some (.int (nI i)), some (.ref (c)), none, none, none, none] [] M _
  refine ev_blk (B := [(.aload_n 0, 1), (.iload_n 1, 1), (.iconst 2, 1)]) (pe := 3) (ls' := [some (.ref (o)), some (.int (nI i)), some (.ref (c)), none, none, none, none]) (st' := [.int (nI 2), .int (nI i), .ref (o)]) ⟨dX4_apply_0, dX4_apply_1, dX4_apply_2, rfl⟩ rfl ?_
  refine ev_cVv Y_X4_part L_RX4_23 dX4_apply_3 ⟨Nat.le_of_ble_eq_true rfl, Nat.le_of_ble_eq_true rfl, Nat.le_of_ble_eq_true rfl, Nat.le_of_ble_eq_true rfl, Nat.le_of_ble_eq_true rfl⟩ hR.obj (as := [.int (nI i), .int (nI 2)]) rfl rfl (c_X4_part hl _ _ hR (i) (by omega) 2 (by omega)) ?_
  refine ev_blk (B := [(.istore_n 3, 1), (.aload_n 0, 1), (.iload_n 1, 1), (.iconst 3, 1)]) (pe := 10) (ls' := [some (.ref (o)), some (.int (nI i)), some (.ref (c)), some (.int (nI ((tg T i).2.2.1))), none, none, none]) (st' := [.int (nI 3), .int (nI i), .ref (o)]) ⟨dX4_apply_6, dX4_apply_7, dX4_apply_8, dX4_apply_9, rfl⟩ rfl ?_
  refine ev_cVv Y_X4_part L_RX4_23 dX4_apply_10 ⟨Nat.le_of_ble_eq_true rfl, Nat.le_of_ble_eq_true rfl, Nat.le_of_ble_eq_true rfl, Nat.le_of_ble_eq_true rfl, Nat.le_of_ble_eq_true rfl⟩ hR.obj (as := [.int (nI i), .int (nI 3)]) rfl rfl (c_X4_part hl _ _ hR (i) (by omega) 3 (by omega)) ?_
  refine ev_blk (B := [(.istore 4, 2), (.aload_n 0, 1), (.iload_n 1, 1), (.iconst 4, 1)]) (pe := 18) (ls' := [some (.ref (o)), some (.int (nI i)), some (.ref (c)), some (.int (nI ((tg T i).2.2.1))), some (.int (tp (tg T i) 3)), none, none]) (st' := [.int (nI 4), .int (nI i), .ref (o)]) ⟨dX4_apply_13, dX4_apply_15, dX4_apply_16, dX4_apply_17, rfl⟩ rfl ?_
  refine ev_cVv Y_X4_part L_RX4_23 dX4_apply_18 ⟨Nat.le_of_ble_eq_true rfl, Nat.le_of_ble_eq_true rfl, Nat.le_of_ble_eq_true rfl, Nat.le_of_ble_eq_true rfl, Nat.le_of_ble_eq_true rfl⟩ hR.obj (as := [.int (nI i), .int (nI 4)]) rfl rfl (c_X4_part hl _ _ hR (i) (by omega) 4 (by omega)) ?_
  refine ev_blk (B := [(.istore 5, 2), (.iconst 0, 1), (.istore 6, 2), (.iload_n 3, 1), (.iconst 1, 1)]) (pe := 28) (ls' := [some (.ref (o)), some (.int (nI i)), some (.ref (c)), some (.int (nI ((tg T i).2.2.1))), some (.int (tp (tg T i) 3)), some (.int (tp (tg T i) 4)), some (.int (nI 0))]) (st' := [.int (nI 1), .int (nI ((tg T i).2.2.1))]) ⟨dX4_apply_21, dX4_apply_23, dX4_apply_24, dX4_apply_26, dX4_apply_27, rfl⟩ rfl ?_
  refine ev_iN_ne dX4_apply_28 (tgt := 51) (by decide) (by omega) (by omega) (fun q28 => ?_) (fun q28 => ?_)
  · refine ev_blk (B := [(.iload_n 3, 1), (.iconst 2, 1)]) (pe := 53) (ls' := [some (.ref (o)), some (.int (nI i)), some (.ref (c)), some (.int (nI ((tg T i).2.2.1))), some (.int (tp (tg T i) 3)), some (.int (tp (tg T i) 4)), some (.int (nI 0))]) (st' := [.int (nI 2), .int (nI ((tg T i).2.2.1))]) ⟨dX4_apply_51, dX4_apply_52, rfl⟩ rfl ?_
    refine ev_iN_ne dX4_apply_53 (tgt := 86) (by decide) (by omega) (by omega) (fun q53 => ?_) (fun q53 => ?_)
    · refine ev_blk (B := [(.aload_n 2, 1), (.aload_n 0, 1), (.iload_n 1, 1), (.iconst 1, 1)]) (pe := 90) (ls' := [some (.ref (o)), some (.int (nI i)), some (.ref (c)), some (.int (nI ((tg T i).2.2.1))), some (.int (tp (tg T i) 3)), some (.int (tp (tg T i) 4)), some (.int (nI 0))]) (st' := [.int (nI 1), .int (nI i), .ref (o), .ref (c)]) ⟨dX4_apply_86, dX4_apply_87, dX4_apply_88, dX4_apply_89, rfl⟩ rfl ?_
      refine ev_cVv Y_X4_part L_RX4_23 dX4_apply_90 ⟨Nat.le_of_ble_eq_true rfl, Nat.le_of_ble_eq_true rfl, Nat.le_of_ble_eq_true rfl, Nat.le_of_ble_eq_true rfl, Nat.le_of_ble_eq_true rfl⟩ hR.obj (as := [.int (nI i), .int (nI 1)]) rfl rfl (c_X4_part hl _ _ hR (i) (by omega) 1 (by omega)) ?_
      refine ev_put F_RX4_38 dX4_apply_93 hF (Nat.le_of_ble_eq_true rfl) (fun _ _ => ⟨rfl, rfl⟩) ?_
      refine ev_nm (M0 := M.set (c) (.inr (1, [.int (nI ((tg T i).2.1)), .long (e1 x.2.1), .long (e1 x.2.2)]))) (fun M1 eM1 => ?_)
      have f2 : M1[o]? = some (.inr (4, [.ref (o + 1), .int (nI (T.length))])) := by rw [eM1, ev_sn (by omega)]; exact hR.obj
      have f3 : M1[c]? = some (.inr (1, [.int (nI ((tg T i).2.1)), .long (e1 x.2.1), .long (e1 x.2.2)])) := by rw [eM1]; exact ev_sg hF
      refine ev_blk (B := [(.iload 6, 2)]) (pe := 98) (ls' := [some (.ref (o)), some (.int (nI i)), some (.ref (c)), some (.int (nI ((tg T i).2.2.1))), some (.int (tp (tg T i) 3)), some (.int (tp (tg T i) 4)), some (.int (nI 0))]) (st' := [.int (nI 0)]) ⟨dX4_apply_96, rfl⟩ rfl ?_
      refine ev_iret dX4_apply_98 rfl (rfl) ⟨Nat.le_of_ble_eq_true rfl, Nat.le_of_ble_eq_true rfl⟩ ?_
      have ea : ap (tg T i) x = (0, ((tg T i).2.1, x.2)) := by unfold ap; rw [if_neg q28, if_neg q53]
      rw [ea]
      exact ⟨rfl, f3, ⟨by rw [eM1]; simp only [List.length_set], fun j hj => by rw [eM1, ev_sn (by omega)]⟩⟩
    · rw [show tp (tg T i) 3 = nI (tg T i).2.2.2.1 from tp3 (by omega), show tp (tg T i) 4 = nI (tg T i).2.2.2.2 from tp4 (by omega)]
      obtain ⟨z, hz⟩ := mf_some hf q53
      refine ev_blk (B := [(.aload_n 2, 1), (.iload 4, 2)]) (pe := 59) (ls' := [some (.ref (o)), some (.int (nI i)), some (.ref (c)), some (.int (nI ((tg T i).2.2.1))), some (.int (nI ((tg T i).2.2.2.1))), some (.int (nI ((tg T i).2.2.2.2))), some (.int (nI 0))]) (st' := [.int (nI ((tg T i).2.2.2.1)), .ref (c)]) ⟨dX4_apply_56, dX4_apply_57, rfl⟩ rfl ?_
      refine ev_cVv Y_X1_word L_RX4_43 dX4_apply_59 ⟨Nat.le_of_ble_eq_true rfl, Nat.le_of_ble_eq_true rfl, Nat.le_of_ble_eq_true rfl, Nat.le_of_ble_eq_true rfl, Nat.le_of_ble_eq_true rfl⟩ hF (as := [.int (nI ((tg T i).2.2.2.1))]) rfl rfl (c_X1_word hl _ _ hF ((tg T i).2.2.2.1) (by omega)) ?_
      refine ev_blk (B := [(.iload 5, 2)]) (pe := 64) (ls' := [some (.ref (o)), some (.int (nI i)), some (.ref (c)), some (.int (nI ((tg T i).2.2.1))), some (.int (nI ((tg T i).2.2.2.1))), some (.int (nI ((tg T i).2.2.2.2))), some (.int (nI 0))]) (st' := [.int (nI ((tg T i).2.2.2.2)), .long (e1 (cw x ((tg T i).2.2.2.1)))]) ⟨dX4_apply_62, rfl⟩ rfl ?_
      refine ev_cSv Y_X9_indexOf L_RX4_47 dX4_apply_64 ⟨Nat.le_of_ble_eq_true rfl, Nat.le_of_ble_eq_true rfl, Nat.le_of_ble_eq_true rfl, Nat.le_of_ble_eq_true rfl, Nat.le_of_ble_eq_true rfl⟩ (as := [.long (e1 (cw x ((tg T i).2.2.2.1))), .int (nI ((tg T i).2.2.2.2))]) rfl rfl (c_X9_indexOf hl _ (cw_ok hx _).1 (Nat.le_trans (cw_ok hx _).2 (by omega)) _ (by omega)) ?_
      rw [show oI (ix (cw x (tg T i).2.2.2.1) (tg T i).2.2.2.2) = nI z from by rw [hz]; rfl]
      have hz2 := (ix_lt hz).1
      have hz3 := (cw_ok hx (tg T i).2.2.2.1).2
      refine ev_blk (B := [(.istore 6, 2), (.aload_n 2, 1), (.iload 4, 2), (.aload_n 2, 1), (.iload 4, 2)]) (pe := 75) (ls' := [some (.ref (o)), some (.int (nI i)), some (.ref (c)), some (.int (nI ((tg T i).2.2.1))), some (.int (nI ((tg T i).2.2.2.1))), some (.int (nI ((tg T i).2.2.2.2))), some (.int (nI z))]) (st' := [.int (nI ((tg T i).2.2.2.1)), .ref (c), .int (nI ((tg T i).2.2.2.1)), .ref (c)]) ⟨dX4_apply_67, dX4_apply_69, dX4_apply_70, dX4_apply_72, dX4_apply_73, rfl⟩ rfl ?_
      refine ev_cVv Y_X1_word L_RX4_43 dX4_apply_75 ⟨Nat.le_of_ble_eq_true rfl, Nat.le_of_ble_eq_true rfl, Nat.le_of_ble_eq_true rfl, Nat.le_of_ble_eq_true rfl, Nat.le_of_ble_eq_true rfl⟩ hF (as := [.int (nI ((tg T i).2.2.2.1))]) rfl rfl (c_X1_word hl _ _ hF ((tg T i).2.2.2.1) (by omega)) ?_
      refine ev_blk (B := [(.iload 6, 2)]) (pe := 80) (ls' := [some (.ref (o)), some (.int (nI i)), some (.ref (c)), some (.int (nI ((tg T i).2.2.1))), some (.int (nI ((tg T i).2.2.2.1))), some (.int (nI ((tg T i).2.2.2.2))), some (.int (nI z))]) (st' := [.int (nI z), .long (e1 (cw x ((tg T i).2.2.2.1))), .int (nI ((tg T i).2.2.2.1)), .ref (c)]) ⟨dX4_apply_78, rfl⟩ rfl ?_
      refine ev_cSv Y_X9_behind L_RX4_69 dX4_apply_80 ⟨Nat.le_of_ble_eq_true rfl, Nat.le_of_ble_eq_true rfl, Nat.le_of_ble_eq_true rfl, Nat.le_of_ble_eq_true rfl, Nat.le_of_ble_eq_true rfl⟩ (as := [.long (e1 (cw x ((tg T i).2.2.2.1))), .int (nI z)]) rfl rfl (c_X9_behind hl _ (cw_ok hx _).1 (Nat.le_trans (cw_ok hx _).2 (by omega)) z (by omega)) ?_
      refine ev_cVn Y_X1_setWord L_RX4_65 dX4_apply_83 ⟨Nat.le_of_ble_eq_true rfl, Nat.le_of_ble_eq_true rfl, Nat.le_of_ble_eq_true rfl, Nat.le_of_ble_eq_true rfl, Nat.le_of_ble_eq_true rfl⟩ hF (as := [.int (nI ((tg T i).2.2.2.1)), .long (e1 ((cw x (tg T i).2.2.2.1).drop (z + 1)))]) rfl rfl (c_X1_setWord hl _ _ hF _ (by omega) _) (fun M4 hL4 hB4 => ?_)
      obtain ⟨hB1, hB2⟩ := hB4
      have hR2 := hR.fr hB2 (by omega)
      refine ev_blk (B := [(.aload_n 2, 1), (.aload_n 0, 1), (.iload_n 1, 1), (.iconst 1, 1)]) (pe := 90) (ls' := [some (.ref (o)), some (.int (nI i)), some (.ref (c)), some (.int (nI ((tg T i).2.2.1))), some (.int (nI ((tg T i).2.2.2.1))), some (.int (nI ((tg T i).2.2.2.2))), some (.int (nI z))]) (st' := [.int (nI 1), .int (nI i), .ref (o), .ref (c)]) ⟨dX4_apply_86, dX4_apply_87, dX4_apply_88, dX4_apply_89, rfl⟩ rfl ?_
      refine ev_cVv Y_X4_part L_RX4_23 dX4_apply_90 ⟨Nat.le_of_ble_eq_true rfl, Nat.le_of_ble_eq_true rfl, Nat.le_of_ble_eq_true rfl, Nat.le_of_ble_eq_true rfl, Nat.le_of_ble_eq_true rfl⟩ hR2.obj (as := [.int (nI i), .int (nI 1)]) rfl rfl (c_X4_part hl _ _ hR2 (i) (by omega) 1 (by omega)) ?_
      refine ev_put F_RX4_38 dX4_apply_93 hB1 (Nat.le_of_ble_eq_true rfl) (fun _ _ => ⟨rfl, rfl⟩) ?_
      refine ev_nm (M0 := M4.set (c) (.inr (1, [.int (nI ((tg T i).2.1)), .long (e1 (cset x (tg T i).2.2.2.1 ((cw x (tg T i).2.2.2.1).drop (z + 1))).2.1), .long (e1 (cset x (tg T i).2.2.2.1 ((cw x (tg T i).2.2.2.1).drop (z + 1))).2.2)]))) (fun M5 eM5 => ?_)
      have f6 : M5[o]? = some (.inr (4, [.ref (o + 1), .int (nI (T.length))])) := by rw [eM5, ev_sn (by omega)]; exact hR2.obj
      have f7 : M5[c]? = some (.inr (1, [.int (nI ((tg T i).2.1)), .long (e1 (cset x (tg T i).2.2.2.1 ((cw x (tg T i).2.2.2.1).drop (z + 1))).2.1), .long (e1 (cset x (tg T i).2.2.2.1 ((cw x (tg T i).2.2.2.1).drop (z + 1))).2.2)])) := by rw [eM5]; exact ev_sg hB1
      refine ev_blk (B := [(.iload 6, 2)]) (pe := 98) (ls' := [some (.ref (o)), some (.int (nI i)), some (.ref (c)), some (.int (nI ((tg T i).2.2.1))), some (.int (nI ((tg T i).2.2.2.1))), some (.int (nI ((tg T i).2.2.2.2))), some (.int (nI z))]) (st' := [.int (nI z)]) ⟨dX4_apply_96, rfl⟩ rfl ?_
      refine ev_iret dX4_apply_98 rfl (rfl) ⟨Nat.le_of_ble_eq_true rfl, Nat.le_of_ble_eq_true rfl⟩ ?_
      have ea : ap (tg T i) x = (z, ((tg T i).2.1, (cset x (tg T i).2.2.2.1 ((cw x (tg T i).2.2.2.1).drop (z + 1))).2)) := by unfold ap; rw [if_neg q28, if_pos q53, hz]; rfl
      rw [ea]
      exact ⟨rfl, f7, hB2.tr ⟨by rw [eM5]; simp only [List.length_set], fun j hj => by rw [eM5, ev_sn (by omega)]⟩⟩
  · rw [show tp (tg T i) 3 = nI (tg T i).2.2.2.1 from tp3 (by omega), show tp (tg T i) 4 = nI (tg T i).2.2.2.2 from tp4 (by omega)]
    refine ev_blk (B := [(.aload_n 2, 1), (.iload 4, 2), (.aload_n 2, 1), (.iload 4, 2)]) (pe := 37) (ls' := [some (.ref (o)), some (.int (nI i)), some (.ref (c)), some (.int (nI ((tg T i).2.2.1))), some (.int (nI ((tg T i).2.2.2.1))), some (.int (nI ((tg T i).2.2.2.2))), some (.int (nI 0))]) (st' := [.int (nI ((tg T i).2.2.2.1)), .ref (c), .int (nI ((tg T i).2.2.2.1)), .ref (c)]) ⟨dX4_apply_31, dX4_apply_32, dX4_apply_34, dX4_apply_35, rfl⟩ rfl ?_
    refine ev_cVv Y_X1_word L_RX4_43 dX4_apply_37 ⟨Nat.le_of_ble_eq_true rfl, Nat.le_of_ble_eq_true rfl, Nat.le_of_ble_eq_true rfl, Nat.le_of_ble_eq_true rfl, Nat.le_of_ble_eq_true rfl⟩ hF (as := [.int (nI ((tg T i).2.2.2.1))]) rfl rfl (c_X1_word hl _ _ hF ((tg T i).2.2.2.1) (by omega)) ?_
    refine ev_blk (B := [(.iload 5, 2)]) (pe := 42) (ls' := [some (.ref (o)), some (.int (nI i)), some (.ref (c)), some (.int (nI ((tg T i).2.2.1))), some (.int (nI ((tg T i).2.2.2.1))), some (.int (nI ((tg T i).2.2.2.2))), some (.int (nI 0))]) (st' := [.int (nI ((tg T i).2.2.2.2)), .long (e1 (cw x ((tg T i).2.2.2.1))), .int (nI ((tg T i).2.2.2.1)), .ref (c)]) ⟨dX4_apply_40, rfl⟩ rfl ?_
    refine ev_cSv Y_X9_extend L_RX4_61 dX4_apply_42 ⟨Nat.le_of_ble_eq_true rfl, Nat.le_of_ble_eq_true rfl, Nat.le_of_ble_eq_true rfl, Nat.le_of_ble_eq_true rfl, Nat.le_of_ble_eq_true rfl⟩ (as := [.long (e1 (cw x ((tg T i).2.2.2.1))), .int (nI ((tg T i).2.2.2.2))]) rfl rfl (c_X9_extend hl _ (cw_ok hx _).1 (Nat.le_trans (cw_ok hx _).2 (by omega)) _ (by omega)) ?_
    refine ev_cVn Y_X1_setWord L_RX4_65 dX4_apply_45 ⟨Nat.le_of_ble_eq_true rfl, Nat.le_of_ble_eq_true rfl, Nat.le_of_ble_eq_true rfl, Nat.le_of_ble_eq_true rfl, Nat.le_of_ble_eq_true rfl⟩ hF (as := [.int (nI ((tg T i).2.2.2.1)), .long (e1 (cw x (tg T i).2.2.2.1 ++ [(tg T i).2.2.2.2]))]) rfl rfl (c_X1_setWord hl _ _ hF _ (by omega) _) (fun M8 hL8 hB8 => ?_)
    obtain ⟨hB1, hB2⟩ := hB8
    have hR2 := hR.fr hB2 (by omega)
    refine ev_goto (tgt := 86) dX4_apply_48 (by decide) ?_
    refine ev_blk (B := [(.aload_n 2, 1), (.aload_n 0, 1), (.iload_n 1, 1), (.iconst 1, 1)]) (pe := 90) (ls' := [some (.ref (o)), some (.int (nI i)), some (.ref (c)), some (.int (nI ((tg T i).2.2.1))), some (.int (nI ((tg T i).2.2.2.1))), some (.int (nI ((tg T i).2.2.2.2))), some (.int (nI 0))]) (st' := [.int (nI 1), .int (nI i), .ref (o), .ref (c)]) ⟨dX4_apply_86, dX4_apply_87, dX4_apply_88, dX4_apply_89, rfl⟩ rfl ?_
    refine ev_cVv Y_X4_part L_RX4_23 dX4_apply_90 ⟨Nat.le_of_ble_eq_true rfl, Nat.le_of_ble_eq_true rfl, Nat.le_of_ble_eq_true rfl, Nat.le_of_ble_eq_true rfl, Nat.le_of_ble_eq_true rfl⟩ hR2.obj (as := [.int (nI i), .int (nI 1)]) rfl rfl (c_X4_part hl _ _ hR2 (i) (by omega) 1 (by omega)) ?_
    refine ev_put F_RX4_38 dX4_apply_93 hB1 (Nat.le_of_ble_eq_true rfl) (fun _ _ => ⟨rfl, rfl⟩) ?_
    refine ev_nm (M0 := M8.set (c) (.inr (1, [.int (nI ((tg T i).2.1)), .long (e1 (cset x (tg T i).2.2.2.1 (cw x (tg T i).2.2.2.1 ++ [(tg T i).2.2.2.2])).2.1), .long (e1 (cset x (tg T i).2.2.2.1 (cw x (tg T i).2.2.2.1 ++ [(tg T i).2.2.2.2])).2.2)]))) (fun M9 eM9 => ?_)
    have f10 : M9[o]? = some (.inr (4, [.ref (o + 1), .int (nI (T.length))])) := by rw [eM9, ev_sn (by omega)]; exact hR2.obj
    have f11 : M9[c]? = some (.inr (1, [.int (nI ((tg T i).2.1)), .long (e1 (cset x (tg T i).2.2.2.1 (cw x (tg T i).2.2.2.1 ++ [(tg T i).2.2.2.2])).2.1), .long (e1 (cset x (tg T i).2.2.2.1 (cw x (tg T i).2.2.2.1 ++ [(tg T i).2.2.2.2])).2.2)])) := by rw [eM9]; exact ev_sg hB1
    refine ev_blk (B := [(.iload 6, 2)]) (pe := 98) (ls' := [some (.ref (o)), some (.int (nI i)), some (.ref (c)), some (.int (nI ((tg T i).2.2.1))), some (.int (nI ((tg T i).2.2.2.1))), some (.int (nI ((tg T i).2.2.2.2))), some (.int (nI 0))]) (st' := [.int (nI 0)]) ⟨dX4_apply_96, rfl⟩ rfl ?_
    refine ev_iret dX4_apply_98 rfl (rfl) ⟨Nat.le_of_ble_eq_true rfl, Nat.le_of_ble_eq_true rfl⟩ ?_
    have ea : ap (tg T i) x = (0, ((tg T i).2.1, (cset x (tg T i).2.2.2.1 (cw x (tg T i).2.2.2.1 ++ [(tg T i).2.2.2.2])).2)) := if_pos q28
    rw [ea]
    exact ⟨rfl, f11, hB2.tr ⟨by rw [eM9]; simp only [List.length_set], fun j hj => by rw [eM9, ev_sn (by omega)]⟩⟩

set_option maxHeartbeats 4000000 in
set_option maxRecDepth 100000 in
theorem c_X4_applyBackwards {l : Launch} (hl : l.stackTraces = false) {M : ev_M} (o : Nat) (T : List Tr) (hR : RM M o T) (hT : trs T) (i : Nat) (hi : i < T.length) (c : Nat) (x : Cf) (hF : RF M c x) (hx : cfW 24 x) (hco : c < o ∨ o + 2 ≤ c) : ev_Mt l m_X4_applyBackwards [.ref (o), .int (nI i), .ref (c)] M (fun r M1 => r = .inl none ∧ RF M1 c (bp (tg T i) x) ∧ Fr c (c + 1) M M1) := by
  obtain ⟨b0, b1, b2, b3, b4⟩ := trs_tg hT hi
  have b5 : x.1 < 6 := hx.1
  refine ev_body hl rfl (by decide +kernel) (Nat.le_of_ble_eq_true rfl) ?_
  show ev_ l m_X4_applyBackwards 0 0 0 [some (.ref (o)), some (.int (nI i)), some (.ref (c)), none, none, none] [] M _
  refine ev_blk (B := [(.aload_n 0, 1), (.iload_n 1, 1), (.iconst 2, 1)]) (pe := 3) (ls' := [some (.ref (o)), some (.int (nI i)), some (.ref (c)), none, none, none]) (st' := [.int (nI 2), .int (nI i), .ref (o)]) ⟨dX4_applyBackwards_0, dX4_applyBackwards_1, dX4_applyBackwards_2, rfl⟩ rfl ?_
  refine ev_cVv Y_X4_part L_RX4_23 dX4_applyBackwards_3 ⟨Nat.le_of_ble_eq_true rfl, Nat.le_of_ble_eq_true rfl, Nat.le_of_ble_eq_true rfl, Nat.le_of_ble_eq_true rfl, Nat.le_of_ble_eq_true rfl⟩ hR.obj (as := [.int (nI i), .int (nI 2)]) rfl rfl (c_X4_part hl _ _ hR (i) (by omega) 2 (by omega)) ?_
  refine ev_blk (B := [(.istore_n 3, 1), (.aload_n 0, 1), (.iload_n 1, 1), (.iconst 3, 1)]) (pe := 10) (ls' := [some (.ref (o)), some (.int (nI i)), some (.ref (c)), some (.int (nI ((tg T i).2.2.1))), none, none]) (st' := [.int (nI 3), .int (nI i), .ref (o)]) ⟨dX4_applyBackwards_6, dX4_applyBackwards_7, dX4_applyBackwards_8, dX4_applyBackwards_9, rfl⟩ rfl ?_
  refine ev_cVv Y_X4_part L_RX4_23 dX4_applyBackwards_10 ⟨Nat.le_of_ble_eq_true rfl, Nat.le_of_ble_eq_true rfl, Nat.le_of_ble_eq_true rfl, Nat.le_of_ble_eq_true rfl, Nat.le_of_ble_eq_true rfl⟩ hR.obj (as := [.int (nI i), .int (nI 3)]) rfl rfl (c_X4_part hl _ _ hR (i) (by omega) 3 (by omega)) ?_
  refine ev_blk (B := [(.istore 4, 2), (.aload_n 0, 1), (.iload_n 1, 1), (.iconst 4, 1)]) (pe := 18) (ls' := [some (.ref (o)), some (.int (nI i)), some (.ref (c)), some (.int (nI ((tg T i).2.2.1))), some (.int (tp (tg T i) 3)), none]) (st' := [.int (nI 4), .int (nI i), .ref (o)]) ⟨dX4_applyBackwards_13, dX4_applyBackwards_15, dX4_applyBackwards_16, dX4_applyBackwards_17, rfl⟩ rfl ?_
  refine ev_cVv Y_X4_part L_RX4_23 dX4_applyBackwards_18 ⟨Nat.le_of_ble_eq_true rfl, Nat.le_of_ble_eq_true rfl, Nat.le_of_ble_eq_true rfl, Nat.le_of_ble_eq_true rfl, Nat.le_of_ble_eq_true rfl⟩ hR.obj (as := [.int (nI i), .int (nI 4)]) rfl rfl (c_X4_part hl _ _ hR (i) (by omega) 4 (by omega)) ?_
  refine ev_blk (B := [(.istore 5, 2), (.iload_n 3, 1), (.iconst 2, 1)]) (pe := 25) (ls' := [some (.ref (o)), some (.int (nI i)), some (.ref (c)), some (.int (nI ((tg T i).2.2.1))), some (.int (tp (tg T i) 3)), some (.int (tp (tg T i) 4))]) (st' := [.int (nI 2), .int (nI ((tg T i).2.2.1))]) ⟨dX4_applyBackwards_21, dX4_applyBackwards_23, dX4_applyBackwards_24, rfl⟩ rfl ?_
  refine ev_iN_ne dX4_applyBackwards_25 (tgt := 48) (by decide) (by omega) (by omega) (fun q25 => ?_) (fun q25 => ?_)
  · refine ev_blk (B := [(.iload_n 3, 1), (.iconst 1, 1)]) (pe := 50) (ls' := [some (.ref (o)), some (.int (nI i)), some (.ref (c)), some (.int (nI ((tg T i).2.2.1))), some (.int (tp (tg T i) 3)), some (.int (tp (tg T i) 4))]) (st' := [.int (nI 1), .int (nI ((tg T i).2.2.1))]) ⟨dX4_applyBackwards_48, dX4_applyBackwards_49, rfl⟩ rfl ?_
    refine ev_iN_ne dX4_applyBackwards_50 (tgt := 82) (by decide) (by omega) (by omega) (fun q50 => ?_) (fun q50 => ?_)
    · refine ev_blk (B := [(.aload_n 2, 1), (.aload_n 0, 1), (.iload_n 1, 1), (.iconst 0, 1)]) (pe := 86) (ls' := [some (.ref (o)), some (.int (nI i)), some (.ref (c)), some (.int (nI ((tg T i).2.2.1))), some (.int (tp (tg T i) 3)), some (.int (tp (tg T i) 4))]) (st' := [.int (nI 0), .int (nI i), .ref (o), .ref (c)]) ⟨dX4_applyBackwards_82, dX4_applyBackwards_83, dX4_applyBackwards_84, dX4_applyBackwards_85, rfl⟩ rfl ?_
      refine ev_cVv Y_X4_part L_RX4_23 dX4_applyBackwards_86 ⟨Nat.le_of_ble_eq_true rfl, Nat.le_of_ble_eq_true rfl, Nat.le_of_ble_eq_true rfl, Nat.le_of_ble_eq_true rfl, Nat.le_of_ble_eq_true rfl⟩ hR.obj (as := [.int (nI i), .int (nI 0)]) rfl rfl (c_X4_part hl _ _ hR (i) (by omega) 0 (by omega)) ?_
      refine ev_put F_RX4_38 dX4_applyBackwards_89 hF (Nat.le_of_ble_eq_true rfl) (fun _ _ => ⟨rfl, rfl⟩) ?_
      refine ev_nm (M0 := M.set (c) (.inr (1, [.int (nI ((tg T i).1)), .long (e1 x.2.1), .long (e1 x.2.2)]))) (fun M1 eM1 => ?_)
      have f2 : M1[o]? = some (.inr (4, [.ref (o + 1), .int (nI (T.length))])) := by rw [eM1, ev_sn (by omega)]; exact hR.obj
      have f3 : M1[c]? = some (.inr (1, [.int (nI ((tg T i).1)), .long (e1 x.2.1), .long (e1 x.2.2)])) := by rw [eM1]; exact ev_sg hF
      refine ev_vret dX4_applyBackwards_92 rfl ⟨Nat.le_of_ble_eq_true rfl, Nat.le_of_ble_eq_true rfl⟩ ?_
      have ea : bp (tg T i) x = ((tg T i).1, x.2) := by unfold bp; rw [if_neg q25, if_neg q50]
      rw [ea]
      exact ⟨rfl, f3, ⟨by rw [eM1]; simp only [List.length_set], fun j hj => by rw [eM1, ev_sn (by omega)]⟩⟩
    · rw [show tp (tg T i) 3 = nI (tg T i).2.2.2.1 from tp3 (by omega), show tp (tg T i) 4 = nI (tg T i).2.2.2.2 from tp4 (by omega)]
      refine ev_blk (B := [(.aload_n 2, 1), (.iload 4, 2)]) (pe := 56) (ls' := [some (.ref (o)), some (.int (nI i)), some (.ref (c)), some (.int (nI ((tg T i).2.2.1))), some (.int (nI ((tg T i).2.2.2.1))), some (.int (nI ((tg T i).2.2.2.2)))]) (st' := [.int (nI ((tg T i).2.2.2.1)), .ref (c)]) ⟨dX4_applyBackwards_53, dX4_applyBackwards_54, rfl⟩ rfl ?_
      refine ev_cVv Y_X1_word L_RX4_43 dX4_applyBackwards_56 ⟨Nat.le_of_ble_eq_true rfl, Nat.le_of_ble_eq_true rfl, Nat.le_of_ble_eq_true rfl, Nat.le_of_ble_eq_true rfl, Nat.le_of_ble_eq_true rfl⟩ hF (as := [.int (nI ((tg T i).2.2.2.1))]) rfl rfl (c_X1_word hl _ _ hF ((tg T i).2.2.2.1) (by omega)) ?_
      refine ev_blk (B := [(.iload 5, 2)]) (pe := 61) (ls' := [some (.ref (o)), some (.int (nI i)), some (.ref (c)), some (.int (nI ((tg T i).2.2.1))), some (.int (nI ((tg T i).2.2.2.1))), some (.int (nI ((tg T i).2.2.2.2)))]) (st' := [.int (nI ((tg T i).2.2.2.2)), .long (e1 (cw x ((tg T i).2.2.2.1)))]) ⟨dX4_applyBackwards_59, rfl⟩ rfl ?_
      refine ev_cSv Y_X9_endsWith L_RX4_76 dX4_applyBackwards_61 ⟨Nat.le_of_ble_eq_true rfl, Nat.le_of_ble_eq_true rfl, Nat.le_of_ble_eq_true rfl, Nat.le_of_ble_eq_true rfl, Nat.le_of_ble_eq_true rfl⟩ (as := [.long (e1 (cw x ((tg T i).2.2.2.1))), .int (nI ((tg T i).2.2.2.2))]) rfl rfl (c_X9_endsWith hl _ (cw_ok hx _).1 (Nat.le_trans (cw_ok hx _).2 (by omega)) _ (by omega)) ?_
      refine ev_ifB_eq dX4_applyBackwards_64 (tgt := 82) (by decide) (fun q64 => ?_) (fun q64 => ?_)
      · refine ev_blk (B := [(.aload_n 2, 1), (.aload_n 0, 1), (.iload_n 1, 1), (.iconst 0, 1)]) (pe := 86) (ls' := [some (.ref (o)), some (.int (nI i)), some (.ref (c)), some (.int (nI ((tg T i).2.2.1))), some (.int (nI ((tg T i).2.2.2.1))), some (.int (nI ((tg T i).2.2.2.2)))]) (st' := [.int (nI 0), .int (nI i), .ref (o), .ref (c)]) ⟨dX4_applyBackwards_82, dX4_applyBackwards_83, dX4_applyBackwards_84, dX4_applyBackwards_85, rfl⟩ rfl ?_
        refine ev_cVv Y_X4_part L_RX4_23 dX4_applyBackwards_86 ⟨Nat.le_of_ble_eq_true rfl, Nat.le_of_ble_eq_true rfl, Nat.le_of_ble_eq_true rfl, Nat.le_of_ble_eq_true rfl, Nat.le_of_ble_eq_true rfl⟩ hR.obj (as := [.int (nI i), .int (nI 0)]) rfl rfl (c_X4_part hl _ _ hR (i) (by omega) 0 (by omega)) ?_
        refine ev_put F_RX4_38 dX4_applyBackwards_89 hF (Nat.le_of_ble_eq_true rfl) (fun _ _ => ⟨rfl, rfl⟩) ?_
        refine ev_nm (M0 := M.set (c) (.inr (1, [.int (nI ((tg T i).1)), .long (e1 x.2.1), .long (e1 x.2.2)]))) (fun M4 eM4 => ?_)
        have f5 : M4[o]? = some (.inr (4, [.ref (o + 1), .int (nI (T.length))])) := by rw [eM4, ev_sn (by omega)]; exact hR.obj
        have f6 : M4[c]? = some (.inr (1, [.int (nI ((tg T i).1)), .long (e1 x.2.1), .long (e1 x.2.2)])) := by rw [eM4]; exact ev_sg hF
        refine ev_vret dX4_applyBackwards_92 rfl ⟨Nat.le_of_ble_eq_true rfl, Nat.le_of_ble_eq_true rfl⟩ ?_
        have ea : bp (tg T i) x = ((tg T i).1, x.2) := by unfold bp; rw [if_neg q25, if_pos q50, if_neg (of_decide_eq_false q64)]
        rw [ea]
        exact ⟨rfl, f6, ⟨by rw [eM4]; simp only [List.length_set], fun j hj => by rw [eM4, ev_sn (by omega)]⟩⟩
      · refine ev_blk (B := [(.aload_n 2, 1), (.iload 4, 2), (.aload_n 2, 1), (.iload 4, 2)]) (pe := 73) (ls' := [some (.ref (o)), some (.int (nI i)), some (.ref (c)), some (.int (nI ((tg T i).2.2.1))), some (.int (nI ((tg T i).2.2.2.1))), some (.int (nI ((tg T i).2.2.2.2)))]) (st' := [.int (nI ((tg T i).2.2.2.1)), .ref (c), .int (nI ((tg T i).2.2.2.1)), .ref (c)]) ⟨dX4_applyBackwards_67, dX4_applyBackwards_68, dX4_applyBackwards_70, dX4_applyBackwards_71, rfl⟩ rfl ?_
        refine ev_cVv Y_X1_word L_RX4_43 dX4_applyBackwards_73 ⟨Nat.le_of_ble_eq_true rfl, Nat.le_of_ble_eq_true rfl, Nat.le_of_ble_eq_true rfl, Nat.le_of_ble_eq_true rfl, Nat.le_of_ble_eq_true rfl⟩ hF (as := [.int (nI ((tg T i).2.2.2.1))]) rfl rfl (c_X1_word hl _ _ hF ((tg T i).2.2.2.1) (by omega)) ?_
        refine ev_cSv Y_X9_withoutLast L_RX4_80 dX4_applyBackwards_76 ⟨Nat.le_of_ble_eq_true rfl, Nat.le_of_ble_eq_true rfl, Nat.le_of_ble_eq_true rfl, Nat.le_of_ble_eq_true rfl, Nat.le_of_ble_eq_true rfl⟩ (as := [.long (e1 (cw x ((tg T i).2.2.2.1)))]) rfl rfl (c_X9_withoutLast hl _ (cw_ok hx _).1 (Nat.le_trans (cw_ok hx _).2 (by omega))) ?_
        refine ev_cVn Y_X1_setWord L_RX4_65 dX4_applyBackwards_79 ⟨Nat.le_of_ble_eq_true rfl, Nat.le_of_ble_eq_true rfl, Nat.le_of_ble_eq_true rfl, Nat.le_of_ble_eq_true rfl, Nat.le_of_ble_eq_true rfl⟩ hF (as := [.int (nI ((tg T i).2.2.2.1)), .long (e1 (cw x (tg T i).2.2.2.1).dropLast)]) rfl rfl (c_X1_setWord hl _ _ hF _ (by omega) _) (fun M7 hL7 hB7 => ?_)
        obtain ⟨hB1, hB2⟩ := hB7
        have hR2 := hR.fr hB2 (by omega)
        refine ev_blk (B := [(.aload_n 2, 1), (.aload_n 0, 1), (.iload_n 1, 1), (.iconst 0, 1)]) (pe := 86) (ls' := [some (.ref (o)), some (.int (nI i)), some (.ref (c)), some (.int (nI ((tg T i).2.2.1))), some (.int (nI ((tg T i).2.2.2.1))), some (.int (nI ((tg T i).2.2.2.2)))]) (st' := [.int (nI 0), .int (nI i), .ref (o), .ref (c)]) ⟨dX4_applyBackwards_82, dX4_applyBackwards_83, dX4_applyBackwards_84, dX4_applyBackwards_85, rfl⟩ rfl ?_
        refine ev_cVv Y_X4_part L_RX4_23 dX4_applyBackwards_86 ⟨Nat.le_of_ble_eq_true rfl, Nat.le_of_ble_eq_true rfl, Nat.le_of_ble_eq_true rfl, Nat.le_of_ble_eq_true rfl, Nat.le_of_ble_eq_true rfl⟩ hR2.obj (as := [.int (nI i), .int (nI 0)]) rfl rfl (c_X4_part hl _ _ hR2 (i) (by omega) 0 (by omega)) ?_
        refine ev_put F_RX4_38 dX4_applyBackwards_89 hB1 (Nat.le_of_ble_eq_true rfl) (fun _ _ => ⟨rfl, rfl⟩) ?_
        refine ev_nm (M0 := M7.set (c) (.inr (1, [.int (nI ((tg T i).1)), .long (e1 (cset x (tg T i).2.2.2.1 (cw x (tg T i).2.2.2.1).dropLast).2.1), .long (e1 (cset x (tg T i).2.2.2.1 (cw x (tg T i).2.2.2.1).dropLast).2.2)]))) (fun M8 eM8 => ?_)
        have f9 : M8[o]? = some (.inr (4, [.ref (o + 1), .int (nI (T.length))])) := by rw [eM8, ev_sn (by omega)]; exact hR2.obj
        have f10 : M8[c]? = some (.inr (1, [.int (nI ((tg T i).1)), .long (e1 (cset x (tg T i).2.2.2.1 (cw x (tg T i).2.2.2.1).dropLast).2.1), .long (e1 (cset x (tg T i).2.2.2.1 (cw x (tg T i).2.2.2.1).dropLast).2.2)])) := by rw [eM8]; exact ev_sg hB1
        refine ev_vret dX4_applyBackwards_92 rfl ⟨Nat.le_of_ble_eq_true rfl, Nat.le_of_ble_eq_true rfl⟩ ?_
        have ea : bp (tg T i) x = ((tg T i).1, (cset x (tg T i).2.2.2.1 (cw x (tg T i).2.2.2.1).dropLast).2) := by unfold bp; rw [if_neg q25, if_pos q50, if_pos (of_decide_eq_true q64)]
        rw [ea]
        exact ⟨rfl, f10, hB2.tr ⟨by rw [eM8]; simp only [List.length_set], fun j hj => by rw [eM8, ev_sn (by omega)]⟩⟩
  · rw [show tp (tg T i) 3 = nI (tg T i).2.2.2.1 from tp3 (by omega), show tp (tg T i) 4 = nI (tg T i).2.2.2.2 from tp4 (by omega)]
    refine ev_blk (B := [(.aload_n 2, 1), (.iload 4, 2), (.iload 5, 2), (.aload_n 2, 1), (.iload 4, 2)]) (pe := 36) (ls' := [some (.ref (o)), some (.int (nI i)), some (.ref (c)), some (.int (nI ((tg T i).2.2.1))), some (.int (nI ((tg T i).2.2.2.1))), some (.int (nI ((tg T i).2.2.2.2)))]) (st' := [.int (nI ((tg T i).2.2.2.1)), .ref (c), .int (nI ((tg T i).2.2.2.2)), .int (nI ((tg T i).2.2.2.1)), .ref (c)]) ⟨dX4_applyBackwards_28, dX4_applyBackwards_29, dX4_applyBackwards_31, dX4_applyBackwards_33, dX4_applyBackwards_34, rfl⟩ rfl ?_
    refine ev_cVv Y_X1_word L_RX4_43 dX4_applyBackwards_36 ⟨Nat.le_of_ble_eq_true rfl, Nat.le_of_ble_eq_true rfl, Nat.le_of_ble_eq_true rfl, Nat.le_of_ble_eq_true rfl, Nat.le_of_ble_eq_true rfl⟩ hF (as := [.int (nI ((tg T i).2.2.2.1))]) rfl rfl (c_X1_word hl _ _ hF ((tg T i).2.2.2.1) (by omega)) ?_
    refine ev_cSv Y_X9_prepend L_RX4_72 dX4_applyBackwards_39 ⟨Nat.le_of_ble_eq_true rfl, Nat.le_of_ble_eq_true rfl, Nat.le_of_ble_eq_true rfl, Nat.le_of_ble_eq_true rfl, Nat.le_of_ble_eq_true rfl⟩ (as := [.int (nI ((tg T i).2.2.2.2)), .long (e1 (cw x ((tg T i).2.2.2.1)))]) rfl rfl (c_X9_prepend hl _ (cw_ok hx _).1 (Nat.le_trans (cw_ok hx _).2 (by omega)) _ (by omega)) ?_
    refine ev_cVn Y_X1_setWord L_RX4_65 dX4_applyBackwards_42 ⟨Nat.le_of_ble_eq_true rfl, Nat.le_of_ble_eq_true rfl, Nat.le_of_ble_eq_true rfl, Nat.le_of_ble_eq_true rfl, Nat.le_of_ble_eq_true rfl⟩ hF (as := [.int (nI ((tg T i).2.2.2.1)), .long (e1 ((tg T i).2.2.2.2 :: cw x (tg T i).2.2.2.1))]) rfl rfl (c_X1_setWord hl _ _ hF _ (by omega) _) (fun M11 hL11 hB11 => ?_)
    obtain ⟨hB1, hB2⟩ := hB11
    have hR2 := hR.fr hB2 (by omega)
    refine ev_goto (tgt := 82) dX4_applyBackwards_45 (by decide) ?_
    refine ev_blk (B := [(.aload_n 2, 1), (.aload_n 0, 1), (.iload_n 1, 1), (.iconst 0, 1)]) (pe := 86) (ls' := [some (.ref (o)), some (.int (nI i)), some (.ref (c)), some (.int (nI ((tg T i).2.2.1))), some (.int (nI ((tg T i).2.2.2.1))), some (.int (nI ((tg T i).2.2.2.2)))]) (st' := [.int (nI 0), .int (nI i), .ref (o), .ref (c)]) ⟨dX4_applyBackwards_82, dX4_applyBackwards_83, dX4_applyBackwards_84, dX4_applyBackwards_85, rfl⟩ rfl ?_
    refine ev_cVv Y_X4_part L_RX4_23 dX4_applyBackwards_86 ⟨Nat.le_of_ble_eq_true rfl, Nat.le_of_ble_eq_true rfl, Nat.le_of_ble_eq_true rfl, Nat.le_of_ble_eq_true rfl, Nat.le_of_ble_eq_true rfl⟩ hR2.obj (as := [.int (nI i), .int (nI 0)]) rfl rfl (c_X4_part hl _ _ hR2 (i) (by omega) 0 (by omega)) ?_
    refine ev_put F_RX4_38 dX4_applyBackwards_89 hB1 (Nat.le_of_ble_eq_true rfl) (fun _ _ => ⟨rfl, rfl⟩) ?_
    refine ev_nm (M0 := M11.set (c) (.inr (1, [.int (nI ((tg T i).1)), .long (e1 (cset x (tg T i).2.2.2.1 ((tg T i).2.2.2.2 :: cw x (tg T i).2.2.2.1)).2.1), .long (e1 (cset x (tg T i).2.2.2.1 ((tg T i).2.2.2.2 :: cw x (tg T i).2.2.2.1)).2.2)]))) (fun M12 eM12 => ?_)
    have f13 : M12[o]? = some (.inr (4, [.ref (o + 1), .int (nI (T.length))])) := by rw [eM12, ev_sn (by omega)]; exact hR2.obj
    have f14 : M12[c]? = some (.inr (1, [.int (nI ((tg T i).1)), .long (e1 (cset x (tg T i).2.2.2.1 ((tg T i).2.2.2.2 :: cw x (tg T i).2.2.2.1)).2.1), .long (e1 (cset x (tg T i).2.2.2.1 ((tg T i).2.2.2.2 :: cw x (tg T i).2.2.2.1)).2.2)])) := by rw [eM12]; exact ev_sg hB1
    refine ev_vret dX4_applyBackwards_92 rfl ⟨Nat.le_of_ble_eq_true rfl, Nat.le_of_ble_eq_true rfl⟩ ?_
    have ea : bp (tg T i) x = ((tg T i).1, (cset x (tg T i).2.2.2.1 ((tg T i).2.2.2.2 :: cw x (tg T i).2.2.2.1)).2) := if_pos q25
    rw [ea]
    exact ⟨rfl, f14, hB2.tr ⟨by rw [eM12]; simp only [List.length_set], fun j hj => by rw [eM12, ev_sn (by omega)]⟩⟩

