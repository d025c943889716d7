theorem PM.nil {M : ev_M} {o : Nat} {L : List Cf} (h : PM M o L) : PM M o [] := by
  obtain ⟨f, g, h, a1, a2, a3, a4⟩ := h
  exact ⟨f, g, h, a1, a2, a3, fun i hi => absurd hi (Nat.not_lt_zero _)⟩
set_option maxHeartbeats 4000000 in
set_option maxRecDepth 100000 in
theorem c_R_next_i {l : Launch} (hl : l.stackTraces = false)  (o : Nat) (zl : Nat → Int64) (zi0 : Nat → Int32) (bs bn : Nat → Int32) (bf b2 : Nat → Int64) (k : Nat) (hk13 : k < 13) (B : List Cf) (hB30 : B.length ≤ 30) (hB : cfs 23 B) (hbn : bn k = nI B.length) (hQ : QP (30 * k) B.length bs bf b2 B) (fT : Nat → Int32) (T : List Tr) (hPT : RP5 T.length fT T) (hT10 : T.length ≤ 10) (hT : trs T) (t : Nat) (ht : t < T.length) (L0 : List Cf) (hL0 : cfs 24 L0) (hl0 : L0.length ≤ 30 + t * 30) (M0 : ev_M) (Q : ev_R → ev_M → Prop) (hk : ∀ (M : ev_M) (zi : Nat → Int32) (i : Nat), M[o]? = some (.inr (10, zo o zi zl)) → zi 28 = nI (rin T t B B.length L0).length → (∀ j, j ≠ 28 → zi j = zi0 j) → PM M o (rin T t B B.length L0) → FM o M0 M → M[o + 11]? = some (.inl (0, 390, .inl bs)) → M[o + 12]? = some (.inl (0, 13, .inl bn)) → M[o + 14]? = some (.inl (1, 390, .inr (.inl bf))) → M[o + 15]? = some (.inl (1, 390, .inr (.inl b2))) → M[o + 1]? = some (.inl (0, 50, .inl fT)) → ev_ l m_X11_makesNext 0 0 119 [some (.ref (o)), some (.int (nI k)), some (.int (nI t)), some (.int (nI i))] [] M Q) : ∀ (n9 : Nat) (i : Nat) (M : ev_M) (zi : Nat → Int32), i ≤ B.length → M[o]? = some (.inr (10, zo o zi zl)) → zi 28 = nI (rin T t B i L0).length → (∀ j, j ≠ 28 → zi j = zi0 j) → PM M o (rin T t B i L0) → FM o M0 M → M[o + 11]? = some (.inl (0, 390, .inl bs)) → M[o + 12]? = some (.inl (0, 13, .inl bn)) → M[o + 14]? = some (.inl (1, 390, .inr (.inl bf))) → M[o + 15]? = some (.inl (1, 390, .inr (.inl b2))) → M[o + 1]? = some (.inl (0, 50, .inl fT)) → B.length - i < n9 → ev_ l m_X11_makesNext 0 0 72 [some (.ref (o)), some (.int (nI k)), some (.int (nI t)), some (.int (nI i))] [] M (Q) := by
  intro n9
  induction n9 with
  | zero => intro i M zi hi hO h28 hz hPM hF b11 b12 b14 b15 hfT hm9; exact absurd hm9 (by omega)
  | succ n9 ih =>
    intro i M zi hi hO h28 hz hPM hF b11 b12 b14 b15 hfT hm9
    have hto := trs_tg hT ht
    have hy2 := hto.2.1
    refine ev_blk (B := [(.iload_n 3, 1), (.aload_n 0, 1)]) (pe := 74) (ls' := [some (.ref (o)), some (.int (nI k)), some (.int (nI t)), some (.int (nI i))]) (st' := [.ref (o), .int (nI i)]) ⟨dX11_makesNext_72, dX11_makesNext_73, rfl⟩ rfl ?_
    refine ev_getf (v := .ref (o + 12)) F_RX11_44 dX11_makesNext_74 hO rfl ?_
    refine ev_blk (B := [(.iload_n 1, 1)]) (pe := 78) (ls' := [some (.ref (o)), some (.int (nI k)), some (.int (nI t)), some (.int (nI i))]) (st' := [.int (nI k), .ref (o + 12), .int (nI i)]) ⟨dX11_makesNext_77, rfl⟩ rfl ?_
    refine ev_iald dX11_makesNext_78 b12 (vp_in_nI (show k < 13 by omega) (by omega)) ?_
    rw [nI_clamp (show k < 2 ^ 31 by omega)]
    rw [show bn k = nI (B.length) from hbn]
    refine ev_iN_ge dX11_makesNext_79 (tgt := 119) (by decide) (by omega) (by omega) (fun q79 => ?_) (fun q79 => ?_)
    · have e7 : i = B.length := by omega
      subst e7
      exact hk M zi _ hO h28 hz hPM hF b11 b12 b14 b15 hfT
    · have hc6 := (cfs_cg hB (show i < B.length by omega)).1
      refine ev_blk (B := [(.aload_n 0, 1)]) (pe := 83) (ls' := [some (.ref (o)), some (.int (nI k)), some (.int (nI t)), some (.int (nI i))]) (st' := [.ref (o)]) ⟨dX11_makesNext_82, rfl⟩ rfl ?_
      refine ev_getf (v := .ref (o + 11)) F_RX11_41 dX11_makesNext_83 hO rfl ?_
      refine ev_blk (B := [(.bipush 30, 2), (.iload_n 1, 1), (.imul, 1), (.iload_n 3, 1), (.iadd, 1)]) (pe := 92) (ls' := [some (.ref (o)), some (.int (nI k)), some (.int (nI t)), some (.int (nI i))]) (st' := [.int (nI ((30 * k) + i)), .ref (o + 11)]) ⟨dX11_makesNext_86, dX11_makesNext_88, dX11_makesNext_89, dX11_makesNext_90, dX11_makesNext_91, rfl⟩ (by show some (([some (.ref (o)), some (.int (nI k)), some (.int (nI t)), some (.int (nI i))] : ev_L), ([.int (((nI 30) * (nI k)) + (nI i)), .ref (o + 11)] : List Value)) = _; rw [pk_mul 30 k, nI_add (30 * k) i]) ?_
      refine ev_iald dX11_makesNext_92 b11 (vp_in_nI (show (30 * k) + i < 390 by omega) (by omega)) ?_
      rw [nI_clamp (show (30 * k) + i < 2 ^ 31 by omega)]
      rw [show bs ((30 * k) + i) = nI ((cg B i).1) from (hQ i (by omega)).1]
      refine ev_blk (B := [(.aload_n 0, 1), (.iload_n 2, 1), (.iconst 1, 1)]) (pe := 96) (ls' := [some (.ref (o)), some (.int (nI k)), some (.int (nI t)), some (.int (nI i))]) (st' := [.int (nI 1), .int (nI t), .ref (o), .int (nI ((cg B i).1))]) ⟨dX11_makesNext_93, dX11_makesNext_94, dX11_makesNext_95, rfl⟩ rfl ?_
      refine ev_cVv Y_X11_partOf L_RX11_155 dX11_makesNext_96 ⟨Nat.le_of_ble_eq_true rfl, Nat.le_of_ble_eq_true rfl, Nat.le_of_ble_eq_true rfl, Nat.le_of_ble_eq_true rfl, Nat.le_of_ble_eq_true rfl⟩ hO (as := [.int (nI t), .int (nI 1)]) rfl rfl (c_R_partOf hl o (zi) (zl) hO _ hfT T hPT hT10 t (by omega) 1 (by decide)) ?_
      refine ev_iN_ne dX11_makesNext_99 (tgt := 113) (by decide) (by omega) (by omega) (fun q99 => ?_) (fun q99 => ?_)
      · refine ev_blk (B := [(.iinc 3 1, 3)]) (pe := 116) (ls' := [some (.ref (o)), some (.int (nI k)), some (.int (nI t)), some (.int (nI (i + 1)))]) (st' := []) ⟨dX11_makesNext_113, rfl⟩ (by show some (([some (.ref (o)), some (.int (nI k)), some (.int (nI t)), some (.int ((nI i) + Int32.ofInt (1)))] : ev_L), ([] : List Value)) = _; rw [ev_inc1 i]) ?_
        refine ev_goto (tgt := 72) dX11_makesNext_116 (by decide) ?_
        have e9 : rin T t B (i + 1) L0 = rin T t B i L0 := if_neg q99
        exact ih (i + 1) M zi (by omega) hO (by rw [e9]; exact h28) hz (by rw [e9]; exact hPM) hF b11 b12 b14 b15 hfT (by omega)
      · refine ev_blk (B := [(.aload_n 0, 1), (.iload_n 2, 1), (.bipush 30, 2), (.iload_n 1, 1), (.imul, 1), (.iload_n 3, 1), (.iadd, 1)]) (pe := 110) (ls' := [some (.ref (o)), some (.int (nI k)), some (.int (nI t)), some (.int (nI i))]) (st' := [.int (nI ((30 * k) + i)), .int (nI t), .ref (o)]) ⟨dX11_makesNext_102, dX11_makesNext_103, dX11_makesNext_104, dX11_makesNext_106, dX11_makesNext_107, dX11_makesNext_108, dX11_makesNext_109, rfl⟩ (by show some (([some (.ref (o)), some (.int (nI k)), some (.int (nI t)), some (.int (nI i))] : ev_L), ([.int (((nI 30) * (nI k)) + (nI i)), .int (nI t), .ref (o)] : List Value)) = _; rw [pk_mul 30 k, nI_add (30 * k) i]) ?_
        have hcx := cfs_cg hB (show i < B.length by omega)
        have hln := rin_len (T := T) (t := t) (B := B) (L := L0) i
        refine ev_cVn Y_X11_makesAhead L_RX11_245 dX11_makesNext_110 ⟨Nat.le_of_ble_eq_true rfl, Nat.le_of_ble_eq_true rfl, Nat.le_of_ble_eq_true rfl, Nat.le_of_ble_eq_true rfl, Nat.le_of_ble_eq_true rfl⟩ hO (as := [.int (nI t), .int (nI ((30 * k) + i))]) rfl rfl (c_R_makesAhead hl o zi zl hO fT hfT T hPT hT10 hT t ht (rin T t B i L0) (by omega) ((rin_ok hT ht hB hL0 i (by omega)).le (by omega)) h28 hPM bf b2 b14 b15 (30 * k + i) (by omega) (cg B i) (hcx.le (by omega)) ⟨(hQ i (by omega)).2.1, (hQ i (by omega)).2.2⟩) (fun M1 hL1 hB1 => ?_)
        obtain ⟨Ai, A0, A28, AK, AM, AF⟩ := hB1
        refine ev_blk (B := [(.iinc 3 1, 3)]) (pe := 116) (ls' := [some (.ref (o)), some (.int (nI k)), some (.int (nI t)), some (.int (nI (i + 1)))]) (st' := []) ⟨dX11_makesNext_113, rfl⟩ (by show some (([some (.ref (o)), some (.int (nI k)), some (.int (nI t)), some (.int ((nI i) + Int32.ofInt (1)))] : ev_L), ([] : List Value)) = _; rw [ev_inc1 i]) ?_
        refine ev_goto (tgt := 72) dX11_makesNext_116 (by decide) ?_
        have e9 : rin T t B (i + 1) L0 = (im (rin T t B i L0) (bp (tg T t) (cg B i))).2 := if_pos q99
        exact ih (i + 1) _ _ (by omega) A0 (by rw [e9]; exact A28) (fun j hj => (AK j hj).trans (hz j hj)) (by rw [e9]; exact AM) (hF.tr AF) (AF.at b11 (by omega) (by omega) (by omega) (by omega)) (AF.at b12 (by omega) (by omega) (by omega) (by omega)) (AF.at b14 (by omega) (by omega) (by omega) (by omega)) (AF.at b15 (by omega) (by omega) (by omega) (by omega)) (AF.at hfT (by omega) (by omega) (by omega) (by omega)) (by omega)

set_option maxHeartbeats 4000000 in
set_option maxRecDepth 100000 in
theorem c_R_next_t {l : Launch} (hl : l.stackTraces = false)  (o : Nat) (zl : Nat → Int64) (zi0 : Nat → Int32) (bs bn : Nat → Int32) (bf b2 : Nat → Int64) (k : Nat) (hk13 : k < 13) (B : List Cf) (hB30 : B.length ≤ 30) (hB : cfs 23 B) (hbn : bn k = nI B.length) (hQ : QP (30 * k) B.length bs bf b2 B) (fT : Nat → Int32) (T : List Tr) (hPT : RP5 T.length fT T) (hT10 : T.length ≤ 10) (hT : trs T) (h2 : zi0 2 = nI T.length) (M0 : ev_M) : ∀ (n9 : Nat) (t : Nat) (M : ev_M) (zi : Nat → Int32), t ≤ T.length → M[o]? = some (.inr (10, zo o zi zl)) → zi 28 = nI (rot T B t).length → (∀ j, j ≠ 28 → zi j = zi0 j) → PM M o (rot T B t) → FM o M0 M → M[o + 11]? = some (.inl (0, 390, .inl bs)) → M[o + 12]? = some (.inl (0, 13, .inl bn)) → M[o + 14]? = some (.inl (1, 390, .inr (.inl bf))) → M[o + 15]? = some (.inl (1, 390, .inr (.inl b2))) → M[o + 1]? = some (.inl (0, 50, .inl fT)) → T.length - t < n9 → ev_ l m_X11_makesNext 0 0 62 [some (.ref (o)), some (.int (nI k)), some (.int (nI t)), none] [] M (fun r M1 => r = .inl none ∧ ∃ zi', M1[o]? = some (.inr (10, zo o zi' zl)) ∧ zi' 28 = nI (rot T B T.length).length ∧ (∀ j, j ≠ 28 → zi' j = zi0 j) ∧ PM M1 o (rot T B T.length) ∧ FM o M0 M1) := by
  intro n9
  induction n9 with
  | zero => intro t M zi ht hO h28 hz hPM hF b11 b12 b14 b15 hfT hm9; exact absurd hm9 (by omega)
  | succ n9 ih =>
    intro t M zi ht hO h28 hz hPM hF b11 b12 b14 b15 hfT hm9
    refine ev_blk (B := [(.iload_n 2, 1), (.aload_n 0, 1)]) (pe := 64) (ls' := [some (.ref (o)), some (.int (nI k)), some (.int (nI t)), none]) (st' := [.ref (o), .int (nI t)]) ⟨dX11_makesNext_62, dX11_makesNext_63, rfl⟩ rfl ?_
    refine ev_getf (v := .int (nI (T.length))) F_RX11_123 dX11_makesNext_64 hO (congrArg (fun q => some (Value.int q)) ((hz 2 (by decide)).trans h2)) ?_
    refine ev_iN_ge dX11_makesNext_67 (tgt := 125) (by decide) (by omega) (by omega) (fun q67 => ?_) (fun q67 => ?_)
    · refine ev_vret dX11_makesNext_125 rfl ⟨Nat.le_of_ble_eq_true rfl, Nat.le_of_ble_eq_true rfl⟩ ?_
      have e7 : t = T.length := by omega
      subst e7
      exact ⟨rfl, zi, hO, h28, hz, hPM, hF⟩
    · refine ev_blk (B := [(.iconst 0, 1), (.istore_n 3, 1)]) (pe := 72) (ls' := [some (.ref (o)), some (.int (nI k)), some (.int (nI t)), some (.int (nI 0))]) (st' := []) ⟨dX11_makesNext_70, dX11_makesNext_71, rfl⟩ rfl ?_
      have hrl := rot_len (T := T) (B := B) t
      have hrm : t * B.length ≤ t * 30 := Nat.mul_le_mul_left _ hB30
      refine c_R_next_i hl o zl zi0 bs bn bf b2 k hk13 B hB30 hB hbn hQ fT T hPT hT10 hT t (by omega) (rot T B t) (rot_ok hT hB t (by omega)) (by omega) M0 _ (fun M1 z1 i1 a1 a2 a3 a4 a5 a6 a7 a8 a9 a10 => ?_) _ 0 M zi (Nat.zero_le _) hO h28 hz hPM hF b11 b12 b14 b15 hfT (Nat.lt_succ_self _)
      refine ev_blk (B := [(.iinc 2 1, 3)]) (pe := 122) (ls' := [some (.ref (o)), some (.int (nI k)), some (.int (nI (t + 1))), some (.int (nI i1))]) (st' := []) ⟨dX11_makesNext_119, rfl⟩ (by show some (([some (.ref (o)), some (.int (nI k)), some (.int (nI t + Int32.ofInt 1)), some (.int (nI i1))] : ev_L), ([] : List Value)) = _; rw [ev_inc1]) ?_
      refine ev_goto (tgt := 62) dX11_makesNext_122 (by decide) ?_
      refine ev_fgt (ls' := [some (.ref (o)), some (.int (nI k)), some (.int (nI (t + 1))), none]) ⟨Or.inr rfl, Or.inr rfl, Or.inr rfl, Or.inl rfl, trivial⟩ ?_
      exact ih (t + 1) M1 z1 (by omega) a1 a2 a3 a4 a5 a6 a7 a8 a9 a10 (by omega)

set_option maxHeartbeats 4000000 in
set_option maxRecDepth 100000 in
theorem c_R_next_b {l : Launch} (hl : l.stackTraces = false)  (o : Nat) (zl : Nat → Int64) (zi0 : Nat → Int32) (bs bn : Nat → Int32) (bf b2 : Nat → Int64) (k : Nat) (hk13 : k < 13) (B : List Cf) (hB30 : B.length ≤ 30) (hB : cfs 23 B) (hbn : bn k = nI B.length) (hQ : QP (30 * k) B.length bs bf b2 B) (fT : Nat → Int32) (T : List Tr) (hPT : RP5 T.length fT T) (hT10 : T.length ≤ 10) (hT : trs T) (h2 : zi0 2 = nI T.length) (M0 : ev_M) : ∀ (n9 : Nat) (i : Nat) (M : ev_M) (zi : Nat → Int32), i ≤ B.length → M[o]? = some (.inr (10, zo o zi zl)) → zi 28 = nI (gsn B i).length → (∀ j, j ≠ 28 → zi j = zi0 j) → PM M o (gsn B i) → FM o M0 M → M[o + 11]? = some (.inl (0, 390, .inl bs)) → M[o + 12]? = some (.inl (0, 13, .inl bn)) → M[o + 14]? = some (.inl (1, 390, .inr (.inl bf))) → M[o + 15]? = some (.inl (1, 390, .inr (.inl b2))) → M[o + 1]? = some (.inl (0, 50, .inl fT)) → B.length - i < n9 → ev_ l m_X11_makesNext 0 0 7 [some (.ref (o)), some (.int (nI k)), some (.int (nI i)), none] [] M (fun r M1 => r = .inl none ∧ ∃ zi', M1[o]? = some (.inr (10, zo o zi' zl)) ∧ zi' 28 = nI (rot T B T.length).length ∧ (∀ j, j ≠ 28 → zi' j = zi0 j) ∧ PM M1 o (rot T B T.length) ∧ FM o M0 M1) := by
  intro n9
  induction n9 with
  | zero => intro i M zi hi hO h28 hz hPM hF b11 b12 b14 b15 hfT hm9; exact absurd hm9 (by omega)
  | succ n9 ih =>
    intro i M zi hi hO h28 hz hPM hF b11 b12 b14 b15 hfT hm9
    refine ev_blk (B := [(.iload_n 2, 1), (.aload_n 0, 1)]) (pe := 9) (ls' := [some (.ref (o)), some (.int (nI k)), some (.int (nI i)), none]) (st' := [.ref (o), .int (nI i)]) ⟨dX11_makesNext_7, dX11_makesNext_8, rfl⟩ rfl ?_
    refine ev_getf (v := .ref (o + 12)) F_RX11_44 dX11_makesNext_9 hO rfl ?_
    refine ev_blk (B := [(.iload_n 1, 1)]) (pe := 13) (ls' := [some (.ref (o)), some (.int (nI k)), some (.int (nI i)), none]) (st' := [.int (nI k), .ref (o + 12), .int (nI i)]) ⟨dX11_makesNext_12, rfl⟩ rfl ?_
    refine ev_iald dX11_makesNext_13 b12 (vp_in_nI (show k < 13 by omega) (by omega)) ?_
    rw [nI_clamp (show k < 2 ^ 31 by omega)]
    rw [show bn k = nI (B.length) from hbn]
    refine ev_iN_ge dX11_makesNext_14 (tgt := 60) (by decide) (by omega) (by omega) (fun q14 => ?_) (fun q14 => ?_)
    · refine ev_blk (B := [(.iconst 0, 1), (.istore_n 2, 1)]) (pe := 62) (ls' := [some (.ref (o)), some (.int (nI k)), some (.int (nI 0)), none]) (st' := []) ⟨dX11_makesNext_60, dX11_makesNext_61, rfl⟩ rfl ?_
      have e7 : i = B.length := by omega
      subst e7
      exact c_R_next_t hl o zl zi0 bs bn bf b2 k hk13 B hB30 hB hbn hQ fT T hPT hT10 hT h2 M0 _ 0 M zi (Nat.zero_le _) hO h28 hz hPM hF b11 b12 b14 b15 hfT (Nat.lt_succ_self _)
    · refine ev_blk (B := [(.aload_n 0, 1), (.aload_n 0, 1)]) (pe := 19) (ls' := [some (.ref (o)), some (.int (nI k)), some (.int (nI i)), none]) (st' := [.ref (o), .ref (o)]) ⟨dX11_makesNext_17, dX11_makesNext_18, rfl⟩ rfl ?_
      refine ev_getf (v := .ref (o + 11)) F_RX11_41 dX11_makesNext_19 hO rfl ?_
      refine ev_blk (B := [(.bipush 30, 2), (.iload_n 1, 1), (.imul, 1), (.iload_n 2, 1), (.iadd, 1)]) (pe := 28) (ls' := [some (.ref (o)), some (.int (nI k)), some (.int (nI i)), none]) (st' := [.int (nI ((30 * k) + i)), .ref (o + 11), .ref (o)]) ⟨dX11_makesNext_22, dX11_makesNext_24, dX11_makesNext_25, dX11_makesNext_26, dX11_makesNext_27, rfl⟩ (by show some (([some (.ref (o)), some (.int (nI k)), some (.int (nI i)), none] : ev_L), ([.int (((nI 30) * (nI k)) + (nI i)), .ref (o + 11), .ref (o)] : List Value)) = _; rw [pk_mul 30 k, nI_add (30 * k) i]) ?_
      refine ev_iald dX11_makesNext_28 b11 (vp_in_nI (show (30 * k) + i < 390 by omega) (by omega)) ?_
      rw [nI_clamp (show (30 * k) + i < 2 ^ 31 by omega)]
      rw [show bs ((30 * k) + i) = nI ((cg B i).1) from (hQ i (by omega)).1]
      refine ev_blk (B := [(.aload_n 0, 1)]) (pe := 30) (ls' := [some (.ref (o)), some (.int (nI k)), some (.int (nI i)), none]) (st' := [.ref (o), .int (nI ((cg B i).1)), .ref (o)]) ⟨dX11_makesNext_29, rfl⟩ rfl ?_
      refine ev_getf (v := .ref (o + 14)) F_RX11_50 dX11_makesNext_30 hO rfl ?_
      refine ev_blk (B := [(.bipush 30, 2), (.iload_n 1, 1), (.imul, 1), (.iload_n 2, 1), (.iadd, 1)]) (pe := 39) (ls' := [some (.ref (o)), some (.int (nI k)), some (.int (nI i)), none]) (st' := [.int (nI ((30 * k) + i)), .ref (o + 14), .int (nI ((cg B i).1)), .ref (o)]) ⟨dX11_makesNext_33, dX11_makesNext_35, dX11_makesNext_36, dX11_makesNext_37, dX11_makesNext_38, rfl⟩ (by show some (([some (.ref (o)), some (.int (nI k)), some (.int (nI i)), none] : ev_L), ([.int (((nI 30) * (nI k)) + (nI i)), .ref (o + 14), .int (nI ((cg B i).1)), .ref (o)] : List Value)) = _; rw [pk_mul 30 k, nI_add (30 * k) i]) ?_
      refine ev_lald dX11_makesNext_39 b14 (vp_in_nI (show (30 * k) + i < 390 by omega) (by omega)) ?_
      rw [nI_clamp (show (30 * k) + i < 2 ^ 31 by omega)]
      rw [show bf ((30 * k) + i) = e2 (cg B i).2.1 from (hQ i (by omega)).2.1]
      refine ev_blk (B := [(.aload_n 0, 1)]) (pe := 41) (ls' := [some (.ref (o)), some (.int (nI k)), some (.int (nI i)), none]) (st' := [.ref (o), .long (e2 (cg B i).2.1), .int (nI ((cg B i).1)), .ref (o)]) ⟨dX11_makesNext_40, rfl⟩ rfl ?_
      refine ev_getf (v := .ref (o + 15)) F_RX11_53 dX11_makesNext_41 hO rfl ?_
      refine ev_blk (B := [(.bipush 30, 2), (.iload_n 1, 1), (.imul, 1), (.iload_n 2, 1), (.iadd, 1)]) (pe := 50) (ls' := [some (.ref (o)), some (.int (nI k)), some (.int (nI i)), none]) (st' := [.int (nI ((30 * k) + i)), .ref (o + 15), .long (e2 (cg B i).2.1), .int (nI ((cg B i).1)), .ref (o)]) ⟨dX11_makesNext_44, dX11_makesNext_46, dX11_makesNext_47, dX11_makesNext_48, dX11_makesNext_49, rfl⟩ (by show some (([some (.ref (o)), some (.int (nI k)), some (.int (nI i)), none] : ev_L), ([.int (((nI 30) * (nI k)) + (nI i)), .ref (o + 15), .long (e2 (cg B i).2.1), .int (nI ((cg B i).1)), .ref (o)] : List Value)) = _; rw [pk_mul 30 k, nI_add (30 * k) i]) ?_
      refine ev_lald dX11_makesNext_50 b15 (vp_in_nI (show (30 * k) + i < 390 by omega) (by omega)) ?_
      rw [nI_clamp (show (30 * k) + i < 2 ^ 31 by omega)]
      rw [show b2 ((30 * k) + i) = e2 (cg B i).2.2 from (hQ i (by omega)).2.2]
      have hln := gsn_len (G := B) i
      refine ev_cVn Y_X11_makes L_RX11_242 dX11_makesNext_51 ⟨Nat.le_of_ble_eq_true rfl, Nat.le_of_ble_eq_true rfl, Nat.le_of_ble_eq_true rfl, Nat.le_of_ble_eq_true rfl, Nat.le_of_ble_eq_true rfl⟩ hO (as := [.int (nI ((cg B i).1)), .long (e2 (cg B i).2.1), .long (e2 (cg B i).2.2)]) rfl rfl (c_R_makes hl o zi zl hO (gsn B i) (by omega) ((gsn_ok hB i (by omega)).le (by omega)) h28 hPM (cg B i) ((cfs_cg hB (show i < B.length by omega)).le (by omega))) (fun M1 hL1 hB1 => ?_)
      obtain ⟨Ai, A0, A28, AK, AM, AF⟩ := hB1
      refine ev_blk (B := [(.iinc 2 1, 3)]) (pe := 57) (ls' := [some (.ref (o)), some (.int (nI k)), some (.int (nI (i + 1))), none]) (st' := []) ⟨dX11_makesNext_54, rfl⟩ (by show some (([some (.ref (o)), some (.int (nI k)), some (.int ((nI i) + Int32.ofInt (1))), none] : ev_L), ([] : List Value)) = _; rw [ev_inc1 i]) ?_
      refine ev_goto (tgt := 7) dX11_makesNext_57 (by decide) ?_
      exact ih (i + 1) _ _ (by omega) A0 A28 (fun j hj => (AK j hj).trans (hz j hj)) AM (hF.tr AF) (AF.at b11 (by omega) (by omega) (by omega) (by omega)) (AF.at b12 (by omega) (by omega) (by omega) (by omega)) (AF.at b14 (by omega) (by omega) (by omega) (by omega)) (AF.at b15 (by omega) (by omega) (by omega) (by omega)) (AF.at hfT (by omega) (by omega) (by omega) (by omega)) (by omega)

set_option maxHeartbeats 4000000 in
set_option maxRecDepth 100000 in
theorem c_R_makesNext {l : Launch} (hl : l.stackTraces = false) {M : ev_M} (o : Nat) (zi : Nat → Int32) (zl : Nat → Int64) (hO : M[o]? = some (.inr (10, zo o zi zl))) (fT : Nat → Int32) (T : List Tr) (hPT : RP5 T.length fT T) (hT10 : T.length ≤ 10) (hT : trs T) (hfT : M[o + 1]? = some (.inl (0, 50, .inl fT))) (h2 : zi 2 = nI T.length) (k : Nat) (hk13 : k < 13) (B : List Cf) (hB30 : B.length ≤ 30) (hB : cfs 23 B) (hPB : PB M o k B) (L : List Cf) (hPM : PM M o L) : ev_Mt l m_X11_makesNext [.ref (o), .int (nI k)] M (fun r M1 => r = .inl none ∧ ∃ zi', M1[o]? = some (.inr (10, zo o zi' zl)) ∧ zi' 28 = nI (rot T B T.length).length ∧ (∀ j, j ≠ 28 → zi' j = zi j) ∧ PM M1 o (rot T B T.length) ∧ FM o M M1) := by
  obtain ⟨bs, bn, bf, b2, b11, b12, b14, b15, hbn, hQ⟩ := hPB
  refine ev_body hl rfl (by decide +kernel) (Nat.le_of_ble_eq_true rfl) ?_
  show ev_ l m_X11_makesNext 0 0 0 [some (.ref (o)), some (.int (nI k)), none, none] [] M _
  refine ev_blk (B := [(.aload_n 0, 1), (.iconst 0, 1)]) (pe := 2) (ls' := [some (.ref (o)), some (.int (nI k)), none, none]) (st' := [.int (nI 0), .ref (o)]) ⟨dX11_makesNext_0, dX11_makesNext_1, rfl⟩ rfl ?_
  refine ev_put F_RX11_231 dX11_makesNext_2 hO (Nat.le_of_ble_eq_true rfl) (fun _ _ => ⟨rfl, rfl⟩) ?_
  rw [zs_28]
  refine ev_nm (M0 := M.set (o) (.inr (10, zo o (ui (zi) 28 (nI 0)) (zl)))) (fun M1 eM1 => ?_)
  have f2 : M1[o]? = some (.inr (10, zo o (ui (zi) 28 (nI 0)) (zl))) := by rw [eM1]; exact ev_sg hO
  have f3 : M1[o + 11]? = some (.inl (0, 390, .inl (bs))) := by rw [eM1, ev_sn (by omega)]; exact b11
  have f4 : M1[o + 12]? = some (.inl (0, 13, .inl (bn))) := by rw [eM1, ev_sn (by omega)]; exact b12
  have f5 : M1[o + 14]? = some (.inl (1, 390, .inr (.inl (bf)))) := by rw [eM1, ev_sn (by omega)]; exact b14
  have f6 : M1[o + 15]? = some (.inl (1, 390, .inr (.inl (b2)))) := by rw [eM1, ev_sn (by omega)]; exact b15
  have f7 : M1[o + 1]? = some (.inl (0, 50, .inl (fT))) := by rw [eM1, ev_sn (by omega)]; exact hfT
  refine ev_blk (B := [(.iconst 0, 1), (.istore_n 2, 1)]) (pe := 7) (ls' := [some (.ref (o)), some (.int (nI k)), some (.int (nI 0)), none]) (st' := []) ⟨dX11_makesNext_5, dX11_makesNext_6, rfl⟩ rfl ?_
  have W8 : FX o (o + 31) (o + 31) M M1 := ⟨by rw [eM1]; simp only [List.length_set], fun j hj1 hj2 => by rw [eM1, ev_sn (by omega)]⟩
  refine ev_mono (fun r M9 hq => ?_) (c_R_next_b hl o zl (ui zi 28 (nI 0)) bs bn bf b2 k hk13 B hB30 hB hbn hQ fT T hPT hT10 hT h2 M1 _ 0 _ _ (Nat.zero_le _) f2 rfl (fun _ _ => rfl) (PM.nil (hPM.fx W8 (by omega))) FM.rf f3 f4 f5 f6 f7 (Nat.lt_succ_self _))
  obtain ⟨q1, zi2, q2, q3, q4, q5, q6⟩ := hq
  exact ⟨q1, zi2, q2, q3, fun j hj => (q4 j hj).trans (ui_ne hj), q5, (FM.of W8 (Nat.le_refl _)).tr q6⟩

