/-! ===== the reference: predecessors, the next basis ===== -/
def wa (w : List Nat) (act lt : Nat) : List Nat := if act = 1 then (if w.getLast? = some lt then w.dropLast else w) else lt :: w
theorem wr_m {w : List Nat} (hw : wk w) (hn : w.length ≤ 25) : e2 w - e2 w / 4 * 4 = lN (n2 w % 4) := by
  show lN (n2 w) - lN (n2 w) / 4 * 4 = _
  rw [show (4 : Int64) = lN 4 from rfl, pk_lRem (r2_63 hw hn) (by decide) (by decide)]
theorem wr_d {w : List Nat} (hw : wk w) (hn : w.length ≤ 25) : e2 w / 4 = e2 w.dropLast := by
  show lN (n2 w) / 4 = lN (n2 w.dropLast)
  rw [show (4 : Int64) = lN 4 from rfl, pk_lDiv (r2_63 hw hn) (by decide) (by decide)]
  by_cases h : w = []
  · subst h; rfl
  · have e := List.dropLast_concat_getLast h
    have := (n2_last w.dropLast (hw _ (List.getLast_mem h))).2
    rw [e] at this
    rw [this]
theorem wr_e {w : List Nat} (hw : wk w) (hn : w.length ≤ 25) {x : Nat} (hx : x < 3) : lN (n2 w % 4) = lN x + 1 ↔ w.getLast? = some x := by
  rw [show (1 : Int64) = lN 1 from rfl, lN_add, wl_eq (Nat.lt_of_lt_of_le (Nat.mod_lt _ (by decide)) (by decide)) (by omega)]
  by_cases h : w = []
  · subst h
    exact ⟨fun q => absurd q (by rw [n2_nil]; omega), fun q => by cases q⟩
  · have e := List.dropLast_concat_getLast h
    have := (n2_last w.dropLast (hw _ (List.getLast_mem h))).1
    rw [e] at this
    rw [this, List.getLast?_eq_some_getLast h, Option.some_inj]
    omega
theorem wr_c {w : List Nat} {x : Nat} : (lN x + 1) * lN (4 ^ w.length) + e2 w = e2 (x :: w) := by
  show (lN x + 1) * lN (4 ^ w.length) + lN (n2 w) = lN (n2 (x :: w))
  rw [show (1 : Int64) = lN 1 from rfl, lN_add, lN_mul, lN_add, n2_cons]
theorem wa_ok {w : List Nat} {k act lt : Nat} (hw : wk w) (hn : w.length ≤ k) (hl : lt < 3) : wk (wa w act lt) ∧ (wa w act lt).length ≤ k + 1 := by
  unfold wa
  split
  · split
    · exact ⟨wk_dl hw, by rw [List.length_dropLast]; omega⟩
    · exact ⟨hw, by omega⟩
  · exact ⟨wk_cons.mpr ⟨hl, hw⟩, by rw [List.length_cons]; omega⟩
theorem bp_0 {t : Tr} {x : Cf} (h : t.2.2.1 = 0) : bp t x = (t.1, x.2.1, x.2.2) := by
  unfold bp; rw [if_neg (by omega), if_neg (by omega)]
theorem bp_1 {t : Tr} {x : Cf} (h : ¬ t.2.2.1 = 0) (h3 : t.2.2.1 < 3) (hc : t.2.2.2.1 = 0) : bp t x = (t.1, wa x.2.1 t.2.2.1 t.2.2.2.2, x.2.2) := by
  unfold bp wa
  rw [cw_0 hc, cst_0 hc, cst_0 hc]
  by_cases q : t.2.2.1 = 2
  · rw [if_pos q, if_neg (show ¬ t.2.2.1 = 1 by omega)]
  · rw [if_neg q, if_pos (show t.2.2.1 = 1 by omega), if_pos (show t.2.2.1 = 1 by omega)]
    split <;> rfl
theorem bp_2 {t : Tr} {x : Cf} (h : ¬ t.2.2.1 = 0) (h3 : t.2.2.1 < 3) (hc : ¬ t.2.2.2.1 = 0) : bp t x = (t.1, x.2.1, wa x.2.2 t.2.2.1 t.2.2.2.2) := by
  unfold bp wa
  rw [cw_1 hc, cst_1 hc, cst_1 hc]
  by_cases q : t.2.2.1 = 2
  · rw [if_pos q, if_neg (show ¬ t.2.2.1 = 1 by omega)]
  · rw [if_neg q, if_pos (show t.2.2.1 = 1 by omega), if_pos (show t.2.2.1 = 1 by omega)]
    split <;> rfl
/-- the predecessors of a basis by one transition, and by all -/
def rin (T : List Tr) (t : Nat) (B : List Cf) : Nat → List Cf → List Cf
  | 0, L => L
  | i + 1, L => if (cg B i).1 = (tg T t).2.1 then (im (rin T t B i L) (bp (tg T t) (cg B i))).2 else rin T t B i L
def rot (T : List Tr) (B : List Cf) : Nat → List Cf
  | 0 => gs B
  | t + 1 => rin T t B B.length (rot T B t)
theorem rin_ok {k : Nat} {T : List Tr} {t : Nat} {B L : List Cf} (hT : trs T) (ht : t < T.length) (hB : cfs k B) (hL : cfs (k + 1) L) (i : Nat) (hi : i ≤ B.length) : cfs (k + 1) (rin T t B i L) := by
  induction i with
  | zero => exact hL
  | succ i ih =>
    show cfs (k + 1) (if (cg B i).1 = (tg T t).2.1 then _ else _)
    split
    · exact im_ok (ih (by omega)) (bp_ok (cfs_cg hB (by omega)) (trs_tg hT ht))
    · exact ih (by omega)
theorem rin_len {T : List Tr} {t : Nat} {B L : List Cf} (i : Nat) : (rin T t B i L).length ≤ L.length + i := by
  induction i with
  | zero => exact Nat.le_refl _
  | succ i ih =>
    show (if (cg B i).1 = (tg T t).2.1 then _ else _ : List Cf).length ≤ _
    split
    · have := im_len (L := rin T t B i L) (c := bp (tg T t) (cg B i)); omega
    · omega
theorem rot_ok {k : Nat} {T : List Tr} {B : List Cf} (hT : trs T) (hB : cfs k B) (t : Nat) (ht : t ≤ T.length) : cfs (k + 1) (rot T B t) := by
  induction t with
  | zero => exact (gsn_ok hB _ (Nat.le_refl _)).le (Nat.le_succ _)
  | succ t ih => exact rin_ok hT (by omega) hB (ih (by omega)) _ (Nat.le_refl _)
theorem rot_len {T : List Tr} {B : List Cf} (t : Nat) : (rot T B t).length ≤ B.length + t * B.length := by
  induction t with
  | zero => have := gsn_len (G := B) B.length; show (gsn B B.length).length ≤ _; omega
  | succ t ih =>
    have := rin_len (T := T) (t := t) (B := B) (L := rot T B t) B.length
    show (rin T t B B.length (rot T B t)).length ≤ _
    rw [Nat.succ_mul]; omega
/-- a row of bases holds a list at a round -/
def PB (M : ev_M) (o k : Nat) (B : List Cf) : Prop := ∃ bs bn bf b2, M[o + 11]? = some (.inl (0, 390, .inl bs)) ∧ M[o + 12]? = some (.inl (0, 13, .inl bn)) ∧ M[o + 14]? = some (.inl (1, 390, .inr (.inl bf))) ∧ M[o + 15]? = some (.inl (1, 390, .inr (.inl b2))) ∧ bn k = nI B.length ∧ QP (30 * k) B.length bs bf b2 B
theorem PB.fm {M M1 : ev_M} {o k : Nat} {B : List Cf} (h : PB M o k B) (hf : FM o M M1) : PB M1 o k B := by
  obtain ⟨bs, bn, bf, b2, a1, a2, a3, a4, a5⟩ := h
  exact ⟨bs, bn, bf, b2, hf.at a1 (by omega) (by omega) (by omega) (by omega), hf.at a2 (by omega) (by omega) (by omega) (by omega), hf.at a3 (by omega) (by omega) (by omega) (by omega), hf.at a4 (by omega) (by omega) (by omega) (by omega), a5⟩
theorem PM.fx {M M1 : ev_M} {o lo hi : Nat} {L : List Cf} (h : PM M o L) (hf : FX o lo hi M M1) (h2 : o + 18 ≤ lo ∨ hi ≤ o + 13) : PM M1 o L := by
  obtain ⟨f, g, h, a1, a2, a3, a4⟩ := h
  exact ⟨f, g, h, hf.at a1 (by omega) (by omega), hf.at a2 (by omega) (by omega), hf.at a3 (by omega) (by omega), a4⟩
set_option maxHeartbeats 4000000 in
set_option maxRecDepth 100000 in
theorem c_R_wordAhead {l : Launch} (hl : l.stackTraces = false) {M : ev_M} (w : List Nat) (hw : wk w) (hn : w.length ≤ 24) (act lt : Nat) (ha : act < 3) (hl9 : lt < 3) : ev_Mt l m_X11_wordAhead [.long (e2 w), .int (nI act), .int (nI lt)] M (ev_q (.inl (some (.long (e2 (wa w act lt))))) M) := by
  refine ev_body hl rfl (by decide +kernel) (Nat.le_of_ble_eq_true rfl) ?_
  show ev_ l m_X11_wordAhead 0 0 0 [some (.long (e2 w)), none, some (.int (nI act)), some (.int (nI lt))] [] M _
  refine ev_blk (B := [(.iload_n 2, 1), (.iconst 1, 1)]) (pe := 2) (ls' := [some (.long (e2 w)), none, some (.int (nI act)), some (.int (nI lt))]) (st' := [.int (nI 1), .int (nI act)]) ⟨dX11_wordAhead_0, dX11_wordAhead_1, rfl⟩ rfl ?_
  refine ev_iN_ne dX11_wordAhead_2 (tgt := 28) (by decide) (by omega) (by omega) (fun q2 => ?_) (fun q2 => ?_)
  · refine ev_blk (B := [(.iload_n 3, 1), (.i2l, 1), (.lconst 1, 1), (.ladd, 1), (.lload_n 0, 1)]) (pe := 33) (ls' := [some (.long (e2 w)), none, some (.int (nI act)), some (.int (nI lt))]) (st' := [.long (e2 w), .long ((lN (lt)) + (1))]) ⟨dX11_wordAhead_28, dX11_wordAhead_29, dX11_wordAhead_30, dX11_wordAhead_31, dX11_wordAhead_32, rfl⟩ (by show some (([some (.long (e2 w)), none, some (.int (nI act)), some (.int (nI lt))] : ev_L), ([.long (e2 w), .long (((nI lt).toInt64) + (1))] : List Value)) = _; rw [nI_l (show lt < 2 ^ 31 by omega)]) ?_
    refine ev_cSv Y_X11_lengthOf L_RX11_111 dX11_wordAhead_33 ⟨Nat.le_of_ble_eq_true rfl, Nat.le_of_ble_eq_true rfl, Nat.le_of_ble_eq_true rfl, Nat.le_of_ble_eq_true rfl, Nat.le_of_ble_eq_true rfl⟩ (as := [.long (e2 w)]) rfl rfl (c_R_lengthOf hl w hw (by omega)) ?_
    refine ev_cSv Y_X11_power L_RX11_115 dX11_wordAhead_36 ⟨Nat.le_of_ble_eq_true rfl, Nat.le_of_ble_eq_true rfl, Nat.le_of_ble_eq_true rfl, Nat.le_of_ble_eq_true rfl, Nat.le_of_ble_eq_true rfl⟩ (as := [.int (nI (w.length))]) rfl rfl (c_R_power hl w.length (by omega)) ?_
    refine ev_blk (B := [(.lmul, 1), (.lload_n 0, 1), (.ladd, 1)]) (pe := 42) (ls' := [some (.long (e2 w)), none, some (.int (nI act)), some (.int (nI lt))]) (st' := [.long (e2 (lt :: w))]) ⟨dX11_wordAhead_39, dX11_wordAhead_40, dX11_wordAhead_41, rfl⟩ (by show some (([some (.long (e2 w)), none, some (.int (nI act)), some (.int (nI lt))] : ev_L), ([.long ((((lN (lt)) + (1)) * (lN (4 ^ w.length))) + (e2 w))] : List Value)) = _; rw [show (((lN (lt)) + (1)) * (lN (4 ^ w.length))) + (e2 w) = e2 (lt :: w) from wr_c]) ?_
    refine ev_lret dX11_wordAhead_42 rfl ⟨Nat.le_of_ble_eq_true rfl, Nat.le_of_ble_eq_true rfl⟩ ?_
    have e9 : wa w act lt = lt :: w := if_neg q2
    rw [e9]
    exact ⟨rfl, rfl⟩
  · refine ev_blk (B := [(.lload_n 0, 1)]) (pe := 6) (ls' := [some (.long (e2 w)), none, some (.int (nI act)), some (.int (nI lt))]) (st' := [.long (e2 w)]) ⟨dX11_wordAhead_5, rfl⟩ rfl ?_
    refine ev_ldc2 K_RX11_109 dX11_wordAhead_6 ?_
    refine ev_lrem dX11_wordAhead_9 (by decide) ?_
    refine ev_eqst (st := [.long (lN (n2 w % 4))]) (congrArg (fun z => (Value.long z :: ([] : List Value))) (wr_m hw (by omega))) ?_
    refine ev_blk (B := [(.iload_n 3, 1), (.i2l, 1), (.lconst 1, 1), (.ladd, 1), (.lcmp, 1)]) (pe := 15) (ls' := [some (.long (e2 w)), none, some (.int (nI act)), some (.int (nI lt))]) (st' := [.int (lg_cmp (lN (n2 w % 4)) ((lN (lt)) + (1)))]) ⟨dX11_wordAhead_10, dX11_wordAhead_11, dX11_wordAhead_12, dX11_wordAhead_13, dX11_wordAhead_14, rfl⟩ (by show some (([some (.long (e2 w)), none, some (.int (nI act)), some (.int (nI lt))] : ev_L), ([.int (lg_cmp (lN (n2 w % 4)) (((nI lt).toInt64) + (1)))] : List Value)) = _; rw [nI_l (show lt < 2 ^ 31 by omega)]) ?_
    refine ev_lc_ne dX11_wordAhead_15 (tgt := 26) (by decide) (fun q15 => ?_) (fun q15 => ?_)
    · have q15 := mt (wr_e hw (by omega) hl9).mpr q15
      refine ev_blk (B := [(.lload_n 0, 1)]) (pe := 27) (ls' := [some (.long (e2 w)), none, some (.int (nI act)), some (.int (nI lt))]) (st' := [.long (e2 w)]) ⟨dX11_wordAhead_26, rfl⟩ rfl ?_
      refine ev_lret dX11_wordAhead_27 rfl ⟨Nat.le_of_ble_eq_true rfl, Nat.le_of_ble_eq_true rfl⟩ ?_
      have e9 : wa w act lt = w := (if_pos q2).trans (if_neg q15)
      rw [e9]
      exact ⟨rfl, rfl⟩
    · have q15 := (wr_e hw (by omega) hl9).mp q15
      refine ev_blk (B := [(.lload_n 0, 1)]) (pe := 19) (ls' := [some (.long (e2 w)), none, some (.int (nI act)), some (.int (nI lt))]) (st' := [.long (e2 w)]) ⟨dX11_wordAhead_18, rfl⟩ rfl ?_
      refine ev_ldc2 K_RX11_109 dX11_wordAhead_19 ?_
      refine ev_ldiv dX11_wordAhead_22 (by decide) ?_
      refine ev_eqst (st := [.long (e2 w.dropLast)]) (congrArg (fun z => (Value.long z :: ([] : List Value))) (wr_d hw (by omega))) ?_
      refine ev_goto (tgt := 27) dX11_wordAhead_23 (by decide) ?_
      refine ev_lret dX11_wordAhead_27 rfl ⟨Nat.le_of_ble_eq_true rfl, Nat.le_of_ble_eq_true rfl⟩ ?_
      have e9 : wa w act lt = w.dropLast := (if_pos q2).trans (if_pos q15)
      rw [e9]
      exact ⟨rfl, rfl⟩

set_option maxHeartbeats 4000000 in
set_option maxRecDepth 100000 in
theorem c_R_makesAhead {l : Launch} (hl : l.stackTraces = false) {M : ev_M} (o : Nat) (zi : Nat → Int32) (zl : Nat → Int64) (hO : M[o]? = some (.inr (10, zo o zi zl))) (fT : Nat → Int32) (hfT : M[o + 1]? = some (.inl (0, 50, .inl fT))) (T : List Tr) (hPT : RP5 T.length fT T) (hT10 : T.length ≤ 10) (hT : trs T) (t : Nat) (ht : t < T.length) (L : List Cf) (hlt : L.length < 399) (hL : cfs 25 L) (h28 : zi 28 = nI L.length) (hPM : PM M o L) (bf b2 : Nat → Int64) (h14 : M[o + 14]? = some (.inl (1, 390, .inr (.inl bf)))) (h15 : M[o + 15]? = some (.inl (1, 390, .inr (.inl b2)))) (a : Nat) (ha : a < 390) (x : Cf) (hx : cfW 24 x) (hrow : bf a = e2 x.2.1 ∧ b2 a = e2 x.2.2) : ev_Mt l m_X11_makesAhead [.ref (o), .int (nI t), .int (nI a)] M (fun r M1 => r = .inl none ∧ ∃ zi', M1[o]? = some (.inr (10, zo o zi' zl)) ∧ zi' 28 = nI ((im L (bp (tg T t) x)).2).length ∧ (∀ j, j ≠ 28 → zi' j = zi j) ∧ PM M1 o ((im L (bp (tg T t) x)).2) ∧ FM o M M1) := by
  have hto := trs_tg hT ht
  have hy1 := hto.1
  have hy3 := hto.2.2.1
  have hy4 := hto.2.2.2.1
  have hy5 := hto.2.2.2.2
  refine ev_body hl rfl (by decide +kernel) (Nat.le_of_ble_eq_true rfl) ?_
  show ev_ l m_X11_makesAhead 0 0 0 [some (.ref (o)), some (.int (nI t)), some (.int (nI a)), none, none, none, none, none] [] M _
  refine ev_blk (B := [(.aload_n 0, 1), (.iload_n 1, 1), (.iconst 2, 1)]) (pe := 3) (ls' := [some (.ref (o)), some (.int (nI t)), some (.int (nI a)), none, none, none, none, none]) (st' := [.int (nI 2), .int (nI t), .ref (o)]) ⟨dX11_makesAhead_0, dX11_makesAhead_1, dX11_makesAhead_2, rfl⟩ rfl ?_
  refine ev_cVv Y_X11_partOf L_RX11_155 dX11_makesAhead_3 ⟨Nat.le_of_ble_eq_true rfl, Nat.le_of_ble_eq_true rfl, Nat.le_of_ble_eq_true rfl, Nat.le_of_ble_eq_true rfl, Nat.le_of_ble_eq_true rfl⟩ hO (as := [.int (nI t), .int (nI 2)]) rfl rfl (c_R_partOf hl o (zi) (zl) hO _ hfT T hPT hT10 t (by omega) 2 (by decide)) ?_
  refine ev_blk (B := [(.istore_n 3, 1), (.aload_n 0, 1)]) (pe := 8) (ls' := [some (.ref (o)), some (.int (nI t)), some (.int (nI a)), some (.int (nI ((tg T t).2.2.1))), none, none, none, none]) (st' := [.ref (o)]) ⟨dX11_makesAhead_6, dX11_makesAhead_7, rfl⟩ rfl ?_
  refine ev_getf (v := .ref (o + 14)) F_RX11_50 dX11_makesAhead_8 hO rfl ?_
  refine ev_blk (B := [(.iload_n 2, 1)]) (pe := 12) (ls' := [some (.ref (o)), some (.int (nI t)), some (.int (nI a)), some (.int (nI ((tg T t).2.2.1))), none, none, none, none]) (st' := [.int (nI a), .ref (o + 14)]) ⟨dX11_makesAhead_11, rfl⟩ rfl ?_
  refine ev_lald dX11_makesAhead_12 h14 (vp_in_nI (show a < 390 by omega) (by omega)) ?_
  rw [nI_clamp (show a < 2 ^ 31 by omega)]
  rw [show bf a = e2 x.2.1 from hrow.1]
  refine ev_blk (B := [(.lstore 4, 2), (.aload_n 0, 1)]) (pe := 16) (ls' := [some (.ref (o)), some (.int (nI t)), some (.int (nI a)), some (.int (nI ((tg T t).2.2.1))), some (.long (e2 x.2.1)), none, none, none]) (st' := [.ref (o)]) ⟨dX11_makesAhead_13, dX11_makesAhead_15, rfl⟩ rfl ?_
  refine ev_getf (v := .ref (o + 15)) F_RX11_53 dX11_makesAhead_16 hO rfl ?_
  refine ev_blk (B := [(.iload_n 2, 1)]) (pe := 20) (ls' := [some (.ref (o)), some (.int (nI t)), some (.int (nI a)), some (.int (nI ((tg T t).2.2.1))), some (.long (e2 x.2.1)), none, none, none]) (st' := [.int (nI a), .ref (o + 15)]) ⟨dX11_makesAhead_19, rfl⟩ rfl ?_
  refine ev_lald dX11_makesAhead_20 h15 (vp_in_nI (show a < 390 by omega) (by omega)) ?_
  rw [nI_clamp (show a < 2 ^ 31 by omega)]
  rw [show b2 a = e2 x.2.2 from hrow.2]
  refine ev_blk (B := [(.lstore 6, 2), (.iload_n 3, 1)]) (pe := 24) (ls' := [some (.ref (o)), some (.int (nI t)), some (.int (nI a)), some (.int (nI ((tg T t).2.2.1))), some (.long (e2 x.2.1)), none, some (.long (e2 x.2.2)), none]) (st' := [.int (nI ((tg T t).2.2.1))]) ⟨dX11_makesAhead_21, dX11_makesAhead_23, rfl⟩ rfl ?_
  refine ev_fN_eq dX11_makesAhead_24 (tgt := 50) (by decide) (by omega) (fun q24 => ?_) (fun q24 => ?_)
  · refine ev_blk (B := [(.iload_n 3, 1)]) (pe := 51) (ls' := [some (.ref (o)), some (.int (nI t)), some (.int (nI a)), some (.int (nI ((tg T t).2.2.1))), some (.long (e2 x.2.1)), none, some (.long (e2 x.2.2)), none]) (st' := [.int (nI ((tg T t).2.2.1))]) ⟨dX11_makesAhead_50, rfl⟩ rfl ?_
    refine ev_fN_eq dX11_makesAhead_51 (tgt := 78) (by decide) (by omega) (fun q51 => ?_) (fun q51 => ?_)
    · refine ev_blk (B := [(.aload_n 0, 1), (.aload_n 0, 1), (.iload_n 1, 1), (.iconst 0, 1)]) (pe := 82) (ls' := [some (.ref (o)), some (.int (nI t)), some (.int (nI a)), some (.int (nI ((tg T t).2.2.1))), some (.long (e2 x.2.1)), none, some (.long (e2 x.2.2)), none]) (st' := [.int (nI 0), .int (nI t), .ref (o), .ref (o)]) ⟨dX11_makesAhead_78, dX11_makesAhead_79, dX11_makesAhead_80, dX11_makesAhead_81, rfl⟩ rfl ?_
      refine ev_cVv Y_X11_partOf L_RX11_155 dX11_makesAhead_82 ⟨Nat.le_of_ble_eq_true rfl, Nat.le_of_ble_eq_true rfl, Nat.le_of_ble_eq_true rfl, Nat.le_of_ble_eq_true rfl, Nat.le_of_ble_eq_true rfl⟩ hO (as := [.int (nI t), .int (nI 0)]) rfl rfl (c_R_partOf hl o (zi) (zl) hO _ hfT T hPT hT10 t (by omega) 0 (by decide)) ?_
      refine ev_blk (B := [(.lload 4, 2), (.lload 6, 2)]) (pe := 89) (ls' := [some (.ref (o)), some (.int (nI t)), some (.int (nI a)), some (.int (nI ((tg T t).2.2.1))), some (.long (e2 x.2.1)), none, some (.long (e2 x.2.2)), none]) (st' := [.long (e2 x.2.2), .long (e2 x.2.1), .int (nI ((tg T t).1)), .ref (o)]) ⟨dX11_makesAhead_85, dX11_makesAhead_87, rfl⟩ rfl ?_
      have hbp : bp (tg T t) x = ((tg T t).1, x.2.1, x.2.2) := bp_0 q24
      have hbo := bp_ok hx hto
      rw [hbp] at hbo ⊢
      refine ev_cVn Y_X11_makes L_RX11_242 dX11_makesAhead_89 ⟨Nat.le_of_ble_eq_true rfl, Nat.le_of_ble_eq_true rfl, Nat.le_of_ble_eq_true rfl, Nat.le_of_ble_eq_true rfl, Nat.le_of_ble_eq_true rfl⟩ hO (as := [.int (nI ((tg T t).1)), .long (e2 x.2.1), .long (e2 x.2.2)]) rfl rfl (c_R_makes hl o zi zl hO L (by omega) hL h28 hPM ((tg T t).1, x.2.1, x.2.2) (hbo.le (by omega))) (fun M1 hL1 hB1 => ?_)
      refine ev_vret dX11_makesAhead_92 rfl ⟨Nat.le_of_ble_eq_true rfl, Nat.le_of_ble_eq_true rfl⟩ ?_
      exact ⟨rfl, hB1⟩
    · exact absurd q24 q51
  · refine ev_blk (B := [(.aload_n 0, 1), (.iload_n 1, 1), (.iconst 3, 1)]) (pe := 30) (ls' := [some (.ref (o)), some (.int (nI t)), some (.int (nI a)), some (.int (nI ((tg T t).2.2.1))), some (.long (e2 x.2.1)), none, some (.long (e2 x.2.2)), none]) (st' := [.int (nI 3), .int (nI t), .ref (o)]) ⟨dX11_makesAhead_27, dX11_makesAhead_28, dX11_makesAhead_29, rfl⟩ rfl ?_
    refine ev_cVv Y_X11_partOf L_RX11_155 dX11_makesAhead_30 ⟨Nat.le_of_ble_eq_true rfl, Nat.le_of_ble_eq_true rfl, Nat.le_of_ble_eq_true rfl, Nat.le_of_ble_eq_true rfl, Nat.le_of_ble_eq_true rfl⟩ hO (as := [.int (nI t), .int (nI 3)]) rfl rfl (c_R_partOf3N hl o (zi) (zl) hO _ hfT T hPT hT10 t (by omega) (by omega)) ?_
    refine ev_fN_ne dX11_makesAhead_33 (tgt := 50) (by decide) (by omega) (fun q33 => ?_) (fun q33 => ?_)
    · refine ev_blk (B := [(.iload_n 3, 1)]) (pe := 51) (ls' := [some (.ref (o)), some (.int (nI t)), some (.int (nI a)), some (.int (nI ((tg T t).2.2.1))), some (.long (e2 x.2.1)), none, some (.long (e2 x.2.2)), none]) (st' := [.int (nI ((tg T t).2.2.1))]) ⟨dX11_makesAhead_50, rfl⟩ rfl ?_
      refine ev_fN_eq dX11_makesAhead_51 (tgt := 78) (by decide) (by omega) (fun q51 => ?_) (fun q51 => ?_)
      · exact absurd q51 q24
      · refine ev_blk (B := [(.aload_n 0, 1), (.iload_n 1, 1), (.iconst 3, 1)]) (pe := 57) (ls' := [some (.ref (o)), some (.int (nI t)), some (.int (nI a)), some (.int (nI ((tg T t).2.2.1))), some (.long (e2 x.2.1)), none, some (.long (e2 x.2.2)), none]) (st' := [.int (nI 3), .int (nI t), .ref (o)]) ⟨dX11_makesAhead_54, dX11_makesAhead_55, dX11_makesAhead_56, rfl⟩ rfl ?_
        refine ev_cVv Y_X11_partOf L_RX11_155 dX11_makesAhead_57 ⟨Nat.le_of_ble_eq_true rfl, Nat.le_of_ble_eq_true rfl, Nat.le_of_ble_eq_true rfl, Nat.le_of_ble_eq_true rfl, Nat.le_of_ble_eq_true rfl⟩ hO (as := [.int (nI t), .int (nI 3)]) rfl rfl (c_R_partOf3N hl o (zi) (zl) hO _ hfT T hPT hT10 t (by omega) (by omega)) ?_
        refine ev_blk (B := [(.iconst 1, 1)]) (pe := 61) (ls' := [some (.ref (o)), some (.int (nI t)), some (.int (nI a)), some (.int (nI ((tg T t).2.2.1))), some (.long (e2 x.2.1)), none, some (.long (e2 x.2.2)), none]) (st' := [.int (nI 1), .int (nI ((tg T t).2.2.2.1))]) ⟨dX11_makesAhead_60, rfl⟩ rfl ?_
        refine ev_iN_ne dX11_makesAhead_61 (tgt := 78) (by decide) (by omega) (by omega) (fun q61 => ?_) (fun q61 => ?_)
        · exfalso; omega
        · refine ev_blk (B := [(.lload 6, 2), (.iload_n 3, 1), (.aload_n 0, 1), (.iload_n 1, 1), (.iconst 4, 1)]) (pe := 70) (ls' := [some (.ref (o)), some (.int (nI t)), some (.int (nI a)), some (.int (nI ((tg T t).2.2.1))), some (.long (e2 x.2.1)), none, some (.long (e2 x.2.2)), none]) (st' := [.int (nI 4), .int (nI t), .ref (o), .int (nI ((tg T t).2.2.1)), .long (e2 x.2.2)]) ⟨dX11_makesAhead_64, dX11_makesAhead_66, dX11_makesAhead_67, dX11_makesAhead_68, dX11_makesAhead_69, rfl⟩ rfl ?_
          refine ev_cVv Y_X11_partOf L_RX11_155 dX11_makesAhead_70 ⟨Nat.le_of_ble_eq_true rfl, Nat.le_of_ble_eq_true rfl, Nat.le_of_ble_eq_true rfl, Nat.le_of_ble_eq_true rfl, Nat.le_of_ble_eq_true rfl⟩ hO (as := [.int (nI t), .int (nI 4)]) rfl rfl (c_R_partOf4N hl o (zi) (zl) hO _ hfT T hPT hT10 t (by omega) (by omega)) ?_
          refine ev_cSv Y_X11_wordAhead L_RX11_238 dX11_makesAhead_73 ⟨Nat.le_of_ble_eq_true rfl, Nat.le_of_ble_eq_true rfl, Nat.le_of_ble_eq_true rfl, Nat.le_of_ble_eq_true rfl, Nat.le_of_ble_eq_true rfl⟩ (as := [.long (e2 x.2.2), .int (nI ((tg T t).2.2.1)), .int (nI ((tg T t).2.2.2.2))]) rfl rfl (c_R_wordAhead hl x.2.2 hx.2.2.2.1 (Nat.le_trans hx.2.2.2.2 (by decide)) (tg T t).2.2.1 (tg T t).2.2.2.2 hto.2.2.1 hto.2.2.2.2) ?_
          refine ev_blk (B := [(.lstore 6, 2), (.aload_n 0, 1), (.aload_n 0, 1), (.iload_n 1, 1), (.iconst 0, 1)]) (pe := 82) (ls' := [some (.ref (o)), some (.int (nI t)), some (.int (nI a)), some (.int (nI ((tg T t).2.2.1))), some (.long (e2 x.2.1)), none, some (.long (e2 (wa x.2.2 (tg T t).2.2.1 (tg T t).2.2.2.2))), none]) (st' := [.int (nI 0), .int (nI t), .ref (o), .ref (o)]) ⟨dX11_makesAhead_76, dX11_makesAhead_78, dX11_makesAhead_79, dX11_makesAhead_80, dX11_makesAhead_81, rfl⟩ rfl ?_
          refine ev_cVv Y_X11_partOf L_RX11_155 dX11_makesAhead_82 ⟨Nat.le_of_ble_eq_true rfl, Nat.le_of_ble_eq_true rfl, Nat.le_of_ble_eq_true rfl, Nat.le_of_ble_eq_true rfl, Nat.le_of_ble_eq_true rfl⟩ hO (as := [.int (nI t), .int (nI 0)]) rfl rfl (c_R_partOf hl o (zi) (zl) hO _ hfT T hPT hT10 t (by omega) 0 (by decide)) ?_
          refine ev_blk (B := [(.lload 4, 2), (.lload 6, 2)]) (pe := 89) (ls' := [some (.ref (o)), some (.int (nI t)), some (.int (nI a)), some (.int (nI ((tg T t).2.2.1))), some (.long (e2 x.2.1)), none, some (.long (e2 (wa x.2.2 (tg T t).2.2.1 (tg T t).2.2.2.2))), none]) (st' := [.long (e2 (wa x.2.2 (tg T t).2.2.1 (tg T t).2.2.2.2)), .long (e2 x.2.1), .int (nI ((tg T t).1)), .ref (o)]) ⟨dX11_makesAhead_85, dX11_makesAhead_87, rfl⟩ rfl ?_
          have hbp : bp (tg T t) x = ((tg T t).1, x.2.1, (wa x.2.2 (tg T t).2.2.1 (tg T t).2.2.2.2)) := bp_2 q24 hto.2.2.1 (by omega)
          have hbo := bp_ok hx hto
          rw [hbp] at hbo ⊢
          refine ev_cVn Y_X11_makes L_RX11_242 dX11_makesAhead_89 ⟨Nat.le_of_ble_eq_true rfl, Nat.le_of_ble_eq_true rfl, Nat.le_of_ble_eq_true rfl, Nat.le_of_ble_eq_true rfl, Nat.le_of_ble_eq_true rfl⟩ hO (as := [.int (nI ((tg T t).1)), .long (e2 x.2.1), .long (e2 (wa x.2.2 (tg T t).2.2.1 (tg T t).2.2.2.2))]) rfl rfl (c_R_makes hl o zi zl hO L (by omega) hL h28 hPM ((tg T t).1, x.2.1, (wa x.2.2 (tg T t).2.2.1 (tg T t).2.2.2.2)) (hbo.le (by omega))) (fun M2 hL2 hB2 => ?_)
          refine ev_vret dX11_makesAhead_92 rfl ⟨Nat.le_of_ble_eq_true rfl, Nat.le_of_ble_eq_true rfl⟩ ?_
          exact ⟨rfl, hB2⟩
    · refine ev_blk (B := [(.lload 4, 2), (.iload_n 3, 1), (.aload_n 0, 1), (.iload_n 1, 1), (.iconst 4, 1)]) (pe := 42) (ls' := [some (.ref (o)), some (.int (nI t)), some (.int (nI a)), some (.int (nI ((tg T t).2.2.1))), some (.long (e2 x.2.1)), none, some (.long (e2 x.2.2)), none]) (st' := [.int (nI 4), .int (nI t), .ref (o), .int (nI ((tg T t).2.2.1)), .long (e2 x.2.1)]) ⟨dX11_makesAhead_36, dX11_makesAhead_38, dX11_makesAhead_39, dX11_makesAhead_40, dX11_makesAhead_41, rfl⟩ rfl ?_
      refine ev_cVv Y_X11_partOf L_RX11_155 dX11_makesAhead_42 ⟨Nat.le_of_ble_eq_true rfl, Nat.le_of_ble_eq_true rfl, Nat.le_of_ble_eq_true rfl, Nat.le_of_ble_eq_true rfl, Nat.le_of_ble_eq_true rfl⟩ hO (as := [.int (nI t), .int (nI 4)]) rfl rfl (c_R_partOf4N hl o (zi) (zl) hO _ hfT T hPT hT10 t (by omega) (by omega)) ?_
      refine ev_cSv Y_X11_wordAhead L_RX11_238 dX11_makesAhead_45 ⟨Nat.le_of_ble_eq_true rfl, Nat.le_of_ble_eq_true rfl, Nat.le_of_ble_eq_true rfl, Nat.le_of_ble_eq_true rfl, Nat.le_of_ble_eq_true rfl⟩ (as := [.long (e2 x.2.1), .int (nI ((tg T t).2.2.1)), .int (nI ((tg T t).2.2.2.2))]) rfl rfl (c_R_wordAhead hl x.2.1 hx.2.1 (Nat.le_trans hx.2.2.1 (by decide)) (tg T t).2.2.1 (tg T t).2.2.2.2 hto.2.2.1 hto.2.2.2.2) ?_
      refine ev_blk (B := [(.lstore 4, 2), (.iload_n 3, 1)]) (pe := 51) (ls' := [some (.ref (o)), some (.int (nI t)), some (.int (nI a)), some (.int (nI ((tg T t).2.2.1))), some (.long (e2 (wa x.2.1 (tg T t).2.2.1 (tg T t).2.2.2.2))), none, some (.long (e2 x.2.2)), none]) (st' := [.int (nI ((tg T t).2.2.1))]) ⟨dX11_makesAhead_48, dX11_makesAhead_50, rfl⟩ rfl ?_
      refine ev_fN_eq dX11_makesAhead_51 (tgt := 78) (by decide) (by omega) (fun q51 => ?_) (fun q51 => ?_)
      · exact absurd q51 q24
      · refine ev_blk (B := [(.aload_n 0, 1), (.iload_n 1, 1), (.iconst 3, 1)]) (pe := 57) (ls' := [some (.ref (o)), some (.int (nI t)), some (.int (nI a)), some (.int (nI ((tg T t).2.2.1))), some (.long (e2 (wa x.2.1 (tg T t).2.2.1 (tg T t).2.2.2.2))), none, some (.long (e2 x.2.2)), none]) (st' := [.int (nI 3), .int (nI t), .ref (o)]) ⟨dX11_makesAhead_54, dX11_makesAhead_55, dX11_makesAhead_56, rfl⟩ rfl ?_
        refine ev_cVv Y_X11_partOf L_RX11_155 dX11_makesAhead_57 ⟨Nat.le_of_ble_eq_true rfl, Nat.le_of_ble_eq_true rfl, Nat.le_of_ble_eq_true rfl, Nat.le_of_ble_eq_true rfl, Nat.le_of_ble_eq_true rfl⟩ hO (as := [.int (nI t), .int (nI 3)]) rfl rfl (c_R_partOf3N hl o (zi) (zl) hO _ hfT T hPT hT10 t (by omega) (by omega)) ?_
        refine ev_blk (B := [(.iconst 1, 1)]) (pe := 61) (ls' := [some (.ref (o)), some (.int (nI t)), some (.int (nI a)), some (.int (nI ((tg T t).2.2.1))), some (.long (e2 (wa x.2.1 (tg T t).2.2.1 (tg T t).2.2.2.2))), none, some (.long (e2 x.2.2)), none]) (st' := [.int (nI 1), .int (nI ((tg T t).2.2.2.1))]) ⟨dX11_makesAhead_60, rfl⟩ rfl ?_
        refine ev_iN_ne dX11_makesAhead_61 (tgt := 78) (by decide) (by omega) (by omega) (fun q61 => ?_) (fun q61 => ?_)
        · refine ev_blk (B := [(.aload_n 0, 1), (.aload_n 0, 1), (.iload_n 1, 1), (.iconst 0, 1)]) (pe := 82) (ls' := [some (.ref (o)), some (.int (nI t)), some (.int (nI a)), some (.int (nI ((tg T t).2.2.1))), some (.long (e2 (wa x.2.1 (tg T t).2.2.1 (tg T t).2.2.2.2))), none, some (.long (e2 x.2.2)), none]) (st' := [.int (nI 0), .int (nI t), .ref (o), .ref (o)]) ⟨dX11_makesAhead_78, dX11_makesAhead_79, dX11_makesAhead_80, dX11_makesAhead_81, rfl⟩ rfl ?_
          refine ev_cVv Y_X11_partOf L_RX11_155 dX11_makesAhead_82 ⟨Nat.le_of_ble_eq_true rfl, Nat.le_of_ble_eq_true rfl, Nat.le_of_ble_eq_true rfl, Nat.le_of_ble_eq_true rfl, Nat.le_of_ble_eq_true rfl⟩ hO (as := [.int (nI t), .int (nI 0)]) rfl rfl (c_R_partOf hl o (zi) (zl) hO _ hfT T hPT hT10 t (by omega) 0 (by decide)) ?_
          refine ev_blk (B := [(.lload 4, 2), (.lload 6, 2)]) (pe := 89) (ls' := [some (.ref (o)), some (.int (nI t)), some (.int (nI a)), some (.int (nI ((tg T t).2.2.1))), some (.long (e2 (wa x.2.1 (tg T t).2.2.1 (tg T t).2.2.2.2))), none, some (.long (e2 x.2.2)), none]) (st' := [.long (e2 x.2.2), .long (e2 (wa x.2.1 (tg T t).2.2.1 (tg T t).2.2.2.2)), .int (nI ((tg T t).1)), .ref (o)]) ⟨dX11_makesAhead_85, dX11_makesAhead_87, rfl⟩ rfl ?_
          have hbp : bp (tg T t) x = ((tg T t).1, (wa x.2.1 (tg T t).2.2.1 (tg T t).2.2.2.2), x.2.2) := bp_1 q24 hto.2.2.1 q33
          have hbo := bp_ok hx hto
          rw [hbp] at hbo ⊢
          refine ev_cVn Y_X11_makes L_RX11_242 dX11_makesAhead_89 ⟨Nat.le_of_ble_eq_true rfl, Nat.le_of_ble_eq_true rfl, Nat.le_of_ble_eq_true rfl, Nat.le_of_ble_eq_true rfl, Nat.le_of_ble_eq_true rfl⟩ hO (as := [.int (nI ((tg T t).1)), .long (e2 (wa x.2.1 (tg T t).2.2.1 (tg T t).2.2.2.2)), .long (e2 x.2.2)]) rfl rfl (c_R_makes hl o zi zl hO L (by omega) hL h28 hPM ((tg T t).1, (wa x.2.1 (tg T t).2.2.1 (tg T t).2.2.2.2), x.2.2) (hbo.le (by omega))) (fun M3 hL3 hB3 => ?_)
          refine ev_vret dX11_makesAhead_92 rfl ⟨Nat.le_of_ble_eq_true rfl, Nat.le_of_ble_eq_true rfl⟩ ?_
          exact ⟨rfl, hB3⟩
        · exfalso; omega

