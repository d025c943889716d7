/-! ===== the reference's words ===== -/
theorem pw_c {k : Nat} (hk : k < 32) : (1 : Int64) <<< ((nI (2 * k)).toInt64 &&& 63) = lN (4 ^ k) := by
  have h : (lN 1) <<< ((nI (2 * k)).toInt64 &&& 63) = lN (1 * 4 ^ k) := wl_shlB (n := 1) hk
  rw [Nat.one_mul] at h; exact h
theorem p4_63 {k : Nat} (hk : k ≤ 25) : 4 ^ k < 2 ^ 63 := Nat.lt_of_le_of_lt (p4_le hk) (by decide)
theorem r2_63 {w : List Nat} (hw : wk w) (hn : w.length ≤ 25) : n2 w < 2 ^ 63 := Nat.lt_of_lt_of_le (n2_lt hw hn) (by decide)
theorem rl_div {w : List Nat} (hw : wk w) (hn : w.length ≤ 25) (i : Nat) : lN (n2 w / 4 ^ i) / 4 = lN (n2 w / 4 ^ (i + 1)) := by
  rw [show (4 : Int64) = lN 4 from rfl, pk_lDiv (Nat.lt_of_le_of_lt (Nat.div_le_self _ _) (r2_63 hw hn)) (by decide) (by decide), Nat.div_div_eq_div_mul, Nat.pow_succ]
theorem rl_le {w : List Nat} (hw : wk w) (hn : w.length ≤ 25) {i : Nat} (hi : i ≤ w.length) : lN (n2 w / 4 ^ i) ≤ 0 ↔ i = w.length := by
  have h1 : n2 w / 4 ^ i < 2 ^ 62 := Nat.lt_of_le_of_lt (Nat.div_le_self _ _) (q2_62 hw hn)
  rw [show (0 : Int64) = lN 0 from rfl, wl_le h1 (by decide), n2_div hw hi]
  have h2 := n2_pos (w := w.take (w.length - i))
  have h3 : w.take (w.length - i) ≠ [] ↔ i < w.length := by
    rw [ne_eq, ← List.length_eq_zero_iff, List.length_take]; omega
  rw [h3] at h2
  omega
theorem ra_c {w : List Nat} (hw : wk w) (hn : w.length ≤ 25) {i : Nat} (hi : i < w.length) : n2 w / 4 ^ (w.length - 1 - i) % 4 = w[i] + 1 := by
  rw [n2_div hw (by omega), show w.length - (w.length - 1 - i) = i + 1 by omega, List.take_succ_eq_append_getElem hi, (n2_last _ (hw _ (List.getElem_mem hi))).1]
theorem ra_d {w : List Nat} (hw : wk w) (hn : w.length ≤ 25) {i : Nat} (hi : i < w.length) : e2 w / lN (4 ^ (w.length - 1 - i)) = lN (n2 w / 4 ^ (w.length - 1 - i)) := pk_lDiv (r2_63 hw hn) (p4_pos _) (p4_63 (by omega))
theorem ra_m {w : List Nat} (hw : wk w) (hn : w.length ≤ 25) {i : Nat} (hi : i < w.length) : lN (n2 w / 4 ^ (w.length - 1 - i)) - lN (n2 w / 4 ^ (w.length - 1 - i)) / 4 * 4 = lN (w[i] + 1) := by
  rw [show (4 : Int64) = lN 4 from rfl, pk_lRem (Nat.lt_of_le_of_lt (Nat.div_le_self _ _) (r2_63 hw hn)) (by decide) (by decide), ra_c hw hn hi]
theorem n2_app (u v : List Nat) : n2 (u ++ v) = n2 u * 4 ^ v.length + n2 v := by
  unfold n2
  rw [List.map_append, wv_app, wv_eq, List.length_map]
theorem rb_c {w : List Nat} (hw : wk w) (hn : w.length ≤ 25) {k : Nat} (hk : k ≤ w.length) : e2 w - e2 w / lN (4 ^ (w.length - k)) * lN (4 ^ (w.length - k)) = e2 (w.drop k) := by
  show lN (n2 w) - lN (n2 w) / _ * _ = lN (n2 (w.drop k))
  rw [pk_lRem (r2_63 hw hn) (p4_pos _) (p4_63 (by omega)), n2_mod hw (by omega), show w.length - (w.length - k) = k by omega]
theorem p4_nz {k : Nat} (hk : k ≤ 25) : ¬ lN (4 ^ k) = 0 := by
  rw [show (0 : Int64) = lN 0 from rfl, pk_lEQ (p4_63 hk) (by decide)]
  have := p4_pos k
  omega
theorem p4_nz4 {k : Nat} (hk : k ≤ 24) : ¬ 4 * lN (4 ^ k) = 0 := by
  rw [show (4 : Int64) = lN 4 from rfl, lN_mul, ← Nat.pow_succ']
  exact p4_nz (by omega)
theorem rw_a {w : List Nat} (hw : wk w) (hn : w.length ≤ 25) {i : Nat} (hi : i < w.length) : e2 w / (4 * lN (4 ^ (w.length - 1 - i))) = lN (n2 (w.take i)) := by
  show lN (n2 w) / _ = _
  rw [show (4 : Int64) = lN 4 from rfl, lN_mul, ← Nat.pow_succ', pk_lDiv (r2_63 hw hn) (p4_pos _) (p4_63 (by omega)), n2_div hw (by omega), show w.length - (w.length - 1 - i + 1) = i by omega]
theorem rw_c {w : List Nat} (hw : wk w) (hn : w.length ≤ 25) {i : Nat} (hi : i < w.length) : lN (n2 (w.take i)) * lN (4 ^ (w.length - 1 - i)) + e2 (w.drop (i + 1)) = e2 (w.eraseIdx i) := by
  show _ + lN (n2 _) = lN (n2 _)
  rw [lN_mul, lN_add, List.eraseIdx_eq_take_drop_succ, n2_app, List.length_drop, show w.length - 1 - i = w.length - (i + 1) by omega]
theorem rs_c {w : List Nat} {x : Nat} (hx : x < 3) : 4 * e2 w + lN x + 1 = e2 (w ++ [x]) := by
  show 4 * lN (n2 w) + lN x + 1 = lN (n2 (w ++ [x]))
  rw [show (4 : Int64) = lN 4 from rfl, show (1 : Int64) = lN 1 from rfl, lN_mul, lN_add, lN_add, n2_snoc]
theorem gd_3 {w : List Nat} {i : Nat} (h : i < w.length) : w[i] = w.getD i 3 := by
  rw [List.getD_eq_getElem?_getD, List.getElem?_eq_getElem h]; rfl
theorem wb_fw {u v : List Nat} {a k : Nat} (ha : a < u.length) (hk : k < v.length) : wb (u.drop a) (v.drop k) = if u[a] = v[k] then wb (u.drop (a + 1)) (v.drop (k + 1)) else wb (u.drop a) (v.drop (k + 1)) := by
  rw [List.drop_eq_getElem_cons ha, List.drop_eq_getElem_cons hk]
  show List.isSublist (u[a] :: _) (v[k] :: _) = _
  unfold List.isSublist
  by_cases h : u[a] = v[k]
  · rw [if_pos h, if_pos (beq_iff_eq.mpr h)]; rfl
  · rw [if_neg h, if_neg (fun z => h (beq_iff_eq.mp z))]; rfl
set_option maxHeartbeats 4000000 in
set_option maxRecDepth 100000 in
theorem c_R_power {l : Launch} (hl : l.stackTraces = false) {M : ev_M} (k : Nat) (hk : k < 32) : ev_Mt l m_X11_power [.int (nI k)] M (ev_q (.inl (some (.long (lN (4 ^ k))))) M) := by
  refine ev_body hl rfl (by decide +kernel) (Nat.le_of_ble_eq_true rfl) ?_
  show ev_ l m_X11_power 0 0 0 [some (.int (nI k))] [] M _
  refine ev_blk (B := [(.lconst 1, 1), (.iconst 2, 1), (.iload_n 0, 1), (.imul, 1), (.lshl, 1)]) (pe := 5) (ls' := [some (.int (nI k))]) (st' := [.long (lN (4 ^ k))]) ⟨dX11_power_0, dX11_power_1, dX11_power_2, dX11_power_3, dX11_power_4, rfl⟩ (by show some (([some (.int (nI k))] : ev_L), ([.long ((1) <<< (((nI 2) * (nI k)).toInt64 &&& 63))] : List Value)) = _; rw [pk_mul 2 k, show (1) <<< ((nI (2 * k)).toInt64 &&& 63) = lN (4 ^ k) from pw_c hk]) ?_
  refine ev_lret dX11_power_5 rfl ⟨Nat.le_of_ble_eq_true rfl, Nat.le_of_ble_eq_true rfl⟩ ?_
  exact ⟨rfl, rfl⟩

set_option maxHeartbeats 4000000 in
set_option maxRecDepth 100000 in
theorem c_R_lengthOf_l {l : Launch}  {M : ev_M} (w : List Nat) (hw : wk w) (hn : w.length ≤ 25) : ∀ (n9 : Nat) (i : Nat), i ≤ w.length → w.length - i < n9 → ev_ l m_X11_lengthOf 0 0 4 [some (.long (e2 w)), none, some (.int (nI i)), some (.long (lN (n2 w / 4 ^ i))), none] [] M (ev_q (.inl (some (.int (nI (w.length))))) M) := by
  intro n9
  induction n9 with
  | zero => intro i hi hm9; exact absurd hm9 (by omega)
  | succ n9 ih =>
    intro i hi hm9
    refine ev_blk (B := [(.lload_n 3, 1), (.lconst 0, 1), (.lcmp, 1)]) (pe := 7) (ls' := [some (.long (e2 w)), none, some (.int (nI i)), some (.long (lN (n2 w / 4 ^ i))), none]) (st' := [.int (lg_cmp (lN (n2 w / 4 ^ i)) (0))]) ⟨dX11_lengthOf_4, dX11_lengthOf_5, dX11_lengthOf_6, rfl⟩ rfl ?_
    refine ev_lc_le dX11_lengthOf_7 (tgt := 22) (by decide) (fun q7 => ?_) (fun q7 => ?_)
    · have q7 := (rl_le hw hn hi).mp q7
      refine ev_blk (B := [(.iload_n 2, 1)]) (pe := 23) (ls' := [some (.long (e2 w)), none, some (.int (nI i)), some (.long (lN (n2 w / 4 ^ i))), none]) (st' := [.int (nI i)]) ⟨dX11_lengthOf_22, rfl⟩ rfl ?_
      refine ev_iret dX11_lengthOf_23 rfl (rfl) ⟨Nat.le_of_ble_eq_true rfl, Nat.le_of_ble_eq_true rfl⟩ ?_
      rw [show i = w.length from q7]
      exact ⟨rfl, rfl⟩
    · have q7 := mt (rl_le hw hn hi).mpr q7
      refine ev_blk (B := [(.iinc 2 1, 3), (.lload_n 3, 1)]) (pe := 14) (ls' := [some (.long (e2 w)), none, some (.int (nI (i + 1))), some (.long (lN (n2 w / 4 ^ i))), none]) (st' := [.long (lN (n2 w / 4 ^ i))]) ⟨dX11_lengthOf_10, dX11_lengthOf_13, rfl⟩ (by show some (([some (.long (e2 w)), none, some (.int ((nI i) + Int32.ofInt (1))), some (.long (lN (n2 w / 4 ^ i))), none] : ev_L), ([.long (lN (n2 w / 4 ^ i))] : List Value)) = _; rw [ev_inc1 i]) ?_
      refine ev_ldc2 K_RX11_109 dX11_lengthOf_14 ?_
      refine ev_ldiv dX11_lengthOf_17 (by decide) ?_
      refine ev_eqst (st := [.long (lN (n2 w / 4 ^ (i + 1)))]) (congrArg (fun z => (Value.long z :: ([] : List Value))) (rl_div hw hn i)) ?_
      refine ev_blk (B := [(.lstore_n 3, 1)]) (pe := 19) (ls' := [some (.long (e2 w)), none, some (.int (nI (i + 1))), some (.long (lN (n2 w / 4 ^ (i + 1)))), none]) (st' := []) ⟨dX11_lengthOf_18, rfl⟩ rfl ?_
      refine ev_goto (tgt := 4) dX11_lengthOf_19 (by decide) ?_
      exact ih (i + 1) (by omega) (by omega)

set_option maxHeartbeats 4000000 in
set_option maxRecDepth 100000 in
theorem c_R_lengthOf {l : Launch} (hl : l.stackTraces = false) {M : ev_M} (w : List Nat) (hw : wk w) (hn : w.length ≤ 25) : ev_Mt l m_X11_lengthOf [.long (e2 w)] M (ev_q (.inl (some (.int (nI (w.length))))) M) := by
  refine ev_body hl rfl (by decide +kernel) (Nat.le_of_ble_eq_true rfl) ?_
  show ev_ l m_X11_lengthOf 0 0 0 [some (.long (e2 w)), none, none, none, none] [] M _
  refine ev_blk (B := [(.iconst 0, 1), (.istore_n 2, 1), (.lload_n 0, 1), (.lstore_n 3, 1)]) (pe := 4) (ls' := [some (.long (e2 w)), none, some (.int (nI 0)), some (.long (e2 w)), none]) (st' := []) ⟨dX11_lengthOf_0, dX11_lengthOf_1, dX11_lengthOf_2, dX11_lengthOf_3, rfl⟩ rfl ?_
  have e0 : (e2 w) = lN (n2 w / 4 ^ 0) := by rw [Nat.pow_zero, Nat.div_one]; rfl
  have k9 := c_R_lengthOf_l (l := l) (M := M) w hw hn _ 0 (Nat.zero_le _) (Nat.lt_succ_self _)
  rw [← e0] at k9
  exact k9

set_option maxHeartbeats 4000000 in
set_option maxRecDepth 100000 in
theorem c_R_letterAt {l : Launch} (hl : l.stackTraces = false) {M : ev_M} (w : List Nat) (hw : wk w) (hn : w.length ≤ 25) (i : Nat) (hi : i < w.length) : ev_Mt l m_X11_letterAt [.long (e2 w), .int (nI i)] M (ev_q (.inl (some (.int (nI (w[i]))))) M) := by
  refine ev_body hl rfl (by decide +kernel) (Nat.le_of_ble_eq_true rfl) ?_
  show ev_ l m_X11_letterAt 0 0 0 [some (.long (e2 w)), none, some (.int (nI i))] [] M _
  refine ev_blk (B := [(.lload_n 0, 1), (.lload_n 0, 1)]) (pe := 2) (ls' := [some (.long (e2 w)), none, some (.int (nI i))]) (st' := [.long (e2 w), .long (e2 w)]) ⟨dX11_letterAt_0, dX11_letterAt_1, rfl⟩ rfl ?_
  refine ev_cSv Y_X11_lengthOf L_RX11_111 dX11_letterAt_2 ⟨Nat.le_of_ble_eq_true rfl, Nat.le_of_ble_eq_true rfl, Nat.le_of_ble_eq_true rfl, Nat.le_of_ble_eq_true rfl, Nat.le_of_ble_eq_true rfl⟩ (as := [.long (e2 w)]) rfl rfl (c_R_lengthOf hl w hw hn) ?_
  refine ev_blk (B := [(.iconst 1, 1), (.isub, 1), (.iload_n 2, 1), (.isub, 1)]) (pe := 9) (ls' := [some (.long (e2 w)), none, some (.int (nI i))]) (st' := [.int (nI (((w.length) - 1) - i)), .long (e2 w)]) ⟨dX11_letterAt_5, dX11_letterAt_6, dX11_letterAt_7, dX11_letterAt_8, rfl⟩ (by show some (([some (.long (e2 w)), none, some (.int (nI i))] : ev_L), ([.int (((nI (w.length)) - (nI 1)) - (nI i)), .long (e2 w)] : List Value)) = _; rw [pk_sub (show 1 ≤ (w.length) by omega), pk_sub (show i ≤ ((w.length) - 1) by omega)]) ?_
  refine ev_cSv Y_X11_power L_RX11_115 dX11_letterAt_9 ⟨Nat.le_of_ble_eq_true rfl, Nat.le_of_ble_eq_true rfl, Nat.le_of_ble_eq_true rfl, Nat.le_of_ble_eq_true rfl, Nat.le_of_ble_eq_true rfl⟩ (as := [.int (nI (((w.length) - 1) - i))]) rfl rfl (c_R_power hl (((w.length) - 1) - i) (by omega)) ?_
  refine ev_ldiv dX11_letterAt_12 (p4_nz (by omega)) ?_
  refine ev_eqst (st := [.long (lN (n2 w / 4 ^ (w.length - 1 - i)))]) (congrArg (fun z => (Value.long z :: ([] : List Value))) (ra_d hw hn hi)) ?_
  refine ev_ldc2 K_RX11_109 dX11_letterAt_13 ?_
  refine ev_lrem dX11_letterAt_16 (by decide) ?_
  refine ev_eqst (st := [.long (lN (w[i] + 1))]) (congrArg (fun z => (Value.long z :: ([] : List Value))) (ra_m hw hn hi)) ?_
  refine ev_blk (B := [(.l2i, 1), (.iconst 1, 1), (.isub, 1)]) (pe := 20) (ls' := [some (.long (e2 w)), none, some (.int (nI i))]) (st' := [.int (nI (w[i]))]) ⟨dX11_letterAt_17, dX11_letterAt_18, dX11_letterAt_19, rfl⟩ (by show some (([some (.long (e2 w)), none, some (.int (nI i))] : ev_L), ([.int (((lN (w[i] + 1)).toInt32) - (nI 1))] : List Value)) = _; rw [show (lN (w[i] + 1)).toInt32 = nI (w[i] + 1) from lN_i _, show (nI (w[i] + 1)) - (nI 1) = nI (w[i]) from pk_sub (show 1 ≤ w[i] + 1 by omega)]) ?_
  refine ev_iret dX11_letterAt_20 rfl (rfl) ⟨Nat.le_of_ble_eq_true rfl, Nat.le_of_ble_eq_true rfl⟩ ?_
  exact ⟨rfl, rfl⟩

set_option maxHeartbeats 4000000 in
set_option maxRecDepth 100000 in
theorem c_R_without {l : Launch} (hl : l.stackTraces = false) {M : ev_M} (w : List Nat) (hw : wk w) (hn : w.length ≤ 25) (i : Nat) (hi : i < w.length) : ev_Mt l m_X11_without [.long (e2 w), .int (nI i)] M (ev_q (.inl (some (.long (e2 (w.eraseIdx i))))) M) := by
  refine ev_body hl rfl (by decide +kernel) (Nat.le_of_ble_eq_true rfl) ?_
  show ev_ l m_X11_without 0 0 0 [some (.long (e2 w)), none, some (.int (nI i)), none, none] [] M _
  refine ev_blk (B := [(.lload_n 0, 1)]) (pe := 1) (ls' := [some (.long (e2 w)), none, some (.int (nI i)), none, none]) (st' := [.long (e2 w)]) ⟨dX11_without_0, rfl⟩ rfl ?_
  refine ev_cSv Y_X11_lengthOf L_RX11_111 dX11_without_1 ⟨Nat.le_of_ble_eq_true rfl, Nat.le_of_ble_eq_true rfl, Nat.le_of_ble_eq_true rfl, Nat.le_of_ble_eq_true rfl, Nat.le_of_ble_eq_true rfl⟩ (as := [.long (e2 w)]) rfl rfl (c_R_lengthOf hl w hw hn) ?_
  refine ev_blk (B := [(.iconst 1, 1), (.isub, 1), (.iload_n 2, 1), (.isub, 1)]) (pe := 8) (ls' := [some (.long (e2 w)), none, some (.int (nI i)), none, none]) (st' := [.int (nI (((w.length) - 1) - i))]) ⟨dX11_without_4, dX11_without_5, dX11_without_6, dX11_without_7, rfl⟩ (by show some (([some (.long (e2 w)), none, some (.int (nI i)), none, none] : ev_L), ([.int (((nI (w.length)) - (nI 1)) - (nI i))] : List Value)) = _; rw [pk_sub (show 1 ≤ (w.length) by omega), pk_sub (show i ≤ ((w.length) - 1) by omega)]) ?_
  refine ev_cSv Y_X11_power L_RX11_115 dX11_without_8 ⟨Nat.le_of_ble_eq_true rfl, Nat.le_of_ble_eq_true rfl, Nat.le_of_ble_eq_true rfl, Nat.le_of_ble_eq_true rfl, Nat.le_of_ble_eq_true rfl⟩ (as := [.int (nI (((w.length) - 1) - i))]) rfl rfl (c_R_power hl (((w.length) - 1) - i) (by omega)) ?_
  refine ev_blk (B := [(.lstore_n 3, 1), (.lload_n 0, 1)]) (pe := 13) (ls' := [some (.long (e2 w)), none, some (.int (nI i)), some (.long (lN (4 ^ (((w.length) - 1) - i)))), none]) (st' := [.long (e2 w)]) ⟨dX11_without_11, dX11_without_12, rfl⟩ rfl ?_
  refine ev_ldc2 K_RX11_109 dX11_without_13 ?_
  refine ev_blk (B := [(.lload_n 3, 1), (.lmul, 1)]) (pe := 18) (ls' := [some (.long (e2 w)), none, some (.int (nI i)), some (.long (lN (4 ^ (((w.length) - 1) - i)))), none]) (st' := [.long ((4) * (lN (4 ^ (((w.length) - 1) - i)))), .long (e2 w)]) ⟨dX11_without_16, dX11_without_17, rfl⟩ rfl ?_
  refine ev_ldiv dX11_without_18 (p4_nz4 (by omega)) ?_
  refine ev_eqst (st := [.long (lN (n2 (w.take i)))]) (congrArg (fun z => (Value.long z :: ([] : List Value))) (rw_a hw hn hi)) ?_
  refine ev_blk (B := [(.lload_n 3, 1), (.lmul, 1), (.lload_n 0, 1), (.lload_n 3, 1)]) (pe := 23) (ls' := [some (.long (e2 w)), none, some (.int (nI i)), some (.long (lN (4 ^ (((w.length) - 1) - i)))), none]) (st' := [.long (lN (4 ^ (((w.length) - 1) - i))), .long (e2 w), .long ((lN (n2 (w.take i))) * (lN (4 ^ (((w.length) - 1) - i))))]) ⟨dX11_without_19, dX11_without_20, dX11_without_21, dX11_without_22, rfl⟩ rfl ?_
  refine ev_lrem dX11_without_23 (p4_nz (by omega)) ?_
  refine ev_eqst (st := [.long (e2 (w.drop (i + 1))), .long ((lN (n2 (w.take i))) * (lN (4 ^ (((w.length) - 1) - i))))]) (congrArg (fun z => (Value.long z :: ([.long ((lN (n2 (w.take i))) * (lN (4 ^ (((w.length) - 1) - i))))] : List Value))) (by rw [show w.length - 1 - i = w.length - (i + 1) by omega]; exact rb_c hw hn (by omega))) ?_
  refine ev_blk (B := [(.ladd, 1)]) (pe := 25) (ls' := [some (.long (e2 w)), none, some (.int (nI i)), some (.long (lN (4 ^ (((w.length) - 1) - i)))), none]) (st' := [.long (e2 (w.eraseIdx i))]) ⟨dX11_without_24, rfl⟩ (by show some (([some (.long (e2 w)), none, some (.int (nI i)), some (.long (lN (4 ^ (((w.length) - 1) - i)))), none] : ev_L), ([.long (((lN (n2 (w.take i))) * (lN (4 ^ (((w.length) - 1) - i)))) + (e2 (w.drop (i + 1))))] : List Value)) = _; rw [show ((lN (n2 (w.take i))) * (lN (4 ^ (((w.length) - 1) - i)))) + (e2 (w.drop (i + 1))) = e2 (w.eraseIdx i) from rw_c hw hn hi]) ?_
  refine ev_lret dX11_without_25 rfl ⟨Nat.le_of_ble_eq_true rfl, Nat.le_of_ble_eq_true rfl⟩ ?_
  exact ⟨rfl, rfl⟩

set_option maxHeartbeats 4000000 in
set_option maxRecDepth 100000 in
theorem c_R_behind {l : Launch} (hl : l.stackTraces = false) {M : ev_M} (w : List Nat) (hw : wk w) (hn : w.length ≤ 25) (k : Nat) (hk : k ≤ w.length) : ev_Mt l m_X11_behind [.long (e2 w), .int (nI k)] M (ev_q (.inl (some (.long (e2 (w.drop k))))) M) := by
  refine ev_body hl rfl (by decide +kernel) (Nat.le_of_ble_eq_true rfl) ?_
  show ev_ l m_X11_behind 0 0 0 [some (.long (e2 w)), none, some (.int (nI k))] [] M _
  refine ev_blk (B := [(.lload_n 0, 1), (.lload_n 0, 1)]) (pe := 2) (ls' := [some (.long (e2 w)), none, some (.int (nI k))]) (st' := [.long (e2 w), .long (e2 w)]) ⟨dX11_behind_0, dX11_behind_1, rfl⟩ rfl ?_
  refine ev_cSv Y_X11_lengthOf L_RX11_111 dX11_behind_2 ⟨Nat.le_of_ble_eq_true rfl, Nat.le_of_ble_eq_true rfl, Nat.le_of_ble_eq_true rfl, Nat.le_of_ble_eq_true rfl, Nat.le_of_ble_eq_true rfl⟩ (as := [.long (e2 w)]) rfl rfl (c_R_lengthOf hl w hw hn) ?_
  refine ev_blk (B := [(.iload_n 2, 1), (.isub, 1)]) (pe := 7) (ls' := [some (.long (e2 w)), none, some (.int (nI k))]) (st' := [.int (nI ((w.length) - k)), .long (e2 w)]) ⟨dX11_behind_5, dX11_behind_6, rfl⟩ (by show some (([some (.long (e2 w)), none, some (.int (nI k))] : ev_L), ([.int ((nI (w.length)) - (nI k)), .long (e2 w)] : List Value)) = _; rw [pk_sub (show k ≤ (w.length) by omega)]) ?_
  refine ev_cSv Y_X11_power L_RX11_115 dX11_behind_7 ⟨Nat.le_of_ble_eq_true rfl, Nat.le_of_ble_eq_true rfl, Nat.le_of_ble_eq_true rfl, Nat.le_of_ble_eq_true rfl, Nat.le_of_ble_eq_true rfl⟩ (as := [.int (nI ((w.length) - k))]) rfl rfl (c_R_power hl ((w.length) - k) (by omega)) ?_
  refine ev_lrem dX11_behind_10 (p4_nz (by omega)) ?_
  refine ev_eqst (st := [.long (e2 (w.drop k))]) (congrArg (fun z => (Value.long z :: ([] : List Value))) (rb_c hw hn hk)) ?_
  refine ev_lret dX11_behind_11 rfl ⟨Nat.le_of_ble_eq_true rfl, Nat.le_of_ble_eq_true rfl⟩ ?_
  exact ⟨rfl, rfl⟩

set_option maxHeartbeats 4000000 in
set_option maxRecDepth 100000 in
theorem c_R_placeOf_l {l : Launch} (hl : l.stackTraces = false) {M : ev_M} (w : List Nat) (hw : wk w) (hn : w.length ≤ 25) (x : Nat) (hx : x < 3) : ∀ (n9 : Nat) (i : Nat), i ≤ w.length → (∀ j, j < i → ¬ w.getD j 3 = x) → w.length - i < n9 → ev_ l m_X11_placeOf 0 0 2 [some (.long (e2 w)), none, some (.int (nI x)), some (.int (nI i))] [] M (ev_q (.inl (some (.int (nI ((ix w x).getD w.length))))) M) := by
  intro n9
  induction n9 with
  | zero => intro i hi ha hm9; exact absurd hm9 (by omega)
  | succ n9 ih =>
    intro i hi ha hm9
    refine ev_blk (B := [(.iload_n 3, 1), (.lload_n 0, 1)]) (pe := 4) (ls' := [some (.long (e2 w)), none, some (.int (nI x)), some (.int (nI i))]) (st' := [.long (e2 w), .int (nI i)]) ⟨dX11_placeOf_2, dX11_placeOf_3, rfl⟩ rfl ?_
    refine ev_cSv Y_X11_lengthOf L_RX11_111 dX11_placeOf_4 ⟨Nat.le_of_ble_eq_true rfl, Nat.le_of_ble_eq_true rfl, Nat.le_of_ble_eq_true rfl, Nat.le_of_ble_eq_true rfl, Nat.le_of_ble_eq_true rfl⟩ (as := [.long (e2 w)]) rfl rfl (c_R_lengthOf hl w hw hn) ?_
    refine ev_iN_ge dX11_placeOf_7 (tgt := 25) (by decide) (by omega) (by omega) (fun q7 => ?_) (fun q7 => ?_)
    · refine ev_blk (B := [(.iload_n 3, 1)]) (pe := 26) (ls' := [some (.long (e2 w)), none, some (.int (nI x)), some (.int (nI i))]) (st' := [.int (nI i)]) ⟨dX11_placeOf_25, rfl⟩ rfl ?_
      refine ev_iret dX11_placeOf_26 rfl (rfl) ⟨Nat.le_of_ble_eq_true rfl, Nat.le_of_ble_eq_true rfl⟩ ?_
      have e9 : ix w x = none := ix_none (fun j hj => ha j (by omega))
      rw [e9, show i = w.length by omega]
      exact ⟨rfl, rfl⟩
    · refine ev_blk (B := [(.lload_n 0, 1), (.iload_n 3, 1)]) (pe := 12) (ls' := [some (.long (e2 w)), none, some (.int (nI x)), some (.int (nI i))]) (st' := [.int (nI i), .long (e2 w)]) ⟨dX11_placeOf_10, dX11_placeOf_11, rfl⟩ rfl ?_
      have yw := hw _ (List.getElem_mem (show i < w.length by omega))
      refine ev_cSv Y_X11_letterAt L_RX11_119 dX11_placeOf_12 ⟨Nat.le_of_ble_eq_true rfl, Nat.le_of_ble_eq_true rfl, Nat.le_of_ble_eq_true rfl, Nat.le_of_ble_eq_true rfl, Nat.le_of_ble_eq_true rfl⟩ (as := [.long (e2 w), .int (nI i)]) rfl rfl (c_R_letterAt hl w hw hn i (by omega)) ?_
      refine ev_blk (B := [(.iload_n 2, 1)]) (pe := 16) (ls' := [some (.long (e2 w)), none, some (.int (nI x)), some (.int (nI i))]) (st' := [.int (nI x), .int (nI (w[i]))]) ⟨dX11_placeOf_15, rfl⟩ rfl ?_
      refine ev_iN_eq dX11_placeOf_16 (tgt := 25) (by decide) (by omega) (by omega) (fun q16 => ?_) (fun q16 => ?_)
      · refine ev_blk (B := [(.iload_n 3, 1)]) (pe := 26) (ls' := [some (.long (e2 w)), none, some (.int (nI x)), some (.int (nI i))]) (st' := [.int (nI i)]) ⟨dX11_placeOf_25, rfl⟩ rfl ?_
        refine ev_iret dX11_placeOf_26 rfl (rfl) ⟨Nat.le_of_ble_eq_true rfl, Nat.le_of_ble_eq_true rfl⟩ ?_
        have e9 : ix w x = some i := ix_some (by omega) q16 ha
        rw [e9]
        exact ⟨rfl, rfl⟩
      · refine ev_blk (B := [(.iinc 3 1, 3)]) (pe := 22) (ls' := [some (.long (e2 w)), none, some (.int (nI x)), some (.int (nI (i + 1)))]) (st' := []) ⟨dX11_placeOf_19, rfl⟩ (by show some (([some (.long (e2 w)), none, some (.int (nI x)), some (.int ((nI i) + Int32.ofInt (1)))] : ev_L), ([] : List Value)) = _; rw [ev_inc1 i]) ?_
        refine ev_goto (tgt := 2) dX11_placeOf_22 (by decide) ?_
        refine ih (i + 1) (by omega) (fun j hj => ?_) (by omega)
        by_cases e : j < i
        · exact ha j e
        · rw [show j = i by omega, ← gd_3 (show i < w.length by omega)]; exact q16

set_option maxHeartbeats 4000000 in
set_option maxRecDepth 100000 in
theorem c_R_placeOf {l : Launch} (hl : l.stackTraces = false) {M : ev_M} (w : List Nat) (hw : wk w) (hn : w.length ≤ 25) (x : Nat) (hx : x < 3) : ev_Mt l m_X11_placeOf [.long (e2 w), .int (nI x)] M (ev_q (.inl (some (.int (nI ((ix w x).getD w.length))))) M) := by
  refine ev_body hl rfl (by decide +kernel) (Nat.le_of_ble_eq_true rfl) ?_
  show ev_ l m_X11_placeOf 0 0 0 [some (.long (e2 w)), none, some (.int (nI x)), none] [] M _
  refine ev_blk (B := [(.iconst 0, 1), (.istore_n 3, 1)]) (pe := 2) (ls' := [some (.long (e2 w)), none, some (.int (nI x)), some (.int (nI 0))]) (st' := []) ⟨dX11_placeOf_0, dX11_placeOf_1, rfl⟩ rfl ?_
  exact c_R_placeOf_l hl w hw hn x hx _ 0 (Nat.zero_le _) (fun j hj => absurd hj (Nat.not_lt_zero _)) (Nat.lt_succ_self _)

set_option maxHeartbeats 4000000 in
set_option maxRecDepth 100000 in
theorem c_R_isWordBelow_l {l : Launch} (hl : l.stackTraces = false) {M : ev_M} (u v : List Nat) (hwu : wk u) (hnu : u.length ≤ 25) (hwv : wk v) (hnv : v.length ≤ 25) (z : Bool) : ∀ (n9 : Nat) (a : Nat) (k : Nat), a ≤ u.length → k ≤ v.length → z = wb (u.drop a) (v.drop k) → v.length - k < n9 → ev_ l m_X11_isWordBelow 0 0 12 [some (.long (e2 u)), none, some (.long (e2 v)), none, some (.int (nI (u.length))), some (.int (nI a)), some (.int (nI k))] [] M (ev_q (.inl (some (.int (ev_b z)))) M) := by
  intro n9
  induction n9 with
  | zero => intro a k ha hk hz hm9; exact absurd hm9 (by omega)
  | succ n9 ih =>
    intro a k ha hk hz hm9
    refine ev_blk (B := [(.iload 6, 2), (.lload_n 2, 1)]) (pe := 15) (ls' := [some (.long (e2 u)), none, some (.long (e2 v)), none, some (.int (nI (u.length))), some (.int (nI a)), some (.int (nI k))]) (st' := [.long (e2 v), .int (nI k)]) ⟨dX11_isWordBelow_12, dX11_isWordBelow_14, rfl⟩ rfl ?_
    refine ev_cSv Y_X11_lengthOf L_RX11_111 dX11_isWordBelow_15 ⟨Nat.le_of_ble_eq_true rfl, Nat.le_of_ble_eq_true rfl, Nat.le_of_ble_eq_true rfl, Nat.le_of_ble_eq_true rfl, Nat.le_of_ble_eq_true rfl⟩ (as := [.long (e2 v)]) rfl rfl (c_R_lengthOf hl v hwv hnv) ?_
    refine ev_iN_ge dX11_isWordBelow_18 (tgt := 59) (by decide) (by omega) (by omega) (fun q18 => ?_) (fun q18 => ?_)
    · refine ev_blk (B := [(.iload 5, 2), (.iload 4, 2)]) (pe := 63) (ls' := [some (.long (e2 u)), none, some (.long (e2 v)), none, some (.int (nI (u.length))), some (.int (nI a)), some (.int (nI k))]) (st' := [.int (nI (u.length)), .int (nI a)]) ⟨dX11_isWordBelow_59, dX11_isWordBelow_61, rfl⟩ rfl ?_
      refine ev_iN_ne dX11_isWordBelow_63 (tgt := 70) (by decide) (by omega) (by omega) (fun q63 => ?_) (fun q63 => ?_)
      · refine ev_blk (B := [(.iconst 0, 1)]) (pe := 71) (ls' := [some (.long (e2 u)), none, some (.long (e2 v)), none, some (.int (nI (u.length))), some (.int (nI a)), some (.int (nI k))]) (st' := [.int (nI 0)]) ⟨dX11_isWordBelow_70, rfl⟩ rfl ?_
        refine ev_iret dX11_isWordBelow_71 rfl (rfl) ⟨Nat.le_of_ble_eq_true rfl, Nat.le_of_ble_eq_true rfl⟩ ?_
        have e9 : z = false := by
          rw [hz, show k = v.length by omega, List.drop_length]
          exact wb_nr (fun h => by have h2 := congrArg List.length h; rw [List.length_drop, List.length_nil] at h2; omega)
        rw [e9]
        exact ⟨rfl, rfl⟩
      · refine ev_blk (B := [(.iconst 1, 1)]) (pe := 67) (ls' := [some (.long (e2 u)), none, some (.long (e2 v)), none, some (.int (nI (u.length))), some (.int (nI a)), some (.int (nI k))]) (st' := [.int (nI 1)]) ⟨dX11_isWordBelow_66, rfl⟩ rfl ?_
        refine ev_goto (tgt := 71) dX11_isWordBelow_67 (by decide) ?_
        refine ev_iret dX11_isWordBelow_71 rfl (rfl) ⟨Nat.le_of_ble_eq_true rfl, Nat.le_of_ble_eq_true rfl⟩ ?_
        have e9 : z = true := by rw [hz, show a = u.length by omega, List.drop_length]; exact wb_nl _
        rw [e9]
        exact ⟨rfl, rfl⟩
    · refine ev_blk (B := [(.iload 5, 2), (.iload 4, 2)]) (pe := 25) (ls' := [some (.long (e2 u)), none, some (.long (e2 v)), none, some (.int (nI (u.length))), some (.int (nI a)), some (.int (nI k))]) (st' := [.int (nI (u.length)), .int (nI a)]) ⟨dX11_isWordBelow_21, dX11_isWordBelow_23, rfl⟩ rfl ?_
      refine ev_iN_ge dX11_isWordBelow_25 (tgt := 59) (by decide) (by omega) (by omega) (fun q25 => ?_) (fun q25 => ?_)
      · refine ev_blk (B := [(.iload 5, 2), (.iload 4, 2)]) (pe := 63) (ls' := [some (.long (e2 u)), none, some (.long (e2 v)), none, some (.int (nI (u.length))), some (.int (nI a)), some (.int (nI k))]) (st' := [.int (nI (u.length)), .int (nI a)]) ⟨dX11_isWordBelow_59, dX11_isWordBelow_61, rfl⟩ rfl ?_
        refine ev_iN_ne dX11_isWordBelow_63 (tgt := 70) (by decide) (by omega) (by omega) (fun q63 => ?_) (fun q63 => ?_)
        · refine ev_blk (B := [(.iconst 0, 1)]) (pe := 71) (ls' := [some (.long (e2 u)), none, some (.long (e2 v)), none, some (.int (nI (u.length))), some (.int (nI a)), some (.int (nI k))]) (st' := [.int (nI 0)]) ⟨dX11_isWordBelow_70, rfl⟩ rfl ?_
          refine ev_iret dX11_isWordBelow_71 rfl (rfl) ⟨Nat.le_of_ble_eq_true rfl, Nat.le_of_ble_eq_true rfl⟩ ?_
          have e9 : z = false := by
            rw [hz, show k = v.length by omega, List.drop_length]
            exact wb_nr (fun h => by have h2 := congrArg List.length h; rw [List.length_drop, List.length_nil] at h2; omega)
          rw [e9]
          exact ⟨rfl, rfl⟩
        · refine ev_blk (B := [(.iconst 1, 1)]) (pe := 67) (ls' := [some (.long (e2 u)), none, some (.long (e2 v)), none, some (.int (nI (u.length))), some (.int (nI a)), some (.int (nI k))]) (st' := [.int (nI 1)]) ⟨dX11_isWordBelow_66, rfl⟩ rfl ?_
          refine ev_goto (tgt := 71) dX11_isWordBelow_67 (by decide) ?_
          refine ev_iret dX11_isWordBelow_71 rfl (rfl) ⟨Nat.le_of_ble_eq_true rfl, Nat.le_of_ble_eq_true rfl⟩ ?_
          have e9 : z = true := by rw [hz, show a = u.length by omega, List.drop_length]; exact wb_nl _
          rw [e9]
          exact ⟨rfl, rfl⟩
      · refine ev_blk (B := [(.iload 5, 2), (.lload_n 0, 1), (.iload 5, 2)]) (pe := 33) (ls' := [some (.long (e2 u)), none, some (.long (e2 v)), none, some (.int (nI (u.length))), some (.int (nI a)), some (.int (nI k))]) (st' := [.int (nI a), .long (e2 u), .int (nI a)]) ⟨dX11_isWordBelow_28, dX11_isWordBelow_30, dX11_isWordBelow_31, rfl⟩ rfl ?_
        have yu := hwu _ (List.getElem_mem (show a < u.length by omega))
        refine ev_cSv Y_X11_letterAt L_RX11_119 dX11_isWordBelow_33 ⟨Nat.le_of_ble_eq_true rfl, Nat.le_of_ble_eq_true rfl, Nat.le_of_ble_eq_true rfl, Nat.le_of_ble_eq_true rfl, Nat.le_of_ble_eq_true rfl⟩ (as := [.long (e2 u), .int (nI a)]) rfl rfl (c_R_letterAt hl u hwu hnu a (by omega)) ?_
        refine ev_blk (B := [(.lload_n 2, 1), (.iload 6, 2)]) (pe := 39) (ls' := [some (.long (e2 u)), none, some (.long (e2 v)), none, some (.int (nI (u.length))), some (.int (nI a)), some (.int (nI k))]) (st' := [.int (nI k), .long (e2 v), .int (nI (u[a])), .int (nI a)]) ⟨dX11_isWordBelow_36, dX11_isWordBelow_37, rfl⟩ rfl ?_
        have yv := hwv _ (List.getElem_mem (show k < v.length by omega))
        refine ev_cSv Y_X11_letterAt L_RX11_119 dX11_isWordBelow_39 ⟨Nat.le_of_ble_eq_true rfl, Nat.le_of_ble_eq_true rfl, Nat.le_of_ble_eq_true rfl, Nat.le_of_ble_eq_true rfl, Nat.le_of_ble_eq_true rfl⟩ (as := [.long (e2 v), .int (nI k)]) rfl rfl (c_R_letterAt hl v hwv hnv k (by omega)) ?_
        refine ev_iN_ne dX11_isWordBelow_42 (tgt := 49) (by decide) (by omega) (by omega) (fun q42 => ?_) (fun q42 => ?_)
        · refine ev_blk (B := [(.iconst 0, 1), (.iadd, 1), (.istore 5, 2), (.iinc 6 1, 3)]) (pe := 56) (ls' := [some (.long (e2 u)), none, some (.long (e2 v)), none, some (.int (nI (u.length))), some (.int (nI (a + 0))), some (.int (nI (k + 1)))]) (st' := []) ⟨dX11_isWordBelow_49, dX11_isWordBelow_50, dX11_isWordBelow_51, dX11_isWordBelow_53, rfl⟩ (by show some (([some (.long (e2 u)), none, some (.long (e2 v)), none, some (.int (nI (u.length))), some (.int ((nI a) + (nI 0))), some (.int ((nI k) + Int32.ofInt (1)))] : ev_L), ([] : List Value)) = _; rw [nI_add a 0, ev_inc1 k]) ?_
          refine ev_goto (tgt := 12) dX11_isWordBelow_56 (by decide) ?_
          refine ih a (k + 1) (by omega) (by omega) ?_ (by omega)
          rw [hz, wb_fw (show a < u.length by omega) (show k < v.length by omega), if_neg q42]
        · refine ev_blk (B := [(.iconst 1, 1)]) (pe := 46) (ls' := [some (.long (e2 u)), none, some (.long (e2 v)), none, some (.int (nI (u.length))), some (.int (nI a)), some (.int (nI k))]) (st' := [.int (nI 1), .int (nI a)]) ⟨dX11_isWordBelow_45, rfl⟩ rfl ?_
          refine ev_goto (tgt := 50) dX11_isWordBelow_46 (by decide) ?_
          refine ev_blk (B := [(.iadd, 1), (.istore 5, 2), (.iinc 6 1, 3)]) (pe := 56) (ls' := [some (.long (e2 u)), none, some (.long (e2 v)), none, some (.int (nI (u.length))), some (.int (nI (a + 1))), some (.int (nI (k + 1)))]) (st' := []) ⟨dX11_isWordBelow_50, dX11_isWordBelow_51, dX11_isWordBelow_53, rfl⟩ (by show some (([some (.long (e2 u)), none, some (.long (e2 v)), none, some (.int (nI (u.length))), some (.int ((nI a) + (nI 1))), some (.int ((nI k) + Int32.ofInt (1)))] : ev_L), ([] : List Value)) = _; rw [nI_add a 1, ev_inc1 k]) ?_
          refine ev_goto (tgt := 12) dX11_isWordBelow_56 (by decide) ?_
          refine ih (a + 1) (k + 1) (by omega) (by omega) ?_ (by omega)
          rw [hz, wb_fw (show a < u.length by omega) (show k < v.length by omega), if_pos q42]

set_option maxHeartbeats 4000000 in
set_option maxRecDepth 100000 in
theorem c_R_isWordBelow {l : Launch} (hl : l.stackTraces = false) {M : ev_M} (u v : List Nat) (hwu : wk u) (hnu : u.length ≤ 25) (hwv : wk v) (hnv : v.length ≤ 25) : ev_Mt l m_X11_isWordBelow [.long (e2 u), .long (e2 v)] M (ev_q (.inl (some (.int (ev_b (wb u v))))) M) := by
  refine ev_body hl rfl (by decide +kernel) (Nat.le_of_ble_eq_true rfl) ?_
  show ev_ l m_X11_isWordBelow 0 0 0 [some (.long (e2 u)), none, some (.long (e2 v)), none, none, none, none] [] M _
  refine ev_blk (B := [(.lload_n 0, 1)]) (pe := 1) (ls' := [some (.long (e2 u)), none, some (.long (e2 v)), none, none, none, none]) (st' := [.long (e2 u)]) ⟨dX11_isWordBelow_0, rfl⟩ rfl ?_
  refine ev_cSv Y_X11_lengthOf L_RX11_111 dX11_isWordBelow_1 ⟨Nat.le_of_ble_eq_true rfl, Nat.le_of_ble_eq_true rfl, Nat.le_of_ble_eq_true rfl, Nat.le_of_ble_eq_true rfl, Nat.le_of_ble_eq_true rfl⟩ (as := [.long (e2 u)]) rfl rfl (c_R_lengthOf hl u hwu hnu) ?_
  refine ev_blk (B := [(.istore 4, 2), (.iconst 0, 1), (.istore 5, 2), (.iconst 0, 1), (.istore 6, 2)]) (pe := 12) (ls' := [some (.long (e2 u)), none, some (.long (e2 v)), none, some (.int (nI (u.length))), some (.int (nI 0)), some (.int (nI 0))]) (st' := []) ⟨dX11_isWordBelow_4, dX11_isWordBelow_6, dX11_isWordBelow_7, dX11_isWordBelow_9, dX11_isWordBelow_10, rfl⟩ rfl ?_
  exact c_R_isWordBelow_l hl u v hwu hnu hwv hnv _ _ 0 0 (Nat.zero_le _) (Nat.zero_le _) rfl (Nat.lt_succ_self _)

