/-! what the class's words do, in numbers -/
theorem q1_62 {w : List Nat} (hw : wk w) (hn : w.length ≤ 25) : n1 w < 2 ^ 62 := Nat.lt_of_lt_of_le (n1_lt hw hn) (by decide)
theorem q2_62 {w : List Nat} (hw : wk w) (hn : w.length ≤ 25) : n2 w < 2 ^ 62 := Nat.lt_of_lt_of_le (n2_lt hw hn) (by decide)
theorem sz_c {w : List Nat} (hw : wk w) (hn : w.length ≤ 25) {i : Nat} (hi : i ≤ w.length) : lN (n1 w / 4 ^ i) ≤ 1 ↔ i = w.length := by
  have h1 : n1 w / 4 ^ i < 2 ^ 62 := Nat.lt_of_le_of_lt (Nat.div_le_self _ _) (q1_62 hw hn)
  rw [show (1 : Int64) = lN 1 from rfl, wl_le h1 (by decide), n1_div hw hi]
  have h2 := n1_gt (w := w.take (w.length - i))
  have h3 : w.take (w.length - i) ≠ [] ↔ i < w.length := by
    rw [ne_eq, ← List.length_eq_zero_iff, List.length_take]; omega
  rw [h3] at h2
  have h4 : 0 < n1 (w.take (w.length - i)) := Nat.lt_of_lt_of_le (p4_pos _) n1_ge
  omega
theorem em_c {w : List Nat} (hw : wk w) (hn : w.length ≤ 25) : e1 w ≤ 1 ↔ w = [] := by
  have := sz_c hw hn (i := 0) (Nat.zero_le _)
  rw [Nat.pow_zero, Nat.div_one] at this
  rw [show e1 w = lN (n1 w) from rfl, this, eq_comm, List.length_eq_zero_iff]
theorem at_c {w : List Nat} (hw : wk w) (hn : w.length ≤ 25) {i : Nat} (hi : i < w.length) : lN (n1 w / 4 ^ (w.length - 1 - i)) &&& 3 = lN w[i] := by
  have h1 : n1 w / 4 ^ (w.length - 1 - i) < 2 ^ 62 := Nat.lt_of_le_of_lt (Nat.div_le_self _ _) (q1_62 hw hn)
  rw [wl_and3 h1, n1_div hw (by omega), show w.length - (w.length - 1 - i) = i + 1 by omega, List.take_succ_eq_append_getElem hi, (n1_last _ (Nat.lt_of_lt_of_le (hw _ (List.getElem_mem hi)) (by decide))).1]
theorem ex_c {w : List Nat} (hw : wk w) (hn : w.length ≤ 25) {x : Nat} (hx : x < 3) : (e1 w <<< ((nI 2).toInt64 &&& 63)) ||| (nI x).toInt64 = e1 (w ++ [x]) := by
  have h1 : e1 w <<< ((nI 2).toInt64 &&& 63) = lN (n1 w * 4 ^ 1) := wl_shlB (i := 1) (by decide)
  rw [h1, nI_l (by omega), wl_or4 (by omega) (by have := n1_lt hw hn; omega)]
  show _ = lN (n1 (w ++ [x]))
  rw [n1_snoc, Nat.mul_comm]
theorem ex_c2 {w : List Nat} (hw : wk w) (hn : w.length ≤ 25) {x : Nat} (hx : x < 3) : (e1 w <<< ((nI 2).toInt64 &&& 63)) ||| lN x = e1 (w ++ [x]) := by
  rw [← nI_l (show x < 2 ^ 31 by omega)]; exact ex_c hw hn hx
theorem wl_c {w : List Nat} (hw : wk w) (hn : w.length ≤ 25) (h : ¬ w = []) : e1 w >>> ((nI 2).toInt64 &&& 63) = e1 w.dropLast := by
  have h1 : e1 w >>> ((nI (2 * 1)).toInt64 &&& 63) = lN (n1 w / 4 ^ 1) := wl_shrB (q1_62 hw hn) (by decide)
  have h2 : 1 ≤ w.length := List.length_pos_iff.mpr h
  rw [n1_div hw h2, ← List.dropLast_eq_take] at h1
  exact h1
theorem wl_n {w : List Nat} (h : w = []) : (1 : Int64) = e1 w.dropLast := by subst h; rfl
theorem ew_n {w : List Nat} {x : Nat} (h : w = []) : ¬ w.getLast? = some x := by subst h; simp
theorem la_c {w : List Nat} (hw : wk w) (hn : w.length ≤ 25) (h : w ≠ []) : e1 w &&& 3 = lN (w.getLast h) := by
  show lN (n1 w) &&& 3 = _
  rw [wl_and3 (q1_62 hw hn)]
  have h1 := List.dropLast_concat_getLast h
  have h2 : n1 w % 4 = w.getLast h := by
    have := (n1_last w.dropLast (d := w.getLast h) (Nat.lt_of_lt_of_le (hw _ (List.getLast_mem h)) (by decide))).1
    rwa [h1] at this
  rw [h2]
theorem ew_c {w : List Nat} (hw : wk w) (hn : w.length ≤ 25) {x : Nat} (hx : x < 3) (h : ¬ w = []) : (e1 w &&& 3 = lN x) ↔ w.getLast? = some x := by
  rw [la_c hw hn h, List.getLast?_eq_some_getLast h]
  have h1 : w.getLast h < 3 := hw _ (List.getLast_mem h)
  rw [wl_eq (by omega) (by omega)]
  simp
theorem pr_c {w : List Nat} (hw : wk w) (hn : w.length ≤ 25) {x : Nat} (hx : x < 3) : (e1 w - (1 <<< ((nI (2 * w.length)).toInt64 &&& 63))) + ((4 ||| lN x) <<< ((nI (2 * w.length)).toInt64 &&& 63)) = e1 (x :: w) := by
  have h1 : (1 : Int64) <<< ((nI (2 * w.length)).toInt64 &&& 63) = lN (1 * 4 ^ w.length) := wl_shlB (n := 1) (by omega)
  have h2 : (4 : Int64) ||| lN x = lN (4 + x) := wl_or4 (a := 1) (k := 1) (by omega) (by omega)
  rw [h1, h2, wl_shlB (by omega)]
  show lN (n1 w) - _ + _ = lN (n1 (x :: w))
  rw [lN_sub (by rw [Nat.one_mul]; exact n1_ge), lN_add, n1_cons, n1_eq]
  congr 1
  omega
theorem lo_c {w : List Nat} (hw : wk w) (hn : w.length ≤ 25) {k : Nat} (hk : k ≤ w.length) : e1 w &&& ((1 <<< ((nI (2 * k)).toInt64 &&& 63)) - 1) = lN (wv 0 (w.drop (w.length - k))) := by
  have h1 : (1 : Int64) <<< ((nI (2 * k)).toInt64 &&& 63) = lN (1 * 4 ^ k) := wl_shlB (n := 1) (by omega)
  have e : (4 : Nat) ^ k = 2 ^ (2 * k) := by rw [show (4 : Nat) = 2 ^ 2 from rfl, ← Nat.pow_mul]
  rw [h1, Nat.one_mul, show (1 : Int64) = lN 1 from rfl, lN_sub (p4_pos k), e]
  show lN (n1 w) &&& _ = _
  rw [wb_mask (Nat.lt_of_lt_of_le (q1_62 hw hn) (by decide)) (by omega), ← e, n1_mod hw hk]
theorem wo_c {w : List Nat} (hw : wk w) (hn : w.length ≤ 25) {i : Nat} (hi : i < w.length) : ((e1 w >>> ((nI (2 * (w.length - 1 - i) + 2)).toInt64 &&& 63)) <<< ((nI (2 * (w.length - 1 - i))).toInt64 &&& 63)) ||| (e1 w &&& ((1 <<< ((nI (2 * (w.length - 1 - i))).toInt64 &&& 63)) - 1)) = e1 (w.eraseIdx i) := by
  rw [lo_c hw hn (by omega), show 2 * (w.length - 1 - i) + 2 = 2 * (w.length - i) by omega]
  have h1 : e1 w >>> ((nI (2 * (w.length - i))).toInt64 &&& 63) = lN (n1 w / 4 ^ (w.length - i)) := wl_shrB (q1_62 hw hn) (by omega)
  rw [h1, n1_div hw (by omega), show w.length - (w.length - i) = i by omega, show w.length - (w.length - 1 - i) = i + 1 by omega, wl_shlB (by omega)]
  have h2 : (w.drop (i + 1)).length = w.length - 1 - i := by rw [List.length_drop]; omega
  have h3 := wv_lt (wk_drop hw (i + 1)).to4
  rw [h2] at h3
  have h4 : n1 (w.eraseIdx i) = n1 (w.take i) * 4 ^ (w.length - 1 - i) + wv 0 (w.drop (i + 1)) := by
    rw [List.eraseIdx_eq_take_drop_succ]
    show wv 1 _ = _
    rw [wv_app, wv_eq, h2]; rfl
  have h5 : n1 (w.eraseIdx i) < 2 ^ 52 := n1_lt (fun d hd => hw d (List.mem_of_mem_eraseIdx hd)) (by rw [List.length_eraseIdx]; split <;> omega)
  rw [wl_or4 h3 (by rw [← h4]; omega), ← h4]
  rfl
theorem be_c {w : List Nat} (hw : wk w) (hn : w.length ≤ 25) {i : Nat} (hi : i < w.length) : (1 <<< ((nI (2 * (w.length - 1 - i))).toInt64 &&& 63)) ||| (e1 w &&& ((1 <<< ((nI (2 * (w.length - 1 - i))).toInt64 &&& 63)) - 1)) = e1 (w.drop (i + 1)) := by
  rw [lo_c hw hn (by omega), show w.length - (w.length - 1 - i) = i + 1 by omega]
  have h1 : (1 : Int64) <<< ((nI (2 * (w.length - 1 - i))).toInt64 &&& 63) = lN (1 * 4 ^ (w.length - 1 - i)) := wl_shlB (n := 1) (by omega)
  have h2 : (w.drop (i + 1)).length = w.length - 1 - i := by rw [List.length_drop]; omega
  have h3 := wv_lt (wk_drop hw (i + 1)).to4
  rw [h2] at h3
  have h4 : n1 (w.drop (i + 1)) = 1 * 4 ^ (w.length - 1 - i) + wv 0 (w.drop (i + 1)) := by rw [n1_eq, h2, Nat.one_mul]
  have h5 : n1 (w.drop (i + 1)) < 2 ^ 52 := n1_lt (wk_drop hw _) (by omega)
  rw [h1, wl_or4 h3 (by rw [← h4]; omega), ← h4]
  rfl
set_option maxHeartbeats 4000000 in
set_option maxRecDepth 100000 in
theorem c_X9_size_l {l : Launch}  {M : ev_M} (w : List Nat) (hw : wk w) (hn : w.length ≤ 25) : ∀ (n9 : Nat) (i : Nat), i ≤ w.length → w.length - i < n9 → ev_ l m_X9_size 0 0 2 [some (.long (e1 w)), none, some (.int (nI i))] [] M (ev_q (.inl (some (.int (nI (w.length))))) M) := by
  intro n9
  induction n9 with
  | zero => intro i hi hm9; exact absurd hm9 (by omega)
  | succ n9 ih =>
    intro i hi hm9
    refine ev_blk (B := [(.iload_n 2, 1), (.bipush 31, 2)]) (pe := 5) (ls' := [some (.long (e1 w)), none, some (.int (nI i))]) (st' := [.int (nI 31), .int (nI i)]) ⟨dX9_size_2, dX9_size_3, rfl⟩ rfl ?_
    refine ev_iN_ge dX9_size_5 (tgt := 24) (by decide) (by omega) (by omega) (fun h1 => ?_) (fun h1 => ?_)
    · exfalso; omega
    · refine ev_blk (B := [(.lload_n 0, 1), (.iconst 2, 1), (.iload_n 2, 1), (.imul, 1), (.lshr, 1), (.lconst 1, 1), (.lcmp, 1)]) (pe := 15) (ls' := [some (.long (e1 w)), none, some (.int (nI i))]) (st' := [.int (lg_cmp (lN (n1 w / 4 ^ i)) (1))]) ⟨dX9_size_8, dX9_size_9, dX9_size_10, dX9_size_11, dX9_size_12, dX9_size_13, dX9_size_14, rfl⟩ (by show some (([some (.long (e1 w)), none, some (.int (nI i))] : ev_L), ([.int (lg_cmp ((e1 w) >>> (((nI 2) * (nI i)).toInt64 &&& 63)) (1))] : List Value)) = _; rw [pk_mul, show (e1 w) >>> ((nI (2 * i)).toInt64 &&& 63) = lN (n1 w / 4 ^ i) from wl_shrB (q1_62 hw hn) (by omega)]) ?_
      refine ev_lc_le dX9_size_15 (tgt := 24) (by decide) (fun h2 => ?_) (fun h2 => ?_)
      · have h2 := (sz_c hw hn hi).mp h2
        refine ev_blk (B := [(.iload_n 2, 1)]) (pe := 25) (ls' := [some (.long (e1 w)), none, some (.int (nI i))]) (st' := [.int (nI i)]) ⟨dX9_size_24, rfl⟩ rfl ?_
        refine ev_iret dX9_size_25 rfl (rfl) ⟨Nat.le_of_ble_eq_true rfl, Nat.le_of_ble_eq_true rfl⟩ ?_
        exact ev_q_e (by rw [h2])
      · have h2 := mt (sz_c hw hn hi).mpr h2
        refine ev_blk (B := [(.iinc 2 1, 3)]) (pe := 21) (ls' := [some (.long (e1 w)), none, some (.int (nI (i + 1)))]) (st' := []) ⟨dX9_size_18, rfl⟩ (by show some (([some (.long (e1 w)), none, some (.int ((nI i) + Int32.ofInt (1)))] : ev_L), ([] : List Value)) = _; rw [ev_inc1]) ?_
        refine ev_goto (tgt := 2) dX9_size_21 (by decide) ?_
        exact ih (i + 1) (by omega) (by omega)

set_option maxHeartbeats 4000000 in
set_option maxRecDepth 100000 in
theorem c_X9_size {l : Launch} (hl : l.stackTraces = false) {M : ev_M} (w : List Nat) (hw : wk w) (hn : w.length ≤ 25) : ev_Mt l m_X9_size [.long (e1 w)] M (ev_q (.inl (some (.int (nI (w.length))))) M) := by
  refine ev_body hl rfl (by decide +kernel) (Nat.le_of_ble_eq_true rfl) ?_
  show ev_ l m_X9_size 0 0 0 [some (.long (e1 w)), none, none] [] M _
  refine ev_blk (B := [(.iconst 0, 1), (.istore_n 2, 1)]) (pe := 2) (ls' := [some (.long (e1 w)), none, some (.int (nI 0))]) (st' := []) ⟨dX9_size_0, dX9_size_1, rfl⟩ rfl ?_
  exact c_X9_size_l w hw hn _ 0 (Nat.zero_le _) (Nat.lt_succ_self _)

set_option maxHeartbeats 4000000 in
set_option maxRecDepth 100000 in
theorem c_X9_at {l : Launch} (hl : l.stackTraces = false) {M : ev_M} (w : List Nat) (hw : wk w) (hn : w.length ≤ 25) (i : Nat) (hi : i < w.length) : ev_Mt l m_X9_at [.long (e1 w), .int (nI i)] M (ev_q (.inl (some (.int (nI w[i])))) M) := by
  refine ev_body hl rfl (by decide +kernel) (Nat.le_of_ble_eq_true rfl) ?_
  show ev_ l m_X9_at 0 0 0 [some (.long (e1 w)), none, some (.int (nI i))] [] M _
  refine ev_blk (B := [(.lload_n 0, 1), (.iconst 2, 1), (.lload_n 0, 1)]) (pe := 3) (ls' := [some (.long (e1 w)), none, some (.int (nI i))]) (st' := [.long (e1 w), .int (nI 2), .long (e1 w)]) ⟨dX9_at_0, dX9_at_1, dX9_at_2, rfl⟩ rfl ?_
  refine ev_cSv Y_X9_size L_RX9_9 dX9_at_3 ⟨Nat.le_of_ble_eq_true rfl, Nat.le_of_ble_eq_true rfl, Nat.le_of_ble_eq_true rfl, Nat.le_of_ble_eq_true rfl, Nat.le_of_ble_eq_true rfl⟩ (as := [.long (e1 w)]) rfl rfl (c_X9_size hl w hw hn) ?_
  refine ev_blk (B := [(.iconst 1, 1), (.isub, 1), (.iload_n 2, 1), (.isub, 1), (.imul, 1), (.lshr, 1)]) (pe := 12) (ls' := [some (.long (e1 w)), none, some (.int (nI i))]) (st' := [.long (lN (n1 w / 4 ^ (w.length - 1 - i)))]) ⟨dX9_at_6, dX9_at_7, dX9_at_8, dX9_at_9, dX9_at_10, dX9_at_11, rfl⟩ (by show some (([some (.long (e1 w)), none, some (.int (nI i))] : ev_L), ([.long ((e1 w) >>> (((nI 2) * (((nI (w.length)) - (nI 1)) - (nI i))).toInt64 &&& 63))] : List Value)) = _; rw [pk_sub (show 1 ≤ (w.length) by omega), pk_sub (show i ≤ ((w.length) - 1) by omega), pk_mul, show (e1 w) >>> ((nI (2 * (((w.length) - 1) - i))).toInt64 &&& 63) = lN (n1 w / 4 ^ (w.length - 1 - i)) from wl_shrB (q1_62 hw hn) (by omega)]) ?_
  refine ev_ldc2 K_RX9_13 dX9_at_12 ?_
  refine ev_blk (B := [(.land, 1), (.l2i, 1)]) (pe := 17) (ls' := [some (.long (e1 w)), none, some (.int (nI i))]) (st' := [.int (nI (w[i]))]) ⟨dX9_at_15, dX9_at_16, rfl⟩ (by show some (([some (.long (e1 w)), none, some (.int (nI i))] : ev_L), ([.int (((lN (n1 w / 4 ^ (w.length - 1 - i))) &&& (3)).toInt32)] : List Value)) = _; rw [show (lN (n1 w / 4 ^ (w.length - 1 - i))) &&& (3) = lN w[i] from at_c hw hn hi, show (lN w[i]).toInt32 = nI (w[i]) from lN_i _]) ?_
  refine ev_iret dX9_at_17 rfl (rfl) ⟨Nat.le_of_ble_eq_true rfl, Nat.le_of_ble_eq_true rfl⟩ ?_
  exact ⟨rfl, rfl⟩

set_option maxHeartbeats 4000000 in
set_option maxRecDepth 100000 in
theorem c_X9_extend {l : Launch} (hl : l.stackTraces = false) {M : ev_M} (w : List Nat) (hw : wk w) (hn : w.length ≤ 25) (x : Nat) (hx : x < 3) : ev_Mt l m_X9_extend [.long (e1 w), .int (nI x)] M (ev_q (.inl (some (.long (e1 (w ++ [x]))))) M) := by
  refine ev_body hl rfl (by decide +kernel) (Nat.le_of_ble_eq_true rfl) ?_
  show ev_ l m_X9_extend 0 0 0 [some (.long (e1 w)), none, some (.int (nI x))] [] M _
  refine ev_blk (B := [(.lload_n 0, 1), (.iconst 2, 1), (.lshl, 1), (.iload_n 2, 1), (.i2l, 1), (.lor, 1)]) (pe := 6) (ls' := [some (.long (e1 w)), none, some (.int (nI x))]) (st' := [.long (e1 (w ++ [x]))]) ⟨dX9_extend_0, dX9_extend_1, dX9_extend_2, dX9_extend_3, dX9_extend_4, dX9_extend_5, rfl⟩ (by show some (([some (.long (e1 w)), none, some (.int (nI x))] : ev_L), ([.long (((e1 w) <<< ((nI 2).toInt64 &&& 63)) ||| ((nI x).toInt64))] : List Value)) = _; rw [nI_l (show x < 2 ^ 31 by omega), show ((e1 w) <<< ((nI 2).toInt64 &&& 63)) ||| (lN (x)) = e1 (w ++ [x]) from ex_c2 hw hn hx]) ?_
  refine ev_lret dX9_extend_6 rfl ⟨Nat.le_of_ble_eq_true rfl, Nat.le_of_ble_eq_true rfl⟩ ?_
  exact ⟨rfl, rfl⟩

set_option maxHeartbeats 4000000 in
set_option maxRecDepth 100000 in
theorem c_X9_withoutLast {l : Launch} (hl : l.stackTraces = false) {M : ev_M} (w : List Nat) (hw : wk w) (hn : w.length ≤ 25) : ev_Mt l m_X9_withoutLast [.long (e1 w)] M (ev_q (.inl (some (.long (e1 w.dropLast)))) M) := by
  refine ev_body hl rfl (by decide +kernel) (Nat.le_of_ble_eq_true rfl) ?_
  show ev_ l m_X9_withoutLast 0 0 0 [some (.long (e1 w)), none] [] M _
  refine ev_blk (B := [(.lload_n 0, 1), (.lconst 1, 1), (.lcmp, 1)]) (pe := 3) (ls' := [some (.long (e1 w)), none]) (st' := [.int (lg_cmp (e1 w) (1))]) ⟨dX9_withoutLast_0, dX9_withoutLast_1, dX9_withoutLast_2, rfl⟩ rfl ?_
  refine ev_lc_le dX9_withoutLast_3 (tgt := 12) (by decide) (fun h1 => ?_) (fun h1 => ?_)
  · have h1 := (em_c hw hn).mp h1
    refine ev_blk (B := [(.lconst 1, 1)]) (pe := 13) (ls' := [some (.long (e1 w)), none]) (st' := [.long (1)]) ⟨dX9_withoutLast_12, rfl⟩ rfl ?_
    refine ev_lret dX9_withoutLast_13 rfl ⟨Nat.le_of_ble_eq_true rfl, Nat.le_of_ble_eq_true rfl⟩ ?_
    exact ev_q_e (by rw [wl_n (by assumption)])
  · have h1 := mt (em_c hw hn).mpr h1
    refine ev_blk (B := [(.lload_n 0, 1), (.iconst 2, 1), (.lshr, 1)]) (pe := 9) (ls' := [some (.long (e1 w)), none]) (st' := [.long (e1 w.dropLast)]) ⟨dX9_withoutLast_6, dX9_withoutLast_7, dX9_withoutLast_8, rfl⟩ (by show some (([some (.long (e1 w)), none] : ev_L), ([.long ((e1 w) >>> ((nI 2).toInt64 &&& 63))] : List Value)) = _; rw [show (e1 w) >>> ((nI 2).toInt64 &&& 63) = e1 w.dropLast from wl_c hw hn (by assumption)]) ?_
    refine ev_goto (tgt := 13) dX9_withoutLast_9 (by decide) ?_
    refine ev_lret dX9_withoutLast_13 rfl ⟨Nat.le_of_ble_eq_true rfl, Nat.le_of_ble_eq_true rfl⟩ ?_
    exact ⟨rfl, rfl⟩

set_option maxHeartbeats 4000000 in
set_option maxRecDepth 100000 in
theorem c_X9_endsWith {l : Launch} (hl : l.stackTraces = false) {M : ev_M} (w : List Nat) (hw : wk w) (hn : w.length ≤ 25) (x : Nat) (hx : x < 3) : ev_Mt l m_X9_endsWith [.long (e1 w), .int (nI x)] M (ev_q (.inl (some (.int (ev_b (decide (w.getLast? = some x)))))) M) := by
  refine ev_body hl rfl (by decide +kernel) (Nat.le_of_ble_eq_true rfl) ?_
  show ev_ l m_X9_endsWith 0 0 0 [some (.long (e1 w)), none, some (.int (nI x))] [] M _
  refine ev_blk (B := [(.lload_n 0, 1), (.lconst 1, 1), (.lcmp, 1)]) (pe := 3) (ls' := [some (.long (e1 w)), none, some (.int (nI x))]) (st' := [.int (lg_cmp (e1 w) (1))]) ⟨dX9_endsWith_0, dX9_endsWith_1, dX9_endsWith_2, rfl⟩ rfl ?_
  refine ev_lc_le dX9_endsWith_3 (tgt := 21) (by decide) (fun h1 => ?_) (fun h1 => ?_)
  · have h1 := (em_c hw hn).mp h1
    refine ev_blk (B := [(.iconst 0, 1)]) (pe := 22) (ls' := [some (.long (e1 w)), none, some (.int (nI x))]) (st' := [.int (nI 0)]) ⟨dX9_endsWith_21, rfl⟩ rfl ?_
    refine ev_iret dX9_endsWith_22 rfl (rfl) ⟨Nat.le_of_ble_eq_true rfl, Nat.le_of_ble_eq_true rfl⟩ ?_
    exact ev_q_e (by first | (rw [decide_eq_true (by assumption)]; rfl) | (rw [decide_eq_false (ew_n (by assumption))]; rfl) | (rw [decide_eq_false (by assumption)]; rfl))
  · have h1 := mt (em_c hw hn).mpr h1
    refine ev_blk (B := [(.lload_n 0, 1)]) (pe := 7) (ls' := [some (.long (e1 w)), none, some (.int (nI x))]) (st' := [.long (e1 w)]) ⟨dX9_endsWith_6, rfl⟩ rfl ?_
    refine ev_ldc2 K_RX9_13 dX9_endsWith_7 ?_
    refine ev_blk (B := [(.land, 1), (.iload_n 2, 1), (.i2l, 1), (.lcmp, 1)]) (pe := 14) (ls' := [some (.long (e1 w)), none, some (.int (nI x))]) (st' := [.int (lg_cmp ((e1 w) &&& (3)) (lN (x)))]) ⟨dX9_endsWith_10, dX9_endsWith_11, dX9_endsWith_12, dX9_endsWith_13, rfl⟩ (by show some (([some (.long (e1 w)), none, some (.int (nI x))] : ev_L), ([.int (lg_cmp ((e1 w) &&& (3)) ((nI x).toInt64))] : List Value)) = _; rw [nI_l (show x < 2 ^ 31 by omega)]) ?_
    refine ev_lc_ne dX9_endsWith_14 (tgt := 21) (by decide) (fun h2 => ?_) (fun h2 => ?_)
    · have h2 := mt (ew_c hw hn hx (by assumption)).mpr h2
      refine ev_blk (B := [(.iconst 0, 1)]) (pe := 22) (ls' := [some (.long (e1 w)), none, some (.int (nI x))]) (st' := [.int (nI 0)]) ⟨dX9_endsWith_21, rfl⟩ rfl ?_
      refine ev_iret dX9_endsWith_22 rfl (rfl) ⟨Nat.le_of_ble_eq_true rfl, Nat.le_of_ble_eq_true rfl⟩ ?_
      exact ev_q_e (by first | (rw [decide_eq_true (by assumption)]; rfl) | (rw [decide_eq_false (ew_n (by assumption))]; rfl) | (rw [decide_eq_false (by assumption)]; rfl))
    · have h2 := (ew_c hw hn hx (by assumption)).mp h2
      refine ev_blk (B := [(.iconst 1, 1)]) (pe := 18) (ls' := [some (.long (e1 w)), none, some (.int (nI x))]) (st' := [.int (nI 1)]) ⟨dX9_endsWith_17, rfl⟩ rfl ?_
      refine ev_goto (tgt := 22) dX9_endsWith_18 (by decide) ?_
      refine ev_iret dX9_endsWith_22 rfl (rfl) ⟨Nat.le_of_ble_eq_true rfl, Nat.le_of_ble_eq_true rfl⟩ ?_
      exact ev_q_e (by first | (rw [decide_eq_true (by assumption)]; rfl) | (rw [decide_eq_false (ew_n (by assumption))]; rfl) | (rw [decide_eq_false (by assumption)]; rfl))

set_option maxHeartbeats 4000000 in
set_option maxRecDepth 100000 in
theorem c_X9_prepend {l : Launch} (hl : l.stackTraces = false) {M : ev_M} (w : List Nat) (hw : wk w) (hn : w.length ≤ 25) (x : Nat) (hx : x < 3) : ev_Mt l m_X9_prepend [.int (nI x), .long (e1 w)] M (ev_q (.inl (some (.long (e1 (x :: w))))) M) := by
  refine ev_body hl rfl (by decide +kernel) (Nat.le_of_ble_eq_true rfl) ?_
  show ev_ l m_X9_prepend 0 0 0 [some (.int (nI x)), some (.long (e1 w)), none, none] [] M _
  refine ev_blk (B := [(.iconst 2, 1), (.lload_n 1, 1)]) (pe := 2) (ls' := [some (.int (nI x)), some (.long (e1 w)), none, none]) (st' := [.long (e1 w), .int (nI 2)]) ⟨dX9_prepend_0, dX9_prepend_1, rfl⟩ rfl ?_
  refine ev_cSv Y_X9_size L_RX9_9 dX9_prepend_2 ⟨Nat.le_of_ble_eq_true rfl, Nat.le_of_ble_eq_true rfl, Nat.le_of_ble_eq_true rfl, Nat.le_of_ble_eq_true rfl, Nat.le_of_ble_eq_true rfl⟩ (as := [.long (e1 w)]) rfl rfl (c_X9_size hl w hw hn) ?_
  refine ev_blk (B := [(.imul, 1), (.istore_n 3, 1), (.lload_n 1, 1), (.lconst 1, 1), (.iload_n 3, 1), (.lshl, 1), (.lsub, 1)]) (pe := 12) (ls' := [some (.int (nI x)), some (.long (e1 w)), none, some (.int (nI (2 * (w.length))))]) (st' := [.long ((e1 w) - ((1) <<< ((nI (2 * (w.length))).toInt64 &&& 63)))]) ⟨dX9_prepend_5, dX9_prepend_6, dX9_prepend_7, dX9_prepend_8, dX9_prepend_9, dX9_prepend_10, dX9_prepend_11, rfl⟩ (by show some (([some (.int (nI x)), some (.long (e1 w)), none, some (.int ((nI 2) * (nI (w.length))))] : ev_L), ([.long ((e1 w) - ((1) <<< (((nI 2) * (nI (w.length))).toInt64 &&& 63)))] : List Value)) = _; rw [pk_mul]) ?_
  refine ev_ldc2 K_RX9_15 dX9_prepend_12 ?_
  refine ev_blk (B := [(.iload_n 0, 1), (.i2l, 1), (.lor, 1), (.iload_n 3, 1), (.lshl, 1), (.ladd, 1)]) (pe := 21) (ls' := [some (.int (nI x)), some (.long (e1 w)), none, some (.int (nI (2 * (w.length))))]) (st' := [.long (e1 (x :: w))]) ⟨dX9_prepend_15, dX9_prepend_16, dX9_prepend_17, dX9_prepend_18, dX9_prepend_19, dX9_prepend_20, rfl⟩ (by show some (([some (.int (nI x)), some (.long (e1 w)), none, some (.int (nI (2 * (w.length))))] : ev_L), ([.long (((e1 w) - ((1) <<< ((nI (2 * (w.length))).toInt64 &&& 63))) + (((4) ||| ((nI x).toInt64)) <<< ((nI (2 * (w.length))).toInt64 &&& 63)))] : List Value)) = _; rw [nI_l (show x < 2 ^ 31 by omega), show ((e1 w) - ((1) <<< ((nI (2 * (w.length))).toInt64 &&& 63))) + (((4) ||| (lN (x))) <<< ((nI (2 * (w.length))).toInt64 &&& 63)) = e1 (x :: w) from pr_c hw hn hx]) ?_
  refine ev_lret dX9_prepend_21 rfl ⟨Nat.le_of_ble_eq_true rfl, Nat.le_of_ble_eq_true rfl⟩ ?_
  exact ⟨rfl, rfl⟩

set_option maxHeartbeats 4000000 in
set_option maxRecDepth 100000 in
theorem c_X9_without {l : Launch} (hl : l.stackTraces = false) {M : ev_M} (w : List Nat) (hw : wk w) (hn : w.length ≤ 25) (i : Nat) (hi : i < w.length) : ev_Mt l m_X9_without [.long (e1 w), .int (nI i)] M (ev_q (.inl (some (.long (e1 (w.eraseIdx i))))) M) := by
  refine ev_body hl rfl (by decide +kernel) (Nat.le_of_ble_eq_true rfl) ?_
  show ev_ l m_X9_without 0 0 0 [some (.long (e1 w)), none, some (.int (nI i)), none] [] M _
  refine ev_blk (B := [(.iconst 2, 1), (.lload_n 0, 1)]) (pe := 2) (ls' := [some (.long (e1 w)), none, some (.int (nI i)), none]) (st' := [.long (e1 w), .int (nI 2)]) ⟨dX9_without_0, dX9_without_1, rfl⟩ rfl ?_
  refine ev_cSv Y_X9_size L_RX9_9 dX9_without_2 ⟨Nat.le_of_ble_eq_true rfl, Nat.le_of_ble_eq_true rfl, Nat.le_of_ble_eq_true rfl, Nat.le_of_ble_eq_true rfl, Nat.le_of_ble_eq_true rfl⟩ (as := [.long (e1 w)]) rfl rfl (c_X9_size hl w hw hn) ?_
  refine ev_blk (B := [(.iconst 1, 1), (.isub, 1), (.iload_n 2, 1), (.isub, 1), (.imul, 1), (.istore_n 3, 1), (.lload_n 0, 1), (.iload_n 3, 1), (.iconst 2, 1), (.iadd, 1), (.lshr, 1), (.iload_n 3, 1), (.lshl, 1), (.lload_n 0, 1), (.lconst 1, 1), (.iload_n 3, 1), (.lshl, 1), (.lconst 1, 1), (.lsub, 1), (.land, 1), (.lor, 1)]) (pe := 26) (ls' := [some (.long (e1 w)), none, some (.int (nI i)), some (.int (nI (2 * (((w.length) - 1) - i))))]) (st' := [.long (e1 (w.eraseIdx i))]) ⟨dX9_without_5, dX9_without_6, dX9_without_7, dX9_without_8, dX9_without_9, dX9_without_10, dX9_without_11, dX9_without_12, dX9_without_13, dX9_without_14, dX9_without_15, dX9_without_16, dX9_without_17, dX9_without_18, dX9_without_19, dX9_without_20, dX9_without_21, dX9_without_22, dX9_without_23, dX9_without_24, dX9_without_25, rfl⟩ (by show some (([some (.long (e1 w)), none, some (.int (nI i)), some (.int ((nI 2) * (((nI (w.length)) - (nI 1)) - (nI i))))] : ev_L), ([.long ((((e1 w) >>> ((((nI 2) * (((nI (w.length)) - (nI 1)) - (nI i))) + (nI 2)).toInt64 &&& 63)) <<< (((nI 2) * (((nI (w.length)) - (nI 1)) - (nI i))).toInt64 &&& 63)) ||| ((e1 w) &&& (((1) <<< (((nI 2) * (((nI (w.length)) - (nI 1)) - (nI i))).toInt64 &&& 63)) - (1))))] : List Value)) = _; rw [pk_sub (show 1 ≤ (w.length) by omega), pk_sub (show i ≤ ((w.length) - 1) by omega), pk_mul, nI_add, show (((e1 w) >>> ((nI ((2 * (((w.length) - 1) - i)) + 2)).toInt64 &&& 63)) <<< ((nI (2 * (((w.length) - 1) - i))).toInt64 &&& 63)) ||| ((e1 w) &&& (((1) <<< ((nI (2 * (((w.length) - 1) - i))).toInt64 &&& 63)) - (1))) = e1 (w.eraseIdx i) from wo_c hw hn hi]) ?_
  refine ev_lret dX9_without_26 rfl ⟨Nat.le_of_ble_eq_true rfl, Nat.le_of_ble_eq_true rfl⟩ ?_
  exact ⟨rfl, rfl⟩

set_option maxHeartbeats 4000000 in
set_option maxRecDepth 100000 in
theorem c_X9_behind {l : Launch} (hl : l.stackTraces = false) {M : ev_M} (w : List Nat) (hw : wk w) (hn : w.length ≤ 25) (i : Nat) (hi : i < w.length) : ev_Mt l m_X9_behind [.long (e1 w), .int (nI i)] M (ev_q (.inl (some (.long (e1 (w.drop (i + 1)))))) M) := by
  refine ev_body hl rfl (by decide +kernel) (Nat.le_of_ble_eq_true rfl) ?_
  show ev_ l m_X9_behind 0 0 0 [some (.long (e1 w)), none, some (.int (nI i)), none] [] M _
  refine ev_blk (B := [(.iconst 2, 1), (.lload_n 0, 1)]) (pe := 2) (ls' := [some (.long (e1 w)), none, some (.int (nI i)), none]) (st' := [.long (e1 w), .int (nI 2)]) ⟨dX9_behind_0, dX9_behind_1, rfl⟩ rfl ?_
  refine ev_cSv Y_X9_size L_RX9_9 dX9_behind_2 ⟨Nat.le_of_ble_eq_true rfl, Nat.le_of_ble_eq_true rfl, Nat.le_of_ble_eq_true rfl, Nat.le_of_ble_eq_true rfl, Nat.le_of_ble_eq_true rfl⟩ (as := [.long (e1 w)]) rfl rfl (c_X9_size hl w hw hn) ?_
  refine ev_blk (B := [(.iconst 1, 1), (.isub, 1), (.iload_n 2, 1), (.isub, 1), (.imul, 1), (.istore_n 3, 1), (.lconst 1, 1), (.iload_n 3, 1), (.lshl, 1), (.lload_n 0, 1), (.lconst 1, 1), (.iload_n 3, 1), (.lshl, 1), (.lconst 1, 1), (.lsub, 1), (.land, 1), (.lor, 1)]) (pe := 22) (ls' := [some (.long (e1 w)), none, some (.int (nI i)), some (.int (nI (2 * (((w.length) - 1) - i))))]) (st' := [.long (e1 (w.drop (i + 1)))]) ⟨dX9_behind_5, dX9_behind_6, dX9_behind_7, dX9_behind_8, dX9_behind_9, dX9_behind_10, dX9_behind_11, dX9_behind_12, dX9_behind_13, dX9_behind_14, dX9_behind_15, dX9_behind_16, dX9_behind_17, dX9_behind_18, dX9_behind_19, dX9_behind_20, dX9_behind_21, rfl⟩ (by show some (([some (.long (e1 w)), none, some (.int (nI i)), some (.int ((nI 2) * (((nI (w.length)) - (nI 1)) - (nI i))))] : ev_L), ([.long (((1) <<< (((nI 2) * (((nI (w.length)) - (nI 1)) - (nI i))).toInt64 &&& 63)) ||| ((e1 w) &&& (((1) <<< (((nI 2) * (((nI (w.length)) - (nI 1)) - (nI i))).toInt64 &&& 63)) - (1))))] : List Value)) = _; rw [pk_sub (show 1 ≤ (w.length) by omega), pk_sub (show i ≤ ((w.length) - 1) by omega), pk_mul, show ((1) <<< ((nI (2 * (((w.length) - 1) - i))).toInt64 &&& 63)) ||| ((e1 w) &&& (((1) <<< ((nI (2 * (((w.length) - 1) - i))).toInt64 &&& 63)) - (1))) = e1 (w.drop (i + 1)) from be_c hw hn hi]) ?_
  refine ev_lret dX9_behind_22 rfl ⟨Nat.le_of_ble_eq_true rfl, Nat.le_of_ble_eq_true rfl⟩ ?_
  exact ⟨rfl, rfl⟩

