/-! what the class's words do, in numbers -/
theorem q1_62 {w : List Nat} (hw : wk w) (hn : w.length ≤ 25) : n1 w < 2 ^ 62 := Nat.lt_of_lt_of_le (n1_lt hw hn) (by decide)
theorem q2_62 {w : List Nat} (hw : wk w) (hn : w.length ≤ 25) : n2 w < 2 ^ 62 := Nat.lt_of_lt_of_le (n2_lt hw hn) (by decide)
theorem sz_c {w : List Nat} (hw : wk w) (hn : w.length ≤ 25) {i : Nat} (hi : i ≤ w.length) : lN (n1 w / 4 ^ i) ≤ 1 ↔ i = w.length := by
  have h1 : n1 w / 4 ^ i < 2 ^ 62 := Nat.lt_of_le_of_lt (Nat.div_le_self _ _) (q1_62 hw hn)
  rw [show (1 : Int64) = lN 1 from rfl, wl_le h1 (by decide), n1_div hw hi]
  have h2 := n1_gt (w := w.take (w.length - i))
  have h3 : w.take (w.length - i) ≠ [] ↔ i < w.length := by
    rw [ne_eq, ← List.length_eq_zero_iff, List.length_take]; omega
  rw [h3] at h2
  have h4 : 0 < n1 (w.take (w.length - i)) := Nat.lt_of_lt_of_le (p4_pos _) n1_ge
  omega
theorem em_c {w : List Nat} (hw : wk w) (hn : w.length ≤ 25) : e1 w ≤ 1 ↔ w = [] := by
  have := sz_c hw hn (i := 0) (Nat.zero_le _)
  rw [Nat.pow_zero, Nat.div_one] at this
  rw [show e1 w = lN (n1 w) from rfl, this, eq_comm, List.length_eq_zero_iff]
theorem at_c {w : List Nat} (hw : wk w) (hn : w.length ≤ 25) {i : Nat} (hi : i < w.length) : lN (n1 w / 4 ^ (w.length - 1 - i)) &&& 3 = lN w[i] := by
  have h1 : n1 w / 4 ^ (w.length - 1 - i) < 2 ^ 62 := Nat.lt_of_le_of_lt (Nat.div_le_self _ _) (q1_62 hw hn)
  rw [wl_and3 h1, n1_div hw (by omega), show w.length - (w.length - 1 - i) = i + 1 by omega, List.take_succ_eq_append_getElem hi, (n1_last _ (Nat.lt_of_lt_of_le (hw _ (List.getElem_mem hi)) (by decide))).1]
theorem ex_c {w : List Nat} (hw : wk w) (hn : w.length ≤ 25) {x : Nat} (hx : x < 3) : (e1 w <<< ((nI 2).toInt64 &&& 63)) ||| (nI x).toInt64 = e1 (w ++ [x]) := by
  have h1 : e1 w <<< ((nI 2).toInt64 &&& 63) = lN (n1 w * 4 ^ 1) := wl_shlB (i := 1) (by decide)
  rw [h1, nI_l (by omega), wl_or4 (by omega) (by have := n1_lt hw hn; omega)]
  show _ = lN (n1 (w ++ [x]))
  rw [n1_snoc, Nat.mul_comm]
set_option maxHeartbeats 4000000 in
set_option maxRecDepth 100000 in
theorem c_X9_size_l {l : Launch}  {M : ev_M} (w : List Nat) (hw : wk w) (hn : w.length ≤ 25) : ∀ (n9 : Nat) (i : Nat), i ≤ w.length → w.length - i < n9 → ev_ l m_X9_size 0 0 2 [some (.long (e1 w)), none, some (.int (nI i))] [] M (ev_q (.inl (some (.int (nI (w.length))))) M) := by
  intro n9
  induction n9 with
  | zero => intro i hi hm9; exact absurd hm9 (by omega)
  | succ n9 ih =>
    intro i hi hm9
    refine ev_blk (B := [(.iload_n 2, 1), (.bipush 31, 2)]) (pe := 5) (ls' := [some (.long (e1 w)), none, some (.int (nI i))]) (st' := [.int (nI 31), .int (nI i)]) ⟨dX9_size_2, dX9_size_3, rfl⟩ rfl ?_
    refine ev_iN_ge dX9_size_5 (tgt := 24) (by decide) (by omega) (by omega) (fun h1 => ?_) (fun h1 => ?_)
    · exfalso; omega
    · refine ev_blk (B := [(.lload_n 0, 1), (.iconst 2, 1), (.iload_n 2, 1), (.imul, 1), (.lshr, 1), (.lconst 1, 1), (.lcmp, 1)]) (pe := 15) (ls' := [some (.long (e1 w)), none, some (.int (nI i))]) (st' := [.int (lg_cmp (lN (n1 w / 4 ^ i)) (1))]) ⟨dX9_size_8, dX9_size_9, dX9_size_10, dX9_size_11, dX9_size_12, dX9_size_13, dX9_size_14, rfl⟩ (by show some (([some (.long (e1 w)), none, some (.int (nI i))] : ev_L), ([.int (lg_cmp ((e1 w) >>> ((nI 2 * nI i).toInt64 &&& 63)) (1))] : List Value)) = _; rw [show (e1 w) >>> ((nI 2 * nI i).toInt64 &&& 63) = lN (n1 w / 4 ^ i) from wl_shr (q1_62 hw hn) (by omega)]) ?_
      refine ev_lc_le dX9_size_15 (tgt := 24) (by decide) (fun h2 => ?_) (fun h2 => ?_)
      · have h2 := (sz_c hw hn hi).mp h2
        refine ev_blk (B := [(.iload_n 2, 1)]) (pe := 25) (ls' := [some (.long (e1 w)), none, some (.int (nI i))]) (st' := [.int (nI i)]) ⟨dX9_size_24, rfl⟩ rfl ?_
        refine ev_iret dX9_size_25 rfl (rfl) ⟨Nat.le_of_ble_eq_true rfl, Nat.le_of_ble_eq_true rfl⟩ ?_
        exact ev_q_e (by rw [h2])
      · have h2 := mt (sz_c hw hn hi).mpr h2
        refine ev_blk (B := [(.iinc 2 1, 3)]) (pe := 21) (ls' := [some (.long (e1 w)), none, some (.int (nI (i + 1)))]) (st' := []) ⟨dX9_size_18, rfl⟩ (by show some (([some (.long (e1 w)), none, some (.int ((nI i) + Int32.ofInt (1)))] : ev_L), ([] : List Value)) = _; rw [ev_inc1]) ?_
        refine ev_goto (tgt := 2) dX9_size_21 (by decide) ?_
        exact ih (i + 1) (by omega) (by omega)

set_option maxHeartbeats 4000000 in
set_option maxRecDepth 100000 in
theorem c_X9_size {l : Launch} (hl : l.stackTraces = false) {M : ev_M} (w : List Nat) (hw : wk w) (hn : w.length ≤ 25) : ev_Mt l m_X9_size [.long (e1 w)] M (ev_q (.inl (some (.int (nI (w.length))))) M) := by
  refine ev_body hl rfl (by decide +kernel) (Nat.le_of_ble_eq_true rfl) ?_
  show ev_ l m_X9_size 0 0 0 [some (.long (e1 w)), none, none] [] M _
  refine ev_blk (B := [(.iconst 0, 1), (.istore_n 2, 1)]) (pe := 2) (ls' := [some (.long (e1 w)), none, some (.int (nI 0))]) (st' := []) ⟨dX9_size_0, dX9_size_1, rfl⟩ rfl ?_
  exact c_X9_size_l w hw hn _ 0 (Nat.zero_le _) (Nat.lt_succ_self _)

set_option maxHeartbeats 4000000 in
set_option maxRecDepth 100000 in
theorem c_X9_at {l : Launch} (hl : l.stackTraces = false) {M : ev_M} (w : List Nat) (hw : wk w) (hn : w.length ≤ 25) (i : Nat) (hi : i < w.length) : ev_Mt l m_X9_at [.long (e1 w), .int (nI i)] M (ev_q (.inl (some (.int (nI w[i])))) M) := by
  refine ev_body hl rfl (by decide +kernel) (Nat.le_of_ble_eq_true rfl) ?_
  show ev_ l m_X9_at 0 0 0 [some (.long (e1 w)), none, some (.int (nI i))] [] M _
  refine ev_blk (B := [(.lload_n 0, 1), (.iconst 2, 1), (.lload_n 0, 1)]) (pe := 3) (ls' := [some (.long (e1 w)), none, some (.int (nI i))]) (st' := [.long (e1 w), .int (nI 2), .long (e1 w)]) ⟨dX9_at_0, dX9_at_1, dX9_at_2, rfl⟩ rfl ?_
  refine ev_cSv Y_X9_size L_RX9_9 dX9_at_3 ⟨Nat.le_of_ble_eq_true rfl, Nat.le_of_ble_eq_true rfl, Nat.le_of_ble_eq_true rfl, Nat.le_of_ble_eq_true rfl, Nat.le_of_ble_eq_true rfl⟩ (as := [.long (e1 w)]) rfl rfl (c_X9_size hl w hw hn) ?_
  refine ev_blk (B := [(.iconst 1, 1), (.isub, 1), (.iload_n 2, 1), (.isub, 1), (.imul, 1), (.lshr, 1)]) (pe := 12) (ls' := [some (.long (e1 w)), none, some (.int (nI i))]) (st' := [.long (lN (n1 w / 4 ^ (w.length - 1 - i)))]) ⟨dX9_at_6, dX9_at_7, dX9_at_8, dX9_at_9, dX9_at_10, dX9_at_11, rfl⟩ (by show some (([some (.long (e1 w)), none, some (.int (nI i))] : ev_L), ([.long ((e1 w) >>> (((nI 2) * (((nI (w.length)) - (nI 1)) - (nI i))).toInt64 &&& 63))] : List Value)) = _; rw [pk_sub (show 1 ≤ (w.length) by omega), pk_sub (show i ≤ ((w.length) - 1) by omega), pk_mul, show (e1 w) >>> ((nI (2 * (w.length - 1 - i))).toInt64 &&& 63) = lN (n1 w / 4 ^ (w.length - 1 - i)) from wl_shrB (q1_62 hw hn) (by omega)]) ?_
  refine ev_ldc2 K_RX9_13 dX9_at_12 ?_
  refine ev_blk (B := [(.land, 1), (.l2i, 1)]) (pe := 17) (ls' := [some (.long (e1 w)), none, some (.int (nI i))]) (st' := [.int (nI (w[i]))]) ⟨dX9_at_15, dX9_at_16, rfl⟩ (by show some (([some (.long (e1 w)), none, some (.int (nI i))] : ev_L), ([.int (((lN (n1 w / 4 ^ (w.length - 1 - i))) &&& 3).toInt32)] : List Value)) = _; rw [at_c hw hn hi, lN_i]) ?_
  refine ev_iret dX9_at_17 rfl (rfl) ⟨Nat.le_of_ble_eq_true rfl, Nat.le_of_ble_eq_true rfl⟩ ?_
  exact ⟨rfl, rfl⟩

