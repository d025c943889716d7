/-! ===== new objects ===== -/
theorem ev_ap0 {M0 : ev_M} {b : Nat} {x : va_E} {r : List va_E} (hb : M0.length = b) : (M0 ++ (x :: r))[b]? = some x := by
  rw [List.getElem?_append_right (by omega), hb, Nat.sub_self]; rfl
theorem ev_ap1 {M0 : ev_M} {b : Nat} {x y : va_E} {r : List va_E} (hb : M0.length = b) : (M0 ++ (x :: y :: r))[b + 1]? = some y := by
  rw [List.getElem?_append_right (by omega), show b + 1 - M0.length = 1 by omega]; rfl
theorem ev_as0 {M0 : ev_M} {b : Nat} {x c : va_E} {r : List va_E} (hb : M0.length = b) : (M0 ++ (x :: r)).set b c = M0 ++ (c :: r) := by
  rw [List.set_append_right _ _ (by omega), hb, Nat.sub_self]; rfl
theorem ev_as1 {M0 : ev_M} {b : Nat} {x y c : va_E} {r : List va_E} (hb : M0.length = b) : (M0 ++ (x :: y :: r)).set (b + 1) c = M0 ++ (x :: c :: r) := by
  rw [List.set_append_right _ _ (by omega), show b + 1 - M0.length = 1 by omega]; rfl
theorem ev_mq {l : Launch} {mi : ev_MI} {kc ks pc : Nat} {ls : ev_L} {st : List Value} {M M1 : ev_M} {Q : ev_R → ev_M → Prop} (h : M = M1) (k : ev_ l mi kc ks pc ls st M1 Q) : ev_ l mi kc ks pc ls st M Q := h ▸ k
def kI (n : Nat) : va_E := .inl (0, n, .inl (fun _ => 0))
def kL (n : Nat) : va_E := .inl (1, n, .inr (.inl (fun _ => 0)))
def k1 : List va_E := [.inr (1, [.int (nI 0), .long (e1 []), .long (e1 [])])]
def k4 (b : Nat) : List va_E := [.inr (4, [.ref (b + 1), .int (nI 0)]), kI 50]
def k2 (b cap : Nat) : List va_E := [.inr (2, [.ref (b + 1), .ref (b + 2), .ref (b + 3), .int (nI 0)]), kI cap, kL cap, kL cap]
def k3 (b : Nat) : List va_E := [.inr (3, [.ref (b + 1)]), kI 11]
def k8 (b : Nat) : List va_E := .inr (8, [.ref (b + 1), .ref (b + 5), .ref (b + 6)]) :: (k2 (b + 1) 20 ++ [kI 20] ++ k1)
def k0f (b : Nat) : Nat → List va_E
  | 0 => []
  | i + 1 => k0f b i ++ k2 (b + 2 + 4 * i) 30
def k0r (b i : Nat) : va_E := .inl (3, 13, .inr (.inr (.inr (.inr (fun j => if j < i then some (b + 2 + 4 * j) else none)))))
def k0 (b : Nat) : List va_E := .inr (0, [.ref (b + 1), .ref (b + 54), .ref (b + 58), .ref (b + 59), .int (ev_b false), .int (ev_b false), .int (nI 0), .int (nI 0), .int (nI 0)]) :: k0r b 13 :: (k0f b 13 ++ k2 (b + 54) 330 ++ k1 ++ k1)
def k5 (b : Nat) : List va_E := .inr (5, [.ref (b + 1), .ref (b + 2), .ref (b + 6)]) :: (k1 ++ k2 (b + 2) 1000 ++ k2 (b + 6) 1000)
def k6 (b : Nat) : List va_E := .inr (6, [.ref (b + 1), .ref (b + 3), .ref (b + 4), .int (ev_b false)]) :: (k4 (b + 1) ++ k1 ++ k2 (b + 4) 3)
def k7 (b : Nat) : List va_E := .inr (7, [.ref (b + 1), .ref (b + 2), .ref (b + 4), .ref (b + 8), .int (nI 0), .int (nI 0), .int (ev_b false), .int (-1)]) :: ([.inl (2, 80, .inl (fun _ => 0))] ++ k4 (b + 2) ++ k2 (b + 4) 8 ++ k1)
def k9 (b : Nat) : List va_E := .inr (9, [.ref (b + 1), .ref (b + 3), .ref (b + 4), .ref (b + 8), .ref (b + 15), .ref (b + 17), .ref (b + 77), .ref (b + 87), .ref (b + 96)]) :: (k4 (b + 1) ++ k1 ++ k2 (b + 4) 3 ++ k8 (b + 8) ++ k3 (b + 15) ++ k0 (b + 17) ++ k5 (b + 77) ++ k7 (b + 87) ++ k6 (b + 96))
theorem k0f_len (b i : Nat) : (k0f b i).length = 4 * i := by
  induction i with
  | zero => rfl
  | succ i ih => show (k0f b i ++ k2 _ _).length = _; rw [List.length_append, ih]; show 4 * i + 4 = _; omega
theorem k1_len : k1.length = 1 := rfl
theorem k2_len (b cap : Nat) : (k2 b cap).length = 4 := rfl
theorem k3_len (b : Nat) : (k3 b).length = 2 := rfl
theorem k4_len (b : Nat) : (k4 b).length = 2 := rfl
theorem k8_len (b : Nat) : (k8 b).length = 7 := rfl
theorem k0_len9 (b : Nat) : (k0 b).length = 60 := by
  unfold k0
  rw [List.length_cons, List.length_cons, List.length_append, List.length_append, List.length_append, k0f_len]; rfl
theorem k5_len (b : Nat) : (k5 b).length = 10 := rfl
theorem k6_len (b : Nat) : (k6 b).length = 8 := rfl
theorem k7_len (b : Nat) : (k7 b).length = 9 := rfl
set_option maxHeartbeats 4000000 in
set_option maxRecDepth 100000 in
theorem c_X1_init {l : Launch} (hl : l.stackTraces = false) (M0 : ev_M) (b : Nat) (hb : M0.length = b) : ev_Mt l (m_X1_init) [.ref (b)] (M0 ++ [.inr (1, [.int (nI 0), .long (0), .long (0)])]) (ev_q (.inl none) (M0 ++ k1)) := by
  refine ev_body hl rfl (by decide +kernel) (Nat.le_of_ble_eq_true rfl) ?_
  show ev_ l (m_X1_init) 0 0 0 [some (.ref (b))] [] (M0 ++ (.inr (1, [.int (nI 0), .long (0), .long (0)]) :: [])) _
  refine ev_blk (B := [(.aload_n 0, 1)]) (pe := 1) (ls' := [some (.ref (b))]) (st' := [.ref (b)]) ⟨dX1_init_0, rfl⟩ rfl ?_
  refine ev_objInit L_RX1_1 ev_oi1 ev_oi2 dX1_init_1 ⟨Nat.le_of_ble_eq_true rfl, Nat.le_of_ble_eq_true rfl⟩ ?_
  refine ev_blk (B := [(.aload_n 0, 1), (.iconst 0, 1)]) (pe := 6) (ls' := [some (.ref (b))]) (st' := [.int (nI 0), .ref (b)]) ⟨dX1_init_4, dX1_init_5, rfl⟩ rfl ?_
  refine ev_put F_RX1_7 dX1_init_6 (ev_ap0 hb) (Nat.le_of_ble_eq_true rfl) (fun _ _ => ⟨rfl, rfl⟩) ?_
  refine ev_mq (M1 := M0 ++ (.inr (1, [.int (nI 0), .long (0), .long (0)]) :: [])) (ev_as0 hb) ?_
  refine ev_blk (B := [(.aload_n 0, 1), (.lconst 1, 1)]) (pe := 11) (ls' := [some (.ref (b))]) (st' := [.long (1), .ref (b)]) ⟨dX1_init_9, dX1_init_10, rfl⟩ rfl ?_
  refine ev_put F_RX1_15 dX1_init_11 (ev_ap0 hb) (Nat.le_of_ble_eq_true rfl) (fun _ _ => ⟨rfl, rfl⟩) ?_
  refine ev_mq (M1 := M0 ++ (.inr (1, [.int (nI 0), .long (1), .long (0)]) :: [])) (ev_as0 hb) ?_
  refine ev_blk (B := [(.aload_n 0, 1), (.lconst 1, 1)]) (pe := 16) (ls' := [some (.ref (b))]) (st' := [.long (1), .ref (b)]) ⟨dX1_init_14, dX1_init_15, rfl⟩ rfl ?_
  refine ev_put F_RX1_19 dX1_init_16 (ev_ap0 hb) (Nat.le_of_ble_eq_true rfl) (fun _ _ => ⟨rfl, rfl⟩) ?_
  refine ev_mq (M1 := M0 ++ (.inr (1, [.int (nI 0), .long (1), .long (1)]) :: [])) (ev_as0 hb) ?_
  refine ev_vret dX1_init_19 rfl ⟨Nat.le_of_ble_eq_true rfl, Nat.le_of_ble_eq_true rfl⟩ ?_
  exact ⟨rfl, by rw [show k1 = [.inr (1, [.int (nI 0), .long 1, .long 1])] from by unfold k1; rw [show e1 [] = (1 : Int64) from by decide]]⟩

set_option maxHeartbeats 4000000 in
set_option maxRecDepth 100000 in
theorem c_X4_init {l : Launch} (hl : l.stackTraces = false) (M0 : ev_M) (b : Nat) (hb : M0.length = b) : ev_Mt l (m_X4_init) [.ref (b)] (M0 ++ [.inr (4, [.null, .int (nI 0)])]) (ev_q (.inl none) (M0 ++ k4 b)) := by
  refine ev_body hl rfl (by decide +kernel) (Nat.le_of_ble_eq_true rfl) ?_
  show ev_ l (m_X4_init) 0 0 0 [some (.ref (b))] [] (M0 ++ (.inr (4, [.null, .int (nI 0)]) :: [])) _
  refine ev_blk (B := [(.aload_n 0, 1)]) (pe := 1) (ls' := [some (.ref (b))]) (st' := [.ref (b)]) ⟨dX4_init_0, rfl⟩ rfl ?_
  refine ev_objInit L_RX4_3 ev_oi1 ev_oi2 dX4_init_1 ⟨Nat.le_of_ble_eq_true rfl, Nat.le_of_ble_eq_true rfl⟩ ?_
  refine ev_blk (B := [(.aload_n 0, 1), (.bipush 50, 2)]) (pe := 7) (ls' := [some (.ref (b))]) (st' := [.int (nI 50), .ref (b)]) ⟨dX4_init_4, dX4_init_5, rfl⟩ rfl ?_
  refine ev_newaI (N := 50) A_int (by decide) (by decide) (by omega) dX4_init_7 ⟨Nat.le_of_ble_eq_true rfl, Nat.le_of_ble_eq_true rfl⟩ ?_
  rw [(show List.length (α := va_E) (M0 ++ (.inr (4, [.null, .int (nI 0)]) :: [])) = b + 1 by rw [List.length_append, hb]; simp only [List.length_append, List.length_cons, List.length_nil, k0f_len, k1_len, k2_len, k3_len, k4_len, k8_len, k0_len9, k5_len, k6_len, k7_len] <;> omega)]
  refine ev_mq (M1 := M0 ++ (.inr (4, [.null, .int (nI 0)]) :: [kI 50])) (List.append_assoc _ _ _) ?_
  refine ev_putF F_RX4_9 dX4_init_9 rfl (fun q hq => by cases hq; rfl) (ev_ap0 hb) (Nat.le_of_ble_eq_true rfl) (fun _ _ => ⟨rfl, rfl⟩) ?_
  refine ev_mq (M1 := M0 ++ (.inr (4, [.ref (b + 1), .int (nI 0)]) :: [kI 50])) (ev_as0 hb) ?_
  refine ev_blk (B := [(.aload_n 0, 1), (.iconst 0, 1)]) (pe := 14) (ls' := [some (.ref (b))]) (st' := [.int (nI 0), .ref (b)]) ⟨dX4_init_12, dX4_init_13, rfl⟩ rfl ?_
  refine ev_put F_RX4_15 dX4_init_14 (ev_ap0 hb) (Nat.le_of_ble_eq_true rfl) (fun _ _ => ⟨rfl, rfl⟩) ?_
  refine ev_mq (M1 := M0 ++ (.inr (4, [.ref (b + 1), .int (nI 0)]) :: [kI 50])) (ev_as0 hb) ?_
  refine ev_vret dX4_init_17 rfl ⟨Nat.le_of_ble_eq_true rfl, Nat.le_of_ble_eq_true rfl⟩ ?_
  exact ⟨rfl, rfl⟩

set_option maxHeartbeats 4000000 in
set_option maxRecDepth 100000 in
theorem c_X2_init {l : Launch} (hl : l.stackTraces = false) (M0 : ev_M) (b : Nat) (hb : M0.length = b) (cap : Nat) (hcap : cap < 2000) : ev_Mt l (m_X2_init cap) [.ref (b), .int (nI cap)] (M0 ++ [.inr (2, [.null, .null, .null, .int (nI 0)])]) (ev_q (.inl none) (M0 ++ k2 b cap)) := by
  refine ev_body hl rfl (by show plainName yX2_init.cls = true; decide +kernel) (Nat.le_of_ble_eq_true rfl) ?_
  show ev_ l (m_X2_init cap) 0 0 0 [some (.ref (b)), some (.int (nI cap)), none] [] (M0 ++ (.inr (2, [.null, .null, .null, .int (nI 0)]) :: [])) _
  refine ev_blk (B := [(.aload_n 0, 1)]) (pe := 1) (ls' := [some (.ref (b)), some (.int (nI cap)), none]) (st' := [.ref (b)]) ⟨dX2_init_0, rfl⟩ rfl ?_
  refine ev_objInit L_RX2_1 ev_oi1 ev_oi2 dX2_init_1 ⟨Nat.le_of_ble_eq_true rfl, Nat.le_of_ble_eq_true rfl⟩ ?_
  refine ev_blk (B := [(.iload_n 1, 1), (.iconst 0, 1)]) (pe := 6) (ls' := [some (.ref (b)), some (.int (nI cap)), none]) (st' := [.int (nI 0), .int (nI cap)]) ⟨dX2_init_4, dX2_init_5, rfl⟩ rfl ?_
  refine ev_max L_RX2_7 ev_mmax dX2_init_6 ⟨Nat.le_of_ble_eq_true rfl, Nat.le_of_ble_eq_true rfl, Nat.le_of_ble_eq_true rfl, Nat.le_of_ble_eq_true rfl⟩ ?_
  refine ev_eqst (st := [.int (nI cap)]) (congrArg (fun z => (Value.int z :: ([] : List Value))) ((if_neg (nI_pos (by omega))))) ?_
  refine ev_blk (B := [(.istore_n 2, 1), (.aload_n 0, 1), (.iload_n 2, 1)]) (pe := 12) (ls' := [some (.ref (b)), some (.int (nI cap)), some (.int (nI cap))]) (st' := [.int (nI cap), .ref (b)]) ⟨dX2_init_9, dX2_init_10, dX2_init_11, rfl⟩ rfl ?_
  refine ev_newaI (N := cap) A_int (nI_pos (by omega)) (nI_clamp (by omega)) (by omega) dX2_init_12 ⟨Nat.le_of_ble_eq_true rfl, by show _ ≤ 3 * cap; omega⟩ ?_
  rw [(show List.length (α := va_E) (M0 ++ (.inr (2, [.null, .null, .null, .int (nI 0)]) :: [])) = b + 1 by rw [List.length_append, hb]; simp only [List.length_append, List.length_cons, List.length_nil, k0f_len, k1_len, k2_len, k3_len, k4_len, k8_len, k0_len9, k5_len, k6_len, k7_len] <;> omega)]
  refine ev_mq (M1 := M0 ++ (.inr (2, [.null, .null, .null, .int (nI 0)]) :: [kI cap])) (List.append_assoc _ _ _) ?_
  refine ev_putF F_RX2_13 dX2_init_14 rfl (fun q hq => by cases hq; rfl) (ev_ap0 hb) (Nat.le_of_ble_eq_true rfl) (fun _ _ => ⟨rfl, rfl⟩) ?_
  refine ev_mq (M1 := M0 ++ (.inr (2, [.ref (b + 1), .null, .null, .int (nI 0)]) :: [kI cap])) (ev_as0 hb) ?_
  refine ev_blk (B := [(.aload_n 0, 1), (.iload_n 2, 1)]) (pe := 19) (ls' := [some (.ref (b)), some (.int (nI cap)), some (.int (nI cap))]) (st' := [.int (nI cap), .ref (b)]) ⟨dX2_init_17, dX2_init_18, rfl⟩ rfl ?_
  refine ev_newaL (N := cap) A_long (nI_pos (by omega)) (nI_clamp (by omega)) (by omega) dX2_init_19 ⟨Nat.le_of_ble_eq_true rfl, by show _ ≤ 3 * cap; omega⟩ ?_
  rw [(show List.length (α := va_E) (M0 ++ (.inr (2, [.ref (b + 1), .null, .null, .int (nI 0)]) :: [kI cap])) = b + 2 by rw [List.length_append, hb]; simp only [List.length_append, List.length_cons, List.length_nil, k0f_len, k1_len, k2_len, k3_len, k4_len, k8_len, k0_len9, k5_len, k6_len, k7_len] <;> omega)]
  refine ev_mq (M1 := M0 ++ (.inr (2, [.ref (b + 1), .null, .null, .int (nI 0)]) :: ([kI cap] ++ [kL cap]))) (List.append_assoc _ _ _) ?_
  refine ev_putF F_RX2_19 dX2_init_21 rfl (fun q hq => by cases hq; rfl) (ev_ap0 hb) (Nat.le_of_ble_eq_true rfl) (fun _ _ => ⟨rfl, rfl⟩) ?_
  refine ev_mq (M1 := M0 ++ (.inr (2, [.ref (b + 1), .ref (b + 2), .null, .int (nI 0)]) :: ([kI cap] ++ [kL cap]))) (ev_as0 hb) ?_
  refine ev_blk (B := [(.aload_n 0, 1), (.iload_n 2, 1)]) (pe := 26) (ls' := [some (.ref (b)), some (.int (nI cap)), some (.int (nI cap))]) (st' := [.int (nI cap), .ref (b)]) ⟨dX2_init_24, dX2_init_25, rfl⟩ rfl ?_
  refine ev_newaL (N := cap) A_long (nI_pos (by omega)) (nI_clamp (by omega)) (by omega) dX2_init_26 ⟨Nat.le_of_ble_eq_true rfl, by show _ ≤ 3 * cap; omega⟩ ?_
  rw [(show List.length (α := va_E) (M0 ++ (.inr (2, [.ref (b + 1), .ref (b + 2), .null, .int (nI 0)]) :: ([kI cap] ++ [kL cap]))) = b + 3 by rw [List.length_append, hb]; simp only [List.length_append, List.length_cons, List.length_nil, k0f_len, k1_len, k2_len, k3_len, k4_len, k8_len, k0_len9, k5_len, k6_len, k7_len] <;> omega)]
  refine ev_mq (M1 := M0 ++ (.inr (2, [.ref (b + 1), .ref (b + 2), .null, .int (nI 0)]) :: (([kI cap] ++ [kL cap]) ++ [kL cap]))) (List.append_assoc _ _ _) ?_
  refine ev_putF F_RX2_23 dX2_init_28 rfl (fun q hq => by cases hq; rfl) (ev_ap0 hb) (Nat.le_of_ble_eq_true rfl) (fun _ _ => ⟨rfl, rfl⟩) ?_
  refine ev_mq (M1 := M0 ++ (.inr (2, [.ref (b + 1), .ref (b + 2), .ref (b + 3), .int (nI 0)]) :: (([kI cap] ++ [kL cap]) ++ [kL cap]))) (ev_as0 hb) ?_
  refine ev_blk (B := [(.aload_n 0, 1), (.iconst 0, 1)]) (pe := 33) (ls' := [some (.ref (b)), some (.int (nI cap)), some (.int (nI cap))]) (st' := [.int (nI 0), .ref (b)]) ⟨dX2_init_31, dX2_init_32, rfl⟩ rfl ?_
  refine ev_put F_RX2_26 dX2_init_33 (ev_ap0 hb) (Nat.le_of_ble_eq_true rfl) (fun _ _ => ⟨rfl, rfl⟩) ?_
  refine ev_mq (M1 := M0 ++ (.inr (2, [.ref (b + 1), .ref (b + 2), .ref (b + 3), .int (nI 0)]) :: (([kI cap] ++ [kL cap]) ++ [kL cap]))) (ev_as0 hb) ?_
  refine ev_vret dX2_init_36 rfl ⟨Nat.le_of_ble_eq_true rfl, by show _ ≤ 3 * cap; omega⟩ ?_
  exact ⟨rfl, rfl⟩

set_option maxHeartbeats 4000000 in
set_option maxRecDepth 100000 in
theorem c_X3_init {l : Launch} (hl : l.stackTraces = false) (M0 : ev_M) (b : Nat) (hb : M0.length = b) : ev_Mt l (m_X3_init) [.ref (b)] (M0 ++ [.inr (3, [.null])]) (ev_q (.inl none) (M0 ++ k3 b)) := by
  refine ev_body hl rfl (by decide +kernel) (Nat.le_of_ble_eq_true rfl) ?_
  show ev_ l (m_X3_init) 0 0 0 [some (.ref (b))] [] (M0 ++ (.inr (3, [.null]) :: [])) _
  refine ev_blk (B := [(.aload_n 0, 1)]) (pe := 1) (ls' := [some (.ref (b))]) (st' := [.ref (b)]) ⟨dX3_init_0, rfl⟩ rfl ?_
  refine ev_objInit L_RX3_3 ev_oi1 ev_oi2 dX3_init_1 ⟨Nat.le_of_ble_eq_true rfl, Nat.le_of_ble_eq_true rfl⟩ ?_
  refine ev_blk (B := [(.aload_n 0, 1), (.bipush 11, 2)]) (pe := 7) (ls' := [some (.ref (b))]) (st' := [.int (nI 11), .ref (b)]) ⟨dX3_init_4, dX3_init_5, rfl⟩ rfl ?_
  refine ev_newaI (N := 11) A_int (by decide) (by decide) (by omega) dX3_init_7 ⟨Nat.le_of_ble_eq_true rfl, Nat.le_of_ble_eq_true rfl⟩ ?_
  rw [(show List.length (α := va_E) (M0 ++ (.inr (3, [.null]) :: [])) = b + 1 by rw [List.length_append, hb]; simp only [List.length_append, List.length_cons, List.length_nil, k0f_len, k1_len, k2_len, k3_len, k4_len, k8_len, k0_len9, k5_len, k6_len, k7_len] <;> omega)]
  refine ev_mq (M1 := M0 ++ (.inr (3, [.null]) :: [kI 11])) (List.append_assoc _ _ _) ?_
  refine ev_putF F_RX3_9 dX3_init_9 rfl (fun q hq => by cases hq; rfl) (ev_ap0 hb) (Nat.le_of_ble_eq_true rfl) (fun _ _ => ⟨rfl, rfl⟩) ?_
  refine ev_mq (M1 := M0 ++ (.inr (3, [.ref (b + 1)]) :: [kI 11])) (ev_as0 hb) ?_
  refine ev_vret dX3_init_12 rfl ⟨Nat.le_of_ble_eq_true rfl, Nat.le_of_ble_eq_true rfl⟩ ?_
  exact ⟨rfl, rfl⟩

set_option maxHeartbeats 4000000 in
set_option maxRecDepth 100000 in
theorem c_X8_init {l : Launch} (hl : l.stackTraces = false) (M0 : ev_M) (b : Nat) (hb : M0.length = b) : ev_Mt l (m_X8_init) [.ref (b)] (M0 ++ [.inr (8, [.null, .null, .null])]) (ev_q (.inl none) (M0 ++ k8 b)) := by
  refine ev_body hl rfl (by decide +kernel) (Nat.le_of_ble_eq_true rfl) ?_
  show ev_ l (m_X8_init) 0 0 0 [some (.ref (b))] [] (M0 ++ (.inr (8, [.null, .null, .null]) :: [])) _
  refine ev_blk (B := [(.aload_n 0, 1)]) (pe := 1) (ls' := [some (.ref (b))]) (st' := [.ref (b)]) ⟨dX8_init_0, rfl⟩ rfl ?_
  refine ev_objInit L_RX8_3 ev_oi1 ev_oi2 dX8_init_1 ⟨Nat.le_of_ble_eq_true rfl, Nat.le_of_ble_eq_true rfl⟩ ?_
  refine ev_blk (B := [(.aload_n 0, 1)]) (pe := 5) (ls' := [some (.ref (b))]) (st' := [.ref (b)]) ⟨dX8_init_4, rfl⟩ rfl ?_
  refine ev_new (ci := 2) (q0 := (RX2, TX2, 4)) (fs := [.null, .null, .null, .int (nI 0)]) rfl CL_RX8_9 CI_RX2.1 CI_RX2.2 rfl dX8_init_5 ⟨Nat.le_of_ble_eq_true rfl, Nat.le_of_ble_eq_true rfl⟩ ?_
  rw [(show List.length (α := va_E) (M0 ++ (.inr (8, [.null, .null, .null]) :: [])) = b + 1 by rw [List.length_append, hb]; simp only [List.length_append, List.length_cons, List.length_nil, k0f_len, k1_len, k2_len, k3_len, k4_len, k8_len, k0_len9, k5_len, k6_len, k7_len] <;> omega)]
  refine ev_blk (B := [(.dup, 1), (.bipush 20, 2)]) (pe := 11) (ls' := [some (.ref (b))]) (st' := [.int (nI 20), .ref (b + 1), .ref (b + 1), .ref (b)]) ⟨dX8_init_8, dX8_init_9, rfl⟩ rfl ?_
  refine ev_cI0 Y_X2_init L_RX8_11 dX8_init_11 ⟨Nat.le_of_ble_eq_true rfl, Nat.le_of_ble_eq_true rfl, Nat.le_of_ble_eq_true rfl, Nat.le_of_ble_eq_true rfl, Nat.le_of_ble_eq_true rfl⟩ (as := [.int (nI 20)]) rfl rfl (c_X2_init hl (M0 ++ (.inr (8, [.null, .null, .null]) :: [])) (b + 1) (show List.length (α := va_E) (M0 ++ (.inr (8, [.null, .null, .null]) :: [])) = b + 1 by rw [List.length_append, hb]; simp only [List.length_append, List.length_cons, List.length_nil, k0f_len, k1_len, k2_len, k3_len, k4_len, k8_len, k0_len9, k5_len, k6_len, k7_len] <;> omega) 20 (by decide)) ?_
  refine ev_mq (M1 := M0 ++ (.inr (8, [.null, .null, .null]) :: (k2 (b + 1) 20))) (List.append_assoc _ _ _) ?_
  refine ev_putF F_RX8_14 dX8_init_14 rfl (fun q hq => by cases hq; rfl) (ev_ap0 hb) (Nat.le_of_ble_eq_true rfl) (fun _ _ => ⟨rfl, rfl⟩) ?_
  refine ev_mq (M1 := M0 ++ (.inr (8, [.ref (b + 1), .null, .null]) :: (k2 (b + 1) 20))) (ev_as0 hb) ?_
  refine ev_blk (B := [(.aload_n 0, 1), (.bipush 20, 2)]) (pe := 20) (ls' := [some (.ref (b))]) (st' := [.int (nI 20), .ref (b)]) ⟨dX8_init_17, dX8_init_18, rfl⟩ rfl ?_
  refine ev_newaI (N := 20) A_int (by decide) (by decide) (by omega) dX8_init_20 ⟨Nat.le_of_ble_eq_true rfl, Nat.le_of_ble_eq_true rfl⟩ ?_
  rw [(show List.length (α := va_E) (M0 ++ (.inr (8, [.ref (b + 1), .null, .null]) :: (k2 (b + 1) 20))) = b + 5 by rw [List.length_append, hb]; simp only [List.length_append, List.length_cons, List.length_nil, k0f_len, k1_len, k2_len, k3_len, k4_len, k8_len, k0_len9, k5_len, k6_len, k7_len] <;> omega)]
  refine ev_mq (M1 := M0 ++ (.inr (8, [.ref (b + 1), .null, .null]) :: ((k2 (b + 1) 20) ++ [kI 20]))) (List.append_assoc _ _ _) ?_
  refine ev_putF F_RX8_20 dX8_init_22 rfl (fun q hq => by cases hq; rfl) (ev_ap0 hb) (Nat.le_of_ble_eq_true rfl) (fun _ _ => ⟨rfl, rfl⟩) ?_
  refine ev_mq (M1 := M0 ++ (.inr (8, [.ref (b + 1), .ref (b + 5), .null]) :: ((k2 (b + 1) 20) ++ [kI 20]))) (ev_as0 hb) ?_
  refine ev_blk (B := [(.aload_n 0, 1)]) (pe := 26) (ls' := [some (.ref (b))]) (st' := [.ref (b)]) ⟨dX8_init_25, rfl⟩ rfl ?_
  refine ev_new (ci := 1) (q0 := (RX1, TX1, 3)) (fs := [.int (nI 0), .long (0), .long (0)]) rfl CL_RX8_24 CI_RX1.1 CI_RX1.2 rfl dX8_init_26 ⟨Nat.le_of_ble_eq_true rfl, Nat.le_of_ble_eq_true rfl⟩ ?_
  rw [(show List.length (α := va_E) (M0 ++ (.inr (8, [.ref (b + 1), .ref (b + 5), .null]) :: ((k2 (b + 1) 20) ++ [kI 20]))) = b + 6 by rw [List.length_append, hb]; simp only [List.length_append, List.length_cons, List.length_nil, k0f_len, k1_len, k2_len, k3_len, k4_len, k8_len, k0_len9, k5_len, k6_len, k7_len] <;> omega)]
  refine ev_blk (B := [(.dup, 1)]) (pe := 30) (ls' := [some (.ref (b))]) (st' := [.ref (b + 6), .ref (b + 6), .ref (b)]) ⟨dX8_init_29, rfl⟩ rfl ?_
  refine ev_cI0 Y_X1_init L_RX8_26 dX8_init_30 ⟨Nat.le_of_ble_eq_true rfl, Nat.le_of_ble_eq_true rfl, Nat.le_of_ble_eq_true rfl, Nat.le_of_ble_eq_true rfl, Nat.le_of_ble_eq_true rfl⟩ (as := []) rfl rfl (c_X1_init hl (M0 ++ (.inr (8, [.ref (b + 1), .ref (b + 5), .null]) :: ((k2 (b + 1) 20) ++ [kI 20]))) (b + 6) (show List.length (α := va_E) (M0 ++ (.inr (8, [.ref (b + 1), .ref (b + 5), .null]) :: ((k2 (b + 1) 20) ++ [kI 20]))) = b + 6 by rw [List.length_append, hb]; simp only [List.length_append, List.length_cons, List.length_nil, k0f_len, k1_len, k2_len, k3_len, k4_len, k8_len, k0_len9, k5_len, k6_len, k7_len] <;> omega)) ?_
  refine ev_mq (M1 := M0 ++ (.inr (8, [.ref (b + 1), .ref (b + 5), .null]) :: (((k2 (b + 1) 20) ++ [kI 20]) ++ k1))) (List.append_assoc _ _ _) ?_
  refine ev_putF F_RX8_27 dX8_init_33 rfl (fun q hq => by cases hq; rfl) (ev_ap0 hb) (Nat.le_of_ble_eq_true rfl) (fun _ _ => ⟨rfl, rfl⟩) ?_
  refine ev_mq (M1 := M0 ++ (.inr (8, [.ref (b + 1), .ref (b + 5), .ref (b + 6)]) :: (((k2 (b + 1) 20) ++ [kI 20]) ++ k1))) (ev_as0 hb) ?_
  refine ev_vret dX8_init_36 rfl ⟨Nat.le_of_ble_eq_true rfl, Nat.le_of_ble_eq_true rfl⟩ ?_
  exact ⟨rfl, rfl⟩

set_option maxHeartbeats 4000000 in
set_option maxRecDepth 100000 in
theorem c_X5_init {l : Launch} (hl : l.stackTraces = false) (M0 : ev_M) (b : Nat) (hb : M0.length = b) : ev_Mt l (m_X5_init) [.ref (b)] (M0 ++ [.inr (5, [.null, .null, .null])]) (ev_q (.inl none) (M0 ++ k5 b)) := by
  refine ev_body hl rfl (by decide +kernel) (Nat.le_of_ble_eq_true rfl) ?_
  show ev_ l (m_X5_init) 0 0 0 [some (.ref (b))] [] (M0 ++ (.inr (5, [.null, .null, .null]) :: [])) _
  refine ev_blk (B := [(.aload_n 0, 1)]) (pe := 1) (ls' := [some (.ref (b))]) (st' := [.ref (b)]) ⟨dX5_init_0, rfl⟩ rfl ?_
  refine ev_objInit L_RX5_3 ev_oi1 ev_oi2 dX5_init_1 ⟨Nat.le_of_ble_eq_true rfl, Nat.le_of_ble_eq_true rfl⟩ ?_
  refine ev_blk (B := [(.aload_n 0, 1)]) (pe := 5) (ls' := [some (.ref (b))]) (st' := [.ref (b)]) ⟨dX5_init_4, rfl⟩ rfl ?_
  refine ev_new (ci := 1) (q0 := (RX1, TX1, 3)) (fs := [.int (nI 0), .long (0), .long (0)]) rfl CL_RX5_9 CI_RX1.1 CI_RX1.2 rfl dX5_init_5 ⟨Nat.le_of_ble_eq_true rfl, Nat.le_of_ble_eq_true rfl⟩ ?_
  rw [(show List.length (α := va_E) (M0 ++ (.inr (5, [.null, .null, .null]) :: [])) = b + 1 by rw [List.length_append, hb]; simp only [List.length_append, List.length_cons, List.length_nil, k0f_len, k1_len, k2_len, k3_len, k4_len, k8_len, k0_len9, k5_len, k6_len, k7_len] <;> omega)]
  refine ev_blk (B := [(.dup, 1)]) (pe := 9) (ls' := [some (.ref (b))]) (st' := [.ref (b + 1), .ref (b + 1), .ref (b)]) ⟨dX5_init_8, rfl⟩ rfl ?_
  refine ev_cI0 Y_X1_init L_RX5_11 dX5_init_9 ⟨Nat.le_of_ble_eq_true rfl, Nat.le_of_ble_eq_true rfl, Nat.le_of_ble_eq_true rfl, Nat.le_of_ble_eq_true rfl, Nat.le_of_ble_eq_true rfl⟩ (as := []) rfl rfl (c_X1_init hl (M0 ++ (.inr (5, [.null, .null, .null]) :: [])) (b + 1) (show List.length (α := va_E) (M0 ++ (.inr (5, [.null, .null, .null]) :: [])) = b + 1 by rw [List.length_append, hb]; simp only [List.length_append, List.length_cons, List.length_nil, k0f_len, k1_len, k2_len, k3_len, k4_len, k8_len, k0_len9, k5_len, k6_len, k7_len] <;> omega)) ?_
  refine ev_mq (M1 := M0 ++ (.inr (5, [.null, .null, .null]) :: (k1))) (List.append_assoc _ _ _) ?_
  refine ev_putF F_RX5_12 dX5_init_12 rfl (fun q hq => by cases hq; rfl) (ev_ap0 hb) (Nat.le_of_ble_eq_true rfl) (fun _ _ => ⟨rfl, rfl⟩) ?_
  refine ev_mq (M1 := M0 ++ (.inr (5, [.ref (b + 1), .null, .null]) :: (k1))) (ev_as0 hb) ?_
  refine ev_blk (B := [(.aload_n 0, 1)]) (pe := 16) (ls' := [some (.ref (b))]) (st' := [.ref (b)]) ⟨dX5_init_15, rfl⟩ rfl ?_
  refine ev_new (ci := 2) (q0 := (RX2, TX2, 4)) (fs := [.null, .null, .null, .int (nI 0)]) rfl CL_RX5_18 CI_RX2.1 CI_RX2.2 rfl dX5_init_16 ⟨Nat.le_of_ble_eq_true rfl, Nat.le_of_ble_eq_true rfl⟩ ?_
  rw [(show List.length (α := va_E) (M0 ++ (.inr (5, [.ref (b + 1), .null, .null]) :: (k1))) = b + 2 by rw [List.length_append, hb]; simp only [List.length_append, List.length_cons, List.length_nil, k0f_len, k1_len, k2_len, k3_len, k4_len, k8_len, k0_len9, k5_len, k6_len, k7_len] <;> omega)]
  refine ev_blk (B := [(.dup, 1), (.sipush 1000, 3)]) (pe := 23) (ls' := [some (.ref (b))]) (st' := [.int (nI 1000), .ref (b + 2), .ref (b + 2), .ref (b)]) ⟨dX5_init_19, dX5_init_20, rfl⟩ rfl ?_
  refine ev_cI0 Y_X2_init L_RX5_20 dX5_init_23 ⟨Nat.le_of_ble_eq_true rfl, Nat.le_of_ble_eq_true rfl, Nat.le_of_ble_eq_true rfl, Nat.le_of_ble_eq_true rfl, Nat.le_of_ble_eq_true rfl⟩ (as := [.int (nI 1000)]) rfl rfl (c_X2_init hl (M0 ++ (.inr (5, [.ref (b + 1), .null, .null]) :: (k1))) (b + 2) (show List.length (α := va_E) (M0 ++ (.inr (5, [.ref (b + 1), .null, .null]) :: (k1))) = b + 2 by rw [List.length_append, hb]; simp only [List.length_append, List.length_cons, List.length_nil, k0f_len, k1_len, k2_len, k3_len, k4_len, k8_len, k0_len9, k5_len, k6_len, k7_len] <;> omega) 1000 (by decide)) ?_
  refine ev_mq (M1 := M0 ++ (.inr (5, [.ref (b + 1), .null, .null]) :: ((k1) ++ k2 (b + 2) 1000))) (List.append_assoc _ _ _) ?_
  refine ev_put F_RX5_23 dX5_init_26 (ev_ap0 hb) (Nat.le_of_ble_eq_true rfl) (fun _ _ => ⟨rfl, rfl⟩) ?_
  refine ev_mq (M1 := M0 ++ (.inr (5, [.ref (b + 1), .ref (b + 2), .null]) :: ((k1) ++ k2 (b + 2) 1000))) (ev_as0 hb) ?_
  refine ev_blk (B := [(.aload_n 0, 1)]) (pe := 30) (ls' := [some (.ref (b))]) (st' := [.ref (b)]) ⟨dX5_init_29, rfl⟩ rfl ?_
  refine ev_new (ci := 2) (q0 := (RX2, TX2, 4)) (fs := [.null, .null, .null, .int (nI 0)]) rfl CL_RX5_18 CI_RX2.1 CI_RX2.2 rfl dX5_init_30 ⟨Nat.le_of_ble_eq_true rfl, Nat.le_of_ble_eq_true rfl⟩ ?_
  rw [(show List.length (α := va_E) (M0 ++ (.inr (5, [.ref (b + 1), .ref (b + 2), .null]) :: ((k1) ++ k2 (b + 2) 1000))) = b + 6 by rw [List.length_append, hb]; simp only [List.length_append, List.length_cons, List.length_nil, k0f_len, k1_len, k2_len, k3_len, k4_len, k8_len, k0_len9, k5_len, k6_len, k7_len] <;> omega)]
  refine ev_blk (B := [(.dup, 1), (.sipush 1000, 3)]) (pe := 37) (ls' := [some (.ref (b))]) (st' := [.int (nI 1000), .ref (b + 6), .ref (b + 6), .ref (b)]) ⟨dX5_init_33, dX5_init_34, rfl⟩ rfl ?_
  refine ev_cI0 Y_X2_init L_RX5_20 dX5_init_37 ⟨Nat.le_of_ble_eq_true rfl, Nat.le_of_ble_eq_true rfl, Nat.le_of_ble_eq_true rfl, Nat.le_of_ble_eq_true rfl, Nat.le_of_ble_eq_true rfl⟩ (as := [.int (nI 1000)]) rfl rfl (c_X2_init hl (M0 ++ (.inr (5, [.ref (b + 1), .ref (b + 2), .null]) :: ((k1) ++ k2 (b + 2) 1000))) (b + 6) (show List.length (α := va_E) (M0 ++ (.inr (5, [.ref (b + 1), .ref (b + 2), .null]) :: ((k1) ++ k2 (b + 2) 1000))) = b + 6 by rw [List.length_append, hb]; simp only [List.length_append, List.length_cons, List.length_nil, k0f_len, k1_len, k2_len, k3_len, k4_len, k8_len, k0_len9, k5_len, k6_len, k7_len] <;> omega) 1000 (by decide)) ?_
  refine ev_mq (M1 := M0 ++ (.inr (5, [.ref (b + 1), .ref (b + 2), .null]) :: (((k1) ++ k2 (b + 2) 1000) ++ k2 (b + 6) 1000))) (List.append_assoc _ _ _) ?_
  refine ev_put F_RX5_27 dX5_init_40 (ev_ap0 hb) (Nat.le_of_ble_eq_true rfl) (fun _ _ => ⟨rfl, rfl⟩) ?_
  refine ev_mq (M1 := M0 ++ (.inr (5, [.ref (b + 1), .ref (b + 2), .ref (b + 6)]) :: (((k1) ++ k2 (b + 2) 1000) ++ k2 (b + 6) 1000))) (ev_as0 hb) ?_
  refine ev_vret dX5_init_43 rfl ⟨Nat.le_of_ble_eq_true rfl, Nat.le_of_ble_eq_true rfl⟩ ?_
  exact ⟨rfl, rfl⟩

set_option maxHeartbeats 4000000 in
set_option maxRecDepth 100000 in
theorem c_X6_init {l : Launch} (hl : l.stackTraces = false) (M0 : ev_M) (b : Nat) (hb : M0.length = b) : ev_Mt l (m_X6_init) [.ref (b)] (M0 ++ [.inr (6, [.null, .null, .null, .int (nI 0)])]) (ev_q (.inl none) (M0 ++ k6 b)) := by
  refine ev_body hl rfl (by decide +kernel) (Nat.le_of_ble_eq_true rfl) ?_
  show ev_ l (m_X6_init) 0 0 0 [some (.ref (b))] [] (M0 ++ (.inr (6, [.null, .null, .null, .int (nI 0)]) :: [])) _
  refine ev_blk (B := [(.aload_n 0, 1)]) (pe := 1) (ls' := [some (.ref (b))]) (st' := [.ref (b)]) ⟨dX6_init_0, rfl⟩ rfl ?_
  refine ev_objInit L_RX6_3 ev_oi1 ev_oi2 dX6_init_1 ⟨Nat.le_of_ble_eq_true rfl, Nat.le_of_ble_eq_true rfl⟩ ?_
  refine ev_blk (B := [(.aload_n 0, 1)]) (pe := 5) (ls' := [some (.ref (b))]) (st' := [.ref (b)]) ⟨dX6_init_4, rfl⟩ rfl ?_
  refine ev_new (ci := 4) (q0 := (RX4, TX4, 2)) (fs := [.null, .int (nI 0)]) rfl CL_RX6_9 CI_RX4.1 CI_RX4.2 rfl dX6_init_5 ⟨Nat.le_of_ble_eq_true rfl, Nat.le_of_ble_eq_true rfl⟩ ?_
  rw [(show List.length (α := va_E) (M0 ++ (.inr (6, [.null, .null, .null, .int (nI 0)]) :: [])) = b + 1 by rw [List.length_append, hb]; simp only [List.length_append, List.length_cons, List.length_nil, k0f_len, k1_len, k2_len, k3_len, k4_len, k8_len, k0_len9, k5_len, k6_len, k7_len] <;> omega)]
  refine ev_blk (B := [(.dup, 1)]) (pe := 9) (ls' := [some (.ref (b))]) (st' := [.ref (b + 1), .ref (b + 1), .ref (b)]) ⟨dX6_init_8, rfl⟩ rfl ?_
  refine ev_cI0 Y_X4_init L_RX6_11 dX6_init_9 ⟨Nat.le_of_ble_eq_true rfl, Nat.le_of_ble_eq_true rfl, Nat.le_of_ble_eq_true rfl, Nat.le_of_ble_eq_true rfl, Nat.le_of_ble_eq_true rfl⟩ (as := []) rfl rfl (c_X4_init hl (M0 ++ (.inr (6, [.null, .null, .null, .int (nI 0)]) :: [])) (b + 1) (show List.length (α := va_E) (M0 ++ (.inr (6, [.null, .null, .null, .int (nI 0)]) :: [])) = b + 1 by rw [List.length_append, hb]; simp only [List.length_append, List.length_cons, List.length_nil, k0f_len, k1_len, k2_len, k3_len, k4_len, k8_len, k0_len9, k5_len, k6_len, k7_len] <;> omega)) ?_
  refine ev_mq (M1 := M0 ++ (.inr (6, [.null, .null, .null, .int (nI 0)]) :: (k4 (b + 1)))) (List.append_assoc _ _ _) ?_
  refine ev_putF F_RX6_12 dX6_init_12 rfl (fun q hq => by cases hq; rfl) (ev_ap0 hb) (Nat.le_of_ble_eq_true rfl) (fun _ _ => ⟨rfl, rfl⟩) ?_
  refine ev_mq (M1 := M0 ++ (.inr (6, [.ref (b + 1), .null, .null, .int (nI 0)]) :: (k4 (b + 1)))) (ev_as0 hb) ?_
  refine ev_blk (B := [(.aload_n 0, 1)]) (pe := 16) (ls' := [some (.ref (b))]) (st' := [.ref (b)]) ⟨dX6_init_15, rfl⟩ rfl ?_
  refine ev_new (ci := 1) (q0 := (RX1, TX1, 3)) (fs := [.int (nI 0), .long (0), .long (0)]) rfl CL_RX6_18 CI_RX1.1 CI_RX1.2 rfl dX6_init_16 ⟨Nat.le_of_ble_eq_true rfl, Nat.le_of_ble_eq_true rfl⟩ ?_
  rw [(show List.length (α := va_E) (M0 ++ (.inr (6, [.ref (b + 1), .null, .null, .int (nI 0)]) :: (k4 (b + 1)))) = b + 3 by rw [List.length_append, hb]; simp only [List.length_append, List.length_cons, List.length_nil, k0f_len, k1_len, k2_len, k3_len, k4_len, k8_len, k0_len9, k5_len, k6_len, k7_len] <;> omega)]
  refine ev_blk (B := [(.dup, 1)]) (pe := 20) (ls' := [some (.ref (b))]) (st' := [.ref (b + 3), .ref (b + 3), .ref (b)]) ⟨dX6_init_19, rfl⟩ rfl ?_
  refine ev_cI0 Y_X1_init L_RX6_20 dX6_init_20 ⟨Nat.le_of_ble_eq_true rfl, Nat.le_of_ble_eq_true rfl, Nat.le_of_ble_eq_true rfl, Nat.le_of_ble_eq_true rfl, Nat.le_of_ble_eq_true rfl⟩ (as := []) rfl rfl (c_X1_init hl (M0 ++ (.inr (6, [.ref (b + 1), .null, .null, .int (nI 0)]) :: (k4 (b + 1)))) (b + 3) (show List.length (α := va_E) (M0 ++ (.inr (6, [.ref (b + 1), .null, .null, .int (nI 0)]) :: (k4 (b + 1)))) = b + 3 by rw [List.length_append, hb]; simp only [List.length_append, List.length_cons, List.length_nil, k0f_len, k1_len, k2_len, k3_len, k4_len, k8_len, k0_len9, k5_len, k6_len, k7_len] <;> omega)) ?_
  refine ev_mq (M1 := M0 ++ (.inr (6, [.ref (b + 1), .null, .null, .int (nI 0)]) :: ((k4 (b + 1)) ++ k1))) (List.append_assoc _ _ _) ?_
  refine ev_putF F_RX6_21 dX6_init_23 rfl (fun q hq => by cases hq; rfl) (ev_ap0 hb) (Nat.le_of_ble_eq_true rfl) (fun _ _ => ⟨rfl, rfl⟩) ?_
  refine ev_mq (M1 := M0 ++ (.inr (6, [.ref (b + 1), .ref (b + 3), .null, .int (nI 0)]) :: ((k4 (b + 1)) ++ k1))) (ev_as0 hb) ?_
  refine ev_blk (B := [(.aload_n 0, 1)]) (pe := 27) (ls' := [some (.ref (b))]) (st' := [.ref (b)]) ⟨dX6_init_26, rfl⟩ rfl ?_
  refine ev_new (ci := 2) (q0 := (RX2, TX2, 4)) (fs := [.null, .null, .null, .int (nI 0)]) rfl CL_RX6_25 CI_RX2.1 CI_RX2.2 rfl dX6_init_27 ⟨Nat.le_of_ble_eq_true rfl, Nat.le_of_ble_eq_true rfl⟩ ?_
  rw [(show List.length (α := va_E) (M0 ++ (.inr (6, [.ref (b + 1), .ref (b + 3), .null, .int (nI 0)]) :: ((k4 (b + 1)) ++ k1))) = b + 4 by rw [List.length_append, hb]; simp only [List.length_append, List.length_cons, List.length_nil, k0f_len, k1_len, k2_len, k3_len, k4_len, k8_len, k0_len9, k5_len, k6_len, k7_len] <;> omega)]
  refine ev_blk (B := [(.dup, 1), (.iconst 3, 1)]) (pe := 32) (ls' := [some (.ref (b))]) (st' := [.int (nI 3), .ref (b + 4), .ref (b + 4), .ref (b)]) ⟨dX6_init_30, dX6_init_31, rfl⟩ rfl ?_
  refine ev_cI0 Y_X2_init L_RX6_27 dX6_init_32 ⟨Nat.le_of_ble_eq_true rfl, Nat.le_of_ble_eq_true rfl, Nat.le_of_ble_eq_true rfl, Nat.le_of_ble_eq_true rfl, Nat.le_of_ble_eq_true rfl⟩ (as := [.int (nI 3)]) rfl rfl (c_X2_init hl (M0 ++ (.inr (6, [.ref (b + 1), .ref (b + 3), .null, .int (nI 0)]) :: ((k4 (b + 1)) ++ k1))) (b + 4) (show List.length (α := va_E) (M0 ++ (.inr (6, [.ref (b + 1), .ref (b + 3), .null, .int (nI 0)]) :: ((k4 (b + 1)) ++ k1))) = b + 4 by rw [List.length_append, hb]; simp only [List.length_append, List.length_cons, List.length_nil, k0f_len, k1_len, k2_len, k3_len, k4_len, k8_len, k0_len9, k5_len, k6_len, k7_len] <;> omega) 3 (by decide)) ?_
  refine ev_mq (M1 := M0 ++ (.inr (6, [.ref (b + 1), .ref (b + 3), .null, .int (nI 0)]) :: (((k4 (b + 1)) ++ k1) ++ k2 (b + 4) 3))) (List.append_assoc _ _ _) ?_
  refine ev_putF F_RX6_30 dX6_init_35 rfl (fun q hq => by cases hq; rfl) (ev_ap0 hb) (Nat.le_of_ble_eq_true rfl) (fun _ _ => ⟨rfl, rfl⟩) ?_
  refine ev_mq (M1 := M0 ++ (.inr (6, [.ref (b + 1), .ref (b + 3), .ref (b + 4), .int (nI 0)]) :: (((k4 (b + 1)) ++ k1) ++ k2 (b + 4) 3))) (ev_as0 hb) ?_
  refine ev_blk (B := [(.aload_n 0, 1), (.iconst 0, 1)]) (pe := 40) (ls' := [some (.ref (b))]) (st' := [.int (nI 0), .ref (b)]) ⟨dX6_init_38, dX6_init_39, rfl⟩ rfl ?_
  refine ev_put F_RX6_34 dX6_init_40 (ev_ap0 hb) (Nat.le_of_ble_eq_true rfl) (fun _ _ => ⟨rfl, rfl⟩) ?_
  refine ev_mq (M1 := M0 ++ (.inr (6, [.ref (b + 1), .ref (b + 3), .ref (b + 4), .int (nI 0)]) :: (((k4 (b + 1)) ++ k1) ++ k2 (b + 4) 3))) (ev_as0 hb) ?_
  refine ev_vret dX6_init_43 rfl ⟨Nat.le_of_ble_eq_true rfl, Nat.le_of_ble_eq_true rfl⟩ ?_
  exact ⟨rfl, rfl⟩

set_option maxHeartbeats 4000000 in
set_option maxRecDepth 100000 in
theorem c_X7_init {l : Launch} (hl : l.stackTraces = false) (M0 : ev_M) (b : Nat) (hb : M0.length = b) : ev_Mt l (m_X7_init) [.ref (b)] (M0 ++ [.inr (7, [.null, .null, .null, .null, .int (nI 0), .int (nI 0), .int (nI 0), .int (nI 0)])]) (ev_q (.inl none) (M0 ++ k7 b)) := by
  refine ev_body hl rfl (by decide +kernel) (Nat.le_of_ble_eq_true rfl) ?_
  show ev_ l (m_X7_init) 0 0 0 [some (.ref (b))] [] (M0 ++ (.inr (7, [.null, .null, .null, .null, .int (nI 0), .int (nI 0), .int (nI 0), .int (nI 0)]) :: [])) _
  refine ev_blk (B := [(.aload_n 0, 1)]) (pe := 1) (ls' := [some (.ref (b))]) (st' := [.ref (b)]) ⟨dX7_init_0, rfl⟩ rfl ?_
  refine ev_objInit L_RX7_3 ev_oi1 ev_oi2 dX7_init_1 ⟨Nat.le_of_ble_eq_true rfl, Nat.le_of_ble_eq_true rfl⟩ ?_
  refine ev_blk (B := [(.aload_n 0, 1), (.bipush 80, 2)]) (pe := 7) (ls' := [some (.ref (b))]) (st' := [.int (nI 80), .ref (b)]) ⟨dX7_init_4, dX7_init_5, rfl⟩ rfl ?_
  refine ev_newaC (N := 80) A_char (by decide) (by decide) (by omega) dX7_init_7 ⟨Nat.le_of_ble_eq_true rfl, Nat.le_of_ble_eq_true rfl⟩ ?_
  rw [(show List.length (α := va_E) (M0 ++ (.inr (7, [.null, .null, .null, .null, .int (nI 0), .int (nI 0), .int (nI 0), .int (nI 0)]) :: [])) = b + 1 by rw [List.length_append, hb]; simp only [List.length_append, List.length_cons, List.length_nil, k0f_len, k1_len, k2_len, k3_len, k4_len, k8_len, k0_len9, k5_len, k6_len, k7_len] <;> omega)]
  refine ev_mq (M1 := M0 ++ (.inr (7, [.null, .null, .null, .null, .int (nI 0), .int (nI 0), .int (nI 0), .int (nI 0)]) :: [(.inl (2, 80, .inl (fun _ => 0)))])) (List.append_assoc _ _ _) ?_
  refine ev_putF F_RX7_9 dX7_init_9 rfl (fun q hq => by cases hq; rfl) (ev_ap0 hb) (Nat.le_of_ble_eq_true rfl) (fun _ _ => ⟨rfl, rfl⟩) ?_
  refine ev_mq (M1 := M0 ++ (.inr (7, [.ref (b + 1), .null, .null, .null, .int (nI 0), .int (nI 0), .int (nI 0), .int (nI 0)]) :: [(.inl (2, 80, .inl (fun _ => 0)))])) (ev_as0 hb) ?_
  refine ev_blk (B := [(.aload_n 0, 1)]) (pe := 13) (ls' := [some (.ref (b))]) (st' := [.ref (b)]) ⟨dX7_init_12, rfl⟩ rfl ?_
  refine ev_new (ci := 4) (q0 := (RX4, TX4, 2)) (fs := [.null, .int (nI 0)]) rfl CL_RX7_15 CI_RX4.1 CI_RX4.2 rfl dX7_init_13 ⟨Nat.le_of_ble_eq_true rfl, Nat.le_of_ble_eq_true rfl⟩ ?_
  rw [(show List.length (α := va_E) (M0 ++ (.inr (7, [.ref (b + 1), .null, .null, .null, .int (nI 0), .int (nI 0), .int (nI 0), .int (nI 0)]) :: [(.inl (2, 80, .inl (fun _ => 0)))])) = b + 2 by rw [List.length_append, hb]; simp only [List.length_append, List.length_cons, List.length_nil, k0f_len, k1_len, k2_len, k3_len, k4_len, k8_len, k0_len9, k5_len, k6_len, k7_len] <;> omega)]
  refine ev_blk (B := [(.dup, 1)]) (pe := 17) (ls' := [some (.ref (b))]) (st' := [.ref (b + 2), .ref (b + 2), .ref (b)]) ⟨dX7_init_16, rfl⟩ rfl ?_
  refine ev_cI0 Y_X4_init L_RX7_17 dX7_init_17 ⟨Nat.le_of_ble_eq_true rfl, Nat.le_of_ble_eq_true rfl, Nat.le_of_ble_eq_true rfl, Nat.le_of_ble_eq_true rfl, Nat.le_of_ble_eq_true rfl⟩ (as := []) rfl rfl (c_X4_init hl (M0 ++ (.inr (7, [.ref (b + 1), .null, .null, .null, .int (nI 0), .int (nI 0), .int (nI 0), .int (nI 0)]) :: [(.inl (2, 80, .inl (fun _ => 0)))])) (b + 2) (show List.length (α := va_E) (M0 ++ (.inr (7, [.ref (b + 1), .null, .null, .null, .int (nI 0), .int (nI 0), .int (nI 0), .int (nI 0)]) :: [(.inl (2, 80, .inl (fun _ => 0)))])) = b + 2 by rw [List.length_append, hb]; simp only [List.length_append, List.length_cons, List.length_nil, k0f_len, k1_len, k2_len, k3_len, k4_len, k8_len, k0_len9, k5_len, k6_len, k7_len] <;> omega)) ?_
  refine ev_mq (M1 := M0 ++ (.inr (7, [.ref (b + 1), .null, .null, .null, .int (nI 0), .int (nI 0), .int (nI 0), .int (nI 0)]) :: ([(.inl (2, 80, .inl (fun _ => 0)))] ++ k4 (b + 2)))) (List.append_assoc _ _ _) ?_
  refine ev_putF F_RX7_18 dX7_init_20 rfl (fun q hq => by cases hq; rfl) (ev_ap0 hb) (Nat.le_of_ble_eq_true rfl) (fun _ _ => ⟨rfl, rfl⟩) ?_
  refine ev_mq (M1 := M0 ++ (.inr (7, [.ref (b + 1), .ref (b + 2), .null, .null, .int (nI 0), .int (nI 0), .int (nI 0), .int (nI 0)]) :: ([(.inl (2, 80, .inl (fun _ => 0)))] ++ k4 (b + 2)))) (ev_as0 hb) ?_
  refine ev_blk (B := [(.aload_n 0, 1)]) (pe := 24) (ls' := [some (.ref (b))]) (st' := [.ref (b)]) ⟨dX7_init_23, rfl⟩ rfl ?_
  refine ev_new (ci := 2) (q0 := (RX2, TX2, 4)) (fs := [.null, .null, .null, .int (nI 0)]) rfl CL_RX7_22 CI_RX2.1 CI_RX2.2 rfl dX7_init_24 ⟨Nat.le_of_ble_eq_true rfl, Nat.le_of_ble_eq_true rfl⟩ ?_
  rw [(show List.length (α := va_E) (M0 ++ (.inr (7, [.ref (b + 1), .ref (b + 2), .null, .null, .int (nI 0), .int (nI 0), .int (nI 0), .int (nI 0)]) :: ([(.inl (2, 80, .inl (fun _ => 0)))] ++ k4 (b + 2)))) = b + 4 by rw [List.length_append, hb]; simp only [List.length_append, List.length_cons, List.length_nil, k0f_len, k1_len, k2_len, k3_len, k4_len, k8_len, k0_len9, k5_len, k6_len, k7_len] <;> omega)]
  refine ev_blk (B := [(.dup, 1), (.bipush 8, 2)]) (pe := 30) (ls' := [some (.ref (b))]) (st' := [.int (nI 8), .ref (b + 4), .ref (b + 4), .ref (b)]) ⟨dX7_init_27, dX7_init_28, rfl⟩ rfl ?_
  refine ev_cI0 Y_X2_init L_RX7_24 dX7_init_30 ⟨Nat.le_of_ble_eq_true rfl, Nat.le_of_ble_eq_true rfl, Nat.le_of_ble_eq_true rfl, Nat.le_of_ble_eq_true rfl, Nat.le_of_ble_eq_true rfl⟩ (as := [.int (nI 8)]) rfl rfl (c_X2_init hl (M0 ++ (.inr (7, [.ref (b + 1), .ref (b + 2), .null, .null, .int (nI 0), .int (nI 0), .int (nI 0), .int (nI 0)]) :: ([(.inl (2, 80, .inl (fun _ => 0)))] ++ k4 (b + 2)))) (b + 4) (show List.length (α := va_E) (M0 ++ (.inr (7, [.ref (b + 1), .ref (b + 2), .null, .null, .int (nI 0), .int (nI 0), .int (nI 0), .int (nI 0)]) :: ([(.inl (2, 80, .inl (fun _ => 0)))] ++ k4 (b + 2)))) = b + 4 by rw [List.length_append, hb]; simp only [List.length_append, List.length_cons, List.length_nil, k0f_len, k1_len, k2_len, k3_len, k4_len, k8_len, k0_len9, k5_len, k6_len, k7_len] <;> omega) 8 (by decide)) ?_
  refine ev_mq (M1 := M0 ++ (.inr (7, [.ref (b + 1), .ref (b + 2), .null, .null, .int (nI 0), .int (nI 0), .int (nI 0), .int (nI 0)]) :: (([(.inl (2, 80, .inl (fun _ => 0)))] ++ k4 (b + 2)) ++ k2 (b + 4) 8))) (List.append_assoc _ _ _) ?_
  refine ev_putF F_RX7_27 dX7_init_33 rfl (fun q hq => by cases hq; rfl) (ev_ap0 hb) (Nat.le_of_ble_eq_true rfl) (fun _ _ => ⟨rfl, rfl⟩) ?_
  refine ev_mq (M1 := M0 ++ (.inr (7, [.ref (b + 1), .ref (b + 2), .ref (b + 4), .null, .int (nI 0), .int (nI 0), .int (nI 0), .int (nI 0)]) :: (([(.inl (2, 80, .inl (fun _ => 0)))] ++ k4 (b + 2)) ++ k2 (b + 4) 8))) (ev_as0 hb) ?_
  refine ev_blk (B := [(.aload_n 0, 1)]) (pe := 37) (ls' := [some (.ref (b))]) (st' := [.ref (b)]) ⟨dX7_init_36, rfl⟩ rfl ?_
  refine ev_new (ci := 1) (q0 := (RX1, TX1, 3)) (fs := [.int (nI 0), .long (0), .long (0)]) rfl CL_RX7_31 CI_RX1.1 CI_RX1.2 rfl dX7_init_37 ⟨Nat.le_of_ble_eq_true rfl, Nat.le_of_ble_eq_true rfl⟩ ?_
  rw [(show List.length (α := va_E) (M0 ++ (.inr (7, [.ref (b + 1), .ref (b + 2), .ref (b + 4), .null, .int (nI 0), .int (nI 0), .int (nI 0), .int (nI 0)]) :: (([(.inl (2, 80, .inl (fun _ => 0)))] ++ k4 (b + 2)) ++ k2 (b + 4) 8))) = b + 8 by rw [List.length_append, hb]; simp only [List.length_append, List.length_cons, List.length_nil, k0f_len, k1_len, k2_len, k3_len, k4_len, k8_len, k0_len9, k5_len, k6_len, k7_len] <;> omega)]
  refine ev_blk (B := [(.dup, 1)]) (pe := 41) (ls' := [some (.ref (b))]) (st' := [.ref (b + 8), .ref (b + 8), .ref (b)]) ⟨dX7_init_40, rfl⟩ rfl ?_
  refine ev_cI0 Y_X1_init L_RX7_33 dX7_init_41 ⟨Nat.le_of_ble_eq_true rfl, Nat.le_of_ble_eq_true rfl, Nat.le_of_ble_eq_true rfl, Nat.le_of_ble_eq_true rfl, Nat.le_of_ble_eq_true rfl⟩ (as := []) rfl rfl (c_X1_init hl (M0 ++ (.inr (7, [.ref (b + 1), .ref (b + 2), .ref (b + 4), .null, .int (nI 0), .int (nI 0), .int (nI 0), .int (nI 0)]) :: (([(.inl (2, 80, .inl (fun _ => 0)))] ++ k4 (b + 2)) ++ k2 (b + 4) 8))) (b + 8) (show List.length (α := va_E) (M0 ++ (.inr (7, [.ref (b + 1), .ref (b + 2), .ref (b + 4), .null, .int (nI 0), .int (nI 0), .int (nI 0), .int (nI 0)]) :: (([(.inl (2, 80, .inl (fun _ => 0)))] ++ k4 (b + 2)) ++ k2 (b + 4) 8))) = b + 8 by rw [List.length_append, hb]; simp only [List.length_append, List.length_cons, List.length_nil, k0f_len, k1_len, k2_len, k3_len, k4_len, k8_len, k0_len9, k5_len, k6_len, k7_len] <;> omega)) ?_
  refine ev_mq (M1 := M0 ++ (.inr (7, [.ref (b + 1), .ref (b + 2), .ref (b + 4), .null, .int (nI 0), .int (nI 0), .int (nI 0), .int (nI 0)]) :: ((([(.inl (2, 80, .inl (fun _ => 0)))] ++ k4 (b + 2)) ++ k2 (b + 4) 8) ++ k1))) (List.append_assoc _ _ _) ?_
  refine ev_putF F_RX7_34 dX7_init_44 rfl (fun q hq => by cases hq; rfl) (ev_ap0 hb) (Nat.le_of_ble_eq_true rfl) (fun _ _ => ⟨rfl, rfl⟩) ?_
  refine ev_mq (M1 := M0 ++ (.inr (7, [.ref (b + 1), .ref (b + 2), .ref (b + 4), .ref (b + 8), .int (nI 0), .int (nI 0), .int (nI 0), .int (nI 0)]) :: ((([(.inl (2, 80, .inl (fun _ => 0)))] ++ k4 (b + 2)) ++ k2 (b + 4) 8) ++ k1))) (ev_as0 hb) ?_
  refine ev_blk (B := [(.aload_n 0, 1), (.iconst 0, 1)]) (pe := 49) (ls' := [some (.ref (b))]) (st' := [.int (nI 0), .ref (b)]) ⟨dX7_init_47, dX7_init_48, rfl⟩ rfl ?_
  refine ev_put F_RX7_38 dX7_init_49 (ev_ap0 hb) (Nat.le_of_ble_eq_true rfl) (fun _ _ => ⟨rfl, rfl⟩) ?_
  refine ev_mq (M1 := M0 ++ (.inr (7, [.ref (b + 1), .ref (b + 2), .ref (b + 4), .ref (b + 8), .int (nI 0), .int (nI 0), .int (nI 0), .int (nI 0)]) :: ((([(.inl (2, 80, .inl (fun _ => 0)))] ++ k4 (b + 2)) ++ k2 (b + 4) 8) ++ k1))) (ev_as0 hb) ?_
  refine ev_blk (B := [(.aload_n 0, 1), (.iconst 0, 1)]) (pe := 54) (ls' := [some (.ref (b))]) (st' := [.int (nI 0), .ref (b)]) ⟨dX7_init_52, dX7_init_53, rfl⟩ rfl ?_
  refine ev_put F_RX7_42 dX7_init_54 (ev_ap0 hb) (Nat.le_of_ble_eq_true rfl) (fun _ _ => ⟨rfl, rfl⟩) ?_
  refine ev_mq (M1 := M0 ++ (.inr (7, [.ref (b + 1), .ref (b + 2), .ref (b + 4), .ref (b + 8), .int (nI 0), .int (nI 0), .int (nI 0), .int (nI 0)]) :: ((([(.inl (2, 80, .inl (fun _ => 0)))] ++ k4 (b + 2)) ++ k2 (b + 4) 8) ++ k1))) (ev_as0 hb) ?_
  refine ev_blk (B := [(.aload_n 0, 1), (.iconst 0, 1)]) (pe := 59) (ls' := [some (.ref (b))]) (st' := [.int (nI 0), .ref (b)]) ⟨dX7_init_57, dX7_init_58, rfl⟩ rfl ?_
  refine ev_put F_RX7_45 dX7_init_59 (ev_ap0 hb) (Nat.le_of_ble_eq_true rfl) (fun _ _ => ⟨rfl, rfl⟩) ?_
  refine ev_mq (M1 := M0 ++ (.inr (7, [.ref (b + 1), .ref (b + 2), .ref (b + 4), .ref (b + 8), .int (nI 0), .int (nI 0), .int (nI 0), .int (nI 0)]) :: ((([(.inl (2, 80, .inl (fun _ => 0)))] ++ k4 (b + 2)) ++ k2 (b + 4) 8) ++ k1))) (ev_as0 hb) ?_
  refine ev_blk (B := [(.aload_n 0, 1), (.iconst (-1), 1)]) (pe := 64) (ls' := [some (.ref (b))]) (st' := [.int ((-1)), .ref (b)]) ⟨dX7_init_62, dX7_init_63, rfl⟩ rfl ?_
  refine ev_put F_RX7_49 dX7_init_64 (ev_ap0 hb) (Nat.le_of_ble_eq_true rfl) (fun _ _ => ⟨rfl, rfl⟩) ?_
  refine ev_mq (M1 := M0 ++ (.inr (7, [.ref (b + 1), .ref (b + 2), .ref (b + 4), .ref (b + 8), .int (nI 0), .int (nI 0), .int (nI 0), .int ((-1))]) :: ((([(.inl (2, 80, .inl (fun _ => 0)))] ++ k4 (b + 2)) ++ k2 (b + 4) 8) ++ k1))) (ev_as0 hb) ?_
  refine ev_vret dX7_init_67 rfl ⟨Nat.le_of_ble_eq_true rfl, Nat.le_of_ble_eq_true rfl⟩ ?_
  exact ⟨rfl, rfl⟩

theorem k0r_0 (b : Nat) : (.inl (3, 13, .inr (.inr (.inr (.inr (fun _ => none))))) : va_E) = k0r b 0 := by
  unfold k0r
  have : (fun _ : Nat => (none : Option Nat)) = fun j => if j < 0 then some (b + 2 + 4 * j) else none := by
    funext j; rw [if_neg (Nat.not_lt_zero j)]
  rw [this]
theorem k0r_s (b i : Nat) : (.inl (3, 13, .inr (.inr (.inr (.inr (va_up (fun j => if j < i then some (b + 2 + 4 * j) else none) i (some (b + 2 + 4 * i))))))) : va_E) = k0r b (i + 1) := by
  unfold k0r
  have : va_up (fun j => if j < i then some (b + 2 + 4 * j) else none) i (some (b + 2 + 4 * i)) = fun j => if j < i + 1 then some (b + 2 + 4 * j) else none := by
    funext j
    unfold va_up
    by_cases h : j = i
    · rw [if_pos h, if_pos (by omega), h]
    · rw [if_neg h]
      show (if j < i then some (b + 2 + 4 * j) else none) = _
      by_cases h2 : j < i
      · rw [if_pos h2, if_pos (by omega)]
      · rw [if_neg h2, if_neg (by omega)]
  rw [this]
theorem k0_at {M0 : ev_M} {b i : Nat} {x y : va_E} (hb : M0.length = b) : (M0 ++ (x :: y :: (k0f b i ++ k2 (b + 2 + 4 * i) 30)))[b + 2 + 4 * i]? = some (.inr (2, [.ref (b + 2 + 4 * i + 1), .ref (b + 2 + 4 * i + 2), .ref (b + 2 + 4 * i + 3), .int (nI 0)])) := by
  rw [List.getElem?_append_right (by omega), show b + 2 + 4 * i - M0.length = 4 * i + 1 + 1 by omega, List.getElem?_cons_succ, List.getElem?_cons_succ, List.getElem?_append_right (by rw [k0f_len]; exact Nat.le_refl _), k0f_len, Nat.sub_self]
  rfl
theorem k0_len {M0 : ev_M} {b i : Nat} {x y : va_E} (hb : M0.length = b) : (M0 ++ (x :: y :: k0f b i)).length = b + 2 + 4 * i := by
  rw [List.length_append, List.length_cons, List.length_cons, k0f_len]; omega
set_option maxHeartbeats 4000000 in
set_option maxRecDepth 100000 in
theorem c_X0_init_e {l : Launch} (hl : l.stackTraces = false) (M0 : ev_M) (b : Nat) (hb : M0.length = b) : ev_ l m_X0_init 53 1235 45 [some (.ref (b)), none] [] (M0 ++ (.inr (0, [.ref (b + 1), .null, .null, .null, .int (nI 0), .int (nI 0), .int (nI 0), .int (nI 0), .int (nI 0)]) :: (k0r b 13 :: k0f b 13))) (ev_q (.inl none) (M0 ++ k0 b)) := by
  refine ev_blk (B := [(.aload_n 0, 1)]) (pe := 46) (ls' := [some (.ref (b)), none]) (st' := [.ref (b)]) ⟨dX0_init_45, rfl⟩ rfl ?_
  refine ev_new (ci := 2) (q0 := (RX2, TX2, 4)) (fs := [.null, .null, .null, .int (nI 0)]) rfl CL_RX0_9 CI_RX2.1 CI_RX2.2 rfl dX0_init_46 ⟨Nat.le_of_ble_eq_true rfl, Nat.le_of_ble_eq_true rfl⟩ ?_
  rw [(show List.length (α := va_E) (M0 ++ (.inr (0, [.ref (b + 1), .null, .null, .null, .int (nI 0), .int (nI 0), .int (nI 0), .int (nI 0), .int (nI 0)]) :: (k0r b 13 :: k0f b 13))) = b + 54 by rw [List.length_append, hb]; simp only [List.length_append, List.length_cons, List.length_nil, k0f_len, k1_len, k2_len, k3_len, k4_len, k8_len, k0_len9, k5_len, k6_len, k7_len] <;> omega)]
  refine ev_blk (B := [(.dup, 1), (.sipush 330, 3)]) (pe := 53) (ls' := [some (.ref (b)), none]) (st' := [.int (nI 330), .ref (b + 54), .ref (b + 54), .ref (b)]) ⟨dX0_init_49, dX0_init_50, rfl⟩ rfl ?_
  refine ev_cI0 Y_X2_init L_RX0_17 dX0_init_53 ⟨Nat.le_of_ble_eq_true rfl, Nat.le_of_ble_eq_true rfl, Nat.le_of_ble_eq_true rfl, Nat.le_of_ble_eq_true rfl, Nat.le_of_ble_eq_true rfl⟩ (as := [.int (nI 330)]) rfl rfl (c_X2_init hl (M0 ++ (.inr (0, [.ref (b + 1), .null, .null, .null, .int (nI 0), .int (nI 0), .int (nI 0), .int (nI 0), .int (nI 0)]) :: (k0r b 13 :: k0f b 13))) (b + 54) (show List.length (α := va_E) (M0 ++ (.inr (0, [.ref (b + 1), .null, .null, .null, .int (nI 0), .int (nI 0), .int (nI 0), .int (nI 0), .int (nI 0)]) :: (k0r b 13 :: k0f b 13))) = b + 54 by rw [List.length_append, hb]; simp only [List.length_append, List.length_cons, List.length_nil, k0f_len, k1_len, k2_len, k3_len, k4_len, k8_len, k0_len9, k5_len, k6_len, k7_len] <;> omega) 330 (by decide)) ?_
  refine ev_mq (M1 := M0 ++ (.inr (0, [.ref (b + 1), .null, .null, .null, .int (nI 0), .int (nI 0), .int (nI 0), .int (nI 0), .int (nI 0)]) :: ((k0r b 13 :: k0f b 13) ++ k2 (b + 54) 330))) (List.append_assoc _ _ _) ?_
  refine ev_putF F_RX0_20 dX0_init_56 rfl (fun q hq => by cases hq; rfl) (ev_ap0 hb) (Nat.le_of_ble_eq_true rfl) (fun _ _ => ⟨rfl, rfl⟩) ?_
  refine ev_mq (M1 := M0 ++ (.inr (0, [.ref (b + 1), .ref (b + 54), .null, .null, .int (nI 0), .int (nI 0), .int (nI 0), .int (nI 0), .int (nI 0)]) :: ((k0r b 13 :: k0f b 13) ++ k2 (b + 54) 330))) (ev_as0 hb) ?_
  refine ev_blk (B := [(.aload_n 0, 1)]) (pe := 60) (ls' := [some (.ref (b)), none]) (st' := [.ref (b)]) ⟨dX0_init_59, rfl⟩ rfl ?_
  refine ev_new (ci := 1) (q0 := (RX1, TX1, 3)) (fs := [.int (nI 0), .long (0), .long (0)]) rfl CL_RX0_24 CI_RX1.1 CI_RX1.2 rfl dX0_init_60 ⟨Nat.le_of_ble_eq_true rfl, Nat.le_of_ble_eq_true rfl⟩ ?_
  rw [(show List.length (α := va_E) (M0 ++ (.inr (0, [.ref (b + 1), .ref (b + 54), .null, .null, .int (nI 0), .int (nI 0), .int (nI 0), .int (nI 0), .int (nI 0)]) :: ((k0r b 13 :: k0f b 13) ++ k2 (b + 54) 330))) = b + 58 by rw [List.length_append, hb]; simp only [List.length_append, List.length_cons, List.length_nil, k0f_len, k1_len, k2_len, k3_len, k4_len, k8_len, k0_len9, k5_len, k6_len, k7_len] <;> omega)]
  refine ev_blk (B := [(.dup, 1)]) (pe := 64) (ls' := [some (.ref (b)), none]) (st' := [.ref (b + 58), .ref (b + 58), .ref (b)]) ⟨dX0_init_63, rfl⟩ rfl ?_
  refine ev_cI0 Y_X1_init L_RX0_26 dX0_init_64 ⟨Nat.le_of_ble_eq_true rfl, Nat.le_of_ble_eq_true rfl, Nat.le_of_ble_eq_true rfl, Nat.le_of_ble_eq_true rfl, Nat.le_of_ble_eq_true rfl⟩ (as := []) rfl rfl (c_X1_init hl (M0 ++ (.inr (0, [.ref (b + 1), .ref (b + 54), .null, .null, .int (nI 0), .int (nI 0), .int (nI 0), .int (nI 0), .int (nI 0)]) :: ((k0r b 13 :: k0f b 13) ++ k2 (b + 54) 330))) (b + 58) (show List.length (α := va_E) (M0 ++ (.inr (0, [.ref (b + 1), .ref (b + 54), .null, .null, .int (nI 0), .int (nI 0), .int (nI 0), .int (nI 0), .int (nI 0)]) :: ((k0r b 13 :: k0f b 13) ++ k2 (b + 54) 330))) = b + 58 by rw [List.length_append, hb]; simp only [List.length_append, List.length_cons, List.length_nil, k0f_len, k1_len, k2_len, k3_len, k4_len, k8_len, k0_len9, k5_len, k6_len, k7_len] <;> omega)) ?_
  refine ev_mq (M1 := M0 ++ (.inr (0, [.ref (b + 1), .ref (b + 54), .null, .null, .int (nI 0), .int (nI 0), .int (nI 0), .int (nI 0), .int (nI 0)]) :: (((k0r b 13 :: k0f b 13) ++ k2 (b + 54) 330) ++ k1))) (List.append_assoc _ _ _) ?_
  refine ev_putF F_RX0_27 dX0_init_67 rfl (fun q hq => by cases hq; rfl) (ev_ap0 hb) (Nat.le_of_ble_eq_true rfl) (fun _ _ => ⟨rfl, rfl⟩) ?_
  refine ev_mq (M1 := M0 ++ (.inr (0, [.ref (b + 1), .ref (b + 54), .ref (b + 58), .null, .int (nI 0), .int (nI 0), .int (nI 0), .int (nI 0), .int (nI 0)]) :: (((k0r b 13 :: k0f b 13) ++ k2 (b + 54) 330) ++ k1))) (ev_as0 hb) ?_
  refine ev_blk (B := [(.aload_n 0, 1)]) (pe := 71) (ls' := [some (.ref (b)), none]) (st' := [.ref (b)]) ⟨dX0_init_70, rfl⟩ rfl ?_
  refine ev_new (ci := 1) (q0 := (RX1, TX1, 3)) (fs := [.int (nI 0), .long (0), .long (0)]) rfl CL_RX0_24 CI_RX1.1 CI_RX1.2 rfl dX0_init_71 ⟨Nat.le_of_ble_eq_true rfl, Nat.le_of_ble_eq_true rfl⟩ ?_
  rw [(show List.length (α := va_E) (M0 ++ (.inr (0, [.ref (b + 1), .ref (b + 54), .ref (b + 58), .null, .int (nI 0), .int (nI 0), .int (nI 0), .int (nI 0), .int (nI 0)]) :: (((k0r b 13 :: k0f b 13) ++ k2 (b + 54) 330) ++ k1))) = b + 59 by rw [List.length_append, hb]; simp only [List.length_append, List.length_cons, List.length_nil, k0f_len, k1_len, k2_len, k3_len, k4_len, k8_len, k0_len9, k5_len, k6_len, k7_len] <;> omega)]
  refine ev_blk (B := [(.dup, 1)]) (pe := 75) (ls' := [some (.ref (b)), none]) (st' := [.ref (b + 59), .ref (b + 59), .ref (b)]) ⟨dX0_init_74, rfl⟩ rfl ?_
  refine ev_cI0 Y_X1_init L_RX0_26 dX0_init_75 ⟨Nat.le_of_ble_eq_true rfl, Nat.le_of_ble_eq_true rfl, Nat.le_of_ble_eq_true rfl, Nat.le_of_ble_eq_true rfl, Nat.le_of_ble_eq_true rfl⟩ (as := []) rfl rfl (c_X1_init hl (M0 ++ (.inr (0, [.ref (b + 1), .ref (b + 54), .ref (b + 58), .null, .int (nI 0), .int (nI 0), .int (nI 0), .int (nI 0), .int (nI 0)]) :: (((k0r b 13 :: k0f b 13) ++ k2 (b + 54) 330) ++ k1))) (b + 59) (show List.length (α := va_E) (M0 ++ (.inr (0, [.ref (b + 1), .ref (b + 54), .ref (b + 58), .null, .int (nI 0), .int (nI 0), .int (nI 0), .int (nI 0), .int (nI 0)]) :: (((k0r b 13 :: k0f b 13) ++ k2 (b + 54) 330) ++ k1))) = b + 59 by rw [List.length_append, hb]; simp only [List.length_append, List.length_cons, List.length_nil, k0f_len, k1_len, k2_len, k3_len, k4_len, k8_len, k0_len9, k5_len, k6_len, k7_len] <;> omega)) ?_
  refine ev_mq (M1 := M0 ++ (.inr (0, [.ref (b + 1), .ref (b + 54), .ref (b + 58), .null, .int (nI 0), .int (nI 0), .int (nI 0), .int (nI 0), .int (nI 0)]) :: ((((k0r b 13 :: k0f b 13) ++ k2 (b + 54) 330) ++ k1) ++ k1))) (List.append_assoc _ _ _) ?_
  refine ev_putF F_RX0_31 dX0_init_78 rfl (fun q hq => by cases hq; rfl) (ev_ap0 hb) (Nat.le_of_ble_eq_true rfl) (fun _ _ => ⟨rfl, rfl⟩) ?_
  refine ev_mq (M1 := M0 ++ (.inr (0, [.ref (b + 1), .ref (b + 54), .ref (b + 58), .ref (b + 59), .int (nI 0), .int (nI 0), .int (nI 0), .int (nI 0), .int (nI 0)]) :: ((((k0r b 13 :: k0f b 13) ++ k2 (b + 54) 330) ++ k1) ++ k1))) (ev_as0 hb) ?_
  refine ev_blk (B := [(.aload_n 0, 1), (.iconst 0, 1)]) (pe := 83) (ls' := [some (.ref (b)), none]) (st' := [.int (nI 0), .ref (b)]) ⟨dX0_init_81, dX0_init_82, rfl⟩ rfl ?_
  refine ev_put F_RX0_34 dX0_init_83 (ev_ap0 hb) (Nat.le_of_ble_eq_true rfl) (fun _ _ => ⟨rfl, rfl⟩) ?_
  refine ev_mq (M1 := M0 ++ (.inr (0, [.ref (b + 1), .ref (b + 54), .ref (b + 58), .ref (b + 59), .int (nI 0), .int (nI 0), .int (nI 0), .int (nI 0), .int (nI 0)]) :: ((((k0r b 13 :: k0f b 13) ++ k2 (b + 54) 330) ++ k1) ++ k1))) (ev_as0 hb) ?_
  refine ev_blk (B := [(.aload_n 0, 1), (.iconst 0, 1)]) (pe := 88) (ls' := [some (.ref (b)), none]) (st' := [.int (nI 0), .ref (b)]) ⟨dX0_init_86, dX0_init_87, rfl⟩ rfl ?_
  refine ev_put F_RX0_38 dX0_init_88 (ev_ap0 hb) (Nat.le_of_ble_eq_true rfl) (fun _ _ => ⟨rfl, rfl⟩) ?_
  refine ev_mq (M1 := M0 ++ (.inr (0, [.ref (b + 1), .ref (b + 54), .ref (b + 58), .ref (b + 59), .int (nI 0), .int (nI 0), .int (nI 0), .int (nI 0), .int (nI 0)]) :: ((((k0r b 13 :: k0f b 13) ++ k2 (b + 54) 330) ++ k1) ++ k1))) (ev_as0 hb) ?_
  refine ev_blk (B := [(.aload_n 0, 1), (.iconst 0, 1)]) (pe := 93) (ls' := [some (.ref (b)), none]) (st' := [.int (nI 0), .ref (b)]) ⟨dX0_init_91, dX0_init_92, rfl⟩ rfl ?_
  refine ev_put F_RX0_41 dX0_init_93 (ev_ap0 hb) (Nat.le_of_ble_eq_true rfl) (fun _ _ => ⟨rfl, rfl⟩) ?_
  refine ev_mq (M1 := M0 ++ (.inr (0, [.ref (b + 1), .ref (b + 54), .ref (b + 58), .ref (b + 59), .int (nI 0), .int (nI 0), .int (nI 0), .int (nI 0), .int (nI 0)]) :: ((((k0r b 13 :: k0f b 13) ++ k2 (b + 54) 330) ++ k1) ++ k1))) (ev_as0 hb) ?_
  refine ev_blk (B := [(.aload_n 0, 1), (.iconst 0, 1)]) (pe := 98) (ls' := [some (.ref (b)), none]) (st' := [.int (nI 0), .ref (b)]) ⟨dX0_init_96, dX0_init_97, rfl⟩ rfl ?_
  refine ev_put F_RX0_45 dX0_init_98 (ev_ap0 hb) (Nat.le_of_ble_eq_true rfl) (fun _ _ => ⟨rfl, rfl⟩) ?_
  refine ev_mq (M1 := M0 ++ (.inr (0, [.ref (b + 1), .ref (b + 54), .ref (b + 58), .ref (b + 59), .int (nI 0), .int (nI 0), .int (nI 0), .int (nI 0), .int (nI 0)]) :: ((((k0r b 13 :: k0f b 13) ++ k2 (b + 54) 330) ++ k1) ++ k1))) (ev_as0 hb) ?_
  refine ev_blk (B := [(.aload_n 0, 1), (.iconst 0, 1)]) (pe := 103) (ls' := [some (.ref (b)), none]) (st' := [.int (nI 0), .ref (b)]) ⟨dX0_init_101, dX0_init_102, rfl⟩ rfl ?_
  refine ev_put F_RX0_48 dX0_init_103 (ev_ap0 hb) (Nat.le_of_ble_eq_true rfl) (fun _ _ => ⟨rfl, rfl⟩) ?_
  refine ev_mq (M1 := M0 ++ (.inr (0, [.ref (b + 1), .ref (b + 54), .ref (b + 58), .ref (b + 59), .int (nI 0), .int (nI 0), .int (nI 0), .int (nI 0), .int (nI 0)]) :: ((((k0r b 13 :: k0f b 13) ++ k2 (b + 54) 330) ++ k1) ++ k1))) (ev_as0 hb) ?_
  refine ev_vret dX0_init_106 rfl ⟨Nat.le_of_ble_eq_true rfl, Nat.le_of_ble_eq_true rfl⟩ ?_
  exact ⟨rfl, rfl⟩

theorem ev_kk {l : Launch} {mi : ev_MI} {kc kc' ks ks' pc : Nat} {ls : ev_L} {st : List Value} {M : ev_M} {Q : ev_R → ev_M → Prop} (h1 : kc = kc') (h2 : ks = ks') (k : ev_ l mi kc' ks' pc ls st M Q) : ev_ l mi kc ks pc ls st M Q := by subst h1; subst h2; exact k
set_option maxHeartbeats 4000000 in
set_option maxRecDepth 100000 in
theorem c_X0_init_l {l : Launch} (hl : l.stackTraces = false) (M0 : ev_M) (b : Nat) (hb : M0.length = b) : ∀ (n9 i : Nat), i ≤ 13 → 13 - i < n9 → ev_ l m_X0_init (1 + 4 * i) (13 + 94 * i) 15 [some (.ref (b)), some (.int (nI i))] [] (M0 ++ (.inr (0, [.ref (b + 1), .null, .null, .null, .int (nI 0), .int (nI 0), .int (nI 0), .int (nI 0), .int (nI 0)]) :: (k0r b i :: k0f b i))) (ev_q (.inl none) (M0 ++ k0 b)) := by
  intro n9
  induction n9 with
  | zero => intro i hi hm9; exact absurd hm9 (by omega)
  | succ n9 ih =>
    intro i hi hm9
    refine ev_blk (B := [(.iload_n 1, 1), (.aload_n 0, 1)]) (pe := 17) (ls' := [some (.ref (b)), some (.int (nI i))]) (st' := [.ref (b), .int (nI i)]) ⟨dX0_init_15, dX0_init_16, rfl⟩ rfl ?_
    refine ev_getf (v := .ref (b + 1)) F_RX0_11 dX0_init_17 (ev_ap0 hb) rfl ?_
    refine ev_alen (v := nI (13)) dX0_init_20 (ev_ap1 hb) (by decide) rfl ?_
    refine ev_iN_ge dX0_init_21 (tgt := 45) (by decide) (by omega) (by omega) (fun q21 => ?_) (fun q21 => ?_)
    · have e7 : i = 13 := by omega
      subst e7
      refine ev_fgt (ls' := [some (.ref (b)), none]) ⟨Or.inr rfl, Or.inl rfl, trivial⟩ ?_
      exact c_X0_init_e hl M0 b hb
    · refine ev_blk (B := [(.aload_n 0, 1)]) (pe := 25) (ls' := [some (.ref (b)), some (.int (nI i))]) (st' := [.ref (b)]) ⟨dX0_init_24, rfl⟩ rfl ?_
      refine ev_getf (v := .ref (b + 1)) F_RX0_11 dX0_init_25 (ev_ap0 hb) rfl ?_
      refine ev_blk (B := [(.iload_n 1, 1)]) (pe := 29) (ls' := [some (.ref (b)), some (.int (nI i))]) (st' := [.int (nI i), .ref (b + 1)]) ⟨dX0_init_28, rfl⟩ rfl ?_
      refine ev_new (ci := 2) (q0 := (RX2, TX2, 4)) (fs := [.null, .null, .null, .int (nI 0)]) rfl CL_RX0_9 CI_RX2.1 CI_RX2.2 rfl dX0_init_29 ⟨by show 1 + 4 * i + 1 ≤ 59; omega, by show 13 + 94 * i + 4 ≤ 2235; omega⟩ ?_
      rw [(k0_len hb)]
      refine ev_blk (B := [(.dup, 1), (.bipush 30, 2)]) (pe := 35) (ls' := [some (.ref (b)), some (.int (nI i))]) (st' := [.int (nI 30), .ref (b + 2 + 4 * i), .ref (b + 2 + 4 * i), .int (nI i), .ref (b + 1)]) ⟨dX0_init_32, dX0_init_33, rfl⟩ rfl ?_
      refine ev_cI0 Y_X2_init L_RX0_17 dX0_init_35 ⟨Nat.le_of_ble_eq_true rfl, Nat.le_of_ble_eq_true rfl, by show 1 + 4 * i + 1 + 3 ≤ 59; omega, by show 13 + 94 * i + 4 + 3 * 30 ≤ 2235; omega, Nat.le_of_ble_eq_true rfl⟩ (as := [.int (nI 30)]) rfl rfl (c_X2_init hl (M0 ++ (.inr (0, [.ref (b + 1), .null, .null, .null, .int (nI 0), .int (nI 0), .int (nI 0), .int (nI 0), .int (nI 0)]) :: (k0r b i :: k0f b i))) (b + 2 + 4 * i) (k0_len hb) 30 (by decide)) ?_
      refine ev_mq (M1 := M0 ++ (.inr (0, [.ref (b + 1), .null, .null, .null, .int (nI 0), .int (nI 0), .int (nI 0), .int (nI 0), .int (nI 0)]) :: (k0r b i :: (k0f b i ++ k2 (b + 2 + 4 * i) 30)))) (List.append_assoc _ _ _) ?_
      refine ev_aast dX0_init_38 (ev_ap1 hb) (k0_at hb) (vp_in_nI (show i < 13 by omega) (by omega)) ?_
      rw [nI_clamp (show i < 2 ^ 31 by omega)]
      refine ev_mq (M1 := M0 ++ (.inr (0, [.ref (b + 1), .null, .null, .null, .int (nI 0), .int (nI 0), .int (nI 0), .int (nI 0), .int (nI 0)]) :: (k0r b (i + 1) :: k0f b (i + 1)))) ((ev_as1 hb).trans (by rw [k0r_s]; rfl)) ?_
      refine ev_blk (B := [(.iinc 1 1, 3)]) (pe := 42) (ls' := [some (.ref (b)), some (.int (nI (i + 1)))]) (st' := []) ⟨dX0_init_39, rfl⟩ (by show some (([some (.ref (b)), some (.int ((nI i) + Int32.ofInt (1)))] : ev_L), ([] : List Value)) = _; rw [ev_inc1 i]) ?_
      refine ev_goto (tgt := 15) dX0_init_42 (by decide) ?_
      refine ev_kk (kc' := 1 + 4 * (i + 1)) (ks' := 13 + 94 * (i + 1)) (by show 1 + 4 * i + 1 + 3 = 1 + 4 * (i + 1); omega) (by show 13 + 94 * i + 4 + 3 * 30 = 13 + 94 * (i + 1); omega) ?_
      exact ih (i + 1) (by omega) (by omega)

set_option maxHeartbeats 4000000 in
set_option maxRecDepth 100000 in
theorem c_X0_init {l : Launch} (hl : l.stackTraces = false) (M0 : ev_M) (b : Nat) (hb : M0.length = b) : ev_Mt l m_X0_init [.ref (b)] (M0 ++ [.inr (0, [.null, .null, .null, .null, .int (nI 0), .int (nI 0), .int (nI 0), .int (nI 0), .int (nI 0)])]) (ev_q (.inl none) (M0 ++ k0 b)) := by
  refine ev_body hl rfl (by decide +kernel) (Nat.le_of_ble_eq_true rfl) ?_
  show ev_ l m_X0_init 0 0 0 [some (.ref (b)), none] [] (M0 ++ (.inr (0, [.null, .null, .null, .null, .int (nI 0), .int (nI 0), .int (nI 0), .int (nI 0), .int (nI 0)]) :: [])) _
  refine ev_blk (B := [(.aload_n 0, 1)]) (pe := 1) (ls' := [some (.ref (b)), none]) (st' := [.ref (b)]) ⟨dX0_init_0, rfl⟩ rfl ?_
  refine ev_objInit L_RX0_3 ev_oi1 ev_oi2 dX0_init_1 ⟨Nat.le_of_ble_eq_true rfl, Nat.le_of_ble_eq_true rfl⟩ ?_
  refine ev_blk (B := [(.aload_n 0, 1), (.bipush 13, 2)]) (pe := 7) (ls' := [some (.ref (b)), none]) (st' := [.int (nI 13), .ref (b)]) ⟨dX0_init_4, dX0_init_5, rfl⟩ rfl ?_
  refine ev_newq (N := 13) CL_RX0_9 (by decide) (by decide) (by omega) dX0_init_7 ⟨Nat.le_of_ble_eq_true rfl, Nat.le_of_ble_eq_true rfl⟩ ?_
  rw [(show List.length (α := va_E) (M0 ++ (.inr (0, [.null, .null, .null, .null, .int (nI 0), .int (nI 0), .int (nI 0), .int (nI 0), .int (nI 0)]) :: [])) = b + 1 by rw [List.length_append, hb]; simp only [List.length_append, List.length_cons, List.length_nil, k0f_len, k1_len, k2_len, k3_len, k4_len, k8_len, k0_len9, k5_len, k6_len, k7_len] <;> omega)]
  refine ev_mq (M1 := M0 ++ (.inr (0, [.null, .null, .null, .null, .int (nI 0), .int (nI 0), .int (nI 0), .int (nI 0), .int (nI 0)]) :: [(.inl (3, 13, .inr (.inr (.inr (.inr (fun _ => none))))))])) (List.append_assoc _ _ _) ?_
  refine ev_putF F_RX0_11 dX0_init_10 rfl (fun q hq => by cases hq; rfl) (ev_ap0 hb) (Nat.le_of_ble_eq_true rfl) (fun _ _ => ⟨rfl, rfl⟩) ?_
  refine ev_mq (M1 := M0 ++ (.inr (0, [.ref (b + 1), .null, .null, .null, .int (nI 0), .int (nI 0), .int (nI 0), .int (nI 0), .int (nI 0)]) :: [(.inl (3, 13, .inr (.inr (.inr (.inr (fun _ => none))))))])) (ev_as0 hb) ?_
  refine ev_blk (B := [(.iconst 0, 1), (.istore_n 1, 1)]) (pe := 15) (ls' := [some (.ref (b)), some (.int (nI 0))]) (st' := []) ⟨dX0_init_13, dX0_init_14, rfl⟩ rfl ?_
  rw [k0r_0 b]
  exact c_X0_init_l hl M0 b hb _ 0 (Nat.zero_le _) (Nat.lt_succ_self _)

set_option maxHeartbeats 4000000 in
set_option maxRecDepth 100000 in
theorem c_X10_init {l : Launch} (hl : l.stackTraces = false) (M0 : ev_M) (b : Nat) (hb : M0.length = b) : ev_Mt l (m_X10_init) [.ref (b)] (M0 ++ [.inr (9, [.null, .null, .null, .null, .null, .null, .null, .null, .null])]) (ev_q (.inl none) (M0 ++ k9 b)) := by
  refine ev_body hl rfl (by decide +kernel) (Nat.le_of_ble_eq_true rfl) ?_
  show ev_ l (m_X10_init) 0 0 0 [some (.ref (b))] [] (M0 ++ (.inr (9, [.null, .null, .null, .null, .null, .null, .null, .null, .null]) :: [])) _
  refine ev_blk (B := [(.aload_n 0, 1)]) (pe := 1) (ls' := [some (.ref (b))]) (st' := [.ref (b)]) ⟨dX10_init_0, rfl⟩ rfl ?_
  refine ev_objInit L_RX10_1 ev_oi1 ev_oi2 dX10_init_1 ⟨Nat.le_of_ble_eq_true rfl, Nat.le_of_ble_eq_true rfl⟩ ?_
  refine ev_blk (B := [(.aload_n 0, 1)]) (pe := 5) (ls' := [some (.ref (b))]) (st' := [.ref (b)]) ⟨dX10_init_4, rfl⟩ rfl ?_
  refine ev_new (ci := 4) (q0 := (RX4, TX4, 2)) (fs := [.null, .int (nI 0)]) rfl CL_RX10_7 CI_RX4.1 CI_RX4.2 rfl dX10_init_5 ⟨Nat.le_of_ble_eq_true rfl, Nat.le_of_ble_eq_true rfl⟩ ?_
  rw [(show List.length (α := va_E) (M0 ++ (.inr (9, [.null, .null, .null, .null, .null, .null, .null, .null, .null]) :: [])) = b + 1 by rw [List.length_append, hb]; simp only [List.length_append, List.length_cons, List.length_nil, k0f_len, k1_len, k2_len, k3_len, k4_len, k8_len, k0_len9, k5_len, k6_len, k7_len] <;> omega)]
  refine ev_blk (B := [(.dup, 1)]) (pe := 9) (ls' := [some (.ref (b))]) (st' := [.ref (b + 1), .ref (b + 1), .ref (b)]) ⟨dX10_init_8, rfl⟩ rfl ?_
  refine ev_cI0 Y_X4_init L_RX10_9 dX10_init_9 ⟨Nat.le_of_ble_eq_true rfl, Nat.le_of_ble_eq_true rfl, Nat.le_of_ble_eq_true rfl, Nat.le_of_ble_eq_true rfl, Nat.le_of_ble_eq_true rfl⟩ (as := []) rfl rfl (c_X4_init hl (M0 ++ (.inr (9, [.null, .null, .null, .null, .null, .null, .null, .null, .null]) :: [])) (b + 1) (show List.length (α := va_E) (M0 ++ (.inr (9, [.null, .null, .null, .null, .null, .null, .null, .null, .null]) :: [])) = b + 1 by rw [List.length_append, hb]; simp only [List.length_append, List.length_cons, List.length_nil, k0f_len, k1_len, k2_len, k3_len, k4_len, k8_len, k0_len9, k5_len, k6_len, k7_len] <;> omega)) ?_
  refine ev_mq (M1 := M0 ++ (.inr (9, [.null, .null, .null, .null, .null, .null, .null, .null, .null]) :: (k4 (b + 1)))) (List.append_assoc _ _ _) ?_
  refine ev_putF F_RX10_10 dX10_init_12 rfl (fun q hq => by cases hq; rfl) (ev_ap0 hb) (Nat.le_of_ble_eq_true rfl) (fun _ _ => ⟨rfl, rfl⟩) ?_
  refine ev_mq (M1 := M0 ++ (.inr (9, [.ref (b + 1), .null, .null, .null, .null, .null, .null, .null, .null]) :: (k4 (b + 1)))) (ev_as0 hb) ?_
  refine ev_blk (B := [(.aload_n 0, 1)]) (pe := 16) (ls' := [some (.ref (b))]) (st' := [.ref (b)]) ⟨dX10_init_15, rfl⟩ rfl ?_
  refine ev_new (ci := 1) (q0 := (RX1, TX1, 3)) (fs := [.int (nI 0), .long (0), .long (0)]) rfl CL_RX10_16 CI_RX1.1 CI_RX1.2 rfl dX10_init_16 ⟨Nat.le_of_ble_eq_true rfl, Nat.le_of_ble_eq_true rfl⟩ ?_
  rw [(show List.length (α := va_E) (M0 ++ (.inr (9, [.ref (b + 1), .null, .null, .null, .null, .null, .null, .null, .null]) :: (k4 (b + 1)))) = b + 3 by rw [List.length_append, hb]; simp only [List.length_append, List.length_cons, List.length_nil, k0f_len, k1_len, k2_len, k3_len, k4_len, k8_len, k0_len9, k5_len, k6_len, k7_len] <;> omega)]
  refine ev_blk (B := [(.dup, 1)]) (pe := 20) (ls' := [some (.ref (b))]) (st' := [.ref (b + 3), .ref (b + 3), .ref (b)]) ⟨dX10_init_19, rfl⟩ rfl ?_
  refine ev_cI0 Y_X1_init L_RX10_18 dX10_init_20 ⟨Nat.le_of_ble_eq_true rfl, Nat.le_of_ble_eq_true rfl, Nat.le_of_ble_eq_true rfl, Nat.le_of_ble_eq_true rfl, Nat.le_of_ble_eq_true rfl⟩ (as := []) rfl rfl (c_X1_init hl (M0 ++ (.inr (9, [.ref (b + 1), .null, .null, .null, .null, .null, .null, .null, .null]) :: (k4 (b + 1)))) (b + 3) (show List.length (α := va_E) (M0 ++ (.inr (9, [.ref (b + 1), .null, .null, .null, .null, .null, .null, .null, .null]) :: (k4 (b + 1)))) = b + 3 by rw [List.length_append, hb]; simp only [List.length_append, List.length_cons, List.length_nil, k0f_len, k1_len, k2_len, k3_len, k4_len, k8_len, k0_len9, k5_len, k6_len, k7_len] <;> omega)) ?_
  refine ev_mq (M1 := M0 ++ (.inr (9, [.ref (b + 1), .null, .null, .null, .null, .null, .null, .null, .null]) :: ((k4 (b + 1)) ++ k1))) (List.append_assoc _ _ _) ?_
  refine ev_putF F_RX10_19 dX10_init_23 rfl (fun q hq => by cases hq; rfl) (ev_ap0 hb) (Nat.le_of_ble_eq_true rfl) (fun _ _ => ⟨rfl, rfl⟩) ?_
  refine ev_mq (M1 := M0 ++ (.inr (9, [.ref (b + 1), .ref (b + 3), .null, .null, .null, .null, .null, .null, .null]) :: ((k4 (b + 1)) ++ k1))) (ev_as0 hb) ?_
  refine ev_blk (B := [(.aload_n 0, 1)]) (pe := 27) (ls' := [some (.ref (b))]) (st' := [.ref (b)]) ⟨dX10_init_26, rfl⟩ rfl ?_
  refine ev_new (ci := 2) (q0 := (RX2, TX2, 4)) (fs := [.null, .null, .null, .int (nI 0)]) rfl CL_RX10_23 CI_RX2.1 CI_RX2.2 rfl dX10_init_27 ⟨Nat.le_of_ble_eq_true rfl, Nat.le_of_ble_eq_true rfl⟩ ?_
  rw [(show List.length (α := va_E) (M0 ++ (.inr (9, [.ref (b + 1), .ref (b + 3), .null, .null, .null, .null, .null, .null, .null]) :: ((k4 (b + 1)) ++ k1))) = b + 4 by rw [List.length_append, hb]; simp only [List.length_append, List.length_cons, List.length_nil, k0f_len, k1_len, k2_len, k3_len, k4_len, k8_len, k0_len9, k5_len, k6_len, k7_len] <;> omega)]
  refine ev_blk (B := [(.dup, 1), (.iconst 3, 1)]) (pe := 32) (ls' := [some (.ref (b))]) (st' := [.int (nI 3), .ref (b + 4), .ref (b + 4), .ref (b)]) ⟨dX10_init_30, dX10_init_31, rfl⟩ rfl ?_
  refine ev_cI0 Y_X2_init L_RX10_25 dX10_init_32 ⟨Nat.le_of_ble_eq_true rfl, Nat.le_of_ble_eq_true rfl, Nat.le_of_ble_eq_true rfl, Nat.le_of_ble_eq_true rfl, Nat.le_of_ble_eq_true rfl⟩ (as := [.int (nI 3)]) rfl rfl (c_X2_init hl (M0 ++ (.inr (9, [.ref (b + 1), .ref (b + 3), .null, .null, .null, .null, .null, .null, .null]) :: ((k4 (b + 1)) ++ k1))) (b + 4) (show List.length (α := va_E) (M0 ++ (.inr (9, [.ref (b + 1), .ref (b + 3), .null, .null, .null, .null, .null, .null, .null]) :: ((k4 (b + 1)) ++ k1))) = b + 4 by rw [List.length_append, hb]; simp only [List.length_append, List.length_cons, List.length_nil, k0f_len, k1_len, k2_len, k3_len, k4_len, k8_len, k0_len9, k5_len, k6_len, k7_len] <;> omega) 3 (by decide)) ?_
  refine ev_mq (M1 := M0 ++ (.inr (9, [.ref (b + 1), .ref (b + 3), .null, .null, .null, .null, .null, .null, .null]) :: (((k4 (b + 1)) ++ k1) ++ k2 (b + 4) 3))) (List.append_assoc _ _ _) ?_
  refine ev_putF F_RX10_28 dX10_init_35 rfl (fun q hq => by cases hq; rfl) (ev_ap0 hb) (Nat.le_of_ble_eq_true rfl) (fun _ _ => ⟨rfl, rfl⟩) ?_
  refine ev_mq (M1 := M0 ++ (.inr (9, [.ref (b + 1), .ref (b + 3), .ref (b + 4), .null, .null, .null, .null, .null, .null]) :: (((k4 (b + 1)) ++ k1) ++ k2 (b + 4) 3))) (ev_as0 hb) ?_
  refine ev_blk (B := [(.aload_n 0, 1)]) (pe := 39) (ls' := [some (.ref (b))]) (st' := [.ref (b)]) ⟨dX10_init_38, rfl⟩ rfl ?_
  refine ev_new (ci := 8) (q0 := (RX8, TX8, 3)) (fs := [.null, .null, .null]) rfl CL_RX10_32 CI_RX8.1 CI_RX8.2 rfl dX10_init_39 ⟨Nat.le_of_ble_eq_true rfl, Nat.le_of_ble_eq_true rfl⟩ ?_
  rw [(show List.length (α := va_E) (M0 ++ (.inr (9, [.ref (b + 1), .ref (b + 3), .ref (b + 4), .null, .null, .null, .null, .null, .null]) :: (((k4 (b + 1)) ++ k1) ++ k2 (b + 4) 3))) = b + 8 by rw [List.length_append, hb]; simp only [List.length_append, List.length_cons, List.length_nil, k0f_len, k1_len, k2_len, k3_len, k4_len, k8_len, k0_len9, k5_len, k6_len, k7_len] <;> omega)]
  refine ev_blk (B := [(.dup, 1)]) (pe := 43) (ls' := [some (.ref (b))]) (st' := [.ref (b + 8), .ref (b + 8), .ref (b)]) ⟨dX10_init_42, rfl⟩ rfl ?_
  refine ev_cI0 Y_X8_init L_RX10_34 dX10_init_43 ⟨Nat.le_of_ble_eq_true rfl, Nat.le_of_ble_eq_true rfl, Nat.le_of_ble_eq_true rfl, Nat.le_of_ble_eq_true rfl, Nat.le_of_ble_eq_true rfl⟩ (as := []) rfl rfl (c_X8_init hl (M0 ++ (.inr (9, [.ref (b + 1), .ref (b + 3), .ref (b + 4), .null, .null, .null, .null, .null, .null]) :: (((k4 (b + 1)) ++ k1) ++ k2 (b + 4) 3))) (b + 8) (show List.length (α := va_E) (M0 ++ (.inr (9, [.ref (b + 1), .ref (b + 3), .ref (b + 4), .null, .null, .null, .null, .null, .null]) :: (((k4 (b + 1)) ++ k1) ++ k2 (b + 4) 3))) = b + 8 by rw [List.length_append, hb]; simp only [List.length_append, List.length_cons, List.length_nil, k0f_len, k1_len, k2_len, k3_len, k4_len, k8_len, k0_len9, k5_len, k6_len, k7_len] <;> omega)) ?_
  refine ev_mq (M1 := M0 ++ (.inr (9, [.ref (b + 1), .ref (b + 3), .ref (b + 4), .null, .null, .null, .null, .null, .null]) :: ((((k4 (b + 1)) ++ k1) ++ k2 (b + 4) 3) ++ k8 (b + 8)))) (List.append_assoc _ _ _) ?_
  refine ev_putF F_RX10_35 dX10_init_46 rfl (fun q hq => by cases hq; rfl) (ev_ap0 hb) (Nat.le_of_ble_eq_true rfl) (fun _ _ => ⟨rfl, rfl⟩) ?_
  refine ev_mq (M1 := M0 ++ (.inr (9, [.ref (b + 1), .ref (b + 3), .ref (b + 4), .ref (b + 8), .null, .null, .null, .null, .null]) :: ((((k4 (b + 1)) ++ k1) ++ k2 (b + 4) 3) ++ k8 (b + 8)))) (ev_as0 hb) ?_
  refine ev_blk (B := [(.aload_n 0, 1)]) (pe := 50) (ls' := [some (.ref (b))]) (st' := [.ref (b)]) ⟨dX10_init_49, rfl⟩ rfl ?_
  refine ev_new (ci := 3) (q0 := (RX3, TX3, 1)) (fs := [.null]) rfl CL_RX10_39 CI_RX3.1 CI_RX3.2 rfl dX10_init_50 ⟨Nat.le_of_ble_eq_true rfl, Nat.le_of_ble_eq_true rfl⟩ ?_
  rw [(show List.length (α := va_E) (M0 ++ (.inr (9, [.ref (b + 1), .ref (b + 3), .ref (b + 4), .ref (b + 8), .null, .null, .null, .null, .null]) :: ((((k4 (b + 1)) ++ k1) ++ k2 (b + 4) 3) ++ k8 (b + 8)))) = b + 15 by rw [List.length_append, hb]; simp only [List.length_append, List.length_cons, List.length_nil, k0f_len, k1_len, k2_len, k3_len, k4_len, k8_len, k0_len9, k5_len, k6_len, k7_len] <;> omega)]
  refine ev_blk (B := [(.dup, 1)]) (pe := 54) (ls' := [some (.ref (b))]) (st' := [.ref (b + 15), .ref (b + 15), .ref (b)]) ⟨dX10_init_53, rfl⟩ rfl ?_
  refine ev_cI0 Y_X3_init L_RX10_41 dX10_init_54 ⟨Nat.le_of_ble_eq_true rfl, Nat.le_of_ble_eq_true rfl, Nat.le_of_ble_eq_true rfl, Nat.le_of_ble_eq_true rfl, Nat.le_of_ble_eq_true rfl⟩ (as := []) rfl rfl (c_X3_init hl (M0 ++ (.inr (9, [.ref (b + 1), .ref (b + 3), .ref (b + 4), .ref (b + 8), .null, .null, .null, .null, .null]) :: ((((k4 (b + 1)) ++ k1) ++ k2 (b + 4) 3) ++ k8 (b + 8)))) (b + 15) (show List.length (α := va_E) (M0 ++ (.inr (9, [.ref (b + 1), .ref (b + 3), .ref (b + 4), .ref (b + 8), .null, .null, .null, .null, .null]) :: ((((k4 (b + 1)) ++ k1) ++ k2 (b + 4) 3) ++ k8 (b + 8)))) = b + 15 by rw [List.length_append, hb]; simp only [List.length_append, List.length_cons, List.length_nil, k0f_len, k1_len, k2_len, k3_len, k4_len, k8_len, k0_len9, k5_len, k6_len, k7_len] <;> omega)) ?_
  refine ev_mq (M1 := M0 ++ (.inr (9, [.ref (b + 1), .ref (b + 3), .ref (b + 4), .ref (b + 8), .null, .null, .null, .null, .null]) :: (((((k4 (b + 1)) ++ k1) ++ k2 (b + 4) 3) ++ k8 (b + 8)) ++ k3 (b + 15)))) (List.append_assoc _ _ _) ?_
  refine ev_putF F_RX10_42 dX10_init_57 rfl (fun q hq => by cases hq; rfl) (ev_ap0 hb) (Nat.le_of_ble_eq_true rfl) (fun _ _ => ⟨rfl, rfl⟩) ?_
  refine ev_mq (M1 := M0 ++ (.inr (9, [.ref (b + 1), .ref (b + 3), .ref (b + 4), .ref (b + 8), .ref (b + 15), .null, .null, .null, .null]) :: (((((k4 (b + 1)) ++ k1) ++ k2 (b + 4) 3) ++ k8 (b + 8)) ++ k3 (b + 15)))) (ev_as0 hb) ?_
  refine ev_blk (B := [(.aload_n 0, 1)]) (pe := 61) (ls' := [some (.ref (b))]) (st' := [.ref (b)]) ⟨dX10_init_60, rfl⟩ rfl ?_
  refine ev_new (ci := 0) (q0 := (RX0, TX0, 9)) (fs := [.null, .null, .null, .null, .int (nI 0), .int (nI 0), .int (nI 0), .int (nI 0), .int (nI 0)]) rfl CL_RX10_46 CI_RX0.1 CI_RX0.2 rfl dX10_init_61 ⟨Nat.le_of_ble_eq_true rfl, Nat.le_of_ble_eq_true rfl⟩ ?_
  rw [(show List.length (α := va_E) (M0 ++ (.inr (9, [.ref (b + 1), .ref (b + 3), .ref (b + 4), .ref (b + 8), .ref (b + 15), .null, .null, .null, .null]) :: (((((k4 (b + 1)) ++ k1) ++ k2 (b + 4) 3) ++ k8 (b + 8)) ++ k3 (b + 15)))) = b + 17 by rw [List.length_append, hb]; simp only [List.length_append, List.length_cons, List.length_nil, k0f_len, k1_len, k2_len, k3_len, k4_len, k8_len, k0_len9, k5_len, k6_len, k7_len] <;> omega)]
  refine ev_blk (B := [(.dup, 1)]) (pe := 65) (ls' := [some (.ref (b))]) (st' := [.ref (b + 17), .ref (b + 17), .ref (b)]) ⟨dX10_init_64, rfl⟩ rfl ?_
  refine ev_cI0 Y_X0_init L_RX10_48 dX10_init_65 ⟨Nat.le_of_ble_eq_true rfl, Nat.le_of_ble_eq_true rfl, Nat.le_of_ble_eq_true rfl, Nat.le_of_ble_eq_true rfl, Nat.le_of_ble_eq_true rfl⟩ (as := []) rfl rfl (c_X0_init hl (M0 ++ (.inr (9, [.ref (b + 1), .ref (b + 3), .ref (b + 4), .ref (b + 8), .ref (b + 15), .null, .null, .null, .null]) :: (((((k4 (b + 1)) ++ k1) ++ k2 (b + 4) 3) ++ k8 (b + 8)) ++ k3 (b + 15)))) (b + 17) (show List.length (α := va_E) (M0 ++ (.inr (9, [.ref (b + 1), .ref (b + 3), .ref (b + 4), .ref (b + 8), .ref (b + 15), .null, .null, .null, .null]) :: (((((k4 (b + 1)) ++ k1) ++ k2 (b + 4) 3) ++ k8 (b + 8)) ++ k3 (b + 15)))) = b + 17 by rw [List.length_append, hb]; simp only [List.length_append, List.length_cons, List.length_nil, k0f_len, k1_len, k2_len, k3_len, k4_len, k8_len, k0_len9, k5_len, k6_len, k7_len] <;> omega)) ?_
  refine ev_mq (M1 := M0 ++ (.inr (9, [.ref (b + 1), .ref (b + 3), .ref (b + 4), .ref (b + 8), .ref (b + 15), .null, .null, .null, .null]) :: ((((((k4 (b + 1)) ++ k1) ++ k2 (b + 4) 3) ++ k8 (b + 8)) ++ k3 (b + 15)) ++ k0 (b + 17)))) (List.append_assoc _ _ _) ?_
  refine ev_putF F_RX10_49 dX10_init_68 rfl (fun q hq => by cases hq; rfl) (ev_ap0 hb) (Nat.le_of_ble_eq_true rfl) (fun _ _ => ⟨rfl, rfl⟩) ?_
  refine ev_mq (M1 := M0 ++ (.inr (9, [.ref (b + 1), .ref (b + 3), .ref (b + 4), .ref (b + 8), .ref (b + 15), .ref (b + 17), .null, .null, .null]) :: ((((((k4 (b + 1)) ++ k1) ++ k2 (b + 4) 3) ++ k8 (b + 8)) ++ k3 (b + 15)) ++ k0 (b + 17)))) (ev_as0 hb) ?_
  refine ev_blk (B := [(.aload_n 0, 1)]) (pe := 72) (ls' := [some (.ref (b))]) (st' := [.ref (b)]) ⟨dX10_init_71, rfl⟩ rfl ?_
  refine ev_new (ci := 5) (q0 := (RX5, TX5, 3)) (fs := [.null, .null, .null]) rfl CL_RX10_53 CI_RX5.1 CI_RX5.2 rfl dX10_init_72 ⟨Nat.le_of_ble_eq_true rfl, Nat.le_of_ble_eq_true rfl⟩ ?_
  rw [(show List.length (α := va_E) (M0 ++ (.inr (9, [.ref (b + 1), .ref (b + 3), .ref (b + 4), .ref (b + 8), .ref (b + 15), .ref (b + 17), .null, .null, .null]) :: ((((((k4 (b + 1)) ++ k1) ++ k2 (b + 4) 3) ++ k8 (b + 8)) ++ k3 (b + 15)) ++ k0 (b + 17)))) = b + 77 by rw [List.length_append, hb]; simp only [List.length_append, List.length_cons, List.length_nil, k0f_len, k1_len, k2_len, k3_len, k4_len, k8_len, k0_len9, k5_len, k6_len, k7_len] <;> omega)]
  refine ev_blk (B := [(.dup, 1)]) (pe := 76) (ls' := [some (.ref (b))]) (st' := [.ref (b + 77), .ref (b + 77), .ref (b)]) ⟨dX10_init_75, rfl⟩ rfl ?_
  refine ev_cI0 Y_X5_init L_RX10_55 dX10_init_76 ⟨Nat.le_of_ble_eq_true rfl, Nat.le_of_ble_eq_true rfl, Nat.le_of_ble_eq_true rfl, Nat.le_of_ble_eq_true rfl, Nat.le_of_ble_eq_true rfl⟩ (as := []) rfl rfl (c_X5_init hl (M0 ++ (.inr (9, [.ref (b + 1), .ref (b + 3), .ref (b + 4), .ref (b + 8), .ref (b + 15), .ref (b + 17), .null, .null, .null]) :: ((((((k4 (b + 1)) ++ k1) ++ k2 (b + 4) 3) ++ k8 (b + 8)) ++ k3 (b + 15)) ++ k0 (b + 17)))) (b + 77) (show List.length (α := va_E) (M0 ++ (.inr (9, [.ref (b + 1), .ref (b + 3), .ref (b + 4), .ref (b + 8), .ref (b + 15), .ref (b + 17), .null, .null, .null]) :: ((((((k4 (b + 1)) ++ k1) ++ k2 (b + 4) 3) ++ k8 (b + 8)) ++ k3 (b + 15)) ++ k0 (b + 17)))) = b + 77 by rw [List.length_append, hb]; simp only [List.length_append, List.length_cons, List.length_nil, k0f_len, k1_len, k2_len, k3_len, k4_len, k8_len, k0_len9, k5_len, k6_len, k7_len] <;> omega)) ?_
  refine ev_mq (M1 := M0 ++ (.inr (9, [.ref (b + 1), .ref (b + 3), .ref (b + 4), .ref (b + 8), .ref (b + 15), .ref (b + 17), .null, .null, .null]) :: (((((((k4 (b + 1)) ++ k1) ++ k2 (b + 4) 3) ++ k8 (b + 8)) ++ k3 (b + 15)) ++ k0 (b + 17)) ++ k5 (b + 77)))) (List.append_assoc _ _ _) ?_
  refine ev_putF F_RX10_56 dX10_init_79 rfl (fun q hq => by cases hq; rfl) (ev_ap0 hb) (Nat.le_of_ble_eq_true rfl) (fun _ _ => ⟨rfl, rfl⟩) ?_
  refine ev_mq (M1 := M0 ++ (.inr (9, [.ref (b + 1), .ref (b + 3), .ref (b + 4), .ref (b + 8), .ref (b + 15), .ref (b + 17), .ref (b + 77), .null, .null]) :: (((((((k4 (b + 1)) ++ k1) ++ k2 (b + 4) 3) ++ k8 (b + 8)) ++ k3 (b + 15)) ++ k0 (b + 17)) ++ k5 (b + 77)))) (ev_as0 hb) ?_
  refine ev_blk (B := [(.aload_n 0, 1)]) (pe := 83) (ls' := [some (.ref (b))]) (st' := [.ref (b)]) ⟨dX10_init_82, rfl⟩ rfl ?_
  refine ev_new (ci := 7) (q0 := (RX7, TX7, 8)) (fs := [.null, .null, .null, .null, .int (nI 0), .int (nI 0), .int (nI 0), .int (nI 0)]) rfl CL_RX10_60 CI_RX7.1 CI_RX7.2 rfl dX10_init_83 ⟨Nat.le_of_ble_eq_true rfl, Nat.le_of_ble_eq_true rfl⟩ ?_
  rw [(show List.length (α := va_E) (M0 ++ (.inr (9, [.ref (b + 1), .ref (b + 3), .ref (b + 4), .ref (b + 8), .ref (b + 15), .ref (b + 17), .ref (b + 77), .null, .null]) :: (((((((k4 (b + 1)) ++ k1) ++ k2 (b + 4) 3) ++ k8 (b + 8)) ++ k3 (b + 15)) ++ k0 (b + 17)) ++ k5 (b + 77)))) = b + 87 by rw [List.length_append, hb]; simp only [List.length_append, List.length_cons, List.length_nil, k0f_len, k1_len, k2_len, k3_len, k4_len, k8_len, k0_len9, k5_len, k6_len, k7_len] <;> omega)]
  refine ev_blk (B := [(.dup, 1)]) (pe := 87) (ls' := [some (.ref (b))]) (st' := [.ref (b + 87), .ref (b + 87), .ref (b)]) ⟨dX10_init_86, rfl⟩ rfl ?_
  refine ev_cI0 Y_X7_init L_RX10_62 dX10_init_87 ⟨Nat.le_of_ble_eq_true rfl, Nat.le_of_ble_eq_true rfl, Nat.le_of_ble_eq_true rfl, Nat.le_of_ble_eq_true rfl, Nat.le_of_ble_eq_true rfl⟩ (as := []) rfl rfl (c_X7_init hl (M0 ++ (.inr (9, [.ref (b + 1), .ref (b + 3), .ref (b + 4), .ref (b + 8), .ref (b + 15), .ref (b + 17), .ref (b + 77), .null, .null]) :: (((((((k4 (b + 1)) ++ k1) ++ k2 (b + 4) 3) ++ k8 (b + 8)) ++ k3 (b + 15)) ++ k0 (b + 17)) ++ k5 (b + 77)))) (b + 87) (show List.length (α := va_E) (M0 ++ (.inr (9, [.ref (b + 1), .ref (b + 3), .ref (b + 4), .ref (b + 8), .ref (b + 15), .ref (b + 17), .ref (b + 77), .null, .null]) :: (((((((k4 (b + 1)) ++ k1) ++ k2 (b + 4) 3) ++ k8 (b + 8)) ++ k3 (b + 15)) ++ k0 (b + 17)) ++ k5 (b + 77)))) = b + 87 by rw [List.length_append, hb]; simp only [List.length_append, List.length_cons, List.length_nil, k0f_len, k1_len, k2_len, k3_len, k4_len, k8_len, k0_len9, k5_len, k6_len, k7_len] <;> omega)) ?_
  refine ev_mq (M1 := M0 ++ (.inr (9, [.ref (b + 1), .ref (b + 3), .ref (b + 4), .ref (b + 8), .ref (b + 15), .ref (b + 17), .ref (b + 77), .null, .null]) :: ((((((((k4 (b + 1)) ++ k1) ++ k2 (b + 4) 3) ++ k8 (b + 8)) ++ k3 (b + 15)) ++ k0 (b + 17)) ++ k5 (b + 77)) ++ k7 (b + 87)))) (List.append_assoc _ _ _) ?_
  refine ev_putF F_RX10_63 dX10_init_90 rfl (fun q hq => by cases hq; rfl) (ev_ap0 hb) (Nat.le_of_ble_eq_true rfl) (fun _ _ => ⟨rfl, rfl⟩) ?_
  refine ev_mq (M1 := M0 ++ (.inr (9, [.ref (b + 1), .ref (b + 3), .ref (b + 4), .ref (b + 8), .ref (b + 15), .ref (b + 17), .ref (b + 77), .ref (b + 87), .null]) :: ((((((((k4 (b + 1)) ++ k1) ++ k2 (b + 4) 3) ++ k8 (b + 8)) ++ k3 (b + 15)) ++ k0 (b + 17)) ++ k5 (b + 77)) ++ k7 (b + 87)))) (ev_as0 hb) ?_
  refine ev_blk (B := [(.aload_n 0, 1)]) (pe := 94) (ls' := [some (.ref (b))]) (st' := [.ref (b)]) ⟨dX10_init_93, rfl⟩ rfl ?_
  refine ev_new (ci := 6) (q0 := (RX6, TX6, 4)) (fs := [.null, .null, .null, .int (nI 0)]) rfl CL_RX10_67 CI_RX6.1 CI_RX6.2 rfl dX10_init_94 ⟨Nat.le_of_ble_eq_true rfl, Nat.le_of_ble_eq_true rfl⟩ ?_
  rw [(show List.length (α := va_E) (M0 ++ (.inr (9, [.ref (b + 1), .ref (b + 3), .ref (b + 4), .ref (b + 8), .ref (b + 15), .ref (b + 17), .ref (b + 77), .ref (b + 87), .null]) :: ((((((((k4 (b + 1)) ++ k1) ++ k2 (b + 4) 3) ++ k8 (b + 8)) ++ k3 (b + 15)) ++ k0 (b + 17)) ++ k5 (b + 77)) ++ k7 (b + 87)))) = b + 96 by rw [List.length_append, hb]; simp only [List.length_append, List.length_cons, List.length_nil, k0f_len, k1_len, k2_len, k3_len, k4_len, k8_len, k0_len9, k5_len, k6_len, k7_len] <;> omega)]
  refine ev_blk (B := [(.dup, 1)]) (pe := 98) (ls' := [some (.ref (b))]) (st' := [.ref (b + 96), .ref (b + 96), .ref (b)]) ⟨dX10_init_97, rfl⟩ rfl ?_
  refine ev_cI0 Y_X6_init L_RX10_69 dX10_init_98 ⟨Nat.le_of_ble_eq_true rfl, Nat.le_of_ble_eq_true rfl, Nat.le_of_ble_eq_true rfl, Nat.le_of_ble_eq_true rfl, Nat.le_of_ble_eq_true rfl⟩ (as := []) rfl rfl (c_X6_init hl (M0 ++ (.inr (9, [.ref (b + 1), .ref (b + 3), .ref (b + 4), .ref (b + 8), .ref (b + 15), .ref (b + 17), .ref (b + 77), .ref (b + 87), .null]) :: ((((((((k4 (b + 1)) ++ k1) ++ k2 (b + 4) 3) ++ k8 (b + 8)) ++ k3 (b + 15)) ++ k0 (b + 17)) ++ k5 (b + 77)) ++ k7 (b + 87)))) (b + 96) (show List.length (α := va_E) (M0 ++ (.inr (9, [.ref (b + 1), .ref (b + 3), .ref (b + 4), .ref (b + 8), .ref (b + 15), .ref (b + 17), .ref (b + 77), .ref (b + 87), .null]) :: ((((((((k4 (b + 1)) ++ k1) ++ k2 (b + 4) 3) ++ k8 (b + 8)) ++ k3 (b + 15)) ++ k0 (b + 17)) ++ k5 (b + 77)) ++ k7 (b + 87)))) = b + 96 by rw [List.length_append, hb]; simp only [List.length_append, List.length_cons, List.length_nil, k0f_len, k1_len, k2_len, k3_len, k4_len, k8_len, k0_len9, k5_len, k6_len, k7_len] <;> omega)) ?_
  refine ev_mq (M1 := M0 ++ (.inr (9, [.ref (b + 1), .ref (b + 3), .ref (b + 4), .ref (b + 8), .ref (b + 15), .ref (b + 17), .ref (b + 77), .ref (b + 87), .null]) :: (((((((((k4 (b + 1)) ++ k1) ++ k2 (b + 4) 3) ++ k8 (b + 8)) ++ k3 (b + 15)) ++ k0 (b + 17)) ++ k5 (b + 77)) ++ k7 (b + 87)) ++ k6 (b + 96)))) (List.append_assoc _ _ _) ?_
  refine ev_putF F_RX10_70 dX10_init_101 rfl (fun q hq => by cases hq; rfl) (ev_ap0 hb) (Nat.le_of_ble_eq_true rfl) (fun _ _ => ⟨rfl, rfl⟩) ?_
  refine ev_mq (M1 := M0 ++ (.inr (9, [.ref (b + 1), .ref (b + 3), .ref (b + 4), .ref (b + 8), .ref (b + 15), .ref (b + 17), .ref (b + 77), .ref (b + 87), .ref (b + 96)]) :: (((((((((k4 (b + 1)) ++ k1) ++ k2 (b + 4) 3) ++ k8 (b + 8)) ++ k3 (b + 15)) ++ k0 (b + 17)) ++ k5 (b + 77)) ++ k7 (b + 87)) ++ k6 (b + 96)))) (ev_as0 hb) ?_
  refine ev_vret dX10_init_104 rfl ⟨Nat.le_of_ble_eq_true rfl, Nat.le_of_ble_eq_true rfl⟩ ?_
  exact ⟨rfl, rfl⟩

