/-! ===== the reference: a new one ===== -/
def rws (k : Nat) : List va_E := List.take k [kI 50, kI 21, kI 21, kL 21, kL 21, kI 12, kI 12, kI 3, kL 3, kL 3, kI 390, kI 13, kI 400, kL 390, kL 390, kL 400, kL 400, kI 6, kI 6, kL 6, kL 6, (.inl (2, 80, .inl (fun _ => 0))), kI 12, kI 48, kL 12, kL 12, kI 50, kI 3, kL 3, kL 3]
def zn (b n : Nat) (e : Int32) : List Value := [.int (nI 0), bif Nat.blt n 1 then .null else .ref (b + 1), .int (nI 0), .int (nI 0), .int (nI 0), .long 0, .long 0, bif Nat.blt n 2 then .null else .ref (b + 2), bif Nat.blt n 3 then .null else .ref (b + 3), bif Nat.blt n 4 then .null else .ref (b + 4), bif Nat.blt n 5 then .null else .ref (b + 5), .int (nI 0), .int (nI 0), .long 0, .long 0, bif Nat.blt n 6 then .null else .ref (b + 6), bif Nat.blt n 7 then .null else .ref (b + 7), bif Nat.blt n 8 then .null else .ref (b + 8), bif Nat.blt n 9 then .null else .ref (b + 9), bif Nat.blt n 10 then .null else .ref (b + 10), .int (nI 0), bif Nat.blt n 11 then .null else .ref (b + 11), bif Nat.blt n 12 then .null else .ref (b + 12), bif Nat.blt n 13 then .null else .ref (b + 13), bif Nat.blt n 14 then .null else .ref (b + 14), bif Nat.blt n 15 then .null else .ref (b + 15), bif Nat.blt n 16 then .null else .ref (b + 16), bif Nat.blt n 17 then .null else .ref (b + 17), .int (nI 0), .int (nI 0), .int (nI 0), .int (nI 0), bif Nat.blt n 18 then .null else .ref (b + 18), bif Nat.blt n 19 then .null else .ref (b + 19), bif Nat.blt n 20 then .null else .ref (b + 20), bif Nat.blt n 21 then .null else .ref (b + 21), .int (nI 0), bif Nat.blt n 22 then .null else .ref (b + 22), bif Nat.blt n 23 then .null else .ref (b + 23), bif Nat.blt n 24 then .null else .ref (b + 24), bif Nat.blt n 25 then .null else .ref (b + 25), bif Nat.blt n 26 then .null else .ref (b + 26), .int (nI 0), .int (nI 0), .int (nI 0), .int e, bif Nat.blt n 27 then .null else .ref (b + 27), bif Nat.blt n 28 then .null else .ref (b + 28), bif Nat.blt n 29 then .null else .ref (b + 29), bif Nat.blt n 30 then .null else .ref (b + 30), .int (nI 0), .int (nI 0), .int (nI 0), .long 0, .long 0, .int (nI 0)]
def kM (b : Nat) : List va_E := .inr (10, zn b 30 (-1)) :: rws 30
theorem at_new {M0 : ev_M} {b : Nat} {c : List va_E} (hb : M0.length = b) : at_ (M0 ++ c) b c := fun j hj => by rw [List.getElem?_append_right (by omega), show b + j - M0.length = j by omega]
set_option maxHeartbeats 4000000 in
set_option maxRecDepth 100000 in
theorem c_X11_init {l : Launch} (hl : l.stackTraces = false) (M0 : ev_M) (b : Nat) (hb : M0.length = b) : ev_Mt l m_X11_init [.ref (b)] (M0 ++ [.inr (10, zn b 0 (nI 0))]) (ev_q (.inl none) (M0 ++ kM b)) := by
  refine ev_body hl rfl (by decide +kernel) (Nat.le_of_ble_eq_true rfl) ?_
  show ev_ l m_X11_init 0 0 0 [some (.ref (b))] [] (M0 ++ (.inr (10, zn b 0 (nI 0)) :: rws 0)) _
  refine ev_blk (B := [(.aload_n 0, 1)]) (pe := 1) (ls' := [some (.ref (b))]) (st' := [.ref (b)]) ⟨dX11_init_0, rfl⟩ rfl ?_
  refine ev_objInit L_RX11_1 ev_oi1 ev_oi2 dX11_init_1 ⟨Nat.le_of_ble_eq_true rfl, Nat.le_of_ble_eq_true rfl⟩ ?_
  refine ev_blk (B := [(.aload_n 0, 1), (.bipush 50, 2)]) (pe := 7) (ls' := [some (.ref (b))]) (st' := [.int (nI 50), .ref (b)]) ⟨dX11_init_4, dX11_init_5, rfl⟩ rfl ?_
  refine ev_newaI (N := 50) A_int (by decide) (by decide) (by omega) dX11_init_7 ⟨Nat.le_of_ble_eq_true rfl, Nat.le_of_ble_eq_true rfl⟩ ?_
  rw [(show List.length (α := va_E) (M0 ++ (.inr (10, zn b 0 (nI 0)) :: rws 0)) = b + 1 by rw [List.length_append, hb]; rfl)]
  refine ev_mq (M1 := M0 ++ (.inr (10, zn b 0 (nI 0)) :: rws 1)) (List.append_assoc _ _ _) ?_
  refine ev_putF F_RX11_7 dX11_init_9 rfl (fun q hq => by cases hq; rfl) (ev_ap0 hb) (Nat.le_of_ble_eq_true rfl) (fun _ _ => ⟨rfl, rfl⟩) ?_
  refine ev_mq (M1 := M0 ++ (.inr (10, zn b 1 (nI 0)) :: rws 1)) (ev_as0 hb) ?_
  refine ev_blk (B := [(.aload_n 0, 1), (.bipush 21, 2)]) (pe := 15) (ls' := [some (.ref (b))]) (st' := [.int (nI 21), .ref (b)]) ⟨dX11_init_12, dX11_init_13, rfl⟩ rfl ?_
  refine ev_newaI (N := 21) A_int (by decide) (by decide) (by omega) dX11_init_15 ⟨Nat.le_of_ble_eq_true rfl, Nat.le_of_ble_eq_true rfl⟩ ?_
  rw [(show List.length (α := va_E) (M0 ++ (.inr (10, zn b 1 (nI 0)) :: rws 1)) = b + 2 by rw [List.length_append, hb]; rfl)]
  refine ev_mq (M1 := M0 ++ (.inr (10, zn b 1 (nI 0)) :: rws 2)) (List.append_assoc _ _ _) ?_
  refine ev_putF F_RX11_13 dX11_init_17 rfl (fun q hq => by cases hq; rfl) (ev_ap0 hb) (Nat.le_of_ble_eq_true rfl) (fun _ _ => ⟨rfl, rfl⟩) ?_
  refine ev_mq (M1 := M0 ++ (.inr (10, zn b 2 (nI 0)) :: rws 2)) (ev_as0 hb) ?_
  refine ev_blk (B := [(.aload_n 0, 1), (.bipush 21, 2)]) (pe := 23) (ls' := [some (.ref (b))]) (st' := [.int (nI 21), .ref (b)]) ⟨dX11_init_20, dX11_init_21, rfl⟩ rfl ?_
  refine ev_newaI (N := 21) A_int (by decide) (by decide) (by omega) dX11_init_23 ⟨Nat.le_of_ble_eq_true rfl, Nat.le_of_ble_eq_true rfl⟩ ?_
  rw [(show List.length (α := va_E) (M0 ++ (.inr (10, zn b 2 (nI 0)) :: rws 2)) = b + 3 by rw [List.length_append, hb]; rfl)]
  refine ev_mq (M1 := M0 ++ (.inr (10, zn b 2 (nI 0)) :: rws 3)) (List.append_assoc _ _ _) ?_
  refine ev_putF F_RX11_16 dX11_init_25 rfl (fun q hq => by cases hq; rfl) (ev_ap0 hb) (Nat.le_of_ble_eq_true rfl) (fun _ _ => ⟨rfl, rfl⟩) ?_
  refine ev_mq (M1 := M0 ++ (.inr (10, zn b 3 (nI 0)) :: rws 3)) (ev_as0 hb) ?_
  refine ev_blk (B := [(.aload_n 0, 1), (.bipush 21, 2)]) (pe := 31) (ls' := [some (.ref (b))]) (st' := [.int (nI 21), .ref (b)]) ⟨dX11_init_28, dX11_init_29, rfl⟩ rfl ?_
  refine ev_newaL (N := 21) A_long (by decide) (by decide) (by omega) dX11_init_31 ⟨Nat.le_of_ble_eq_true rfl, Nat.le_of_ble_eq_true rfl⟩ ?_
  rw [(show List.length (α := va_E) (M0 ++ (.inr (10, zn b 3 (nI 0)) :: rws 3)) = b + 4 by rw [List.length_append, hb]; rfl)]
  refine ev_mq (M1 := M0 ++ (.inr (10, zn b 3 (nI 0)) :: rws 4)) (List.append_assoc _ _ _) ?_
  refine ev_putF F_RX11_19 dX11_init_33 rfl (fun q hq => by cases hq; rfl) (ev_ap0 hb) (Nat.le_of_ble_eq_true rfl) (fun _ _ => ⟨rfl, rfl⟩) ?_
  refine ev_mq (M1 := M0 ++ (.inr (10, zn b 4 (nI 0)) :: rws 4)) (ev_as0 hb) ?_
  refine ev_blk (B := [(.aload_n 0, 1), (.bipush 21, 2)]) (pe := 39) (ls' := [some (.ref (b))]) (st' := [.int (nI 21), .ref (b)]) ⟨dX11_init_36, dX11_init_37, rfl⟩ rfl ?_
  refine ev_newaL (N := 21) A_long (by decide) (by decide) (by omega) dX11_init_39 ⟨Nat.le_of_ble_eq_true rfl, Nat.le_of_ble_eq_true rfl⟩ ?_
  rw [(show List.length (α := va_E) (M0 ++ (.inr (10, zn b 4 (nI 0)) :: rws 4)) = b + 5 by rw [List.length_append, hb]; rfl)]
  refine ev_mq (M1 := M0 ++ (.inr (10, zn b 4 (nI 0)) :: rws 5)) (List.append_assoc _ _ _) ?_
  refine ev_putF F_RX11_23 dX11_init_41 rfl (fun q hq => by cases hq; rfl) (ev_ap0 hb) (Nat.le_of_ble_eq_true rfl) (fun _ _ => ⟨rfl, rfl⟩) ?_
  refine ev_mq (M1 := M0 ++ (.inr (10, zn b 5 (nI 0)) :: rws 5)) (ev_as0 hb) ?_
  refine ev_blk (B := [(.aload_n 0, 1), (.bipush 12, 2)]) (pe := 47) (ls' := [some (.ref (b))]) (st' := [.int (nI 12), .ref (b)]) ⟨dX11_init_44, dX11_init_45, rfl⟩ rfl ?_
  refine ev_newaI (N := 12) A_int (by decide) (by decide) (by omega) dX11_init_47 ⟨Nat.le_of_ble_eq_true rfl, Nat.le_of_ble_eq_true rfl⟩ ?_
  rw [(show List.length (α := va_E) (M0 ++ (.inr (10, zn b 5 (nI 0)) :: rws 5)) = b + 6 by rw [List.length_append, hb]; rfl)]
  refine ev_mq (M1 := M0 ++ (.inr (10, zn b 5 (nI 0)) :: rws 6)) (List.append_assoc _ _ _) ?_
  refine ev_putF F_RX11_26 dX11_init_49 rfl (fun q hq => by cases hq; rfl) (ev_ap0 hb) (Nat.le_of_ble_eq_true rfl) (fun _ _ => ⟨rfl, rfl⟩) ?_
  refine ev_mq (M1 := M0 ++ (.inr (10, zn b 6 (nI 0)) :: rws 6)) (ev_as0 hb) ?_
  refine ev_blk (B := [(.aload_n 0, 1), (.bipush 12, 2)]) (pe := 55) (ls' := [some (.ref (b))]) (st' := [.int (nI 12), .ref (b)]) ⟨dX11_init_52, dX11_init_53, rfl⟩ rfl ?_
  refine ev_newaI (N := 12) A_int (by decide) (by decide) (by omega) dX11_init_55 ⟨Nat.le_of_ble_eq_true rfl, Nat.le_of_ble_eq_true rfl⟩ ?_
  rw [(show List.length (α := va_E) (M0 ++ (.inr (10, zn b 6 (nI 0)) :: rws 6)) = b + 7 by rw [List.length_append, hb]; rfl)]
  refine ev_mq (M1 := M0 ++ (.inr (10, zn b 6 (nI 0)) :: rws 7)) (List.append_assoc _ _ _) ?_
  refine ev_putF F_RX11_29 dX11_init_57 rfl (fun q hq => by cases hq; rfl) (ev_ap0 hb) (Nat.le_of_ble_eq_true rfl) (fun _ _ => ⟨rfl, rfl⟩) ?_
  refine ev_mq (M1 := M0 ++ (.inr (10, zn b 7 (nI 0)) :: rws 7)) (ev_as0 hb) ?_
  refine ev_blk (B := [(.aload_n 0, 1), (.iconst 3, 1)]) (pe := 62) (ls' := [some (.ref (b))]) (st' := [.int (nI 3), .ref (b)]) ⟨dX11_init_60, dX11_init_61, rfl⟩ rfl ?_
  refine ev_newaI (N := 3) A_int (by decide) (by decide) (by omega) dX11_init_62 ⟨Nat.le_of_ble_eq_true rfl, Nat.le_of_ble_eq_true rfl⟩ ?_
  rw [(show List.length (α := va_E) (M0 ++ (.inr (10, zn b 7 (nI 0)) :: rws 7)) = b + 8 by rw [List.length_append, hb]; rfl)]
  refine ev_mq (M1 := M0 ++ (.inr (10, zn b 7 (nI 0)) :: rws 8)) (List.append_assoc _ _ _) ?_
  refine ev_putF F_RX11_32 dX11_init_64 rfl (fun q hq => by cases hq; rfl) (ev_ap0 hb) (Nat.le_of_ble_eq_true rfl) (fun _ _ => ⟨rfl, rfl⟩) ?_
  refine ev_mq (M1 := M0 ++ (.inr (10, zn b 8 (nI 0)) :: rws 8)) (ev_as0 hb) ?_
  refine ev_blk (B := [(.aload_n 0, 1), (.iconst 3, 1)]) (pe := 69) (ls' := [some (.ref (b))]) (st' := [.int (nI 3), .ref (b)]) ⟨dX11_init_67, dX11_init_68, rfl⟩ rfl ?_
  refine ev_newaL (N := 3) A_long (by decide) (by decide) (by omega) dX11_init_69 ⟨Nat.le_of_ble_eq_true rfl, Nat.le_of_ble_eq_true rfl⟩ ?_
  rw [(show List.length (α := va_E) (M0 ++ (.inr (10, zn b 8 (nI 0)) :: rws 8)) = b + 9 by rw [List.length_append, hb]; rfl)]
  refine ev_mq (M1 := M0 ++ (.inr (10, zn b 8 (nI 0)) :: rws 9)) (List.append_assoc _ _ _) ?_
  refine ev_putF F_RX11_35 dX11_init_71 rfl (fun q hq => by cases hq; rfl) (ev_ap0 hb) (Nat.le_of_ble_eq_true rfl) (fun _ _ => ⟨rfl, rfl⟩) ?_
  refine ev_mq (M1 := M0 ++ (.inr (10, zn b 9 (nI 0)) :: rws 9)) (ev_as0 hb) ?_
  refine ev_blk (B := [(.aload_n 0, 1), (.iconst 3, 1)]) (pe := 76) (ls' := [some (.ref (b))]) (st' := [.int (nI 3), .ref (b)]) ⟨dX11_init_74, dX11_init_75, rfl⟩ rfl ?_
  refine ev_newaL (N := 3) A_long (by decide) (by decide) (by omega) dX11_init_76 ⟨Nat.le_of_ble_eq_true rfl, Nat.le_of_ble_eq_true rfl⟩ ?_
  rw [(show List.length (α := va_E) (M0 ++ (.inr (10, zn b 9 (nI 0)) :: rws 9)) = b + 10 by rw [List.length_append, hb]; rfl)]
  refine ev_mq (M1 := M0 ++ (.inr (10, zn b 9 (nI 0)) :: rws 10)) (List.append_assoc _ _ _) ?_
  refine ev_putF F_RX11_38 dX11_init_78 rfl (fun q hq => by cases hq; rfl) (ev_ap0 hb) (Nat.le_of_ble_eq_true rfl) (fun _ _ => ⟨rfl, rfl⟩) ?_
  refine ev_mq (M1 := M0 ++ (.inr (10, zn b 10 (nI 0)) :: rws 10)) (ev_as0 hb) ?_
  refine ev_blk (B := [(.aload_n 0, 1), (.sipush 390, 3)]) (pe := 85) (ls' := [some (.ref (b))]) (st' := [.int (nI 390), .ref (b)]) ⟨dX11_init_81, dX11_init_82, rfl⟩ rfl ?_
  refine ev_newaI (N := 390) A_int (by decide) (by decide) (by omega) dX11_init_85 ⟨Nat.le_of_ble_eq_true rfl, Nat.le_of_ble_eq_true rfl⟩ ?_
  rw [(show List.length (α := va_E) (M0 ++ (.inr (10, zn b 10 (nI 0)) :: rws 10)) = b + 11 by rw [List.length_append, hb]; rfl)]
  refine ev_mq (M1 := M0 ++ (.inr (10, zn b 10 (nI 0)) :: rws 11)) (List.append_assoc _ _ _) ?_
  refine ev_putF F_RX11_41 dX11_init_87 rfl (fun q hq => by cases hq; rfl) (ev_ap0 hb) (Nat.le_of_ble_eq_true rfl) (fun _ _ => ⟨rfl, rfl⟩) ?_
  refine ev_mq (M1 := M0 ++ (.inr (10, zn b 11 (nI 0)) :: rws 11)) (ev_as0 hb) ?_
  refine ev_blk (B := [(.aload_n 0, 1), (.bipush 13, 2)]) (pe := 93) (ls' := [some (.ref (b))]) (st' := [.int (nI 13), .ref (b)]) ⟨dX11_init_90, dX11_init_91, rfl⟩ rfl ?_
  refine ev_newaI (N := 13) A_int (by decide) (by decide) (by omega) dX11_init_93 ⟨Nat.le_of_ble_eq_true rfl, Nat.le_of_ble_eq_true rfl⟩ ?_
  rw [(show List.length (α := va_E) (M0 ++ (.inr (10, zn b 11 (nI 0)) :: rws 11)) = b + 12 by rw [List.length_append, hb]; rfl)]
  refine ev_mq (M1 := M0 ++ (.inr (10, zn b 11 (nI 0)) :: rws 12)) (List.append_assoc _ _ _) ?_
  refine ev_putF F_RX11_44 dX11_init_95 rfl (fun q hq => by cases hq; rfl) (ev_ap0 hb) (Nat.le_of_ble_eq_true rfl) (fun _ _ => ⟨rfl, rfl⟩) ?_
  refine ev_mq (M1 := M0 ++ (.inr (10, zn b 12 (nI 0)) :: rws 12)) (ev_as0 hb) ?_
  refine ev_blk (B := [(.aload_n 0, 1), (.sipush 400, 3)]) (pe := 102) (ls' := [some (.ref (b))]) (st' := [.int (nI 400), .ref (b)]) ⟨dX11_init_98, dX11_init_99, rfl⟩ rfl ?_
  refine ev_newaI (N := 400) A_int (by decide) (by decide) (by omega) dX11_init_102 ⟨Nat.le_of_ble_eq_true rfl, Nat.le_of_ble_eq_true rfl⟩ ?_
  rw [(show List.length (α := va_E) (M0 ++ (.inr (10, zn b 12 (nI 0)) :: rws 12)) = b + 13 by rw [List.length_append, hb]; rfl)]
  refine ev_mq (M1 := M0 ++ (.inr (10, zn b 12 (nI 0)) :: rws 13)) (List.append_assoc _ _ _) ?_
  refine ev_putF F_RX11_47 dX11_init_104 rfl (fun q hq => by cases hq; rfl) (ev_ap0 hb) (Nat.le_of_ble_eq_true rfl) (fun _ _ => ⟨rfl, rfl⟩) ?_
  refine ev_mq (M1 := M0 ++ (.inr (10, zn b 13 (nI 0)) :: rws 13)) (ev_as0 hb) ?_
  refine ev_blk (B := [(.aload_n 0, 1), (.sipush 390, 3)]) (pe := 111) (ls' := [some (.ref (b))]) (st' := [.int (nI 390), .ref (b)]) ⟨dX11_init_107, dX11_init_108, rfl⟩ rfl ?_
  refine ev_newaL (N := 390) A_long (by decide) (by decide) (by omega) dX11_init_111 ⟨Nat.le_of_ble_eq_true rfl, Nat.le_of_ble_eq_true rfl⟩ ?_
  rw [(show List.length (α := va_E) (M0 ++ (.inr (10, zn b 13 (nI 0)) :: rws 13)) = b + 14 by rw [List.length_append, hb]; rfl)]
  refine ev_mq (M1 := M0 ++ (.inr (10, zn b 13 (nI 0)) :: rws 14)) (List.append_assoc _ _ _) ?_
  refine ev_putF F_RX11_50 dX11_init_113 rfl (fun q hq => by cases hq; rfl) (ev_ap0 hb) (Nat.le_of_ble_eq_true rfl) (fun _ _ => ⟨rfl, rfl⟩) ?_
  refine ev_mq (M1 := M0 ++ (.inr (10, zn b 14 (nI 0)) :: rws 14)) (ev_as0 hb) ?_
  refine ev_blk (B := [(.aload_n 0, 1), (.sipush 390, 3)]) (pe := 120) (ls' := [some (.ref (b))]) (st' := [.int (nI 390), .ref (b)]) ⟨dX11_init_116, dX11_init_117, rfl⟩ rfl ?_
  refine ev_newaL (N := 390) A_long (by decide) (by decide) (by omega) dX11_init_120 ⟨Nat.le_of_ble_eq_true rfl, Nat.le_of_ble_eq_true rfl⟩ ?_
  rw [(show List.length (α := va_E) (M0 ++ (.inr (10, zn b 14 (nI 0)) :: rws 14)) = b + 15 by rw [List.length_append, hb]; rfl)]
  refine ev_mq (M1 := M0 ++ (.inr (10, zn b 14 (nI 0)) :: rws 15)) (List.append_assoc _ _ _) ?_
  refine ev_putF F_RX11_53 dX11_init_122 rfl (fun q hq => by cases hq; rfl) (ev_ap0 hb) (Nat.le_of_ble_eq_true rfl) (fun _ _ => ⟨rfl, rfl⟩) ?_
  refine ev_mq (M1 := M0 ++ (.inr (10, zn b 15 (nI 0)) :: rws 15)) (ev_as0 hb) ?_
  refine ev_blk (B := [(.aload_n 0, 1), (.sipush 400, 3)]) (pe := 129) (ls' := [some (.ref (b))]) (st' := [.int (nI 400), .ref (b)]) ⟨dX11_init_125, dX11_init_126, rfl⟩ rfl ?_
  refine ev_newaL (N := 400) A_long (by decide) (by decide) (by omega) dX11_init_129 ⟨Nat.le_of_ble_eq_true rfl, Nat.le_of_ble_eq_true rfl⟩ ?_
  rw [(show List.length (α := va_E) (M0 ++ (.inr (10, zn b 15 (nI 0)) :: rws 15)) = b + 16 by rw [List.length_append, hb]; rfl)]
  refine ev_mq (M1 := M0 ++ (.inr (10, zn b 15 (nI 0)) :: rws 16)) (List.append_assoc _ _ _) ?_
  refine ev_putF F_RX11_56 dX11_init_131 rfl (fun q hq => by cases hq; rfl) (ev_ap0 hb) (Nat.le_of_ble_eq_true rfl) (fun _ _ => ⟨rfl, rfl⟩) ?_
  refine ev_mq (M1 := M0 ++ (.inr (10, zn b 16 (nI 0)) :: rws 16)) (ev_as0 hb) ?_
  refine ev_blk (B := [(.aload_n 0, 1), (.sipush 400, 3)]) (pe := 138) (ls' := [some (.ref (b))]) (st' := [.int (nI 400), .ref (b)]) ⟨dX11_init_134, dX11_init_135, rfl⟩ rfl ?_
  refine ev_newaL (N := 400) A_long (by decide) (by decide) (by omega) dX11_init_138 ⟨Nat.le_of_ble_eq_true rfl, Nat.le_of_ble_eq_true rfl⟩ ?_
  rw [(show List.length (α := va_E) (M0 ++ (.inr (10, zn b 16 (nI 0)) :: rws 16)) = b + 17 by rw [List.length_append, hb]; rfl)]
  refine ev_mq (M1 := M0 ++ (.inr (10, zn b 16 (nI 0)) :: rws 17)) (List.append_assoc _ _ _) ?_
  refine ev_putF F_RX11_59 dX11_init_140 rfl (fun q hq => by cases hq; rfl) (ev_ap0 hb) (Nat.le_of_ble_eq_true rfl) (fun _ _ => ⟨rfl, rfl⟩) ?_
  refine ev_mq (M1 := M0 ++ (.inr (10, zn b 17 (nI 0)) :: rws 17)) (ev_as0 hb) ?_
  refine ev_blk (B := [(.aload_n 0, 1), (.bipush 6, 2)]) (pe := 146) (ls' := [some (.ref (b))]) (st' := [.int (nI 6), .ref (b)]) ⟨dX11_init_143, dX11_init_144, rfl⟩ rfl ?_
  refine ev_newaI (N := 6) A_int (by decide) (by decide) (by omega) dX11_init_146 ⟨Nat.le_of_ble_eq_true rfl, Nat.le_of_ble_eq_true rfl⟩ ?_
  rw [(show List.length (α := va_E) (M0 ++ (.inr (10, zn b 17 (nI 0)) :: rws 17)) = b + 18 by rw [List.length_append, hb]; rfl)]
  refine ev_mq (M1 := M0 ++ (.inr (10, zn b 17 (nI 0)) :: rws 18)) (List.append_assoc _ _ _) ?_
  refine ev_putF F_RX11_62 dX11_init_148 rfl (fun q hq => by cases hq; rfl) (ev_ap0 hb) (Nat.le_of_ble_eq_true rfl) (fun _ _ => ⟨rfl, rfl⟩) ?_
  refine ev_mq (M1 := M0 ++ (.inr (10, zn b 18 (nI 0)) :: rws 18)) (ev_as0 hb) ?_
  refine ev_blk (B := [(.aload_n 0, 1), (.bipush 6, 2)]) (pe := 154) (ls' := [some (.ref (b))]) (st' := [.int (nI 6), .ref (b)]) ⟨dX11_init_151, dX11_init_152, rfl⟩ rfl ?_
  refine ev_newaI (N := 6) A_int (by decide) (by decide) (by omega) dX11_init_154 ⟨Nat.le_of_ble_eq_true rfl, Nat.le_of_ble_eq_true rfl⟩ ?_
  rw [(show List.length (α := va_E) (M0 ++ (.inr (10, zn b 18 (nI 0)) :: rws 18)) = b + 19 by rw [List.length_append, hb]; rfl)]
  refine ev_mq (M1 := M0 ++ (.inr (10, zn b 18 (nI 0)) :: rws 19)) (List.append_assoc _ _ _) ?_
  refine ev_putF F_RX11_65 dX11_init_156 rfl (fun q hq => by cases hq; rfl) (ev_ap0 hb) (Nat.le_of_ble_eq_true rfl) (fun _ _ => ⟨rfl, rfl⟩) ?_
  refine ev_mq (M1 := M0 ++ (.inr (10, zn b 19 (nI 0)) :: rws 19)) (ev_as0 hb) ?_
  refine ev_blk (B := [(.aload_n 0, 1), (.bipush 6, 2)]) (pe := 162) (ls' := [some (.ref (b))]) (st' := [.int (nI 6), .ref (b)]) ⟨dX11_init_159, dX11_init_160, rfl⟩ rfl ?_
  refine ev_newaL (N := 6) A_long (by decide) (by decide) (by omega) dX11_init_162 ⟨Nat.le_of_ble_eq_true rfl, Nat.le_of_ble_eq_true rfl⟩ ?_
  rw [(show List.length (α := va_E) (M0 ++ (.inr (10, zn b 19 (nI 0)) :: rws 19)) = b + 20 by rw [List.length_append, hb]; rfl)]
  refine ev_mq (M1 := M0 ++ (.inr (10, zn b 19 (nI 0)) :: rws 20)) (List.append_assoc _ _ _) ?_
  refine ev_putF F_RX11_68 dX11_init_164 rfl (fun q hq => by cases hq; rfl) (ev_ap0 hb) (Nat.le_of_ble_eq_true rfl) (fun _ _ => ⟨rfl, rfl⟩) ?_
  refine ev_mq (M1 := M0 ++ (.inr (10, zn b 20 (nI 0)) :: rws 20)) (ev_as0 hb) ?_
  refine ev_blk (B := [(.aload_n 0, 1), (.bipush 6, 2)]) (pe := 170) (ls' := [some (.ref (b))]) (st' := [.int (nI 6), .ref (b)]) ⟨dX11_init_167, dX11_init_168, rfl⟩ rfl ?_
  refine ev_newaL (N := 6) A_long (by decide) (by decide) (by omega) dX11_init_170 ⟨Nat.le_of_ble_eq_true rfl, Nat.le_of_ble_eq_true rfl⟩ ?_
  rw [(show List.length (α := va_E) (M0 ++ (.inr (10, zn b 20 (nI 0)) :: rws 20)) = b + 21 by rw [List.length_append, hb]; rfl)]
  refine ev_mq (M1 := M0 ++ (.inr (10, zn b 20 (nI 0)) :: rws 21)) (List.append_assoc _ _ _) ?_
  refine ev_putF F_RX11_71 dX11_init_172 rfl (fun q hq => by cases hq; rfl) (ev_ap0 hb) (Nat.le_of_ble_eq_true rfl) (fun _ _ => ⟨rfl, rfl⟩) ?_
  refine ev_mq (M1 := M0 ++ (.inr (10, zn b 21 (nI 0)) :: rws 21)) (ev_as0 hb) ?_
  refine ev_blk (B := [(.aload_n 0, 1), (.bipush 80, 2)]) (pe := 178) (ls' := [some (.ref (b))]) (st' := [.int (nI 80), .ref (b)]) ⟨dX11_init_175, dX11_init_176, rfl⟩ rfl ?_
  refine ev_newaC (N := 80) A_char (by decide) (by decide) (by omega) dX11_init_178 ⟨Nat.le_of_ble_eq_true rfl, Nat.le_of_ble_eq_true rfl⟩ ?_
  rw [(show List.length (α := va_E) (M0 ++ (.inr (10, zn b 21 (nI 0)) :: rws 21)) = b + 22 by rw [List.length_append, hb]; rfl)]
  refine ev_mq (M1 := M0 ++ (.inr (10, zn b 21 (nI 0)) :: rws 22)) (List.append_assoc _ _ _) ?_
  refine ev_putF F_RX11_74 dX11_init_180 rfl (fun q hq => by cases hq; rfl) (ev_ap0 hb) (Nat.le_of_ble_eq_true rfl) (fun _ _ => ⟨rfl, rfl⟩) ?_
  refine ev_mq (M1 := M0 ++ (.inr (10, zn b 22 (nI 0)) :: rws 22)) (ev_as0 hb) ?_
  refine ev_blk (B := [(.aload_n 0, 1), (.bipush 12, 2)]) (pe := 186) (ls' := [some (.ref (b))]) (st' := [.int (nI 12), .ref (b)]) ⟨dX11_init_183, dX11_init_184, rfl⟩ rfl ?_
  refine ev_newaI (N := 12) A_int (by decide) (by decide) (by omega) dX11_init_186 ⟨Nat.le_of_ble_eq_true rfl, Nat.le_of_ble_eq_true rfl⟩ ?_
  rw [(show List.length (α := va_E) (M0 ++ (.inr (10, zn b 22 (nI 0)) :: rws 22)) = b + 23 by rw [List.length_append, hb]; rfl)]
  refine ev_mq (M1 := M0 ++ (.inr (10, zn b 22 (nI 0)) :: rws 23)) (List.append_assoc _ _ _) ?_
  refine ev_putF F_RX11_78 dX11_init_188 rfl (fun q hq => by cases hq; rfl) (ev_ap0 hb) (Nat.le_of_ble_eq_true rfl) (fun _ _ => ⟨rfl, rfl⟩) ?_
  refine ev_mq (M1 := M0 ++ (.inr (10, zn b 23 (nI 0)) :: rws 23)) (ev_as0 hb) ?_
  refine ev_blk (B := [(.aload_n 0, 1), (.bipush 48, 2)]) (pe := 194) (ls' := [some (.ref (b))]) (st' := [.int (nI 48), .ref (b)]) ⟨dX11_init_191, dX11_init_192, rfl⟩ rfl ?_
  refine ev_newaI (N := 48) A_int (by decide) (by decide) (by omega) dX11_init_194 ⟨Nat.le_of_ble_eq_true rfl, Nat.le_of_ble_eq_true rfl⟩ ?_
  rw [(show List.length (α := va_E) (M0 ++ (.inr (10, zn b 23 (nI 0)) :: rws 23)) = b + 24 by rw [List.length_append, hb]; rfl)]
  refine ev_mq (M1 := M0 ++ (.inr (10, zn b 23 (nI 0)) :: rws 24)) (List.append_assoc _ _ _) ?_
  refine ev_putF F_RX11_81 dX11_init_196 rfl (fun q hq => by cases hq; rfl) (ev_ap0 hb) (Nat.le_of_ble_eq_true rfl) (fun _ _ => ⟨rfl, rfl⟩) ?_
  refine ev_mq (M1 := M0 ++ (.inr (10, zn b 24 (nI 0)) :: rws 24)) (ev_as0 hb) ?_
  refine ev_blk (B := [(.aload_n 0, 1), (.bipush 12, 2)]) (pe := 202) (ls' := [some (.ref (b))]) (st' := [.int (nI 12), .ref (b)]) ⟨dX11_init_199, dX11_init_200, rfl⟩ rfl ?_
  refine ev_newaL (N := 12) A_long (by decide) (by decide) (by omega) dX11_init_202 ⟨Nat.le_of_ble_eq_true rfl, Nat.le_of_ble_eq_true rfl⟩ ?_
  rw [(show List.length (α := va_E) (M0 ++ (.inr (10, zn b 24 (nI 0)) :: rws 24)) = b + 25 by rw [List.length_append, hb]; rfl)]
  refine ev_mq (M1 := M0 ++ (.inr (10, zn b 24 (nI 0)) :: rws 25)) (List.append_assoc _ _ _) ?_
  refine ev_putF F_RX11_84 dX11_init_204 rfl (fun q hq => by cases hq; rfl) (ev_ap0 hb) (Nat.le_of_ble_eq_true rfl) (fun _ _ => ⟨rfl, rfl⟩) ?_
  refine ev_mq (M1 := M0 ++ (.inr (10, zn b 25 (nI 0)) :: rws 25)) (ev_as0 hb) ?_
  refine ev_blk (B := [(.aload_n 0, 1), (.bipush 12, 2)]) (pe := 210) (ls' := [some (.ref (b))]) (st' := [.int (nI 12), .ref (b)]) ⟨dX11_init_207, dX11_init_208, rfl⟩ rfl ?_
  refine ev_newaL (N := 12) A_long (by decide) (by decide) (by omega) dX11_init_210 ⟨Nat.le_of_ble_eq_true rfl, Nat.le_of_ble_eq_true rfl⟩ ?_
  rw [(show List.length (α := va_E) (M0 ++ (.inr (10, zn b 25 (nI 0)) :: rws 25)) = b + 26 by rw [List.length_append, hb]; rfl)]
  refine ev_mq (M1 := M0 ++ (.inr (10, zn b 25 (nI 0)) :: rws 26)) (List.append_assoc _ _ _) ?_
  refine ev_putF F_RX11_87 dX11_init_212 rfl (fun q hq => by cases hq; rfl) (ev_ap0 hb) (Nat.le_of_ble_eq_true rfl) (fun _ _ => ⟨rfl, rfl⟩) ?_
  refine ev_mq (M1 := M0 ++ (.inr (10, zn b 26 (nI 0)) :: rws 26)) (ev_as0 hb) ?_
  refine ev_blk (B := [(.aload_n 0, 1), (.iconst (-1), 1)]) (pe := 217) (ls' := [some (.ref (b))]) (st' := [.int ((-1)), .ref (b)]) ⟨dX11_init_215, dX11_init_216, rfl⟩ rfl ?_
  refine ev_put F_RX11_90 dX11_init_217 (ev_ap0 hb) (Nat.le_of_ble_eq_true rfl) (fun _ _ => ⟨rfl, rfl⟩) ?_
  refine ev_mq (M1 := M0 ++ (.inr (10, zn b 26 (-1)) :: rws 26)) (ev_as0 hb) ?_
  refine ev_blk (B := [(.aload_n 0, 1), (.bipush 50, 2)]) (pe := 223) (ls' := [some (.ref (b))]) (st' := [.int (nI 50), .ref (b)]) ⟨dX11_init_220, dX11_init_221, rfl⟩ rfl ?_
  refine ev_newaI (N := 50) A_int (by decide) (by decide) (by omega) dX11_init_223 ⟨Nat.le_of_ble_eq_true rfl, Nat.le_of_ble_eq_true rfl⟩ ?_
  rw [(show List.length (α := va_E) (M0 ++ (.inr (10, zn b 26 (-1)) :: rws 26)) = b + 27 by rw [List.length_append, hb]; rfl)]
  refine ev_mq (M1 := M0 ++ (.inr (10, zn b 26 (-1)) :: rws 27)) (List.append_assoc _ _ _) ?_
  refine ev_putF F_RX11_94 dX11_init_225 rfl (fun q hq => by cases hq; rfl) (ev_ap0 hb) (Nat.le_of_ble_eq_true rfl) (fun _ _ => ⟨rfl, rfl⟩) ?_
  refine ev_mq (M1 := M0 ++ (.inr (10, zn b 27 (-1)) :: rws 27)) (ev_as0 hb) ?_
  refine ev_blk (B := [(.aload_n 0, 1), (.iconst 3, 1)]) (pe := 230) (ls' := [some (.ref (b))]) (st' := [.int (nI 3), .ref (b)]) ⟨dX11_init_228, dX11_init_229, rfl⟩ rfl ?_
  refine ev_newaI (N := 3) A_int (by decide) (by decide) (by omega) dX11_init_230 ⟨Nat.le_of_ble_eq_true rfl, Nat.le_of_ble_eq_true rfl⟩ ?_
  rw [(show List.length (α := va_E) (M0 ++ (.inr (10, zn b 27 (-1)) :: rws 27)) = b + 28 by rw [List.length_append, hb]; rfl)]
  refine ev_mq (M1 := M0 ++ (.inr (10, zn b 27 (-1)) :: rws 28)) (List.append_assoc _ _ _) ?_
  refine ev_putF F_RX11_97 dX11_init_232 rfl (fun q hq => by cases hq; rfl) (ev_ap0 hb) (Nat.le_of_ble_eq_true rfl) (fun _ _ => ⟨rfl, rfl⟩) ?_
  refine ev_mq (M1 := M0 ++ (.inr (10, zn b 28 (-1)) :: rws 28)) (ev_as0 hb) ?_
  refine ev_blk (B := [(.aload_n 0, 1), (.iconst 3, 1)]) (pe := 237) (ls' := [some (.ref (b))]) (st' := [.int (nI 3), .ref (b)]) ⟨dX11_init_235, dX11_init_236, rfl⟩ rfl ?_
  refine ev_newaL (N := 3) A_long (by decide) (by decide) (by omega) dX11_init_237 ⟨Nat.le_of_ble_eq_true rfl, Nat.le_of_ble_eq_true rfl⟩ ?_
  rw [(show List.length (α := va_E) (M0 ++ (.inr (10, zn b 28 (-1)) :: rws 28)) = b + 29 by rw [List.length_append, hb]; rfl)]
  refine ev_mq (M1 := M0 ++ (.inr (10, zn b 28 (-1)) :: rws 29)) (List.append_assoc _ _ _) ?_
  refine ev_putF F_RX11_100 dX11_init_239 rfl (fun q hq => by cases hq; rfl) (ev_ap0 hb) (Nat.le_of_ble_eq_true rfl) (fun _ _ => ⟨rfl, rfl⟩) ?_
  refine ev_mq (M1 := M0 ++ (.inr (10, zn b 29 (-1)) :: rws 29)) (ev_as0 hb) ?_
  refine ev_blk (B := [(.aload_n 0, 1), (.iconst 3, 1)]) (pe := 244) (ls' := [some (.ref (b))]) (st' := [.int (nI 3), .ref (b)]) ⟨dX11_init_242, dX11_init_243, rfl⟩ rfl ?_
  refine ev_newaL (N := 3) A_long (by decide) (by decide) (by omega) dX11_init_244 ⟨Nat.le_of_ble_eq_true rfl, Nat.le_of_ble_eq_true rfl⟩ ?_
  rw [(show List.length (α := va_E) (M0 ++ (.inr (10, zn b 29 (-1)) :: rws 29)) = b + 30 by rw [List.length_append, hb]; rfl)]
  refine ev_mq (M1 := M0 ++ (.inr (10, zn b 29 (-1)) :: rws 30)) (List.append_assoc _ _ _) ?_
  refine ev_putF F_RX11_103 dX11_init_246 rfl (fun q hq => by cases hq; rfl) (ev_ap0 hb) (Nat.le_of_ble_eq_true rfl) (fun _ _ => ⟨rfl, rfl⟩) ?_
  refine ev_mq (M1 := M0 ++ (.inr (10, zn b 30 (-1)) :: rws 30)) (ev_as0 hb) ?_
  refine ev_vret dX11_init_249 rfl ⟨Nat.le_of_ble_eq_true rfl, Nat.le_of_ble_eq_true rfl⟩ ?_
  exact ⟨rfl, rfl⟩

theorem RR_0 {M : ev_M} {o : Nat} (h : at_ M o (kM o)) : RR M o St0 (fun k => if k = 45 then -1 else 0) (fun _ => 0) := by
  have a0 : M[o]? = some (.inr (10, zo o (fun k => if k = 45 then -1 else 0) (fun _ => 0))) := (at_cons h).1
  have a1 : M[o + 1]? = some (.inl (0, 50, .inl (fun _ => 0))) := h 1 (Nat.le_of_ble_eq_true rfl)
  have a2 : M[o + 2]? = some (.inl (0, 21, .inl (fun _ => 0))) := h 2 (Nat.le_of_ble_eq_true rfl)
  have a3 : M[o + 3]? = some (.inl (0, 21, .inl (fun _ => 0))) := h 3 (Nat.le_of_ble_eq_true rfl)
  have a4 : M[o + 4]? = some (.inl (1, 21, .inr (.inl (fun _ => 0)))) := h 4 (Nat.le_of_ble_eq_true rfl)
  have a5 : M[o + 5]? = some (.inl (1, 21, .inr (.inl (fun _ => 0)))) := h 5 (Nat.le_of_ble_eq_true rfl)
  have a6 : M[o + 6]? = some (.inl (0, 12, .inl (fun _ => 0))) := h 6 (Nat.le_of_ble_eq_true rfl)
  have a7 : M[o + 7]? = some (.inl (0, 12, .inl (fun _ => 0))) := h 7 (Nat.le_of_ble_eq_true rfl)
  have a8 : M[o + 8]? = some (.inl (0, 3, .inl (fun _ => 0))) := h 8 (Nat.le_of_ble_eq_true rfl)
  have a9 : M[o + 9]? = some (.inl (1, 3, .inr (.inl (fun _ => 0)))) := h 9 (Nat.le_of_ble_eq_true rfl)
  have a10 : M[o + 10]? = some (.inl (1, 3, .inr (.inl (fun _ => 0)))) := h 10 (Nat.le_of_ble_eq_true rfl)
  have a11 : M[o + 11]? = some (.inl (0, 390, .inl (fun _ => 0))) := h 11 (Nat.le_of_ble_eq_true rfl)
  have a12 : M[o + 12]? = some (.inl (0, 13, .inl (fun _ => 0))) := h 12 (Nat.le_of_ble_eq_true rfl)
  have a13 : M[o + 13]? = some (.inl (0, 400, .inl (fun _ => 0))) := h 13 (Nat.le_of_ble_eq_true rfl)
  have a14 : M[o + 14]? = some (.inl (1, 390, .inr (.inl (fun _ => 0)))) := h 14 (Nat.le_of_ble_eq_true rfl)
  have a15 : M[o + 15]? = some (.inl (1, 390, .inr (.inl (fun _ => 0)))) := h 15 (Nat.le_of_ble_eq_true rfl)
  have a16 : M[o + 16]? = some (.inl (1, 400, .inr (.inl (fun _ => 0)))) := h 16 (Nat.le_of_ble_eq_true rfl)
  have a17 : M[o + 17]? = some (.inl (1, 400, .inr (.inl (fun _ => 0)))) := h 17 (Nat.le_of_ble_eq_true rfl)
  have a18 : M[o + 18]? = some (.inl (0, 6, .inl (fun _ => 0))) := h 18 (Nat.le_of_ble_eq_true rfl)
  have a19 : M[o + 19]? = some (.inl (0, 6, .inl (fun _ => 0))) := h 19 (Nat.le_of_ble_eq_true rfl)
  have a20 : M[o + 20]? = some (.inl (1, 6, .inr (.inl (fun _ => 0)))) := h 20 (Nat.le_of_ble_eq_true rfl)
  have a21 : M[o + 21]? = some (.inl (1, 6, .inr (.inl (fun _ => 0)))) := h 21 (Nat.le_of_ble_eq_true rfl)
  have a22 : M[o + 22]? = some (.inl (2, 80, .inl (fun _ => 0))) := h 22 (Nat.le_of_ble_eq_true rfl)
  have a23 : M[o + 23]? = some (.inl (0, 12, .inl (fun _ => 0))) := h 23 (Nat.le_of_ble_eq_true rfl)
  have a24 : M[o + 24]? = some (.inl (0, 48, .inl (fun _ => 0))) := h 24 (Nat.le_of_ble_eq_true rfl)
  have a25 : M[o + 25]? = some (.inl (1, 12, .inr (.inl (fun _ => 0)))) := h 25 (Nat.le_of_ble_eq_true rfl)
  have a26 : M[o + 26]? = some (.inl (1, 12, .inr (.inl (fun _ => 0)))) := h 26 (Nat.le_of_ble_eq_true rfl)
  have a27 : M[o + 27]? = some (.inl (0, 50, .inl (fun _ => 0))) := h 27 (Nat.le_of_ble_eq_true rfl)
  have a28 : M[o + 28]? = some (.inl (0, 3, .inl (fun _ => 0))) := h 28 (Nat.le_of_ble_eq_true rfl)
  have a29 : M[o + 29]? = some (.inl (1, 3, .inr (.inl (fun _ => 0)))) := h 29 (Nat.le_of_ble_eq_true rfl)
  have a30 : M[o + 30]? = some (.inl (1, 3, .inr (.inl (fun _ => 0)))) := h 30 (Nat.le_of_ble_eq_true rfl)
  exact ⟨a0, ⟨rfl, rfl, rfl, by decide, by decide, rfl, rfl, rfl, rfl, fun z => by cases z⟩, ⟨_, a1, fun i hi => absurd hi (Nat.not_lt_zero _)⟩, ⟨_, _, _, _, a2, a3, a4, a5, fun i hi => absurd hi (Nat.not_lt_zero _), fun i hi => absurd hi (Nat.not_lt_zero _)⟩, ⟨_, _, a6, a7⟩, ⟨_, _, _, a8, a9, a10, fun i hi => absurd hi (Nat.not_lt_zero _)⟩, ⟨_, _, _, _, _, _, _, a11, a12, a13, a14, a15, a16, a17, false, rfl, fun z => by cases z⟩, ⟨_, _, _, _, a18, a19, a20, a21⟩, a22, ⟨_, _, _, _, a23, a24, a25, a26⟩, ⟨_, _, _, _, a27, a28, a29, a30, fun z => by cases z⟩⟩
