section EVP
variable {l : Launch} {mi : ev_MI} {kc ks pc : Nat} {ls : ev_L} {st : List Value} {M : ev_M} {Q : ev_R → ev_M → Prop}
theorem ev_okS_c {n : Nat} {v : Value} {st : List Value} : ev_okS n (v :: st) ↔ ev_ok n v ∧ ev_okS n st := by
  simp [ev_okS]
theorem ev_okS_t {n : Nat} {v : Value} {st : List Value} (h : ev_okS n (v :: st)) : ev_okS n st := (ev_okS_c.mp h).2
theorem ev_okS_h {n : Nat} {v : Value} {st : List Value} (h : ev_okS n (v :: st)) : ev_ok n v := (ev_okS_c.mp h).1
theorem ev_p_iadd {y : Int32} {x : Int32} (hd : decode (ev_c mi) pc = .ok (.iadd, 1)) (k : ev_ l mi kc ks (pc + 1) ls (.int (x + y) :: st) M Q) : ev_ l mi kc ks pc ls (.int y :: .int x :: st) M Q := by
  intro p e s m args below meth c D ad0 ad ax cA A H locs lsA L0 hC hS hA hL ha hP hD hK hX hM hO hOL hl hn
  exact lv_iadd hC.2.1 hC.2.2.1 hd  (k p e s m args below meth c D ad0 ad ax cA A H locs lsA L0 hC hS hA hL ha hP hD hK hX hM (ev_okS_c.mpr ⟨trivial, (ev_okS_t (ev_okS_t hO))⟩) hOL hl hn)
theorem ev_p_isub {y : Int32} {x : Int32} (hd : decode (ev_c mi) pc = .ok (.isub, 1)) (k : ev_ l mi kc ks (pc + 1) ls (.int (x - y) :: st) M Q) : ev_ l mi kc ks pc ls (.int y :: .int x :: st) M Q := by
  intro p e s m args below meth c D ad0 ad ax cA A H locs lsA L0 hC hS hA hL ha hP hD hK hX hM hO hOL hl hn
  exact lv_isub hC.2.1 hC.2.2.1 hd  (k p e s m args below meth c D ad0 ad ax cA A H locs lsA L0 hC hS hA hL ha hP hD hK hX hM (ev_okS_c.mpr ⟨trivial, (ev_okS_t (ev_okS_t hO))⟩) hOL hl hn)
theorem ev_p_imul {y : Int32} {x : Int32} (hd : decode (ev_c mi) pc = .ok (.imul, 1)) (k : ev_ l mi kc ks (pc + 1) ls (.int (x * y) :: st) M Q) : ev_ l mi kc ks pc ls (.int y :: .int x :: st) M Q := by
  intro p e s m args below meth c D ad0 ad ax cA A H locs lsA L0 hC hS hA hL ha hP hD hK hX hM hO hOL hl hn
  exact lv_imul hC.2.1 hC.2.2.1 hd  (k p e s m args below meth c D ad0 ad ax cA A H locs lsA L0 hC hS hA hL ha hP hD hK hX hM (ev_okS_c.mpr ⟨trivial, (ev_okS_t (ev_okS_t hO))⟩) hOL hl hn)
theorem ev_p_iand {y : Int32} {x : Int32} (hd : decode (ev_c mi) pc = .ok (.iand, 1)) (k : ev_ l mi kc ks (pc + 1) ls (.int (x &&& y) :: st) M Q) : ev_ l mi kc ks pc ls (.int y :: .int x :: st) M Q := by
  intro p e s m args below meth c D ad0 ad ax cA A H locs lsA L0 hC hS hA hL ha hP hD hK hX hM hO hOL hl hn
  exact lv_iand hC.2.1 hC.2.2.1 hd  (k p e s m args below meth c D ad0 ad ax cA A H locs lsA L0 hC hS hA hL ha hP hD hK hX hM (ev_okS_c.mpr ⟨trivial, (ev_okS_t (ev_okS_t hO))⟩) hOL hl hn)
theorem ev_p_ior {y : Int32} {x : Int32} (hd : decode (ev_c mi) pc = .ok (.ior, 1)) (k : ev_ l mi kc ks (pc + 1) ls (.int (x ||| y) :: st) M Q) : ev_ l mi kc ks pc ls (.int y :: .int x :: st) M Q := by
  intro p e s m args below meth c D ad0 ad ax cA A H locs lsA L0 hC hS hA hL ha hP hD hK hX hM hO hOL hl hn
  exact lv_ior hC.2.1 hC.2.2.1 hd  (k p e s m args below meth c D ad0 ad ax cA A H locs lsA L0 hC hS hA hL ha hP hD hK hX hM (ev_okS_c.mpr ⟨trivial, (ev_okS_t (ev_okS_t hO))⟩) hOL hl hn)
theorem ev_p_ladd {y : Int64} {x : Int64} (hd : decode (ev_c mi) pc = .ok (.ladd, 1)) (k : ev_ l mi kc ks (pc + 1) ls (.long (x + y) :: st) M Q) : ev_ l mi kc ks pc ls (.long y :: .long x :: st) M Q := by
  intro p e s m args below meth c D ad0 ad ax cA A H locs lsA L0 hC hS hA hL ha hP hD hK hX hM hO hOL hl hn
  exact lv_ladd hC.2.1 hC.2.2.1 hd  (k p e s m args below meth c D ad0 ad ax cA A H locs lsA L0 hC hS hA hL ha hP hD hK hX hM (ev_okS_c.mpr ⟨trivial, (ev_okS_t (ev_okS_t hO))⟩) hOL hl hn)
theorem ev_p_lsub {y : Int64} {x : Int64} (hd : decode (ev_c mi) pc = .ok (.lsub, 1)) (k : ev_ l mi kc ks (pc + 1) ls (.long (x - y) :: st) M Q) : ev_ l mi kc ks pc ls (.long y :: .long x :: st) M Q := by
  intro p e s m args below meth c D ad0 ad ax cA A H locs lsA L0 hC hS hA hL ha hP hD hK hX hM hO hOL hl hn
  exact lv_lsub hC.2.1 hC.2.2.1 hd  (k p e s m args below meth c D ad0 ad ax cA A H locs lsA L0 hC hS hA hL ha hP hD hK hX hM (ev_okS_c.mpr ⟨trivial, (ev_okS_t (ev_okS_t hO))⟩) hOL hl hn)
theorem ev_p_lmul {y : Int64} {x : Int64} (hd : decode (ev_c mi) pc = .ok (.lmul, 1)) (k : ev_ l mi kc ks (pc + 1) ls (.long (x * y) :: st) M Q) : ev_ l mi kc ks pc ls (.long y :: .long x :: st) M Q := by
  intro p e s m args below meth c D ad0 ad ax cA A H locs lsA L0 hC hS hA hL ha hP hD hK hX hM hO hOL hl hn
  exact lv_lmul hC.2.1 hC.2.2.1 hd  (k p e s m args below meth c D ad0 ad ax cA A H locs lsA L0 hC hS hA hL ha hP hD hK hX hM (ev_okS_c.mpr ⟨trivial, (ev_okS_t (ev_okS_t hO))⟩) hOL hl hn)
theorem ev_p_land {y : Int64} {x : Int64} (hd : decode (ev_c mi) pc = .ok (.land, 1)) (k : ev_ l mi kc ks (pc + 1) ls (.long (x &&& y) :: st) M Q) : ev_ l mi kc ks pc ls (.long y :: .long x :: st) M Q := by
  intro p e s m args below meth c D ad0 ad ax cA A H locs lsA L0 hC hS hA hL ha hP hD hK hX hM hO hOL hl hn
  exact lv_land hC.2.1 hC.2.2.1 hd  (k p e s m args below meth c D ad0 ad ax cA A H locs lsA L0 hC hS hA hL ha hP hD hK hX hM (ev_okS_c.mpr ⟨trivial, (ev_okS_t (ev_okS_t hO))⟩) hOL hl hn)
theorem ev_p_lor {y : Int64} {x : Int64} (hd : decode (ev_c mi) pc = .ok (.lor, 1)) (k : ev_ l mi kc ks (pc + 1) ls (.long (x ||| y) :: st) M Q) : ev_ l mi kc ks pc ls (.long y :: .long x :: st) M Q := by
  intro p e s m args below meth c D ad0 ad ax cA A H locs lsA L0 hC hS hA hL ha hP hD hK hX hM hO hOL hl hn
  exact lv_lor hC.2.1 hC.2.2.1 hd  (k p e s m args below meth c D ad0 ad ax cA A H locs lsA L0 hC hS hA hL ha hP hD hK hX hM (ev_okS_c.mpr ⟨trivial, (ev_okS_t (ev_okS_t hO))⟩) hOL hl hn)
theorem ev_p_ishl {y : Int32} {x : Int32} (hd : decode (ev_c mi) pc = .ok (.ishl, 1)) (k : ev_ l mi kc ks (pc + 1) ls (.int (x <<< (y &&& 31)) :: st) M Q) : ev_ l mi kc ks pc ls (.int y :: .int x :: st) M Q := by
  intro p e s m args below meth c D ad0 ad ax cA A H locs lsA L0 hC hS hA hL ha hP hD hK hX hM hO hOL hl hn
  exact lv_ishl hC.2.1 hC.2.2.1 hd  (k p e s m args below meth c D ad0 ad ax cA A H locs lsA L0 hC hS hA hL ha hP hD hK hX hM (ev_okS_c.mpr ⟨trivial, (ev_okS_t (ev_okS_t hO))⟩) hOL hl hn)
theorem ev_p_ishr {y : Int32} {x : Int32} (hd : decode (ev_c mi) pc = .ok (.ishr, 1)) (k : ev_ l mi kc ks (pc + 1) ls (.int (x >>> (y &&& 31)) :: st) M Q) : ev_ l mi kc ks pc ls (.int y :: .int x :: st) M Q := by
  intro p e s m args below meth c D ad0 ad ax cA A H locs lsA L0 hC hS hA hL ha hP hD hK hX hM hO hOL hl hn
  exact lv_ishr hC.2.1 hC.2.2.1 hd  (k p e s m args below meth c D ad0 ad ax cA A H locs lsA L0 hC hS hA hL ha hP hD hK hX hM (ev_okS_c.mpr ⟨trivial, (ev_okS_t (ev_okS_t hO))⟩) hOL hl hn)
theorem ev_p_lshl {y : Int32} {x : Int64} (hd : decode (ev_c mi) pc = .ok (.lshl, 1)) (k : ev_ l mi kc ks (pc + 1) ls (.long (x <<< (y.toInt64 &&& 63)) :: st) M Q) : ev_ l mi kc ks pc ls (.int y :: .long x :: st) M Q := by
  intro p e s m args below meth c D ad0 ad ax cA A H locs lsA L0 hC hS hA hL ha hP hD hK hX hM hO hOL hl hn
  exact lv_lshl hC.2.1 hC.2.2.1 hd rfl (k p e s m args below meth c D ad0 ad ax cA A H locs lsA L0 hC hS hA hL ha hP hD hK hX hM (ev_okS_c.mpr ⟨trivial, (ev_okS_t (ev_okS_t hO))⟩) hOL hl hn)
theorem ev_p_lshr {y : Int32} {x : Int64} (hd : decode (ev_c mi) pc = .ok (.lshr, 1)) (k : ev_ l mi kc ks (pc + 1) ls (.long (x >>> (y.toInt64 &&& 63)) :: st) M Q) : ev_ l mi kc ks pc ls (.int y :: .long x :: st) M Q := by
  intro p e s m args below meth c D ad0 ad ax cA A H locs lsA L0 hC hS hA hL ha hP hD hK hX hM hO hOL hl hn
  exact lv_lshr hC.2.1 hC.2.2.1 hd rfl (k p e s m args below meth c D ad0 ad ax cA A H locs lsA L0 hC hS hA hL ha hP hD hK hX hM (ev_okS_c.mpr ⟨trivial, (ev_okS_t (ev_okS_t hO))⟩) hOL hl hn)
theorem ev_p_i2l {x : Int32} (hd : decode (ev_c mi) pc = .ok (.i2l, 1)) (k : ev_ l mi kc ks (pc + 1) ls (.long x.toInt64 :: st) M Q) : ev_ l mi kc ks pc ls (.int x :: st) M Q := by
  intro p e s m args below meth c D ad0 ad ax cA A H locs lsA L0 hC hS hA hL ha hP hD hK hX hM hO hOL hl hn
  exact lv_i2l hC.2.1 hC.2.2.1 hd rfl (k p e s m args below meth c D ad0 ad ax cA A H locs lsA L0 hC hS hA hL ha hP hD hK hX hM (ev_okS_c.mpr ⟨trivial, (ev_okS_t hO)⟩) hOL hl hn)
theorem ev_p_l2i {x : Int64} (hd : decode (ev_c mi) pc = .ok (.l2i, 1)) (k : ev_ l mi kc ks (pc + 1) ls (.int x.toInt32 :: st) M Q) : ev_ l mi kc ks pc ls (.long x :: st) M Q := by
  intro p e s m args below meth c D ad0 ad ax cA A H locs lsA L0 hC hS hA hL ha hP hD hK hX hM hO hOL hl hn
  exact lv_l2i hC.2.1 hC.2.2.1 hd rfl (k p e s m args below meth c D ad0 ad ax cA A H locs lsA L0 hC hS hA hL ha hP hD hK hX hM (ev_okS_c.mpr ⟨trivial, (ev_okS_t hO)⟩) hOL hl hn)
theorem ev_p_i2c {x : Int32} (hd : decode (ev_c mi) pc = .ok (.i2c, 1)) (k : ev_ l mi kc ks (pc + 1) ls (.int (x.toUInt32 % 65536).toInt32 :: st) M Q) : ev_ l mi kc ks pc ls (.int x :: st) M Q := by
  intro p e s m args below meth c D ad0 ad ax cA A H locs lsA L0 hC hS hA hL ha hP hD hK hX hM hO hOL hl hn
  exact lv_i2c hC.2.1 hC.2.2.1 hd rfl (k p e s m args below meth c D ad0 ad ax cA A H locs lsA L0 hC hS hA hL ha hP hD hK hX hM (ev_okS_c.mpr ⟨trivial, (ev_okS_t hO)⟩) hOL hl hn)
theorem ev_p_lcmp {y : Int64} {x : Int64} (hd : decode (ev_c mi) pc = .ok (.lcmp, 1)) (k : ev_ l mi kc ks (pc + 1) ls (.int (lg_cmp x y) :: st) M Q) : ev_ l mi kc ks pc ls (.long y :: .long x :: st) M Q := by
  intro p e s m args below meth c D ad0 ad ax cA A H locs lsA L0 hC hS hA hL ha hP hD hK hX hM hO hOL hl hn
  exact W.lcmp hC.2.1 hC.2.2.1 hd  (k p e s m args below meth c D ad0 ad ax cA A H locs lsA L0 hC hS hA hL ha hP hD hK hX hM (ev_okS_c.mpr ⟨trivial, (ev_okS_t (ev_okS_t hO))⟩) hOL hl hn)
theorem ev_p_iconst {b : Int} (hd : decode (ev_c mi) pc = .ok (.iconst b, 1)) (k : ev_ l mi kc ks (pc + 1) ls (.int (Int32.ofInt b) :: st) M Q) : ev_ l mi kc ks pc ls st M Q := by
  intro p e s m args below meth c D ad0 ad ax cA A H locs lsA L0 hC hS hA hL ha hP hD hK hX hM hO hOL hl hn
  exact lv_iconst hC.2.1 hC.2.2.1 hd rfl (k p e s m args below meth c D ad0 ad ax cA A H locs lsA L0 hC hS hA hL ha hP hD hK hX hM (ev_okS_c.mpr ⟨trivial, hO⟩) hOL hl hn)
theorem ev_p_bipush {b : Int} (hd : decode (ev_c mi) pc = .ok (.bipush b, 2)) (k : ev_ l mi kc ks (pc + 2) ls (.int (Int8.ofInt b).toInt32 :: st) M Q) : ev_ l mi kc ks pc ls st M Q := by
  intro p e s m args below meth c D ad0 ad ax cA A H locs lsA L0 hC hS hA hL ha hP hD hK hX hM hO hOL hl hn
  exact lv_bipush hC.2.1 hC.2.2.1 hd rfl (k p e s m args below meth c D ad0 ad ax cA A H locs lsA L0 hC hS hA hL ha hP hD hK hX hM (ev_okS_c.mpr ⟨trivial, hO⟩) hOL hl hn)
theorem ev_p_sipush {b : Int} (hd : decode (ev_c mi) pc = .ok (.sipush b, 3)) (k : ev_ l mi kc ks (pc + 3) ls (.int (Int16.ofInt b).toInt32 :: st) M Q) : ev_ l mi kc ks pc ls st M Q := by
  intro p e s m args below meth c D ad0 ad ax cA A H locs lsA L0 hC hS hA hL ha hP hD hK hX hM hO hOL hl hn
  exact lv_sipush hC.2.1 hC.2.2.1 hd rfl (k p e s m args below meth c D ad0 ad ax cA A H locs lsA L0 hC hS hA hL ha hP hD hK hX hM (ev_okS_c.mpr ⟨trivial, hO⟩) hOL hl hn)
theorem ev_p_lconst {b : Fin 2} (hd : decode (ev_c mi) pc = .ok (.lconst b, 1)) (k : ev_ l mi kc ks (pc + 1) ls (.long (Int64.ofNat (b : Nat)) :: st) M Q) : ev_ l mi kc ks pc ls st M Q := by
  intro p e s m args below meth c D ad0 ad ax cA A H locs lsA L0 hC hS hA hL ha hP hD hK hX hM hO hOL hl hn
  exact lv_lconst hC.2.1 hC.2.2.1 hd rfl (k p e s m args below meth c D ad0 ad ax cA A H locs lsA L0 hC hS hA hL ha hP hD hK hX hM (ev_okS_c.mpr ⟨trivial, hO⟩) hOL hl hn)
theorem ev_p_iload_n {j : Fin 4} {x : Int32} (hd : decode (ev_c mi) pc = .ok (.iload_n j, 1)) (hv : ls[(j : Nat)]? = some (some (.int x))) (k : ev_ l mi kc ks (pc + 1) ls (.int x :: st) M Q) : ev_ l mi kc ks pc ls st M Q := by
  intro p e s m args below meth c D ad0 ad ax cA A H locs lsA L0 hC hS hA hL ha hP hD hK hX hM hO hOL hl hn
  exact lv_iload_n hC.2.1 hC.2.2.1 hd rfl (hl.2.2 ((j : Nat), _) (ev_mem.mpr ⟨_, hv, rfl⟩)) (k p e s m args below meth c D ad0 ad ax cA A H locs lsA L0 hC hS hA hL ha hP hD hK hX hM (ev_okS_c.mpr ⟨hOL _ _ hv, hO⟩) hOL hl hn)
theorem ev_p_iload {j : Nat} {x : Int32} (hd : decode (ev_c mi) pc = .ok (.iload j, 2)) (hv : ls[j]? = some (some (.int x))) (k : ev_ l mi kc ks (pc + 2) ls (.int x :: st) M Q) : ev_ l mi kc ks pc ls st M Q := by
  intro p e s m args below meth c D ad0 ad ax cA A H locs lsA L0 hC hS hA hL ha hP hD hK hX hM hO hOL hl hn
  exact lv_iload hC.2.1 hC.2.2.1 hd (hl.2.2 (j, _) (ev_mem.mpr ⟨_, hv, rfl⟩)) (k p e s m args below meth c D ad0 ad ax cA A H locs lsA L0 hC hS hA hL ha hP hD hK hX hM (ev_okS_c.mpr ⟨hOL _ _ hv, hO⟩) hOL hl hn)
theorem ev_p_lload_n {j : Fin 4} {x : Int64} (hd : decode (ev_c mi) pc = .ok (.lload_n j, 1)) (hv : ls[(j : Nat)]? = some (some (.long x))) (k : ev_ l mi kc ks (pc + 1) ls (.long x :: st) M Q) : ev_ l mi kc ks pc ls st M Q := by
  intro p e s m args below meth c D ad0 ad ax cA A H locs lsA L0 hC hS hA hL ha hP hD hK hX hM hO hOL hl hn
  exact lv_lload_n hC.2.1 hC.2.2.1 hd rfl (hl.2.2 ((j : Nat), _) (ev_mem.mpr ⟨_, hv, rfl⟩)) (k p e s m args below meth c D ad0 ad ax cA A H locs lsA L0 hC hS hA hL ha hP hD hK hX hM (ev_okS_c.mpr ⟨hOL _ _ hv, hO⟩) hOL hl hn)
theorem ev_p_lload {j : Nat} {x : Int64} (hd : decode (ev_c mi) pc = .ok (.lload j, 2)) (hv : ls[j]? = some (some (.long x))) (k : ev_ l mi kc ks (pc + 2) ls (.long x :: st) M Q) : ev_ l mi kc ks pc ls st M Q := by
  intro p e s m args below meth c D ad0 ad ax cA A H locs lsA L0 hC hS hA hL ha hP hD hK hX hM hO hOL hl hn
  exact lv_lload hC.2.1 hC.2.2.1 hd (hl.2.2 (j, _) (ev_mem.mpr ⟨_, hv, rfl⟩)) (k p e s m args below meth c D ad0 ad ax cA A H locs lsA L0 hC hS hA hL ha hP hD hK hX hM (ev_okS_c.mpr ⟨hOL _ _ hv, hO⟩) hOL hl hn)
theorem ev_p_aload_n {j : Fin 4} {x : Nat} (hd : decode (ev_c mi) pc = .ok (.aload_n j, 1)) (hv : ls[(j : Nat)]? = some (some (.ref x))) (k : ev_ l mi kc ks (pc + 1) ls (.ref x :: st) M Q) : ev_ l mi kc ks pc ls st M Q := by
  intro p e s m args below meth c D ad0 ad ax cA A H locs lsA L0 hC hS hA hL ha hP hD hK hX hM hO hOL hl hn
  exact lv_aload_n hC.2.1 hC.2.2.1 hd rfl (hl.2.2 ((j : Nat), _) (ev_mem.mpr ⟨_, hv, rfl⟩)) (k p e s m args below meth c D ad0 ad ax cA A H locs lsA L0 hC hS hA hL ha hP hD hK hX hM (ev_okS_c.mpr ⟨hOL _ _ hv, hO⟩) hOL hl hn)
theorem ev_p_aload_nx {j : Fin 4} {x : Nat} (hd : decode (ev_c mi) pc = .ok (.aload_n j, 1)) (hv : ls[(j : Nat)]? = some (some (.retAddr x))) (k : ev_ l mi kc ks (pc + 1) ls (.retAddr x :: st) M Q) : ev_ l mi kc ks pc ls st M Q := by
  intro p e s m args below meth c D ad0 ad ax cA A H locs lsA L0 hC hS hA hL ha hP hD hK hX hM hO hOL hl hn
  exact lv_aload_n hC.2.1 hC.2.2.1 hd rfl (hl.2.2 ((j : Nat), _) (ev_mem.mpr ⟨_, hv, rfl⟩)) (k p e s m args below meth c D ad0 ad ax cA A H locs lsA L0 hC hS hA hL ha hP hD hK hX hM (ev_okS_c.mpr ⟨hOL _ _ hv, hO⟩) hOL hl hn)
theorem ev_p_aload {j : Nat} {x : Nat} (hd : decode (ev_c mi) pc = .ok (.aload j, 2)) (hv : ls[j]? = some (some (.ref x))) (k : ev_ l mi kc ks (pc + 2) ls (.ref x :: st) M Q) : ev_ l mi kc ks pc ls st M Q := by
  intro p e s m args below meth c D ad0 ad ax cA A H locs lsA L0 hC hS hA hL ha hP hD hK hX hM hO hOL hl hn
  exact lv_aload hC.2.1 hC.2.2.1 hd (hl.2.2 (j, _) (ev_mem.mpr ⟨_, hv, rfl⟩)) (k p e s m args below meth c D ad0 ad ax cA A H locs lsA L0 hC hS hA hL ha hP hD hK hX hM (ev_okS_c.mpr ⟨hOL _ _ hv, hO⟩) hOL hl hn)
theorem ev_p_aloadx {j : Nat} {x : Nat} (hd : decode (ev_c mi) pc = .ok (.aload j, 2)) (hv : ls[j]? = some (some (.retAddr x))) (k : ev_ l mi kc ks (pc + 2) ls (.retAddr x :: st) M Q) : ev_ l mi kc ks pc ls st M Q := by
  intro p e s m args below meth c D ad0 ad ax cA A H locs lsA L0 hC hS hA hL ha hP hD hK hX hM hO hOL hl hn
  exact lv_aload hC.2.1 hC.2.2.1 hd (hl.2.2 (j, _) (ev_mem.mpr ⟨_, hv, rfl⟩)) (k p e s m args below meth c D ad0 ad ax cA A H locs lsA L0 hC hS hA hL ha hP hD hK hX hM (ev_okS_c.mpr ⟨hOL _ _ hv, hO⟩) hOL hl hn)
theorem ev_p_istore_n {j : Fin 4} {x : Int32} (hd : decode (ev_c mi) pc = .ok (.istore_n j, 1)) (hb : (j : Nat) < ls.length) (k : ev_ l mi kc ks (pc + 1) (ev_sl ls (j : Nat) (.int x)) st M Q) : ev_ l mi kc ks pc ls (.int x :: st) M Q := by
  intro p e s m args below meth c D ad0 ad ax cA A H locs lsA L0 hC hS hA hL ha hP hD hK hX hM hO hOL hl hn
  refine lv_istore_n hC.2.1 hC.2.2.1 hd rfl hl (by rw [← hn]; exact hb) rfl (fun lsB hlB => ?_)
  exact k p e s m args below meth c D ad0 ad ax cA A H locs lsB L0 hC hS hA hL ha hP hD hK hX hM (ev_okS_t hO) (ev_okL_sl hOL (ev_okS_h hO)) (ev_st1 rfl hlB) (by rw [ev_sl_len]; exact hn)
theorem ev_p_istore {j : Nat} {x : Int32} (hd : decode (ev_c mi) pc = .ok (.istore j, 2)) (hb : j < ls.length) (k : ev_ l mi kc ks (pc + 2) (ev_sl ls j (.int x)) st M Q) : ev_ l mi kc ks pc ls (.int x :: st) M Q := by
  intro p e s m args below meth c D ad0 ad ax cA A H locs lsA L0 hC hS hA hL ha hP hD hK hX hM hO hOL hl hn
  refine lv_istore hC.2.1 hC.2.2.1 hd hl (by rw [← hn]; exact hb) rfl (fun lsB hlB => ?_)
  exact k p e s m args below meth c D ad0 ad ax cA A H locs lsB L0 hC hS hA hL ha hP hD hK hX hM (ev_okS_t hO) (ev_okL_sl hOL (ev_okS_h hO)) (ev_st1 rfl hlB) (by rw [ev_sl_len]; exact hn)
theorem ev_p_lstore_n {j : Fin 4} {x : Int64} (hd : decode (ev_c mi) pc = .ok (.lstore_n j, 1)) (hb : (j : Nat) + 1 < ls.length) (k : ev_ l mi kc ks (pc + 1) (ev_sl ls (j : Nat) (.long x)) st M Q) : ev_ l mi kc ks pc ls (.long x :: st) M Q := by
  intro p e s m args below meth c D ad0 ad ax cA A H locs lsA L0 hC hS hA hL ha hP hD hK hX hM hO hOL hl hn
  refine lv_lstore_n hC.2.1 hC.2.2.1 hd rfl hl (by rw [← hn]; exact hb) rfl (fun lsB hlB => ?_)
  exact k p e s m args below meth c D ad0 ad ax cA A H locs lsB L0 hC hS hA hL ha hP hD hK hX hM (ev_okS_t hO) (ev_okL_sl hOL (ev_okS_h hO)) (ev_st2 rfl hlB) (by rw [ev_sl_len]; exact hn)
theorem ev_p_lstore {j : Nat} {x : Int64} (hd : decode (ev_c mi) pc = .ok (.lstore j, 2)) (hb : j + 1 < ls.length) (k : ev_ l mi kc ks (pc + 2) (ev_sl ls j (.long x)) st M Q) : ev_ l mi kc ks pc ls (.long x :: st) M Q := by
  intro p e s m args below meth c D ad0 ad ax cA A H locs lsA L0 hC hS hA hL ha hP hD hK hX hM hO hOL hl hn
  refine lv_lstore hC.2.1 hC.2.2.1 hd hl (by rw [← hn]; exact hb) rfl (fun lsB hlB => ?_)
  exact k p e s m args below meth c D ad0 ad ax cA A H locs lsB L0 hC hS hA hL ha hP hD hK hX hM (ev_okS_t hO) (ev_okL_sl hOL (ev_okS_h hO)) (ev_st2 rfl hlB) (by rw [ev_sl_len]; exact hn)
theorem ev_p_astore_n {j : Fin 4} {x : Nat} (hd : decode (ev_c mi) pc = .ok (.astore_n j, 1)) (hb : (j : Nat) < ls.length) (k : ev_ l mi kc ks (pc + 1) (ev_sl ls (j : Nat) (.ref x)) st M Q) : ev_ l mi kc ks pc ls (.ref x :: st) M Q := by
  intro p e s m args below meth c D ad0 ad ax cA A H locs lsA L0 hC hS hA hL ha hP hD hK hX hM hO hOL hl hn
  refine lv_astore_n hC.2.1 hC.2.2.1 hd rfl hl (by rw [← hn]; exact hb) rfl (fun lsB hlB => ?_)
  exact k p e s m args below meth c D ad0 ad ax cA A H locs lsB L0 hC hS hA hL ha hP hD hK hX hM (ev_okS_t hO) (ev_okL_sl hOL (ev_okS_h hO)) (ev_st1 rfl hlB) (by rw [ev_sl_len]; exact hn)
theorem ev_p_astore_nx {j : Fin 4} {x : Nat} (hd : decode (ev_c mi) pc = .ok (.astore_n j, 1)) (hb : (j : Nat) < ls.length) (k : ev_ l mi kc ks (pc + 1) (ev_sl ls (j : Nat) (.retAddr x)) st M Q) : ev_ l mi kc ks pc ls (.retAddr x :: st) M Q := by
  intro p e s m args below meth c D ad0 ad ax cA A H locs lsA L0 hC hS hA hL ha hP hD hK hX hM hO hOL hl hn
  refine lv_astore_n hC.2.1 hC.2.2.1 hd rfl hl (by rw [← hn]; exact hb) rfl (fun lsB hlB => ?_)
  exact k p e s m args below meth c D ad0 ad ax cA A H locs lsB L0 hC hS hA hL ha hP hD hK hX hM (ev_okS_t hO) (ev_okL_sl hOL (ev_okS_h hO)) (ev_st1 rfl hlB) (by rw [ev_sl_len]; exact hn)
theorem ev_p_astore {j : Nat} {x : Nat} (hd : decode (ev_c mi) pc = .ok (.astore j, 2)) (hb : j < ls.length) (k : ev_ l mi kc ks (pc + 2) (ev_sl ls j (.ref x)) st M Q) : ev_ l mi kc ks pc ls (.ref x :: st) M Q := by
  intro p e s m args below meth c D ad0 ad ax cA A H locs lsA L0 hC hS hA hL ha hP hD hK hX hM hO hOL hl hn
  refine lv_astore hC.2.1 hC.2.2.1 hd hl (by rw [← hn]; exact hb) rfl (fun lsB hlB => ?_)
  exact k p e s m args below meth c D ad0 ad ax cA A H locs lsB L0 hC hS hA hL ha hP hD hK hX hM (ev_okS_t hO) (ev_okL_sl hOL (ev_okS_h hO)) (ev_st1 rfl hlB) (by rw [ev_sl_len]; exact hn)
theorem ev_p_astorex {j : Nat} {x : Nat} (hd : decode (ev_c mi) pc = .ok (.astore j, 2)) (hb : j < ls.length) (k : ev_ l mi kc ks (pc + 2) (ev_sl ls j (.retAddr x)) st M Q) : ev_ l mi kc ks pc ls (.retAddr x :: st) M Q := by
  intro p e s m args below meth c D ad0 ad ax cA A H locs lsA L0 hC hS hA hL ha hP hD hK hX hM hO hOL hl hn
  refine lv_astore hC.2.1 hC.2.2.1 hd hl (by rw [← hn]; exact hb) rfl (fun lsB hlB => ?_)
  exact k p e s m args below meth c D ad0 ad ax cA A H locs lsB L0 hC hS hA hL ha hP hD hK hX hM (ev_okS_t hO) (ev_okL_sl hOL (ev_okS_h hO)) (ev_st1 rfl hlB) (by rw [ev_sl_len]; exact hn)
theorem ev_p_iinc {j : Nat} {b : Int} {x : Int32} (hd : decode (ev_c mi) pc = .ok (.iinc j b, 3)) (hv : ls[j]? = some (some (.int x))) (hb : j < ls.length) (k : ev_ l mi kc ks (pc + 3) (ev_sl ls j (.int (x + Int32.ofInt b))) st M Q) : ev_ l mi kc ks pc ls st M Q := by
  intro p e s m args below meth c D ad0 ad ax cA A H locs lsA L0 hC hS hA hL ha hP hD hK hX hM hO hOL hl hn
  obtain ⟨pl, hpl⟩ := List.getElem?_of_mem (ev_mem.mpr ⟨_, hv, rfl⟩ : (j, ev_tr ad ax (.int x)) ∈ ev_lsl (ev_tr ad ax) ls)
  refine lv_iinc (v := x + Int32.ofInt b) hC.2.1 hC.2.2.1 hd hl (k := pl) hpl rfl (by rw [← hn]; exact hb) rfl (fun lsB hlB => ?_)
  exact k p e s m args below meth c D ad0 ad ax cA A H locs lsB L0 hC hS hA hL ha hP hD hK hX hM hO (ev_okL_sl hOL trivial) (ev_st1 rfl hlB) (by rw [ev_sl_len]; exact hn)
theorem ev_p_dup {v : Value} (hc : ev_c2 v = false) (hd : decode (ev_c mi) pc = .ok (.dup, 1)) (k : ev_ l mi kc ks (pc + 1) ls (v :: v :: st) M Q) : ev_ l mi kc ks pc ls (v :: st) M Q := by
  intro p e s m args below meth c D ad0 ad ax cA A H locs lsA L0 hC hS hA hL ha hP hD hK hX hM hO hOL hl hn
  exact lv_dup hC.2.1 hC.2.2.1 hd (by rw [ev_c2_cat, hc]; rfl) (k p e s m args below meth c D ad0 ad ax cA A H locs lsA L0 hC hS hA hL ha hP hD hK hX hM (ev_okS_c.mpr ⟨ev_okS_h hO, hO⟩) hOL hl hn)
theorem ev_p_dup2 {v w : Value} (hc : ev_c2 v = false) (hc2 : ev_c2 w = false) (hd : decode (ev_c mi) pc = .ok (.dup2, 1)) (k : ev_ l mi kc ks (pc + 1) ls (v :: w :: v :: w :: st) M Q) : ev_ l mi kc ks pc ls (v :: w :: st) M Q := by
  intro p e s m args below meth c D ad0 ad ax cA A H locs lsA L0 hC hS hA hL ha hP hD hK hX hM hO hOL hl hn
  exact lv_dup2_11 hC.2.1 hC.2.2.1 hd (by rw [ev_c2_cat, hc]; rfl) (by rw [ev_c2_cat, hc2]; rfl) (k p e s m args below meth c D ad0 ad ax cA A H locs lsA L0 hC hS hA hL ha hP hD hK hX hM (ev_okS_c.mpr ⟨ev_okS_h hO, ev_okS_c.mpr ⟨ev_okS_h (ev_okS_t hO), hO⟩⟩) hOL hl hn)
theorem ev_p_pop {v : Value} (hc : ev_c2 v = false) (hd : decode (ev_c mi) pc = .ok (.pop, 1)) (k : ev_ l mi kc ks (pc + 1) ls st M Q) : ev_ l mi kc ks pc ls (v :: st) M Q := by
  intro p e s m args below meth c D ad0 ad ax cA A H locs lsA L0 hC hS hA hL ha hP hD hK hX hM hO hOL hl hn
  exact lv_pop hC.2.1 hC.2.2.1 hd (by rw [ev_c2_cat, hc]; rfl) (k p e s m args below meth c D ad0 ad ax cA A H locs lsA L0 hC hS hA hL ha hP hD hK hX hM (ev_okS_t hO) hOL hl hn)
/-! the block: many of them at once -/
def ev_k (n k : Nat) (ls : ev_L) (o : Option (List Value)) : Option (ev_L × List Value) := bif n == k then o.map (fun s => (ls, s)) else none
theorem ev_k_eq {n k : Nat} {ls ls' : ev_L} {o : Option (List Value)} {st' : List Value} (h : ev_k n k ls o = some (ls', st')) : n = k ∧ ls' = ls ∧ o = some st' := by
  unfold ev_k at h
  cases hn : n == k with
  | false => rw [hn] at h; cases h
  | true =>
    rw [hn] at h
    cases o with
    | none => cases h
    | some s => cases h; exact ⟨by simpa using hn, rfl, rfl⟩
def ev_kl (n k : Nat) (st : List Value) (o : Option ev_L) : Option (ev_L × List Value) := bif n == k then o.map (fun s => (s, st)) else none
theorem ev_kl_eq {n k : Nat} {ls' : ev_L} {o : Option ev_L} {st st' : List Value} (h : ev_kl n k st o = some (ls', st')) : n = k ∧ st' = st ∧ o = some ls' := by
  unfold ev_kl at h
  cases hn : n == k with
  | false => rw [hn] at h; cases h
  | true =>
    rw [hn] at h
    cases o with
    | none => cases h
    | some s => cases h; exact ⟨by simpa using hn, rfl, rfl⟩
def ev_i1 (st : List Value) (f : Int32 → Value) : Option (List Value) := match st with
  | .int x :: r => some (f x :: r)
  | _ => none
theorem ev_i1_eq {st st' : List Value} {f : Int32 → Value} (h : ev_i1 st f = some st') : ∃ x r, st = .int x :: r ∧ st' = f x :: r := by
  unfold ev_i1 at h
  split at h
  · cases h; exact ⟨_, _, rfl, rfl⟩
  · cases h
def ev_l1 (st : List Value) (f : Int64 → Value) : Option (List Value) := match st with
  | .long x :: r => some (f x :: r)
  | _ => none
theorem ev_l1_eq {st st' : List Value} {f : Int64 → Value} (h : ev_l1 st f = some st') : ∃ x r, st = .long x :: r ∧ st' = f x :: r := by
  unfold ev_l1 at h
  split at h
  · cases h; exact ⟨_, _, rfl, rfl⟩
  · cases h
def ev_i2 (st : List Value) (f : Int32 → Int32 → Value) : Option (List Value) := match st with
  | .int y :: .int x :: r => some (f x y :: r)
  | _ => none
theorem ev_i2_eq {st st' : List Value} {f : Int32 → Int32 → Value} (h : ev_i2 st f = some st') : ∃ x y r, st = .int y :: .int x :: r ∧ st' = f x y :: r := by
  unfold ev_i2 at h
  split at h
  · cases h; exact ⟨_, _, _, rfl, rfl⟩
  · cases h
def ev_l2 (st : List Value) (f : Int64 → Int64 → Value) : Option (List Value) := match st with
  | .long y :: .long x :: r => some (f x y :: r)
  | _ => none
theorem ev_l2_eq {st st' : List Value} {f : Int64 → Int64 → Value} (h : ev_l2 st f = some st') : ∃ x y r, st = .long y :: .long x :: r ∧ st' = f x y :: r := by
  unfold ev_l2 at h
  split at h
  · cases h; exact ⟨_, _, _, rfl, rfl⟩
  · cases h
def ev_li (st : List Value) (f : Int64 → Int32 → Value) : Option (List Value) := match st with
  | .int y :: .long x :: r => some (f x y :: r)
  | _ => none
theorem ev_li_eq {st st' : List Value} {f : Int64 → Int32 → Value} (h : ev_li st f = some st') : ∃ x y r, st = .int y :: .long x :: r ∧ st' = f x y :: r := by
  unfold ev_li at h
  split at h
  · cases h; exact ⟨_, _, _, rfl, rfl⟩
  · cases h
def ev_ld (w : Nat) (ls : ev_L) (i : Nat) (st : List Value) : Option (List Value) := match ls[i]? with
  | some (some (.int x)) => bif w == 0 then some (.int x :: st) else none
  | some (some (.long x)) => bif w == 1 then some (.long x :: st) else none
  | some (some (.ref x)) => bif w == 2 then some (.ref x :: st) else none
  | some (some (.retAddr x)) => bif w == 2 then some (.retAddr x :: st) else none
  | _ => none
theorem ev_ld_eq {w i : Nat} {ls : ev_L} {st st' : List Value} (h : ev_ld w ls i st = some st') : ∃ v, ls[i]? = some (some v) ∧ st' = v :: st ∧ ((w = 0 ∧ ∃ x, v = .int x) ∨ (w = 1 ∧ ∃ x, v = .long x) ∨ (w = 2 ∧ ((∃ x, v = .ref x) ∨ ∃ x, v = .retAddr x))) := by
  unfold ev_ld at h
  split at h
  · rename_i x hx
    cases hw : w == 0 <;> rw [hw] at h <;> cases h
    exact ⟨_, hx, rfl, Or.inl ⟨by simpa using hw, _, rfl⟩⟩
  · rename_i x hx
    cases hw : w == 1 <;> rw [hw] at h <;> cases h
    exact ⟨_, hx, rfl, Or.inr (Or.inl ⟨by simpa using hw, _, rfl⟩)⟩
  · rename_i x hx
    cases hw : w == 2 <;> rw [hw] at h <;> cases h
    exact ⟨_, hx, rfl, Or.inr (Or.inr ⟨by simpa using hw, Or.inl ⟨_, rfl⟩⟩)⟩
  · rename_i x hx
    cases hw : w == 2 <;> rw [hw] at h <;> cases h
    exact ⟨_, hx, rfl, Or.inr (Or.inr ⟨by simpa using hw, Or.inr ⟨_, rfl⟩⟩)⟩
  · cases h
def ev_sto (n k w : Nat) (ls : ev_L) (i : Nat) (st : List Value) : Option (ev_L × List Value) := bif n == k then (match st with
  | .int x :: r => bif w == 0 && Nat.blt i ls.length then some (ev_sl ls i (.int x), r) else none
  | .long x :: r => bif w == 1 && Nat.blt (i + 1) ls.length then some (ev_sl ls i (.long x), r) else none
  | .ref x :: r => bif w == 2 && Nat.blt i ls.length then some (ev_sl ls i (.ref x), r) else none
  | .retAddr x :: r => bif w == 2 && Nat.blt i ls.length then some (ev_sl ls i (.retAddr x), r) else none
  | _ => none) else none
theorem ev_sto_eq {n k w i : Nat} {ls ls' : ev_L} {st st' : List Value} (h : ev_sto n k w ls i st = some (ls', st')) : n = k ∧ ∃ v, st = v :: st' ∧ ls' = ev_sl ls i v ∧ ((w = 0 ∧ i < ls.length ∧ ∃ x, v = .int x) ∨ (w = 1 ∧ i + 1 < ls.length ∧ ∃ x, v = .long x) ∨ (w = 2 ∧ i < ls.length ∧ ((∃ x, v = .ref x) ∨ ∃ x, v = .retAddr x))) := by
  unfold ev_sto at h
  cases hn : n == k with
  | false => rw [hn] at h; cases h
  | true =>
    rw [hn] at h
    refine ⟨by simpa using hn, ?_⟩
    simp only [cond_true] at h
    split at h
    · rename_i x r
      cases hw : (w == 0 && Nat.blt i ls.length) <;> rw [hw] at h <;> cases h
      simp only [Bool.and_eq_true, beq_iff_eq, Nat.blt_eq] at hw
      exact ⟨_, rfl, rfl, Or.inl ⟨hw.1, hw.2, _, rfl⟩⟩
    · rename_i x r
      cases hw : (w == 1 && Nat.blt (i + 1) ls.length) <;> rw [hw] at h <;> cases h
      simp only [Bool.and_eq_true, beq_iff_eq, Nat.blt_eq] at hw
      exact ⟨_, rfl, rfl, Or.inr (Or.inl ⟨hw.1, hw.2, _, rfl⟩)⟩
    · rename_i x r
      cases hw : (w == 2 && Nat.blt i ls.length) <;> rw [hw] at h <;> cases h
      simp only [Bool.and_eq_true, beq_iff_eq, Nat.blt_eq] at hw
      exact ⟨_, rfl, rfl, Or.inr (Or.inr ⟨hw.1, hw.2, Or.inl ⟨_, rfl⟩⟩)⟩
    · rename_i x r
      cases hw : (w == 2 && Nat.blt i ls.length) <;> rw [hw] at h <;> cases h
      simp only [Bool.and_eq_true, beq_iff_eq, Nat.blt_eq] at hw
      exact ⟨_, rfl, rfl, Or.inr (Or.inr ⟨hw.1, hw.2, Or.inr ⟨_, rfl⟩⟩)⟩
    · cases h
def ev_d1 (st : List Value) (f : Value → List Value → List Value) : Option (List Value) := match st with
  | v :: r => bif ev_c2 v then none else some (f v r)
  | _ => none
theorem ev_d1_eq {st st' : List Value} {f : Value → List Value → List Value} (h : ev_d1 st f = some st') : ∃ v r, st = v :: r ∧ ev_c2 v = false ∧ st' = f v r := by
  unfold ev_d1 at h
  split at h
  · rename_i v r
    cases hc : ev_c2 v <;> rw [hc] at h <;> cases h
    exact ⟨_, _, rfl, hc, rfl⟩
  · cases h
def ev_d2 (st : List Value) : Option (List Value) := match st with
  | v :: w :: r => bif ev_c2 v || ev_c2 w then none else some (v :: w :: v :: w :: r)
  | _ => none
theorem ev_d2_eq {st st' : List Value} (h : ev_d2 st = some st') : ∃ v w r, st = v :: w :: r ∧ ev_c2 v = false ∧ ev_c2 w = false ∧ st' = v :: w :: v :: w :: r := by
  unfold ev_d2 at h
  split at h
  · rename_i v w r
    cases hc : (ev_c2 v || ev_c2 w) <;> rw [hc] at h <;> cases h
    simp only [Bool.or_eq_false_iff] at hc
    exact ⟨_, _, _, rfl, hc.1, hc.2, rfl⟩
  · cases h
def ev_inc (ls : ev_L) (j : Nat) (b : Int) : Option ev_L := match ls[j]? with
  | some (some (.int x)) => some (ev_sl ls j (.int (x + Int32.ofInt b)))
  | _ => none
theorem ev_inc_eq {ls ls' : ev_L} {j : Nat} {b : Int} (h : ev_inc ls j b = some ls') : ∃ x, ls[j]? = some (some (.int x)) ∧ ls' = ev_sl ls j (.int (x + Int32.ofInt b)) := by
  unfold ev_inc at h
  split at h
  · rename_i x hx; cases h; exact ⟨_, hx, rfl⟩
  · cases h
def ev_ex (i : Instr) (n : Nat) (ls : ev_L) (st : List Value) : Option (ev_L × List Value) := match i with
  | .iadd => ev_k n 1 ls (ev_i2 st (fun x y => .int (x + y)))
  | .isub => ev_k n 1 ls (ev_i2 st (fun x y => .int (x - y)))
  | .imul => ev_k n 1 ls (ev_i2 st (fun x y => .int (x * y)))
  | .iand => ev_k n 1 ls (ev_i2 st (fun x y => .int (x &&& y)))
  | .ior => ev_k n 1 ls (ev_i2 st (fun x y => .int (x ||| y)))
  | .ladd => ev_k n 1 ls (ev_l2 st (fun x y => .long (x + y)))
  | .lsub => ev_k n 1 ls (ev_l2 st (fun x y => .long (x - y)))
  | .lmul => ev_k n 1 ls (ev_l2 st (fun x y => .long (x * y)))
  | .land => ev_k n 1 ls (ev_l2 st (fun x y => .long (x &&& y)))
  | .lor => ev_k n 1 ls (ev_l2 st (fun x y => .long (x ||| y)))
  | .ishl => ev_k n 1 ls (ev_i2 st (fun x y => .int (x <<< (y &&& 31))))
  | .ishr => ev_k n 1 ls (ev_i2 st (fun x y => .int (x >>> (y &&& 31))))
  | .lshl => ev_k n 1 ls (ev_li st (fun x y => .long (x <<< (y.toInt64 &&& 63))))
  | .lshr => ev_k n 1 ls (ev_li st (fun x y => .long (x >>> (y.toInt64 &&& 63))))
  | .i2l => ev_k n 1 ls (ev_i1 st (fun x => .long x.toInt64))
  | .l2i => ev_k n 1 ls (ev_l1 st (fun x => .int x.toInt32))
  | .i2c => ev_k n 1 ls (ev_i1 st (fun x => .int (x.toUInt32 % 65536).toInt32))
  | .lcmp => ev_k n 1 ls (ev_l2 st (fun x y => .int (lg_cmp x y)))
  | .iconst b => ev_k n 1 ls (some (.int (Int32.ofInt b) :: st))
  | .bipush b => ev_k n 2 ls (some (.int (Int8.ofInt b).toInt32 :: st))
  | .sipush b => ev_k n 3 ls (some (.int (Int16.ofInt b).toInt32 :: st))
  | .lconst b => ev_k n 1 ls (some (.long (Int64.ofNat (b : Nat)) :: st))
  | .iload_n j => ev_k n 1 ls (ev_ld 0 ls (j : Nat) st)
  | .istore_n j => ev_sto n 1 0 ls (j : Nat) st
  | .iload j => ev_k n 2 ls (ev_ld 0 ls j st)
  | .istore j => ev_sto n 2 0 ls j st
  | .lload_n j => ev_k n 1 ls (ev_ld 1 ls (j : Nat) st)
  | .lstore_n j => ev_sto n 1 1 ls (j : Nat) st
  | .lload j => ev_k n 2 ls (ev_ld 1 ls j st)
  | .lstore j => ev_sto n 2 1 ls j st
  | .aload_n j => ev_k n 1 ls (ev_ld 2 ls (j : Nat) st)
  | .astore_n j => ev_sto n 1 2 ls (j : Nat) st
  | .aload j => ev_k n 2 ls (ev_ld 2 ls j st)
  | .astore j => ev_sto n 2 2 ls j st
  | .iinc j b => ev_kl n 3 st (ev_inc ls j b)
  | .dup => ev_k n 1 ls (ev_d1 st (fun v r => v :: v :: r))
  | .pop => ev_k n 1 ls (ev_d1 st (fun _ r => r))
  | .dup2 => ev_k n 1 ls (ev_d2 st)
  | _ => none
theorem ev_ex1 {i : Instr} {n : Nat} {ls' : ev_L} {st' : List Value} (hd : decode (ev_c mi) pc = .ok (i, n)) (hs : ev_ex i n ls st = some (ls', st')) (k : ev_ l mi kc ks (pc + n) ls' st' M Q) : ev_ l mi kc ks pc ls st M Q := by
  cases i with
  | iadd =>
    obtain ⟨rfl, rfl, h⟩ := ev_k_eq hs
    obtain ⟨x, y, r, rfl, rfl⟩ := ev_i2_eq h
    exact ev_p_iadd hd k
  | isub =>
    obtain ⟨rfl, rfl, h⟩ := ev_k_eq hs
    obtain ⟨x, y, r, rfl, rfl⟩ := ev_i2_eq h
    exact ev_p_isub hd k
  | imul =>
    obtain ⟨rfl, rfl, h⟩ := ev_k_eq hs
    obtain ⟨x, y, r, rfl, rfl⟩ := ev_i2_eq h
    exact ev_p_imul hd k
  | iand =>
    obtain ⟨rfl, rfl, h⟩ := ev_k_eq hs
    obtain ⟨x, y, r, rfl, rfl⟩ := ev_i2_eq h
    exact ev_p_iand hd k
  | ior =>
    obtain ⟨rfl, rfl, h⟩ := ev_k_eq hs
    obtain ⟨x, y, r, rfl, rfl⟩ := ev_i2_eq h
    exact ev_p_ior hd k
  | ladd =>
    obtain ⟨rfl, rfl, h⟩ := ev_k_eq hs
    obtain ⟨x, y, r, rfl, rfl⟩ := ev_l2_eq h
    exact ev_p_ladd hd k
  | lsub =>
    obtain ⟨rfl, rfl, h⟩ := ev_k_eq hs
    obtain ⟨x, y, r, rfl, rfl⟩ := ev_l2_eq h
    exact ev_p_lsub hd k
  | lmul =>
    obtain ⟨rfl, rfl, h⟩ := ev_k_eq hs
    obtain ⟨x, y, r, rfl, rfl⟩ := ev_l2_eq h
    exact ev_p_lmul hd k
  | land =>
    obtain ⟨rfl, rfl, h⟩ := ev_k_eq hs
    obtain ⟨x, y, r, rfl, rfl⟩ := ev_l2_eq h
    exact ev_p_land hd k
  | lor =>
    obtain ⟨rfl, rfl, h⟩ := ev_k_eq hs
    obtain ⟨x, y, r, rfl, rfl⟩ := ev_l2_eq h
    exact ev_p_lor hd k
  | ishl =>
    obtain ⟨rfl, rfl, h⟩ := ev_k_eq hs
    obtain ⟨x, y, r, rfl, rfl⟩ := ev_i2_eq h
    exact ev_p_ishl hd k
  | ishr =>
    obtain ⟨rfl, rfl, h⟩ := ev_k_eq hs
    obtain ⟨x, y, r, rfl, rfl⟩ := ev_i2_eq h
    exact ev_p_ishr hd k
  | lshl =>
    obtain ⟨rfl, rfl, h⟩ := ev_k_eq hs
    obtain ⟨x, y, r, rfl, rfl⟩ := ev_li_eq h
    exact ev_p_lshl hd k
  | lshr =>
    obtain ⟨rfl, rfl, h⟩ := ev_k_eq hs
    obtain ⟨x, y, r, rfl, rfl⟩ := ev_li_eq h
    exact ev_p_lshr hd k
  | i2l =>
    obtain ⟨rfl, rfl, h⟩ := ev_k_eq hs
    obtain ⟨x, r, rfl, rfl⟩ := ev_i1_eq h
    exact ev_p_i2l hd k
  | l2i =>
    obtain ⟨rfl, rfl, h⟩ := ev_k_eq hs
    obtain ⟨x, r, rfl, rfl⟩ := ev_l1_eq h
    exact ev_p_l2i hd k
  | i2c =>
    obtain ⟨rfl, rfl, h⟩ := ev_k_eq hs
    obtain ⟨x, r, rfl, rfl⟩ := ev_i1_eq h
    exact ev_p_i2c hd k
  | lcmp =>
    obtain ⟨rfl, rfl, h⟩ := ev_k_eq hs
    obtain ⟨x, y, r, rfl, rfl⟩ := ev_l2_eq h
    exact ev_p_lcmp hd k
  | iconst b =>
    obtain ⟨rfl, rfl, h⟩ := ev_k_eq hs
    cases h
    exact ev_p_iconst hd k
  | bipush b =>
    obtain ⟨rfl, rfl, h⟩ := ev_k_eq hs
    cases h
    exact ev_p_bipush hd k
  | sipush b =>
    obtain ⟨rfl, rfl, h⟩ := ev_k_eq hs
    cases h
    exact ev_p_sipush hd k
  | lconst b =>
    obtain ⟨rfl, rfl, h⟩ := ev_k_eq hs
    cases h
    exact ev_p_lconst hd k
  | iload_n j =>
    obtain ⟨rfl, rfl, h⟩ := ev_k_eq hs
    obtain ⟨v, hv, rfl, hc⟩ := ev_ld_eq h
    rcases hc with ⟨-, x, rfl⟩ | ⟨hw, -⟩ | ⟨hw, -⟩
    · exact ev_p_iload_n hd hv k
    · cases hw
    · cases hw
  | istore_n j =>
    obtain ⟨rfl, v, rfl, rfl, hc⟩ := ev_sto_eq hs
    rcases hc with ⟨-, hb, x, rfl⟩ | ⟨hw, -⟩ | ⟨hw, -⟩
    · exact ev_p_istore_n hd hb k
    · cases hw
    · cases hw
  | iload j =>
    obtain ⟨rfl, rfl, h⟩ := ev_k_eq hs
    obtain ⟨v, hv, rfl, hc⟩ := ev_ld_eq h
    rcases hc with ⟨-, x, rfl⟩ | ⟨hw, -⟩ | ⟨hw, -⟩
    · exact ev_p_iload hd hv k
    · cases hw
    · cases hw
  | istore j =>
    obtain ⟨rfl, v, rfl, rfl, hc⟩ := ev_sto_eq hs
    rcases hc with ⟨-, hb, x, rfl⟩ | ⟨hw, -⟩ | ⟨hw, -⟩
    · exact ev_p_istore hd hb k
    · cases hw
    · cases hw
  | lload_n j =>
    obtain ⟨rfl, rfl, h⟩ := ev_k_eq hs
    obtain ⟨v, hv, rfl, hc⟩ := ev_ld_eq h
    rcases hc with ⟨hw, -⟩ | ⟨-, x, rfl⟩ | ⟨hw, -⟩
    · cases hw
    · exact ev_p_lload_n hd hv k
    · cases hw
  | lstore_n j =>
    obtain ⟨rfl, v, rfl, rfl, hc⟩ := ev_sto_eq hs
    rcases hc with ⟨hw, -⟩ | ⟨-, hb, x, rfl⟩ | ⟨hw, -⟩
    · cases hw
    · exact ev_p_lstore_n hd hb k
    · cases hw
  | lload j =>
    obtain ⟨rfl, rfl, h⟩ := ev_k_eq hs
    obtain ⟨v, hv, rfl, hc⟩ := ev_ld_eq h
    rcases hc with ⟨hw, -⟩ | ⟨-, x, rfl⟩ | ⟨hw, -⟩
    · cases hw
    · exact ev_p_lload hd hv k
    · cases hw
  | lstore j =>
    obtain ⟨rfl, v, rfl, rfl, hc⟩ := ev_sto_eq hs
    rcases hc with ⟨hw, -⟩ | ⟨-, hb, x, rfl⟩ | ⟨hw, -⟩
    · cases hw
    · exact ev_p_lstore hd hb k
    · cases hw
  | aload_n j =>
    obtain ⟨rfl, rfl, h⟩ := ev_k_eq hs
    obtain ⟨v, hv, rfl, hc⟩ := ev_ld_eq h
    rcases hc with ⟨hw, -⟩ | ⟨hw, -⟩ | ⟨-, ⟨x, rfl⟩ | ⟨x, rfl⟩⟩
    · cases hw
    · cases hw
    · exact ev_p_aload_n hd hv k
    · exact ev_p_aload_nx hd hv k
  | astore_n j =>
    obtain ⟨rfl, v, rfl, rfl, hc⟩ := ev_sto_eq hs
    rcases hc with ⟨hw, -⟩ | ⟨hw, -⟩ | ⟨-, hb, ⟨x, rfl⟩ | ⟨x, rfl⟩⟩
    · cases hw
    · cases hw
    · exact ev_p_astore_n hd hb k
    · exact ev_p_astore_nx hd hb k
  | aload j =>
    obtain ⟨rfl, rfl, h⟩ := ev_k_eq hs
    obtain ⟨v, hv, rfl, hc⟩ := ev_ld_eq h
    rcases hc with ⟨hw, -⟩ | ⟨hw, -⟩ | ⟨-, ⟨x, rfl⟩ | ⟨x, rfl⟩⟩
    · cases hw
    · cases hw
    · exact ev_p_aload hd hv k
    · exact ev_p_aloadx hd hv k
  | astore j =>
    obtain ⟨rfl, v, rfl, rfl, hc⟩ := ev_sto_eq hs
    rcases hc with ⟨hw, -⟩ | ⟨hw, -⟩ | ⟨-, hb, ⟨x, rfl⟩ | ⟨x, rfl⟩⟩
    · cases hw
    · cases hw
    · exact ev_p_astore hd hb k
    · exact ev_p_astorex hd hb k
  | iinc j b =>
    obtain ⟨rfl, rfl, h⟩ := ev_kl_eq hs
    obtain ⟨x, hv, rfl⟩ := ev_inc_eq h
    exact ev_p_iinc hd hv (List.getElem?_eq_some_iff.mp hv).1 k
  | dup =>
    obtain ⟨rfl, rfl, h⟩ := ev_k_eq hs
    obtain ⟨v, r, rfl, hc, rfl⟩ := ev_d1_eq h
    exact ev_p_dup hc hd k
  | pop =>
    obtain ⟨rfl, rfl, h⟩ := ev_k_eq hs
    obtain ⟨v, r, rfl, hc, rfl⟩ := ev_d1_eq h
    exact ev_p_pop hc hd k
  | dup2 =>
    obtain ⟨rfl, rfl, h⟩ := ev_k_eq hs
    obtain ⟨v, w, r, rfl, hc, hc2, rfl⟩ := ev_d2_eq h
    exact ev_p_dup2 hc hc2 hd k
  | _ => cases hs
def ev_exs : List (Instr × Nat) → ev_L → List Value → Option (ev_L × List Value)
  | [], ls, st => some (ls, st)
  | q :: r, ls, st => match ev_ex q.1 q.2 ls st with
    | some (ls', st') => ev_exs r ls' st'
    | none => none
def ev_dec (b : ByteArray) : Nat → List (Instr × Nat) → Nat → Prop
  | pc, [], pe => pc = pe
  | pc, q :: r, pe => decode b pc = .ok (q.1, q.2) ∧ ev_dec b (pc + q.2) r pe
theorem ev_blk {pe : Nat} {B : List (Instr × Nat)} (hd : ev_dec (ev_c mi) pc B pe) {ls' : ev_L} {st' : List Value} (hs : ev_exs B ls st = some (ls', st')) (k : ev_ l mi kc ks pe ls' st' M Q) : ev_ l mi kc ks pc ls st M Q := by
  induction B generalizing pc ls st with
  | nil =>
    cases hs
    have : pc = pe := hd
    subst this
    exact k
  | cons q r ih =>
    obtain ⟨h1, h2⟩ := hd
    cases hx : ev_ex q.1 q.2 ls st with
    | none => rw [ev_exs, hx] at hs; cases hs
    | some z =>
      obtain ⟨l1, s1⟩ := z
      rw [ev_exs, hx] at hs
      exact ev_ex1 h1 hx (ih h2 hs)
end EVP
