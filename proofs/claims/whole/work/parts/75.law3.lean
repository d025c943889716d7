/-! ===== the law's own walk: as ev_, and a script lies outside ===== -/
def el_X (xs : Nat → Int32) (N9 : Nat) (ax : Nat → Nat) (A : Nat → Prop) (U : State) (H : Heap) : Prop := ev_X ax A U H ∧ va_T .int (ax 20) N9 (fun j => .int (xs j)) A U H
def el_Cx (l : Launch) (mi : ev_MI) (p : Program) (s : State) (m : MethodId) (args : Array Value) (meth : Method) (c : Code) : Prop :=
  l.stackTraces = false ∧ p.tables.exec = Jvm.exec ∧ c.code = ev_c mi ∧ c.maxLocals = ev_n mi ∧ s.vm.findClass (ev_y mi).cls = some m.cls ∧ (∀ w ∈ ev_bw, w.before args s = true) ∧ meth.locks = false ∧ meth.sig.returnType = ev_r mi ∧ True
def el_ (xs : Nat → Int32) (N9 : Nat) (l : Launch) (mi : ev_MI) (kc ks pc : Nat) (ls : ev_L) (st : List Value) (M : ev_M) (Q : ev_R → ev_M → Prop) : Prop :=
  ∀ (p : Program) (e : Env) (s : State) (m : MethodId) (args : Array Value) (below : List Frame) (meth : Method) (c : Code) (D : va_G) (ad0 ad ax cA : Nat → Nat) (A : Nat → Prop) (H : Heap) (locs : List Loc) (lsA : Array Slot) (L0 : Nat),
    el_Cx l mi p s m args meth c → va_S A s.heap H locs → (∀ q, s.heap.size ≤ q → A q) → L0 ≤ M.length → (∀ k, k < L0 → ad k = ad0 k) →
    va_P D vwCl (ev_wl ad ax cA M) H → va_D A (ev_wl ad ax cA M) → va_K D vwCl (ev_tys cA) s → el_X xs N9 ax A s s.heap → ev_okM M → ev_okS M.length st → ev_okL M.length ls →
    lv_has lsA (ev_n mi) (ev_lsl (ev_tr ad ax) ls) → ls.length = ev_n mi →
    W p l e (ev_rm mi) s m args below meth c H locs kc ks (vx_MQ below (ev_Qc D ad0 ax cA A L0 Q) (ev_XC D ad0 ax cA A L0 Q) args s (ev_mc mi) (ev_ms mi) A) (F0 m pc lsA (st.map (ev_tr ad ax)))
section
variable {xs : Nat → Int32} {N9 : Nat} {l : Launch} {mi mj : ev_MI} {kc ks pc : Nat} {ls : ev_L} {st : List Value} {M : ev_M} {Q : ev_R → ev_M → Prop}
theorem el_wid {kc' ks' : Nat} (h1 : kc ≤ kc') (h2 : ks ≤ ks') (k : el_ xs N9 l mi kc' ks' pc ls st M Q) : el_ xs N9 l mi kc ks pc ls st M Q := by
  intro p e s m args below meth c D ad0 ad ax cA A H locs lsA L0 hC hS hA hL ha hP hD hK hX hM hO hOL hl hn
  exact W.widen h1 h2 (k p e s m args below meth c D ad0 ad ax cA A H locs lsA L0 hC hS hA hL ha hP hD hK hX hM hO hOL hl hn)
theorem el_mq {M1 : ev_M} (h : M = M1) (k : el_ xs N9 l mi kc ks pc ls st M1 Q) : el_ xs N9 l mi kc ks pc ls st M Q := h ▸ k
theorem el_slen {v : Int32} (hv : Int32.ofNat N9 = v) (hd : decode (ev_c mi) pc = .ok (.arraylength, 1)) (kk : el_ xs N9 l mi kc ks (pc + 1) ls (.int v :: st) M Q) : el_ xs N9 l mi kc ks pc ls (.retAddr 20 :: st) M Q := by
  intro p e s m args below meth c D ad0 ad ax cA A H locs lsA L0 hC hS hA hL ha hP hD hK hX hM hO hOL hl hn
  exact va_tlen hC.2.1 hC.2.2.1 hX.2 hS hv hd (kk p e s m args below meth c D ad0 ad ax cA A H locs lsA L0 hC hS hA hL ha hP hD hK hX hM (ev_okS_c.mpr ⟨trivial, ev_okS_t hO⟩) hOL hl hn)
theorem el_sld {i : Int32} (hi : vp_in i N9) (hd : decode (ev_c mi) pc = .ok (.iaload, 1)) (kk : el_ xs N9 l mi kc ks (pc + 1) ls (.int (xs i.toNatClampNeg) :: st) M Q) : el_ xs N9 l mi kc ks pc ls (.int i :: .retAddr 20 :: st) M Q := by
  intro p e s m args below meth c D ad0 ad ax cA A H locs lsA L0 hC hS hA hL ha hP hD hK hX hM hO hOL hl hn
  exact va_ti hC.2.1 hC.2.2.1 hX.2 hS hi rfl hd (kk p e s m args below meth c D ad0 ad ax cA A H locs lsA L0 hC hS hA hL ha hP hD hK hX hM (ev_okS_c.mpr ⟨trivial, ev_okS_t (ev_okS_t hO)⟩) hOL hl hn)
theorem el_p_iadd {y : Int32} {x : Int32} (hd : decode (ev_c mi) pc = .ok (.iadd, 1)) (k : el_ xs N9 l mi kc ks (pc + 1) ls (.int (x + y) :: st) M Q) : el_ xs N9 l mi kc ks pc ls (.int y :: .int x :: st) M Q := by
  intro p e s m args below meth c D ad0 ad ax cA A H locs lsA L0 hC hS hA hL ha hP hD hK hX hM hO hOL hl hn
  exact lv_iadd hC.2.1 hC.2.2.1 hd  (k p e s m args below meth c D ad0 ad ax cA A H locs lsA L0 hC hS hA hL ha hP hD hK hX hM (ev_okS_c.mpr ⟨trivial, (ev_okS_t (ev_okS_t hO))⟩) hOL hl hn)
theorem el_p_isub {y : Int32} {x : Int32} (hd : decode (ev_c mi) pc = .ok (.isub, 1)) (k : el_ xs N9 l mi kc ks (pc + 1) ls (.int (x - y) :: st) M Q) : el_ xs N9 l mi kc ks pc ls (.int y :: .int x :: st) M Q := by
  intro p e s m args below meth c D ad0 ad ax cA A H locs lsA L0 hC hS hA hL ha hP hD hK hX hM hO hOL hl hn
  exact lv_isub hC.2.1 hC.2.2.1 hd  (k p e s m args below meth c D ad0 ad ax cA A H locs lsA L0 hC hS hA hL ha hP hD hK hX hM (ev_okS_c.mpr ⟨trivial, (ev_okS_t (ev_okS_t hO))⟩) hOL hl hn)
theorem el_p_imul {y : Int32} {x : Int32} (hd : decode (ev_c mi) pc = .ok (.imul, 1)) (k : el_ xs N9 l mi kc ks (pc + 1) ls (.int (x * y) :: st) M Q) : el_ xs N9 l mi kc ks pc ls (.int y :: .int x :: st) M Q := by
  intro p e s m args below meth c D ad0 ad ax cA A H locs lsA L0 hC hS hA hL ha hP hD hK hX hM hO hOL hl hn
  exact lv_imul hC.2.1 hC.2.2.1 hd  (k p e s m args below meth c D ad0 ad ax cA A H locs lsA L0 hC hS hA hL ha hP hD hK hX hM (ev_okS_c.mpr ⟨trivial, (ev_okS_t (ev_okS_t hO))⟩) hOL hl hn)
theorem el_p_iand {y : Int32} {x : Int32} (hd : decode (ev_c mi) pc = .ok (.iand, 1)) (k : el_ xs N9 l mi kc ks (pc + 1) ls (.int (x &&& y) :: st) M Q) : el_ xs N9 l mi kc ks pc ls (.int y :: .int x :: st) M Q := by
  intro p e s m args below meth c D ad0 ad ax cA A H locs lsA L0 hC hS hA hL ha hP hD hK hX hM hO hOL hl hn
  exact lv_iand hC.2.1 hC.2.2.1 hd  (k p e s m args below meth c D ad0 ad ax cA A H locs lsA L0 hC hS hA hL ha hP hD hK hX hM (ev_okS_c.mpr ⟨trivial, (ev_okS_t (ev_okS_t hO))⟩) hOL hl hn)
theorem el_p_ior {y : Int32} {x : Int32} (hd : decode (ev_c mi) pc = .ok (.ior, 1)) (k : el_ xs N9 l mi kc ks (pc + 1) ls (.int (x ||| y) :: st) M Q) : el_ xs N9 l mi kc ks pc ls (.int y :: .int x :: st) M Q := by
  intro p e s m args below meth c D ad0 ad ax cA A H locs lsA L0 hC hS hA hL ha hP hD hK hX hM hO hOL hl hn
  exact lv_ior hC.2.1 hC.2.2.1 hd  (k p e s m args below meth c D ad0 ad ax cA A H locs lsA L0 hC hS hA hL ha hP hD hK hX hM (ev_okS_c.mpr ⟨trivial, (ev_okS_t (ev_okS_t hO))⟩) hOL hl hn)
theorem el_p_ladd {y : Int64} {x : Int64} (hd : decode (ev_c mi) pc = .ok (.ladd, 1)) (k : el_ xs N9 l mi kc ks (pc + 1) ls (.long (x + y) :: st) M Q) : el_ xs N9 l mi kc ks pc ls (.long y :: .long x :: st) M Q := by
  intro p e s m args below meth c D ad0 ad ax cA A H locs lsA L0 hC hS hA hL ha hP hD hK hX hM hO hOL hl hn
  exact lv_ladd hC.2.1 hC.2.2.1 hd  (k p e s m args below meth c D ad0 ad ax cA A H locs lsA L0 hC hS hA hL ha hP hD hK hX hM (ev_okS_c.mpr ⟨trivial, (ev_okS_t (ev_okS_t hO))⟩) hOL hl hn)
theorem el_p_lsub {y : Int64} {x : Int64} (hd : decode (ev_c mi) pc = .ok (.lsub, 1)) (k : el_ xs N9 l mi kc ks (pc + 1) ls (.long (x - y) :: st) M Q) : el_ xs N9 l mi kc ks pc ls (.long y :: .long x :: st) M Q := by
  intro p e s m args below meth c D ad0 ad ax cA A H locs lsA L0 hC hS hA hL ha hP hD hK hX hM hO hOL hl hn
  exact lv_lsub hC.2.1 hC.2.2.1 hd  (k p e s m args below meth c D ad0 ad ax cA A H locs lsA L0 hC hS hA hL ha hP hD hK hX hM (ev_okS_c.mpr ⟨trivial, (ev_okS_t (ev_okS_t hO))⟩) hOL hl hn)
theorem el_p_lmul {y : Int64} {x : Int64} (hd : decode (ev_c mi) pc = .ok (.lmul, 1)) (k : el_ xs N9 l mi kc ks (pc + 1) ls (.long (x * y) :: st) M Q) : el_ xs N9 l mi kc ks pc ls (.long y :: .long x :: st) M Q := by
  intro p e s m args below meth c D ad0 ad ax cA A H locs lsA L0 hC hS hA hL ha hP hD hK hX hM hO hOL hl hn
  exact lv_lmul hC.2.1 hC.2.2.1 hd  (k p e s m args below meth c D ad0 ad ax cA A H locs lsA L0 hC hS hA hL ha hP hD hK hX hM (ev_okS_c.mpr ⟨trivial, (ev_okS_t (ev_okS_t hO))⟩) hOL hl hn)
theorem el_p_land {y : Int64} {x : Int64} (hd : decode (ev_c mi) pc = .ok (.land, 1)) (k : el_ xs N9 l mi kc ks (pc + 1) ls (.long (x &&& y) :: st) M Q) : el_ xs N9 l mi kc ks pc ls (.long y :: .long x :: st) M Q := by
  intro p e s m args below meth c D ad0 ad ax cA A H locs lsA L0 hC hS hA hL ha hP hD hK hX hM hO hOL hl hn
  exact lv_land hC.2.1 hC.2.2.1 hd  (k p e s m args below meth c D ad0 ad ax cA A H locs lsA L0 hC hS hA hL ha hP hD hK hX hM (ev_okS_c.mpr ⟨trivial, (ev_okS_t (ev_okS_t hO))⟩) hOL hl hn)
theorem el_p_lor {y : Int64} {x : Int64} (hd : decode (ev_c mi) pc = .ok (.lor, 1)) (k : el_ xs N9 l mi kc ks (pc + 1) ls (.long (x ||| y) :: st) M Q) : el_ xs N9 l mi kc ks pc ls (.long y :: .long x :: st) M Q := by
  intro p e s m args below meth c D ad0 ad ax cA A H locs lsA L0 hC hS hA hL ha hP hD hK hX hM hO hOL hl hn
  exact lv_lor hC.2.1 hC.2.2.1 hd  (k p e s m args below meth c D ad0 ad ax cA A H locs lsA L0 hC hS hA hL ha hP hD hK hX hM (ev_okS_c.mpr ⟨trivial, (ev_okS_t (ev_okS_t hO))⟩) hOL hl hn)
theorem el_p_ishl {y : Int32} {x : Int32} (hd : decode (ev_c mi) pc = .ok (.ishl, 1)) (k : el_ xs N9 l mi kc ks (pc + 1) ls (.int (x <<< (y &&& 31)) :: st) M Q) : el_ xs N9 l mi kc ks pc ls (.int y :: .int x :: st) M Q := by
  intro p e s m args below meth c D ad0 ad ax cA A H locs lsA L0 hC hS hA hL ha hP hD hK hX hM hO hOL hl hn
  exact lv_ishl hC.2.1 hC.2.2.1 hd  (k p e s m args below meth c D ad0 ad ax cA A H locs lsA L0 hC hS hA hL ha hP hD hK hX hM (ev_okS_c.mpr ⟨trivial, (ev_okS_t (ev_okS_t hO))⟩) hOL hl hn)
theorem el_p_ishr {y : Int32} {x : Int32} (hd : decode (ev_c mi) pc = .ok (.ishr, 1)) (k : el_ xs N9 l mi kc ks (pc + 1) ls (.int (x >>> (y &&& 31)) :: st) M Q) : el_ xs N9 l mi kc ks pc ls (.int y :: .int x :: st) M Q := by
  intro p e s m args below meth c D ad0 ad ax cA A H locs lsA L0 hC hS hA hL ha hP hD hK hX hM hO hOL hl hn
  exact lv_ishr hC.2.1 hC.2.2.1 hd  (k p e s m args below meth c D ad0 ad ax cA A H locs lsA L0 hC hS hA hL ha hP hD hK hX hM (ev_okS_c.mpr ⟨trivial, (ev_okS_t (ev_okS_t hO))⟩) hOL hl hn)
theorem el_p_lshl {y : Int32} {x : Int64} (hd : decode (ev_c mi) pc = .ok (.lshl, 1)) (k : el_ xs N9 l mi kc ks (pc + 1) ls (.long (x <<< (y.toInt64 &&& 63)) :: st) M Q) : el_ xs N9 l mi kc ks pc ls (.int y :: .long x :: st) M Q := by
  intro p e s m args below meth c D ad0 ad ax cA A H locs lsA L0 hC hS hA hL ha hP hD hK hX hM hO hOL hl hn
  exact lv_lshl hC.2.1 hC.2.2.1 hd rfl (k p e s m args below meth c D ad0 ad ax cA A H locs lsA L0 hC hS hA hL ha hP hD hK hX hM (ev_okS_c.mpr ⟨trivial, (ev_okS_t (ev_okS_t hO))⟩) hOL hl hn)
theorem el_p_lshr {y : Int32} {x : Int64} (hd : decode (ev_c mi) pc = .ok (.lshr, 1)) (k : el_ xs N9 l mi kc ks (pc + 1) ls (.long (x >>> (y.toInt64 &&& 63)) :: st) M Q) : el_ xs N9 l mi kc ks pc ls (.int y :: .long x :: st) M Q := by
  intro p e s m args below meth c D ad0 ad ax cA A H locs lsA L0 hC hS hA hL ha hP hD hK hX hM hO hOL hl hn
  exact lv_lshr hC.2.1 hC.2.2.1 hd rfl (k p e s m args below meth c D ad0 ad ax cA A H locs lsA L0 hC hS hA hL ha hP hD hK hX hM (ev_okS_c.mpr ⟨trivial, (ev_okS_t (ev_okS_t hO))⟩) hOL hl hn)
theorem el_p_i2l {x : Int32} (hd : decode (ev_c mi) pc = .ok (.i2l, 1)) (k : el_ xs N9 l mi kc ks (pc + 1) ls (.long x.toInt64 :: st) M Q) : el_ xs N9 l mi kc ks pc ls (.int x :: st) M Q := by
  intro p e s m args below meth c D ad0 ad ax cA A H locs lsA L0 hC hS hA hL ha hP hD hK hX hM hO hOL hl hn
  exact lv_i2l hC.2.1 hC.2.2.1 hd rfl (k p e s m args below meth c D ad0 ad ax cA A H locs lsA L0 hC hS hA hL ha hP hD hK hX hM (ev_okS_c.mpr ⟨trivial, (ev_okS_t hO)⟩) hOL hl hn)
theorem el_p_l2i {x : Int64} (hd : decode (ev_c mi) pc = .ok (.l2i, 1)) (k : el_ xs N9 l mi kc ks (pc + 1) ls (.int x.toInt32 :: st) M Q) : el_ xs N9 l mi kc ks pc ls (.long x :: st) M Q := by
  intro p e s m args below meth c D ad0 ad ax cA A H locs lsA L0 hC hS hA hL ha hP hD hK hX hM hO hOL hl hn
  exact lv_l2i hC.2.1 hC.2.2.1 hd rfl (k p e s m args below meth c D ad0 ad ax cA A H locs lsA L0 hC hS hA hL ha hP hD hK hX hM (ev_okS_c.mpr ⟨trivial, (ev_okS_t hO)⟩) hOL hl hn)
theorem el_p_i2c {x : Int32} (hd : decode (ev_c mi) pc = .ok (.i2c, 1)) (k : el_ xs N9 l mi kc ks (pc + 1) ls (.int (x.toUInt32 % 65536).toInt32 :: st) M Q) : el_ xs N9 l mi kc ks pc ls (.int x :: st) M Q := by
  intro p e s m args below meth c D ad0 ad ax cA A H locs lsA L0 hC hS hA hL ha hP hD hK hX hM hO hOL hl hn
  exact lv_i2c hC.2.1 hC.2.2.1 hd rfl (k p e s m args below meth c D ad0 ad ax cA A H locs lsA L0 hC hS hA hL ha hP hD hK hX hM (ev_okS_c.mpr ⟨trivial, (ev_okS_t hO)⟩) hOL hl hn)
theorem el_p_lcmp {y : Int64} {x : Int64} (hd : decode (ev_c mi) pc = .ok (.lcmp, 1)) (k : el_ xs N9 l mi kc ks (pc + 1) ls (.int (lg_cmp x y) :: st) M Q) : el_ xs N9 l mi kc ks pc ls (.long y :: .long x :: st) M Q := by
  intro p e s m args below meth c D ad0 ad ax cA A H locs lsA L0 hC hS hA hL ha hP hD hK hX hM hO hOL hl hn
  exact W.lcmp hC.2.1 hC.2.2.1 hd  (k p e s m args below meth c D ad0 ad ax cA A H locs lsA L0 hC hS hA hL ha hP hD hK hX hM (ev_okS_c.mpr ⟨trivial, (ev_okS_t (ev_okS_t hO))⟩) hOL hl hn)
theorem el_p_iconst {b : Int} (hd : decode (ev_c mi) pc = .ok (.iconst b, 1)) (k : el_ xs N9 l mi kc ks (pc + 1) ls (.int (Int32.ofInt b) :: st) M Q) : el_ xs N9 l mi kc ks pc ls st M Q := by
  intro p e s m args below meth c D ad0 ad ax cA A H locs lsA L0 hC hS hA hL ha hP hD hK hX hM hO hOL hl hn
  exact lv_iconst hC.2.1 hC.2.2.1 hd rfl (k p e s m args below meth c D ad0 ad ax cA A H locs lsA L0 hC hS hA hL ha hP hD hK hX hM (ev_okS_c.mpr ⟨trivial, hO⟩) hOL hl hn)
theorem el_p_bipush {b : Int} (hd : decode (ev_c mi) pc = .ok (.bipush b, 2)) (k : el_ xs N9 l mi kc ks (pc + 2) ls (.int (Int8.ofInt b).toInt32 :: st) M Q) : el_ xs N9 l mi kc ks pc ls st M Q := by
  intro p e s m args below meth c D ad0 ad ax cA A H locs lsA L0 hC hS hA hL ha hP hD hK hX hM hO hOL hl hn
  exact lv_bipush hC.2.1 hC.2.2.1 hd rfl (k p e s m args below meth c D ad0 ad ax cA A H locs lsA L0 hC hS hA hL ha hP hD hK hX hM (ev_okS_c.mpr ⟨trivial, hO⟩) hOL hl hn)
theorem el_p_sipush {b : Int} (hd : decode (ev_c mi) pc = .ok (.sipush b, 3)) (k : el_ xs N9 l mi kc ks (pc + 3) ls (.int (Int16.ofInt b).toInt32 :: st) M Q) : el_ xs N9 l mi kc ks pc ls st M Q := by
  intro p e s m args below meth c D ad0 ad ax cA A H locs lsA L0 hC hS hA hL ha hP hD hK hX hM hO hOL hl hn
  exact lv_sipush hC.2.1 hC.2.2.1 hd rfl (k p e s m args below meth c D ad0 ad ax cA A H locs lsA L0 hC hS hA hL ha hP hD hK hX hM (ev_okS_c.mpr ⟨trivial, hO⟩) hOL hl hn)
theorem el_p_lconst {b : Fin 2} (hd : decode (ev_c mi) pc = .ok (.lconst b, 1)) (k : el_ xs N9 l mi kc ks (pc + 1) ls (.long (Int64.ofNat (b : Nat)) :: st) M Q) : el_ xs N9 l mi kc ks pc ls st M Q := by
  intro p e s m args below meth c D ad0 ad ax cA A H locs lsA L0 hC hS hA hL ha hP hD hK hX hM hO hOL hl hn
  exact lv_lconst hC.2.1 hC.2.2.1 hd rfl (k p e s m args below meth c D ad0 ad ax cA A H locs lsA L0 hC hS hA hL ha hP hD hK hX hM (ev_okS_c.mpr ⟨trivial, hO⟩) hOL hl hn)
theorem el_p_iload_n {j : Fin 4} {x : Int32} (hd : decode (ev_c mi) pc = .ok (.iload_n j, 1)) (hv : ls[(j : Nat)]? = some (some (.int x))) (k : el_ xs N9 l mi kc ks (pc + 1) ls (.int x :: st) M Q) : el_ xs N9 l mi kc ks pc ls st M Q := by
  intro p e s m args below meth c D ad0 ad ax cA A H locs lsA L0 hC hS hA hL ha hP hD hK hX hM hO hOL hl hn
  exact lv_iload_n hC.2.1 hC.2.2.1 hd rfl (hl.2.2 ((j : Nat), _) (ev_mem.mpr ⟨_, hv, rfl⟩)) (k p e s m args below meth c D ad0 ad ax cA A H locs lsA L0 hC hS hA hL ha hP hD hK hX hM (ev_okS_c.mpr ⟨hOL _ _ hv, hO⟩) hOL hl hn)
theorem el_p_iload {j : Nat} {x : Int32} (hd : decode (ev_c mi) pc = .ok (.iload j, 2)) (hv : ls[j]? = some (some (.int x))) (k : el_ xs N9 l mi kc ks (pc + 2) ls (.int x :: st) M Q) : el_ xs N9 l mi kc ks pc ls st M Q := by
  intro p e s m args below meth c D ad0 ad ax cA A H locs lsA L0 hC hS hA hL ha hP hD hK hX hM hO hOL hl hn
  exact lv_iload hC.2.1 hC.2.2.1 hd (hl.2.2 (j, _) (ev_mem.mpr ⟨_, hv, rfl⟩)) (k p e s m args below meth c D ad0 ad ax cA A H locs lsA L0 hC hS hA hL ha hP hD hK hX hM (ev_okS_c.mpr ⟨hOL _ _ hv, hO⟩) hOL hl hn)
theorem el_p_lload_n {j : Fin 4} {x : Int64} (hd : decode (ev_c mi) pc = .ok (.lload_n j, 1)) (hv : ls[(j : Nat)]? = some (some (.long x))) (k : el_ xs N9 l mi kc ks (pc + 1) ls (.long x :: st) M Q) : el_ xs N9 l mi kc ks pc ls st M Q := by
  intro p e s m args below meth c D ad0 ad ax cA A H locs lsA L0 hC hS hA hL ha hP hD hK hX hM hO hOL hl hn
  exact lv_lload_n hC.2.1 hC.2.2.1 hd rfl (hl.2.2 ((j : Nat), _) (ev_mem.mpr ⟨_, hv, rfl⟩)) (k p e s m args below meth c D ad0 ad ax cA A H locs lsA L0 hC hS hA hL ha hP hD hK hX hM (ev_okS_c.mpr ⟨hOL _ _ hv, hO⟩) hOL hl hn)
theorem el_p_lload {j : Nat} {x : Int64} (hd : decode (ev_c mi) pc = .ok (.lload j, 2)) (hv : ls[j]? = some (some (.long x))) (k : el_ xs N9 l mi kc ks (pc + 2) ls (.long x :: st) M Q) : el_ xs N9 l mi kc ks pc ls st M Q := by
  intro p e s m args below meth c D ad0 ad ax cA A H locs lsA L0 hC hS hA hL ha hP hD hK hX hM hO hOL hl hn
  exact lv_lload hC.2.1 hC.2.2.1 hd (hl.2.2 (j, _) (ev_mem.mpr ⟨_, hv, rfl⟩)) (k p e s m args below meth c D ad0 ad ax cA A H locs lsA L0 hC hS hA hL ha hP hD hK hX hM (ev_okS_c.mpr ⟨hOL _ _ hv, hO⟩) hOL hl hn)
theorem el_p_aload_n {j : Fin 4} {x : Nat} (hd : decode (ev_c mi) pc = .ok (.aload_n j, 1)) (hv : ls[(j : Nat)]? = some (some (.ref x))) (k : el_ xs N9 l mi kc ks (pc + 1) ls (.ref x :: st) M Q) : el_ xs N9 l mi kc ks pc ls st M Q := by
  intro p e s m args below meth c D ad0 ad ax cA A H locs lsA L0 hC hS hA hL ha hP hD hK hX hM hO hOL hl hn
  exact lv_aload_n hC.2.1 hC.2.2.1 hd rfl (hl.2.2 ((j : Nat), _) (ev_mem.mpr ⟨_, hv, rfl⟩)) (k p e s m args below meth c D ad0 ad ax cA A H locs lsA L0 hC hS hA hL ha hP hD hK hX hM (ev_okS_c.mpr ⟨hOL _ _ hv, hO⟩) hOL hl hn)
theorem el_p_aload_nx {j : Fin 4} {x : Nat} (hd : decode (ev_c mi) pc = .ok (.aload_n j, 1)) (hv : ls[(j : Nat)]? = some (some (.retAddr x))) (k : el_ xs N9 l mi kc ks (pc + 1) ls (.retAddr x :: st) M Q) : el_ xs N9 l mi kc ks pc ls st M Q := by
  intro p e s m args below meth c D ad0 ad ax cA A H locs lsA L0 hC hS hA hL ha hP hD hK hX hM hO hOL hl hn
  exact lv_aload_n hC.2.1 hC.2.2.1 hd rfl (hl.2.2 ((j : Nat), _) (ev_mem.mpr ⟨_, hv, rfl⟩)) (k p e s m args below meth c D ad0 ad ax cA A H locs lsA L0 hC hS hA hL ha hP hD hK hX hM (ev_okS_c.mpr ⟨hOL _ _ hv, hO⟩) hOL hl hn)
theorem el_p_aload {j : Nat} {x : Nat} (hd : decode (ev_c mi) pc = .ok (.aload j, 2)) (hv : ls[j]? = some (some (.ref x))) (k : el_ xs N9 l mi kc ks (pc + 2) ls (.ref x :: st) M Q) : el_ xs N9 l mi kc ks pc ls st M Q := by
  intro p e s m args below meth c D ad0 ad ax cA A H locs lsA L0 hC hS hA hL ha hP hD hK hX hM hO hOL hl hn
  exact lv_aload hC.2.1 hC.2.2.1 hd (hl.2.2 (j, _) (ev_mem.mpr ⟨_, hv, rfl⟩)) (k p e s m args below meth c D ad0 ad ax cA A H locs lsA L0 hC hS hA hL ha hP hD hK hX hM (ev_okS_c.mpr ⟨hOL _ _ hv, hO⟩) hOL hl hn)
theorem el_p_aloadx {j : Nat} {x : Nat} (hd : decode (ev_c mi) pc = .ok (.aload j, 2)) (hv : ls[j]? = some (some (.retAddr x))) (k : el_ xs N9 l mi kc ks (pc + 2) ls (.retAddr x :: st) M Q) : el_ xs N9 l mi kc ks pc ls st M Q := by
  intro p e s m args below meth c D ad0 ad ax cA A H locs lsA L0 hC hS hA hL ha hP hD hK hX hM hO hOL hl hn
  exact lv_aload hC.2.1 hC.2.2.1 hd (hl.2.2 (j, _) (ev_mem.mpr ⟨_, hv, rfl⟩)) (k p e s m args below meth c D ad0 ad ax cA A H locs lsA L0 hC hS hA hL ha hP hD hK hX hM (ev_okS_c.mpr ⟨hOL _ _ hv, hO⟩) hOL hl hn)
theorem el_p_istore_n {j : Fin 4} {x : Int32} (hd : decode (ev_c mi) pc = .ok (.istore_n j, 1)) (hb : (j : Nat) < ls.length) (k : el_ xs N9 l mi kc ks (pc + 1) (ev_sl ls (j : Nat) (.int x)) st M Q) : el_ xs N9 l mi kc ks pc ls (.int x :: st) M Q := by
  intro p e s m args below meth c D ad0 ad ax cA A H locs lsA L0 hC hS hA hL ha hP hD hK hX hM hO hOL hl hn
  refine lv_istore_n hC.2.1 hC.2.2.1 hd rfl hl (by rw [← hn]; exact hb) rfl (fun lsB hlB => ?_)
  exact k p e s m args below meth c D ad0 ad ax cA A H locs lsB L0 hC hS hA hL ha hP hD hK hX hM (ev_okS_t hO) (ev_okL_sl hOL (ev_okS_h hO)) (ev_st1 rfl hlB) (by rw [ev_sl_len]; exact hn)
theorem el_p_istore {j : Nat} {x : Int32} (hd : decode (ev_c mi) pc = .ok (.istore j, 2)) (hb : j < ls.length) (k : el_ xs N9 l mi kc ks (pc + 2) (ev_sl ls j (.int x)) st M Q) : el_ xs N9 l mi kc ks pc ls (.int x :: st) M Q := by
  intro p e s m args below meth c D ad0 ad ax cA A H locs lsA L0 hC hS hA hL ha hP hD hK hX hM hO hOL hl hn
  refine lv_istore hC.2.1 hC.2.2.1 hd hl (by rw [← hn]; exact hb) rfl (fun lsB hlB => ?_)
  exact k p e s m args below meth c D ad0 ad ax cA A H locs lsB L0 hC hS hA hL ha hP hD hK hX hM (ev_okS_t hO) (ev_okL_sl hOL (ev_okS_h hO)) (ev_st1 rfl hlB) (by rw [ev_sl_len]; exact hn)
theorem el_p_lstore_n {j : Fin 4} {x : Int64} (hd : decode (ev_c mi) pc = .ok (.lstore_n j, 1)) (hb : (j : Nat) + 1 < ls.length) (k : el_ xs N9 l mi kc ks (pc + 1) (ev_sl ls (j : Nat) (.long x)) st M Q) : el_ xs N9 l mi kc ks pc ls (.long x :: st) M Q := by
  intro p e s m args below meth c D ad0 ad ax cA A H locs lsA L0 hC hS hA hL ha hP hD hK hX hM hO hOL hl hn
  refine lv_lstore_n hC.2.1 hC.2.2.1 hd rfl hl (by rw [← hn]; exact hb) rfl (fun lsB hlB => ?_)
  exact k p e s m args below meth c D ad0 ad ax cA A H locs lsB L0 hC hS hA hL ha hP hD hK hX hM (ev_okS_t hO) (ev_okL_sl hOL (ev_okS_h hO)) (ev_st2 rfl hlB) (by rw [ev_sl_len]; exact hn)
theorem el_p_lstore {j : Nat} {x : Int64} (hd : decode (ev_c mi) pc = .ok (.lstore j, 2)) (hb : j + 1 < ls.length) (k : el_ xs N9 l mi kc ks (pc + 2) (ev_sl ls j (.long x)) st M Q) : el_ xs N9 l mi kc ks pc ls (.long x :: st) M Q := by
  intro p e s m args below meth c D ad0 ad ax cA A H locs lsA L0 hC hS hA hL ha hP hD hK hX hM hO hOL hl hn
  refine lv_lstore hC.2.1 hC.2.2.1 hd hl (by rw [← hn]; exact hb) rfl (fun lsB hlB => ?_)
  exact k p e s m args below meth c D ad0 ad ax cA A H locs lsB L0 hC hS hA hL ha hP hD hK hX hM (ev_okS_t hO) (ev_okL_sl hOL (ev_okS_h hO)) (ev_st2 rfl hlB) (by rw [ev_sl_len]; exact hn)
theorem el_p_astore_n {j : Fin 4} {x : Nat} (hd : decode (ev_c mi) pc = .ok (.astore_n j, 1)) (hb : (j : Nat) < ls.length) (k : el_ xs N9 l mi kc ks (pc + 1) (ev_sl ls (j : Nat) (.ref x)) st M Q) : el_ xs N9 l mi kc ks pc ls (.ref x :: st) M Q := by
  intro p e s m args below meth c D ad0 ad ax cA A H locs lsA L0 hC hS hA hL ha hP hD hK hX hM hO hOL hl hn
  refine lv_astore_n hC.2.1 hC.2.2.1 hd rfl hl (by rw [← hn]; exact hb) rfl (fun lsB hlB => ?_)
  exact k p e s m args below meth c D ad0 ad ax cA A H locs lsB L0 hC hS hA hL ha hP hD hK hX hM (ev_okS_t hO) (ev_okL_sl hOL (ev_okS_h hO)) (ev_st1 rfl hlB) (by rw [ev_sl_len]; exact hn)
theorem el_p_astore_nx {j : Fin 4} {x : Nat} (hd : decode (ev_c mi) pc = .ok (.astore_n j, 1)) (hb : (j : Nat) < ls.length) (k : el_ xs N9 l mi kc ks (pc + 1) (ev_sl ls (j : Nat) (.retAddr x)) st M Q) : el_ xs N9 l mi kc ks pc ls (.retAddr x :: st) M Q := by
  intro p e s m args below meth c D ad0 ad ax cA A H locs lsA L0 hC hS hA hL ha hP hD hK hX hM hO hOL hl hn
  refine lv_astore_n hC.2.1 hC.2.2.1 hd rfl hl (by rw [← hn]; exact hb) rfl (fun lsB hlB => ?_)
  exact k p e s m args below meth c D ad0 ad ax cA A H locs lsB L0 hC hS hA hL ha hP hD hK hX hM (ev_okS_t hO) (ev_okL_sl hOL (ev_okS_h hO)) (ev_st1 rfl hlB) (by rw [ev_sl_len]; exact hn)
theorem el_p_astore {j : Nat} {x : Nat} (hd : decode (ev_c mi) pc = .ok (.astore j, 2)) (hb : j < ls.length) (k : el_ xs N9 l mi kc ks (pc + 2) (ev_sl ls j (.ref x)) st M Q) : el_ xs N9 l mi kc ks pc ls (.ref x :: st) M Q := by
  intro p e s m args below meth c D ad0 ad ax cA A H locs lsA L0 hC hS hA hL ha hP hD hK hX hM hO hOL hl hn
  refine lv_astore hC.2.1 hC.2.2.1 hd hl (by rw [← hn]; exact hb) rfl (fun lsB hlB => ?_)
  exact k p e s m args below meth c D ad0 ad ax cA A H locs lsB L0 hC hS hA hL ha hP hD hK hX hM (ev_okS_t hO) (ev_okL_sl hOL (ev_okS_h hO)) (ev_st1 rfl hlB) (by rw [ev_sl_len]; exact hn)
theorem el_p_astorex {j : Nat} {x : Nat} (hd : decode (ev_c mi) pc = .ok (.astore j, 2)) (hb : j < ls.length) (k : el_ xs N9 l mi kc ks (pc + 2) (ev_sl ls j (.retAddr x)) st M Q) : el_ xs N9 l mi kc ks pc ls (.retAddr x :: st) M Q := by
  intro p e s m args below meth c D ad0 ad ax cA A H locs lsA L0 hC hS hA hL ha hP hD hK hX hM hO hOL hl hn
  refine lv_astore hC.2.1 hC.2.2.1 hd hl (by rw [← hn]; exact hb) rfl (fun lsB hlB => ?_)
  exact k p e s m args below meth c D ad0 ad ax cA A H locs lsB L0 hC hS hA hL ha hP hD hK hX hM (ev_okS_t hO) (ev_okL_sl hOL (ev_okS_h hO)) (ev_st1 rfl hlB) (by rw [ev_sl_len]; exact hn)
theorem el_p_iinc {j : Nat} {b : Int} {x : Int32} (hd : decode (ev_c mi) pc = .ok (.iinc j b, 3)) (hv : ls[j]? = some (some (.int x))) (hb : j < ls.length) (k : el_ xs N9 l mi kc ks (pc + 3) (ev_sl ls j (.int (x + Int32.ofInt b))) st M Q) : el_ xs N9 l mi kc ks pc ls st M Q := by
  intro p e s m args below meth c D ad0 ad ax cA A H locs lsA L0 hC hS hA hL ha hP hD hK hX hM hO hOL hl hn
  obtain ⟨pl, hpl⟩ := List.getElem?_of_mem (ev_mem.mpr ⟨_, hv, rfl⟩ : (j, ev_tr ad ax (.int x)) ∈ ev_lsl (ev_tr ad ax) ls)
  refine lv_iinc (v := x + Int32.ofInt b) hC.2.1 hC.2.2.1 hd hl (k := pl) hpl rfl (by rw [← hn]; exact hb) rfl (fun lsB hlB => ?_)
  exact k p e s m args below meth c D ad0 ad ax cA A H locs lsB L0 hC hS hA hL ha hP hD hK hX hM hO (ev_okL_sl hOL trivial) (ev_st1 rfl hlB) (by rw [ev_sl_len]; exact hn)
theorem el_p_dup {v : Value} (hc : ev_c2 v = false) (hd : decode (ev_c mi) pc = .ok (.dup, 1)) (k : el_ xs N9 l mi kc ks (pc + 1) ls (v :: v :: st) M Q) : el_ xs N9 l mi kc ks pc ls (v :: st) M Q := by
  intro p e s m args below meth c D ad0 ad ax cA A H locs lsA L0 hC hS hA hL ha hP hD hK hX hM hO hOL hl hn
  exact lv_dup hC.2.1 hC.2.2.1 hd (by rw [ev_c2_cat, hc]; rfl) (k p e s m args below meth c D ad0 ad ax cA A H locs lsA L0 hC hS hA hL ha hP hD hK hX hM (ev_okS_c.mpr ⟨ev_okS_h hO, hO⟩) hOL hl hn)
theorem el_p_dup2 {v w : Value} (hc : ev_c2 v = false) (hc2 : ev_c2 w = false) (hd : decode (ev_c mi) pc = .ok (.dup2, 1)) (k : el_ xs N9 l mi kc ks (pc + 1) ls (v :: w :: v :: w :: st) M Q) : el_ xs N9 l mi kc ks pc ls (v :: w :: st) M Q := by
  intro p e s m args below meth c D ad0 ad ax cA A H locs lsA L0 hC hS hA hL ha hP hD hK hX hM hO hOL hl hn
  exact lv_dup2_11 hC.2.1 hC.2.2.1 hd (by rw [ev_c2_cat, hc]; rfl) (by rw [ev_c2_cat, hc2]; rfl) (k p e s m args below meth c D ad0 ad ax cA A H locs lsA L0 hC hS hA hL ha hP hD hK hX hM (ev_okS_c.mpr ⟨ev_okS_h hO, ev_okS_c.mpr ⟨ev_okS_h (ev_okS_t hO), hO⟩⟩) hOL hl hn)
theorem el_p_pop {v : Value} (hc : ev_c2 v = false) (hd : decode (ev_c mi) pc = .ok (.pop, 1)) (k : el_ xs N9 l mi kc ks (pc + 1) ls st M Q) : el_ xs N9 l mi kc ks pc ls (v :: st) M Q := by
  intro p e s m args below meth c D ad0 ad ax cA A H locs lsA L0 hC hS hA hL ha hP hD hK hX hM hO hOL hl hn
  exact lv_pop hC.2.1 hC.2.2.1 hd (by rw [ev_c2_cat, hc]; rfl) (k p e s m args below meth c D ad0 ad ax cA A H locs lsA L0 hC hS hA hL ha hP hD hK hX hM (ev_okS_t hO) hOL hl hn)
theorem el_ex1 {i : Instr} {n : Nat} {ls' : ev_L} {st' : List Value} (hd : decode (ev_c mi) pc = .ok (i, n)) (hs : ev_ex i n ls st = some (ls', st')) (k : el_ xs N9 l mi kc ks (pc + n) ls' st' M Q) : el_ xs N9 l mi kc ks pc ls st M Q := by
  cases i with
  | iadd =>
    obtain ⟨rfl, rfl, h⟩ := ev_k_eq hs
    obtain ⟨x, y, r, rfl, rfl⟩ := ev_i2_eq h
    exact el_p_iadd hd k
  | isub =>
    obtain ⟨rfl, rfl, h⟩ := ev_k_eq hs
    obtain ⟨x, y, r, rfl, rfl⟩ := ev_i2_eq h
    exact el_p_isub hd k
  | imul =>
    obtain ⟨rfl, rfl, h⟩ := ev_k_eq hs
    obtain ⟨x, y, r, rfl, rfl⟩ := ev_i2_eq h
    exact el_p_imul hd k
  | iand =>
    obtain ⟨rfl, rfl, h⟩ := ev_k_eq hs
    obtain ⟨x, y, r, rfl, rfl⟩ := ev_i2_eq h
    exact el_p_iand hd k
  | ior =>
    obtain ⟨rfl, rfl, h⟩ := ev_k_eq hs
    obtain ⟨x, y, r, rfl, rfl⟩ := ev_i2_eq h
    exact el_p_ior hd k
  | ladd =>
    obtain ⟨rfl, rfl, h⟩ := ev_k_eq hs
    obtain ⟨x, y, r, rfl, rfl⟩ := ev_l2_eq h
    exact el_p_ladd hd k
  | lsub =>
    obtain ⟨rfl, rfl, h⟩ := ev_k_eq hs
    obtain ⟨x, y, r, rfl, rfl⟩ := ev_l2_eq h
    exact el_p_lsub hd k
  | lmul =>
    obtain ⟨rfl, rfl, h⟩ := ev_k_eq hs
    obtain ⟨x, y, r, rfl, rfl⟩ := ev_l2_eq h
    exact el_p_lmul hd k
  | land =>
    obtain ⟨rfl, rfl, h⟩ := ev_k_eq hs
    obtain ⟨x, y, r, rfl, rfl⟩ := ev_l2_eq h
    exact el_p_land hd k
  | lor =>
    obtain ⟨rfl, rfl, h⟩ := ev_k_eq hs
    obtain ⟨x, y, r, rfl, rfl⟩ := ev_l2_eq h
    exact el_p_lor hd k
  | ishl =>
    obtain ⟨rfl, rfl, h⟩ := ev_k_eq hs
    obtain ⟨x, y, r, rfl, rfl⟩ := ev_i2_eq h
    exact el_p_ishl hd k
  | ishr =>
    obtain ⟨rfl, rfl, h⟩ := ev_k_eq hs
    obtain ⟨x, y, r, rfl, rfl⟩ := ev_i2_eq h
    exact el_p_ishr hd k
  | lshl =>
    obtain ⟨rfl, rfl, h⟩ := ev_k_eq hs
    obtain ⟨x, y, r, rfl, rfl⟩ := ev_li_eq h
    exact el_p_lshl hd k
  | lshr =>
    obtain ⟨rfl, rfl, h⟩ := ev_k_eq hs
    obtain ⟨x, y, r, rfl, rfl⟩ := ev_li_eq h
    exact el_p_lshr hd k
  | i2l =>
    obtain ⟨rfl, rfl, h⟩ := ev_k_eq hs
    obtain ⟨x, r, rfl, rfl⟩ := ev_i1_eq h
    exact el_p_i2l hd k
  | l2i =>
    obtain ⟨rfl, rfl, h⟩ := ev_k_eq hs
    obtain ⟨x, r, rfl, rfl⟩ := ev_l1_eq h
    exact el_p_l2i hd k
  | i2c =>
    obtain ⟨rfl, rfl, h⟩ := ev_k_eq hs
    obtain ⟨x, r, rfl, rfl⟩ := ev_i1_eq h
    exact el_p_i2c hd k
  | lcmp =>
    obtain ⟨rfl, rfl, h⟩ := ev_k_eq hs
    obtain ⟨x, y, r, rfl, rfl⟩ := ev_l2_eq h
    exact el_p_lcmp hd k
  | iconst b =>
    obtain ⟨rfl, rfl, h⟩ := ev_k_eq hs
    cases h
    exact el_p_iconst hd k
  | bipush b =>
    obtain ⟨rfl, rfl, h⟩ := ev_k_eq hs
    cases h
    exact el_p_bipush hd k
  | sipush b =>
    obtain ⟨rfl, rfl, h⟩ := ev_k_eq hs
    cases h
    exact el_p_sipush hd k
  | lconst b =>
    obtain ⟨rfl, rfl, h⟩ := ev_k_eq hs
    cases h
    exact el_p_lconst hd k
  | iload_n j =>
    obtain ⟨rfl, rfl, h⟩ := ev_k_eq hs
    obtain ⟨v, hv, rfl, hc⟩ := ev_ld_eq h
    rcases hc with ⟨-, x, rfl⟩ | ⟨hw, -⟩ | ⟨hw, -⟩
    · exact el_p_iload_n hd hv k
    · cases hw
    · cases hw
  | istore_n j =>
    obtain ⟨rfl, v, rfl, rfl, hc⟩ := ev_sto_eq hs
    rcases hc with ⟨-, hb, x, rfl⟩ | ⟨hw, -⟩ | ⟨hw, -⟩
    · exact el_p_istore_n hd hb k
    · cases hw
    · cases hw
  | iload j =>
    obtain ⟨rfl, rfl, h⟩ := ev_k_eq hs
    obtain ⟨v, hv, rfl, hc⟩ := ev_ld_eq h
    rcases hc with ⟨-, x, rfl⟩ | ⟨hw, -⟩ | ⟨hw, -⟩
    · exact el_p_iload hd hv k
    · cases hw
    · cases hw
  | istore j =>
    obtain ⟨rfl, v, rfl, rfl, hc⟩ := ev_sto_eq hs
    rcases hc with ⟨-, hb, x, rfl⟩ | ⟨hw, -⟩ | ⟨hw, -⟩
    · exact el_p_istore hd hb k
    · cases hw
    · cases hw
  | lload_n j =>
    obtain ⟨rfl, rfl, h⟩ := ev_k_eq hs
    obtain ⟨v, hv, rfl, hc⟩ := ev_ld_eq h
    rcases hc with ⟨hw, -⟩ | ⟨-, x, rfl⟩ | ⟨hw, -⟩
    · cases hw
    · exact el_p_lload_n hd hv k
    · cases hw
  | lstore_n j =>
    obtain ⟨rfl, v, rfl, rfl, hc⟩ := ev_sto_eq hs
    rcases hc with ⟨hw, -⟩ | ⟨-, hb, x, rfl⟩ | ⟨hw, -⟩
    · cases hw
    · exact el_p_lstore_n hd hb k
    · cases hw
  | lload j =>
    obtain ⟨rfl, rfl, h⟩ := ev_k_eq hs
    obtain ⟨v, hv, rfl, hc⟩ := ev_ld_eq h
    rcases hc with ⟨hw, -⟩ | ⟨-, x, rfl⟩ | ⟨hw, -⟩
    · cases hw
    · exact el_p_lload hd hv k
    · cases hw
  | lstore j =>
    obtain ⟨rfl, v, rfl, rfl, hc⟩ := ev_sto_eq hs
    rcases hc with ⟨hw, -⟩ | ⟨-, hb, x, rfl⟩ | ⟨hw, -⟩
    · cases hw
    · exact el_p_lstore hd hb k
    · cases hw
  | aload_n j =>
    obtain ⟨rfl, rfl, h⟩ := ev_k_eq hs
    obtain ⟨v, hv, rfl, hc⟩ := ev_ld_eq h
    rcases hc with ⟨hw, -⟩ | ⟨hw, -⟩ | ⟨-, ⟨x, rfl⟩ | ⟨x, rfl⟩⟩
    · cases hw
    · cases hw
    · exact el_p_aload_n hd hv k
    · exact el_p_aload_nx hd hv k
  | astore_n j =>
    obtain ⟨rfl, v, rfl, rfl, hc⟩ := ev_sto_eq hs
    rcases hc with ⟨hw, -⟩ | ⟨hw, -⟩ | ⟨-, hb, ⟨x, rfl⟩ | ⟨x, rfl⟩⟩
    · cases hw
    · cases hw
    · exact el_p_astore_n hd hb k
    · exact el_p_astore_nx hd hb k
  | aload j =>
    obtain ⟨rfl, rfl, h⟩ := ev_k_eq hs
    obtain ⟨v, hv, rfl, hc⟩ := ev_ld_eq h
    rcases hc with ⟨hw, -⟩ | ⟨hw, -⟩ | ⟨-, ⟨x, rfl⟩ | ⟨x, rfl⟩⟩
    · cases hw
    · cases hw
    · exact el_p_aload hd hv k
    · exact el_p_aloadx hd hv k
  | astore j =>
    obtain ⟨rfl, v, rfl, rfl, hc⟩ := ev_sto_eq hs
    rcases hc with ⟨hw, -⟩ | ⟨hw, -⟩ | ⟨-, hb, ⟨x, rfl⟩ | ⟨x, rfl⟩⟩
    · cases hw
    · cases hw
    · exact el_p_astore hd hb k
    · exact el_p_astorex hd hb k
  | iinc j b =>
    obtain ⟨rfl, rfl, h⟩ := ev_kl_eq hs
    obtain ⟨x, hv, rfl⟩ := ev_inc_eq h
    exact el_p_iinc hd hv (List.getElem?_eq_some_iff.mp hv).1 k
  | dup =>
    obtain ⟨rfl, rfl, h⟩ := ev_k_eq hs
    obtain ⟨v, r, rfl, hc, rfl⟩ := ev_d1_eq h
    exact el_p_dup hc hd k
  | pop =>
    obtain ⟨rfl, rfl, h⟩ := ev_k_eq hs
    obtain ⟨v, r, rfl, hc, rfl⟩ := ev_d1_eq h
    exact el_p_pop hc hd k
  | dup2 =>
    obtain ⟨rfl, rfl, h⟩ := ev_k_eq hs
    obtain ⟨v, w, r, rfl, hc, hc2, rfl⟩ := ev_d2_eq h
    exact el_p_dup2 hc hc2 hd k
  | _ => cases hs
theorem el_blk {pe : Nat} {B : List (Instr × Nat)} (hd : ev_dec (ev_c mi) pc B pe) {ls' : ev_L} {st' : List Value} (hs : ev_exs B ls st = some (ls', st')) (k : el_ xs N9 l mi kc ks pe ls' st' M Q) : el_ xs N9 l mi kc ks pc ls st M Q := by
  induction B generalizing pc ls st with
  | nil =>
    cases hs
    have : pc = pe := hd
    subst this
    exact k
  | cons q r ih =>
    obtain ⟨h1, h2⟩ := hd
    cases hx : ev_ex q.1 q.2 ls st with
    | none => rw [ev_exs, hx] at hs; cases hs
    | some z =>
      obtain ⟨l1, s1⟩ := z
      rw [ev_exs, hx] at hs
      exact el_ex1 h1 hx (ih h2 hs)
theorem el_goto {off : Int} {tgt : Nat} (hd : decode (ev_c mi) pc = .ok (.goto off, 3)) (ht : (pc : Int) + off = (tgt : Int)) (k : el_ xs N9 l mi kc ks tgt ls st M Q) : el_ xs N9 l mi kc ks pc ls st M Q := by
  intro p e s m args below meth c D ad0 ad ax cA A H locs lsA L0 hC hS hA hL ha hP hD hK hX hM hO hOL hl hn
  exact lv_goto hC.2.1 hC.2.2.1 hd ht (k p e s m args below meth c D ad0 ad ax cA A H locs lsA L0 hC hS hA hL ha hP hD hK hX hM hO hOL hl hn)
theorem el_if_eq {x : Int32} {off : Int} {tgt : Nat} (hd : decode (ev_c mi) pc = .ok (.ifCond .eq off, 3)) (ht : (pc : Int) + off = (tgt : Int)) (kt : x = 0 → el_ xs N9 l mi kc ks tgt ls st M Q) (kf : ¬ x = 0 → el_ xs N9 l mi kc ks (pc + 3) ls st M Q) : el_ xs N9 l mi kc ks pc ls (.int x :: st) M Q := by
  intro p e s m args below meth c D ad0 ad ax cA A H locs lsA L0 hC hS hA hL ha hP hD hK hX hM hO hOL hl hn
  exact lv_if_eq hC.2.1 hC.2.2.1 hd ht (fun h => kt h p e s m args below meth c D ad0 ad ax cA A H locs lsA L0 hC hS hA hL ha hP hD hK hX hM (ev_okS_t hO) hOL hl hn) (fun h => kf h p e s m args below meth c D ad0 ad ax cA A H locs lsA L0 hC hS hA hL ha hP hD hK hX hM (ev_okS_t hO) hOL hl hn)
theorem el_if_ne {x : Int32} {off : Int} {tgt : Nat} (hd : decode (ev_c mi) pc = .ok (.ifCond .ne off, 3)) (ht : (pc : Int) + off = (tgt : Int)) (kt : ¬ x = 0 → el_ xs N9 l mi kc ks tgt ls st M Q) (kf : x = 0 → el_ xs N9 l mi kc ks (pc + 3) ls st M Q) : el_ xs N9 l mi kc ks pc ls (.int x :: st) M Q := by
  intro p e s m args below meth c D ad0 ad ax cA A H locs lsA L0 hC hS hA hL ha hP hD hK hX hM hO hOL hl hn
  exact lv_if_ne hC.2.1 hC.2.2.1 hd ht (fun h => kt h p e s m args below meth c D ad0 ad ax cA A H locs lsA L0 hC hS hA hL ha hP hD hK hX hM (ev_okS_t hO) hOL hl hn) (fun h => kf h p e s m args below meth c D ad0 ad ax cA A H locs lsA L0 hC hS hA hL ha hP hD hK hX hM (ev_okS_t hO) hOL hl hn)
theorem el_ic_eq {x y : Int32} {off : Int} {tgt : Nat} (hd : decode (ev_c mi) pc = .ok (.if_icmp .eq off, 3)) (ht : (pc : Int) + off = (tgt : Int)) (kt : x = y → el_ xs N9 l mi kc ks tgt ls st M Q) (kf : ¬ x = y → el_ xs N9 l mi kc ks (pc + 3) ls st M Q) : el_ xs N9 l mi kc ks pc ls (.int y :: .int x :: st) M Q := by
  intro p e s m args below meth c D ad0 ad ax cA A H locs lsA L0 hC hS hA hL ha hP hD hK hX hM hO hOL hl hn
  exact lv_icmp_eq hC.2.1 hC.2.2.1 hd ht (fun h => kt h p e s m args below meth c D ad0 ad ax cA A H locs lsA L0 hC hS hA hL ha hP hD hK hX hM (ev_okS_t (ev_okS_t hO)) hOL hl hn) (fun h => kf h p e s m args below meth c D ad0 ad ax cA A H locs lsA L0 hC hS hA hL ha hP hD hK hX hM (ev_okS_t (ev_okS_t hO)) hOL hl hn)
theorem el_ic_gt {x y : Int32} {off : Int} {tgt : Nat} (hd : decode (ev_c mi) pc = .ok (.if_icmp .gt off, 3)) (ht : (pc : Int) + off = (tgt : Int)) (kt : y < x → el_ xs N9 l mi kc ks tgt ls st M Q) (kf : ¬ y < x → el_ xs N9 l mi kc ks (pc + 3) ls st M Q) : el_ xs N9 l mi kc ks pc ls (.int y :: .int x :: st) M Q := by
  intro p e s m args below meth c D ad0 ad ax cA A H locs lsA L0 hC hS hA hL ha hP hD hK hX hM hO hOL hl hn
  exact lv_icmp_gt hC.2.1 hC.2.2.1 hd ht (fun h => kt h p e s m args below meth c D ad0 ad ax cA A H locs lsA L0 hC hS hA hL ha hP hD hK hX hM (ev_okS_t (ev_okS_t hO)) hOL hl hn) (fun h => kf h p e s m args below meth c D ad0 ad ax cA A H locs lsA L0 hC hS hA hL ha hP hD hK hX hM (ev_okS_t (ev_okS_t hO)) hOL hl hn)
theorem el_ifB_eq {b : Bool} {off : Int} {tgt : Nat} (hd : decode (ev_c mi) pc = .ok (.ifCond .eq off, 3)) (ht : (pc : Int) + off = (tgt : Int)) (kt : b = false → el_ xs N9 l mi kc ks tgt ls st M Q) (kf : b = true → el_ xs N9 l mi kc ks (pc + 3) ls st M Q) : el_ xs N9 l mi kc ks pc ls (.int (ev_b b) :: st) M Q :=
  el_if_eq hd ht (fun h => kt (ev_b0.mp h)) (fun h => kf (by cases b; · exact absurd rfl h
                                                             · rfl))
theorem el_ifB_ne {b : Bool} {off : Int} {tgt : Nat} (hd : decode (ev_c mi) pc = .ok (.ifCond .ne off, 3)) (ht : (pc : Int) + off = (tgt : Int)) (kt : b = true → el_ xs N9 l mi kc ks tgt ls st M Q) (kf : b = false → el_ xs N9 l mi kc ks (pc + 3) ls st M Q) : el_ xs N9 l mi kc ks pc ls (.int (ev_b b) :: st) M Q :=
  el_if_ne hd ht (fun h => kt (by cases b; · exact absurd rfl h
                                  · rfl)) (fun h => kf (ev_b0.mp h))
theorem el_lald {o n : Nat} {f : Nat → Int64} {i : Int32} (hd : decode (ev_c mi) pc = .ok (.laload, 1)) (hm : M[o]? = some (.inl (1, n, .inr (.inl f)))) (hi : vp_in i n) (kk : el_ xs N9 l mi kc ks (pc + 1) ls (.long (f i.toNatClampNeg) :: st) M Q) : el_ xs N9 l mi kc ks pc ls (.int i :: .ref o :: st) M Q := by
  intro p e s m args below meth c D ad0 ad ax cA A H locs lsA L0 hC hS hA hL ha hP hD hK hX hM hO hOL hl hn
  exact va_lald hC.2.1 hC.2.2.1 hK hP o 1 (ev_wl_get hm) rfl hi hd (kk p e s m args below meth c D ad0 ad ax cA A H locs lsA L0 hC hS hA hL ha hP hD hK hX hM (ev_okS_c.mpr ⟨trivial, ev_okS_t (ev_okS_t hO)⟩) hOL hl hn)
theorem el_iret {x : Int32} {ty : FieldType} (hd : decode (ev_c mi) pc = .ok (.ireturn, 1)) (hr : ev_r mi = some ty) (hnw : narrow ty (.int x) = .int x) (hc : kc ≤ ev_mc mi ∧ ks ≤ ev_ms mi) (hq : Q (.inl (some (.int x))) M) : el_ xs N9 l mi kc ks pc ls [.int x] M Q := by
  intro p e s m args below meth c D ad0 ad ax cA A H locs lsA L0 hC hS hA hL ha hP hD hK hX hM hO hOL hl hn
  refine W.widen hc.1 hc.2 (vx_ret ?_)
  exact W.zret (v := x) (ty := ty) hC.2.1 hC.2.2.1 (hC.2.2.2.2.2.2.2.1.trans hr) hnw (fun t ht hW => ⟨⟨.inl (some (.int x)), M, ad, hL, ha, ⟨_, rfl, rfl⟩, hq, hM, fun v h => by cases h; exact trivial, by rw [ht]; exact hP, hD⟩, hS.F ht⟩) hS.2.2 hd hC.2.2.2.2.2.2.1
theorem el_iN_gt {a b : Nat} {off : Int} {tgt : Nat} (hd : decode (ev_c mi) pc = .ok (.if_icmp .gt off, 3)) (ht : (pc : Int) + off = (tgt : Int)) (ha : a < 2 ^ 31) (hb : b < 2 ^ 31) (kt : b < a → el_ xs N9 l mi kc ks tgt ls st M Q) (kf : a ≤ b → el_ xs N9 l mi kc ks (pc + 3) ls st M Q) : el_ xs N9 l mi kc ks pc ls (.int (nI b) :: .int (nI a) :: st) M Q :=
  el_ic_gt hd ht (fun h => kt ((nI_ltI hb ha).mp h)) (fun h => kf (Nat.le_of_not_lt (fun q => h ((nI_ltI hb ha).mpr q))))
theorem el_iN_eq {a b : Nat} {off : Int} {tgt : Nat} (hd : decode (ev_c mi) pc = .ok (.if_icmp .eq off, 3)) (ht : (pc : Int) + off = (tgt : Int)) (ha : a < 2 ^ 31) (hb : b < 2 ^ 31) (kt : a = b → el_ xs N9 l mi kc ks tgt ls st M Q) (kf : a ≠ b → el_ xs N9 l mi kc ks (pc + 3) ls st M Q) : el_ xs N9 l mi kc ks pc ls (.int (nI b) :: .int (nI a) :: st) M Q :=
  el_ic_eq hd ht (fun h => kt ((nI_eq ha hb).mp h)) (fun h => kf (fun q => h ((nI_eq ha hb).mpr q)))
theorem el_fN_eq {a : Nat} {off : Int} {tgt : Nat} (hd : decode (ev_c mi) pc = .ok (.ifCond .eq off, 3)) (ht : (pc : Int) + off = (tgt : Int)) (ha : a < 2 ^ 31) (kt : a = 0 → el_ xs N9 l mi kc ks tgt ls st M Q) (kf : a ≠ 0 → el_ xs N9 l mi kc ks (pc + 3) ls st M Q) : el_ xs N9 l mi kc ks pc ls (.int (nI a) :: st) M Q :=
  el_if_eq hd ht (fun h => kt ((ev_nI0 ha).mp h)) (fun h => kf (fun q => h ((ev_nI0 ha).mpr q)))
theorem el_fN_ne {a : Nat} {off : Int} {tgt : Nat} (hd : decode (ev_c mi) pc = .ok (.ifCond .ne off, 3)) (ht : (pc : Int) + off = (tgt : Int)) (ha : a < 2 ^ 31) (kt : a ≠ 0 → el_ xs N9 l mi kc ks tgt ls st M Q) (kf : a = 0 → el_ xs N9 l mi kc ks (pc + 3) ls st M Q) : el_ xs N9 l mi kc ks pc ls (.int (nI a) :: st) M Q :=
  el_if_ne hd ht (fun h => kt (fun q => h ((ev_nI0 ha).mpr q))) (fun h => kf ((ev_nI0 ha).mp h))
theorem el_lc_eq {x y : Int64} {off : Int} {tgt : Nat} (hd : decode (ev_c mi) pc = .ok (.ifCond .eq off, 3)) (ht : (pc : Int) + off = (tgt : Int)) (kt : x = y → el_ xs N9 l mi kc ks tgt ls st M Q) (kf : ¬ x = y → el_ xs N9 l mi kc ks (pc + 3) ls st M Q) : el_ xs N9 l mi kc ks pc ls (.int (lg_cmp x y) :: st) M Q :=
  el_if_eq hd ht (fun h => kt ((ev_lq_eq x y).mp h)) (fun h => kf (fun q => h ((ev_lq_eq x y).mpr q)))
theorem el_eqst {st' : List Value} (h : st' = st) (k : el_ xs N9 l mi kc ks pc ls st M Q) : el_ xs N9 l mi kc ks pc ls st' M Q := h ▸ k
theorem el_eqls {ls' : ev_L} (h : ls' = ls) (k : el_ xs N9 l mi kc ks pc ls st M Q) : el_ xs N9 l mi kc ks pc ls' st M Q := h ▸ k
theorem el_after {p : Program} {e : Env} {s : State} {m : MethodId} {args : Array Value} {below : List Frame} {meth : Method} {c : Code} {D : va_G} {ad0 ad ax cA : Nat → Nat} {A : Nat → Prop} {H : Heap} {locs : List Loc} {lsA : Array Slot} {L0 : Nat} (hC : el_Cx l mi p s m args meth c) (hS : va_S A s.heap H locs) (hA : ∀ q, s.heap.size ≤ q → A q) (hL : L0 ≤ M.length) (ha : ∀ k, k < L0 → ad k = ad0 k) (hP : va_P D vwCl (ev_wl ad ax cA M) H) (hD : va_D A (ev_wl ad ax cA M)) (hK : va_K D vwCl (ev_tys cA) s) (hX : el_X xs N9 ax A s s.heap) (hM : ev_okM M) (hO : ev_okS M.length st) (hOL : ev_okL M.length ls) (hl : lv_has lsA (ev_n mi) (ev_lsl (ev_tr ad ax) ls)) (hn : ls.length = ev_n mi) {Qc : ev_R → ev_M → Prop} {a : Array Value} {stk : List Value}
    (hr : vx_Run p l e (ev_rm mi) s m args below meth c H locs kc ks (ev_mc mj) (ev_ms mj) (F0 m pc lsA stk) (st.map (ev_tr ad ax)) (ev_Qc D ad ax cA (va_A (ev_wl ad ax cA M) H.size) M.length Qc a) (ev_XC D ad ax cA (va_A (ev_wl ad ax cA M) H.size) M.length Qc) (va_A (ev_wl ad ax cA M) H.size))
    (kk : ∀ (v : Option Value) (M' : ev_M), M.length ≤ M'.length → Qc (.inl v) M' → el_ xs N9 l mi (kc + ev_mc mj) (ks + ev_ms mj) (pc + 3) ls (v.toList ++ st) M' Q)
    (kx : ∀ (E : String) (M' : ev_M), ¬ Qc (.inr E) M') :
    W p l e (ev_rm mi) s m args below meth c H locs kc ks (vx_MQ below (ev_Qc D ad0 ax cA A L0 Q) (ev_XC D ad0 ax cA A L0 Q) args s (ev_mc mi) (ev_ms mi) A) (F0 m pc lsA stk) := by
  intro T hT X
  have hown := ev_own hS hA hD
  rcases hr T hT X with ⟨v, st₀, t, T', L, h0, X', hLL, e1, e2, ⟨⟨r, M', ad', hL', ha', ⟨v', hr', hv'⟩, hQ, hM', hok, hP1, hD1⟩, hF⟩, go⟩ | ⟨q, st₀, t, T', L, E, ce, h0, X', hLL, e1, e2, ⟨⟨r, M', ad', hL', ha', hr', hQ, hM', hok, hP1, hD1⟩, hF⟩, hce, hcv, hcl, go⟩
  · subst hr'
    cases hv'
    obtain ⟨k1, k2, k3⟩ := vx_keep h0 e1 hS (fun q _ h => hown q h) hown hLL hF
    rw [← e1] at hP1
    have hD2 := hD1.weaken (fun k q _ h => hown q.1 h)
    have hkk := kk v' M' hL' hQ p e s m args below meth c D ad0 ad' ax cA A T'.heap (locs ++ L) lsA L0 hC k3 hA (Nat.le_trans hL hL') (fun k hk => (ha' k (Nat.lt_of_lt_of_le hk hL)).trans (ha k hk)) hP1 hD2 hK hX hM'
      (by
        intro w hw
        rcases List.mem_append.mp hw with h | h
        · cases v' with
          | none => cases h
          | some z => rw [List.mem_singleton.mp h]; exact hok z rfl
        · exact ev_ok_le hL' (hO w h)) (ev_okL_le hL' hOL) (ev_lsl_to ha' hOL hl) hn
    have e3 : (v'.toList ++ st).map (ev_tr ad' ax) = (v'.map (ev_tr ad' ax)).toList ++ st.map (ev_tr ad ax) := by
      rw [List.map_append, ev_st_to ha' hO]
      cases v' <;> rfl
    rw [e3] at hkk
    obtain ⟨t2, a1, b1⟩ := hkk T' rfl X'
    exact ⟨t2, go t2 a1, b1⟩
  · subst hr'
    obtain ⟨k1, k2, k3⟩ := vx_keep h0 e1 hS (fun q _ h => hown q h) hown hLL hF
    rw [← e1] at hP1
    have hD2 := hD1.weaken (fun k q _ h => hown q.1 h)
    exact absurd hQ (kx E M')
theorem el_callB {p : Program} {s : State} {m : MethodId} {args : Array Value} {meth : Method} {c : Code} {idx n : Nat} (hC : el_Cx l mi p s m args meth c) (hY : ev_Yc mj n) (hw : Cond.methodLink (ev_y mi).cls idx (ev_y mj) ∈ ev_bw) (hR : ev_Rm mi mj kc ks st) : CallB (ev_rm mi) s args (ev_y mi).cls idx (ev_y mj) (ev_c mj) (ev_n mj) (ev_r mj) (ev_ws mj) (ev_rm mj) (ev_mc mj) (ev_ms mj) n := by
  obtain ⟨h1, h2, h3, h4, h5⟩ := hY
  have hbw := hC.2.2.2.2.2.1
  have hw9 : ev_w mj = Cond.code (ev_y mj) (ev_c mj) (ev_n mj) (ev_r mj) := by unfold ev_w; rw [h2]
  have hall : ∀ w ∈ ev_ws mj, w ∈ ev_bw := by
    intro w hw1
    rcases List.mem_cons.mp hw1 with h | h
    · rw [h, hw9]; exact h3
    · exact h
  exact ⟨rfl, rfl, hR.1, hR.2.1, fun w hw1 a' U hW => word_at hW (good_of_word (ev_bw_good w (hall w hw1))) (hbw w (hall w hw1)), by rw [← hw9]; exact List.mem_cons_self, hbw _ h3, hbw _ h1, h4, fun sig hsig => by rw [hsig] at h5; exact (Option.some.inj h5).symm, hbw _ hw⟩
theorem el_callV {idx ci n o : Nat} {fs as : List Value} {Qc : ev_R → ev_M → Prop} (hY : ev_YV mj ci n) (hw : Cond.methodLink (ev_y mi).cls idx (ev_y mj) ∈ ev_bw) (hd : decode (ev_c mi) pc = .ok (.invokevirtual idx, 3)) (hR : ev_Rm mi mj kc ks st) (hm : M[o]? = some (.inr (ci, fs))) (hlen : as.length = n)
    (hc : ev_Mt l mj (.ref o :: as) M Qc)
    (kk : ∀ (v : Option Value) (M' : ev_M), M.length ≤ M'.length → Qc (.inl v) M' → el_ xs N9 l mi (kc + ev_mc mj) (ks + ev_ms mj) (pc + 3) ls (v.toList ++ st) M' Q)
    (kx : ∀ (E : String) (M' : ev_M), ¬ Qc (.inr E) M') : el_ xs N9 l mi kc ks pc ls (as.reverse ++ .ref o :: st) M Q := by
  intro p e s m args below meth c D ad0 ad ax cA A H locs lsA L0 hC hS hA hL ha hP hD hK hX hM hO hOL hl hn
  have hO2 : ev_okS M.length (.ref o :: st) := fun w hw => hO w (List.mem_append_right _ hw)
  have hO3 : ev_okS M.length (.ref o :: as) := fun w hw => by
    rcases List.mem_cons.mp hw with h | h
    · exact hO w (List.mem_append_right _ (h ▸ List.mem_cons_self))
    · exact hO w (List.mem_append_left _ (List.mem_reverse.mpr h))
  obtain ⟨q, hq, hqc⟩ : ∃ q : vw_C, vwCl[ci]? = some q ∧ q.1 = (ev_y mj).cls := by
    have := hY.2.2.2
    cases hv : vwCl[ci]? with
    | none => rw [hv] at this; cases this
    | some q => rw [hv] at this; exact ⟨q, rfl, Option.some.inj this⟩
  have hrecv := va_recv hK hP hq (ev_wl_get hm)
  rw [hqc] at hrecv
  have hbw := hC.2.2.2.2.2.1
  refine el_after (mj := mj) (a := ((Value.ref o :: as).map (ev_tr ad ax)).toArray) hC hS hA hL ha hP hD hK hX hM (ev_okS_t hO2) hOL hl hn (vx_runV (As := as.map (ev_tr ad ax)) ⟨hC.2.1, hC.2.2.1, hC.2.2.2.1, hC.2.2.2.2.1, hbw⟩ (hc hM hO3 D ad ax cA H.size) ⟨el_callB hC hY.1 hw hR, hbw _ hY.2.1, hbw _ hY.2.2.1⟩ ⟨ev_blind, hrecv, fun U hU hW => ev_pre hS hA hP hD hK hX.1 hU hW⟩ rfl (by rw [List.length_map]; exact hlen) hl.1 (by simp [List.map_append, List.map_reverse, ev_tr]) (lv_room (by rw [ev_cat_sum]; exact hR.2.2.2.2)) hd ⟨hR.2.2.1, hR.2.2.2.1⟩) kk kx
theorem el_callSH {idx n : Nat} {as : List Value} {Qc : ev_R → ev_M → Prop} (hY : ev_YH mj n) (hw : Cond.methodLink (ev_y mi).cls idx (ev_y mj) ∈ ev_bw) (hd : decode (ev_c mi) pc = .ok (.invokestatic idx, 3)) (hR : ev_Rm mi mj kc ks st) (hlen : as.length = n)
    (hc : ev_Mt l mj as M Qc)
    (kk : ∀ (v : Option Value) (M' : ev_M), M.length ≤ M'.length → Qc (.inl v) M' → el_ xs N9 l mi (kc + ev_mc mj) (ks + ev_ms mj) (pc + 3) ls (v.toList ++ st) M' Q)
    (kx : ∀ (E : String) (M' : ev_M), ¬ Qc (.inr E) M') : el_ xs N9 l mi kc ks pc ls (as.reverse ++ st) M Q := by
  intro p e s m args below meth c D ad0 ad ax cA A H locs lsA L0 hC hS hA hL ha hP hD hK hX hM hO hOL hl hn
  have hO2 : ev_okS M.length st := fun w hw => hO w (List.mem_append_right _ hw)
  have hO3 : ev_okS M.length as := fun w hw => hO w (List.mem_append_left _ (List.mem_reverse.mpr hw))
  have hbw := hC.2.2.2.2.2.1
  obtain ⟨⟨y1, y2, y3⟩, y4, y5, y6, y7, y8⟩ := hY
  have hw9 : ev_w mj = Cond.codeWith (ev_y mj) (ev_c mj) (ev_n mj) (ev_r mj) (ev_h mj) := by unfold ev_w; rw [y3]
  have hall : ∀ w ∈ ev_ws mj, w ∈ ev_bw := by
    intro w hw1
    rcases List.mem_cons.mp hw1 with h | h
    · rw [h, hw9]; exact y4
    · exact h
  have hcw : vx_CSW (ev_rm mi) s args (ev_y mi).cls idx (ev_y mj) (ev_c mj) (ev_n mj) (ev_r mj) (ev_h mj) (ev_ws mj) (ev_rm mj) (ev_mc mj) (ev_ms mj) n :=
    ⟨⟨rfl, rfl, hR.1, hR.2.1, fun w hw1 a' U hW => word_at hW (good_of_word (ev_bw_good w (hall w hw1))) (hbw w (hall w hw1)), by rw [← hw9]; exact List.mem_cons_self⟩, hbw _ y4, hbw _ y6, y7, fun sig hsig => by rw [hsig] at y8; exact (Option.some.inj y8).symm, hbw _ hw, hbw _ y5⟩
  refine el_after (mj := mj) (a := (as.map (ev_tr ad ax)).toArray) hC hS hA hL ha hP hD hK hX hM hO2 hOL hl hn (vx_runSX (As := as.map (ev_tr ad ax)) ⟨hC.2.1, hC.2.2.1, hC.2.2.2.1, hC.2.2.2.2.1, hbw⟩ (hc hM hO3 D ad ax cA H.size) hcw ⟨ev_blind, fun U hU hW => ev_pre hS hA hP hD hK hX.1 hU hW⟩ rfl (by rw [List.length_map]; exact hlen) hl.1 (by simp [List.map_append, List.map_reverse]) (lv_room (by rw [ev_cat_sum]; exact hR.2.2.2.2)) hd ⟨hR.2.2.1, hR.2.2.2.1⟩) kk kx
theorem el_callI {idx n o : Nat} {as : List Value} {Qc : ev_R → ev_M → Prop} (hY : ev_YI mj n) (hw : Cond.methodLink (ev_y mi).cls idx (ev_y mj) ∈ ev_bw) (hd : decode (ev_c mi) pc = .ok (.invokespecial idx, 3)) (hR : ev_Rm mi mj kc ks st) (hlen : as.length = n)
    (hc : ev_Mt l mj (.ref o :: as) M Qc)
    (kk : ∀ (v : Option Value) (M' : ev_M), M.length ≤ M'.length → Qc (.inl v) M' → el_ xs N9 l mi (kc + ev_mc mj) (ks + ev_ms mj) (pc + 3) ls (v.toList ++ st) M' Q)
    (kx : ∀ (E : String) (M' : ev_M), ¬ Qc (.inr E) M') : el_ xs N9 l mi kc ks pc ls (as.reverse ++ .ref o :: st) M Q := by
  intro p e s m args below meth c D ad0 ad ax cA A H locs lsA L0 hC hS hA hL ha hP hD hK hX hM hO hOL hl hn
  have hO2 : ev_okS M.length (.ref o :: st) := fun w hw => hO w (List.mem_append_right _ hw)
  have hO3 : ev_okS M.length (.ref o :: as) := fun w hw => by
    rcases List.mem_cons.mp hw with h | h
    · exact hO w (List.mem_append_right _ (h ▸ List.mem_cons_self))
    · exact hO w (List.mem_append_left _ (List.mem_reverse.mpr h))
  have hbw := hC.2.2.2.2.2.1
  have hB := el_callB (kc := kc) (ks := ks) (st := st) hC hY.1 hw hR
  rw [hY.2.2.2] at hB
  refine el_after (mj := mj) (a := ((Value.ref o :: as).map (ev_tr ad ax)).toArray) hC hS hA hL ha hP hD hK hX hM (ev_okS_t hO2) hOL hl hn (vx_runI (b := ad o) (As := as.map (ev_tr ad ax)) ⟨hC.2.1, hC.2.2.1, hC.2.2.2.1, hC.2.2.2.2.1, hbw⟩ (hc hM hO3 D ad ax cA H.size) ⟨hB, hY.2.2.1, hbw _ hY.2.1⟩ ⟨ev_blind, fun U hU hW => ev_pre hS hA hP hD hK hX.1 hU hW⟩ rfl (by rw [List.length_map]; exact hlen) hl.1 (by simp [List.map_append, List.map_reverse, ev_tr]) (lv_room (by rw [ev_cat_sum]; exact hR.2.2.2.2)) hd ⟨hR.2.2.1, hR.2.2.2.1⟩) kk kx
theorem el_objInit {idx o : Nat} (hw : Cond.methodLink (ev_y mi).cls idx Lib.objectInit ∈ ev_bw) (h2 : Cond.instanceMethod Lib.objectInit ∈ ev_bw) (h3 : Cond.code Lib.objectInit ⟨#[0xb1]⟩ 1 none ∈ ev_bw) (hd : decode (ev_c mi) pc = .ok (.invokespecial idx, 3)) (hR : 1 ≤ ev_fr mi ∧ (st.map (fun v => bif ev_c2 v then 2 else 1)).sum + 12 ≤ ev_lo mi) (kk : el_ xs N9 l mi kc ks (pc + 3) ls st M Q) : el_ xs N9 l mi kc ks pc ls (.ref o :: st) M Q := by
  intro p e s m args below meth c D ad0 ad ax cA A H locs lsA L0 hC hS hA hL ha hP hD hK hX hM hO hOL hl hn
  have hbw := hC.2.2.2.2.2.1
  refine W.objInit hC.2.1 hC.2.2.1 hC.2.2.2.2.1 (hbw _ hw) (hbw _ h2) (hbw _ h3) rfl (by rw [hC.2.2.2.1]; exact hl.1) (rest := st.map (ev_tr ad ax)) rfl hd hR.1 ?_ (kk p e s m args below meth c D ad0 ad ax cA A H locs lsA L0 hC hS hA hL ha hP hD hK hX hM (ev_okS_t hO) hOL hl hn)
  show 2 * 0 + _ + 12 ≤ _
  rw [ev_cat_sum]
  have := hR.2
  show 2 * 0 + (st.map (fun v => bif ev_c2 v then 2 else 1)).sum + 12 ≤ ev_lo mi
  omega
theorem el_grow {p : Program} {e : Env} {s : State} {m : MethodId} {args : Array Value} {below : List Frame} {meth : Method} {c : Code} {D : va_G} {ad0 ad ax cA : Nat → Nat} {A : Nat → Prop} {H : Heap} {locs : List Loc} {lsA : Array Slot} {L0 : Nat} (hC : el_Cx l mi p s m args meth c) (hS : va_S A s.heap H locs) (hA : ∀ q, s.heap.size ≤ q → A q) (hL : L0 ≤ M.length) (ha : ∀ k, k < L0 → ad k = ad0 k) (hP : va_P D vwCl (ev_wl ad ax cA M) H) (hD : va_D A (ev_wl ad ax cA M)) (hK : va_K D vwCl (ev_tys cA) s) (hX : el_X xs N9 ax A s s.heap) (hM : ev_okM M) (hO : ev_okS M.length st) (hOL : ev_okL M.length ls) (hl : lv_has lsA (ev_n mi) (ev_lsl (ev_tr ad ax) ls)) (hn : ls.length = ev_n mi) {q : Nat} {H1 : Heap} {e9 : va_E} (hok : ev_okE M.length e9) (hP1 : va_P D vwCl (ev_wl ad ax cA M ++ [(q, ev_tE ad ax cA e9)]) H1) (hD1 : va_D A (ev_wl ad ax cA M ++ [(q, ev_tE ad ax cA e9)])) (hS1 : va_S A s.heap H1 locs) {kc1 ks1 pc1 : Nat}
    (kk : el_ xs N9 l mi kc1 ks1 pc1 ls (.ref M.length :: st) (M ++ [e9]) Q) : W p l e (ev_rm mi) s m args below meth c H1 locs kc1 ks1 (vx_MQ below (ev_Qc D ad0 ax cA A L0 Q) (ev_XC D ad0 ax cA A L0 Q) args s (ev_mc mi) (ev_ms mi) A) (F0 m pc1 lsA (.ref q :: st.map (ev_tr ad ax))) := by
  obtain ⟨ad', had⟩ : ∃ z : Nat → Nat, z = fun k => if k = M.length then q else ad k := ⟨_, rfl⟩
  have hlt : ∀ k, k < M.length → ad' k = ad k := fun k hk => by rw [had]; exact if_neg (Nat.ne_of_lt hk)
  have hq : ad' M.length = q := by rw [had]; exact if_pos rfl
  have hw : ev_wl ad' ax cA (M ++ [e9]) = ev_wl ad ax cA M ++ [(q, ev_tE ad ax cA e9)] := by
    rw [ev_wl_app, ev_wl_eq hlt hM, hq, ev_tE_eq hlt hok]
  have hlen : (M ++ [e9]).length = M.length + 1 := by simp
  have hle : M.length ≤ (M ++ [e9]).length := by rw [hlen]; exact Nat.le_succ _
  have h9 := kk p e s m args below meth c D ad0 ad' ax cA A H1 locs lsA L0 hC hS1 hA (Nat.le_trans hL hle) (fun k hk => (hlt k (Nat.lt_of_lt_of_le hk hL)).trans (ha k hk)) (by rw [hw]; exact hP1) (by rw [hw]; exact hD1) hK hX (ev_okM_app hM (ev_okE_le (Nat.le_succ _) hok)) (ev_okS_c.mpr ⟨by show M.length < _; rw [hlen]; exact Nat.lt_succ_self _, ev_okS_le hle hO⟩) (ev_okL_le hle hOL) (ev_lsl_to hlt hOL hl) hn
  have e3 : (Value.ref M.length :: st).map (ev_tr ad' ax) = .ref q :: st.map (ev_tr ad ax) := by
    rw [List.map_cons, ev_st_to hlt hO]
    show Value.ref (ad' M.length) :: _ = _
    rw [hq]
  rw [e3] at h9
  exact h9
theorem el_new {idx ci : Nat} {q0 : vw_C} {fs : List Value} (hc : vwCl[ci]? = some q0) (hw1 : Cond.classLink (ev_y mi).cls idx q0.1 ∈ ev_bw) (hw2 : Cond.instantiable q0.1 q0.2.2 ∈ ev_bw) (hw3 : Cond.initialized q0.1 ∈ ev_bw) (hfs : (List.range q0.2.2).map (fun k => defaultValue (ev_ty ci k)) = fs) (hd : decode (ev_c mi) pc = .ok (.new idx, 3)) (hR : kc + 1 ≤ ev_mc mi ∧ ks + q0.2.2 ≤ ev_ms mi)
    (kk : el_ xs N9 l mi (kc + 1) (ks + q0.2.2) (pc + 3) ls (.ref M.length :: st) (M ++ [.inr (ci, fs)]) Q) : el_ xs N9 l mi kc ks pc ls st M Q := by
  intro p e s m args below meth c D ad0 ad ax cA A H locs lsA L0 hC hS hA hL ha hP hD hK hX hM hO hOL hl hn
  have hbw := hC.2.2.2.2.2.1
  obtain ⟨C, T, N⟩ := q0
  have htr : fs.map (ev_tr ad ax) = fs := by
    rw [← hfs, List.map_map]
    exact List.map_congr_left fun k _ => ev_def_tr ad ax _
  have hok : ev_okE M.length (.inr (ci, fs)) := by
    intro v hv
    rw [← hfs] at hv
    obtain ⟨k, -, rfl⟩ := List.mem_map.mp hv
    exact ev_def_ok _ _
  refine va_new (ci := ci) (fs := fs) hC.2.1 hC.2.2.1 hbw (ev_cls hc) (ev_ty ci) (ev_tyn hc).1 hC.2.2.2.2.1 (hbw _ hw1) (hbw _ hw2) (hbw _ hw3) hK hP hD hS hA hc (fun j hj => ?_) hR.1 hR.2 hd (fun q H1 hP1 hD1 hS1 => ?_)
  · have hj : j < N := hj
    rw [← hfs]
    show _ = (List.map (fun k => defaultValue (ev_ty ci k)) (List.range N)).getD j .null
    simp [List.getD, List.getElem?_map, List.getElem?_range hj]
  · have e9 : ev_tE ad ax cA (.inr (ci, fs)) = .inr (ci, fs) := by show (Sum.inr (ci, fs.map (ev_tr ad ax)) : va_E) = _; rw [htr]
    exact el_grow hC hS hA hL ha hP hD hK hX hM hO hOL hl hn hok (by rw [e9]; exact hP1) (by rw [e9]; exact hD1) hS1 kk
theorem el_newaL {n : Int32} {N : Nat} (hw : Cond.arrayClass .long ∈ ev_bw) (hn0 : ¬ n < 0) (hN : n.toNatClampNeg = N) (hb : N * 8 ≤ 536870912) (hd : decode (ev_c mi) pc = .ok (.newarray .long, 2)) (hR : kc + 1 ≤ ev_mc mi ∧ ks + N ≤ ev_ms mi) (kk : el_ xs N9 l mi (kc + 1) (ks + N) (pc + 2) ls (.ref M.length :: st) (M ++ [.inl (1, N, .inr (.inl (fun _ => 0)))]) Q) : el_ xs N9 l mi kc ks pc ls (.int n :: st) M Q := by
  intro p e s m args below meth c D ad0 ad ax cA A H locs lsA L0 hC hS hA hL ha hP hD hK hX hM hO hOL hl hn
  have hbw := hC.2.2.2.2.2.1
  refine va_newa (atype := .long) (ty := .long) (a0 := (N, .inr (.inl (fun _ => 0)))) hC.2.1 hC.2.2.1 (hbw _ hw) rfl hK hP hD hS hA (fun _ => rfl) hn0 hN ?_ hR.1 hR.2 hd (fun q c9 H1 hK1 hP1 hD1 hS1 => ?_)
  · have : componentBytes .long ≤ 8 := by decide
    exact Nat.le_trans (Nat.mul_le_mul_left N this) hb
  · have h9 := ev_tag (t := 1) hK rfl hK1
    subst h9
    exact el_grow hC hS hA hL ha hP hD hK hX hM (ev_okS_t hO) hOL hl hn (e9 := .inl (1, N, .inr (.inl (fun _ => 0)))) trivial hP1 hD1 hS1 kk
theorem el_cVw {idx : Nat} {ci n o : Nat} {fs as : List Value} (hY : ev_YV mj ci n) (hw : Cond.methodLink (ev_y mi).cls idx (ev_y mj) ∈ ev_bw) (hd : decode (ev_c mi) pc = .ok (.invokevirtual idx, 3)) (hR : ev_Rm mi mj kc ks st) (hm : M[o]? = some (.inr (ci, fs))) (hlen : as.length = n) {stk : List Value} (hst : stk = as.reverse ++ .ref o :: st) {v : Value} {B : ev_M → Prop} (hc : ev_Mt l mj (.ref o :: as) M (fun r M1 => r = .inl (some v) ∧ B M1)) (kk : ∀ M1, M.length ≤ M1.length → B M1 → el_ xs N9 l mi (kc + ev_mc mj) (ks + ev_ms mj) (pc + 3) ls (v :: st) M1 Q) : el_ xs N9 l mi kc ks pc ls stk M Q := by
  subst hst
  refine el_callV hY hw hd hR hm hlen hc (fun v' M' hle hq => ?_) (fun E M' hq => ?_)
  · obtain ⟨h1, h2⟩ := hq
    cases h1
    exact kk M' hle h2
  · cases hq.1
theorem el_cVn {idx : Nat} {ci n o : Nat} {fs as : List Value} (hY : ev_YV mj ci n) (hw : Cond.methodLink (ev_y mi).cls idx (ev_y mj) ∈ ev_bw) (hd : decode (ev_c mi) pc = .ok (.invokevirtual idx, 3)) (hR : ev_Rm mi mj kc ks st) (hm : M[o]? = some (.inr (ci, fs))) (hlen : as.length = n) {stk : List Value} (hst : stk = as.reverse ++ .ref o :: st) {B : ev_M → Prop} (hc : ev_Mt l mj (.ref o :: as) M (fun r M1 => r = .inl none ∧ B M1)) (kk : ∀ M1, M.length ≤ M1.length → B M1 → el_ xs N9 l mi (kc + ev_mc mj) (ks + ev_ms mj) (pc + 3) ls st M1 Q) : el_ xs N9 l mi kc ks pc ls stk M Q := by
  subst hst
  refine el_callV hY hw hd hR hm hlen hc (fun v' M' hle hq => ?_) (fun E M' hq => ?_)
  · obtain ⟨h1, h2⟩ := hq
    cases h1
    exact kk M' hle h2
  · cases hq.1
theorem el_cV0 {idx : Nat} {ci n o : Nat} {fs as : List Value} (hY : ev_YV mj ci n) (hw : Cond.methodLink (ev_y mi).cls idx (ev_y mj) ∈ ev_bw) (hd : decode (ev_c mi) pc = .ok (.invokevirtual idx, 3)) (hR : ev_Rm mi mj kc ks st) (hm : M[o]? = some (.inr (ci, fs))) (hlen : as.length = n) {stk : List Value} (hst : stk = as.reverse ++ .ref o :: st) {M1 : ev_M} (hc : ev_Mt l mj (.ref o :: as) M (ev_q (.inl none) M1)) (kk : el_ xs N9 l mi (kc + ev_mc mj) (ks + ev_ms mj) (pc + 3) ls st M1 Q) : el_ xs N9 l mi kc ks pc ls stk M Q := by
  subst hst
  refine el_callV hY hw hd hR hm hlen hc (fun v' M' _ hq => ?_) (fun E M' hq => ?_)
  · obtain ⟨h1, rfl⟩ := hq
    cases h1
    exact kk
  · cases hq.1
theorem el_cVv {idx : Nat} {ci n o : Nat} {fs as : List Value} (hY : ev_YV mj ci n) (hw : Cond.methodLink (ev_y mi).cls idx (ev_y mj) ∈ ev_bw) (hd : decode (ev_c mi) pc = .ok (.invokevirtual idx, 3)) (hR : ev_Rm mi mj kc ks st) (hm : M[o]? = some (.inr (ci, fs))) (hlen : as.length = n) {stk : List Value} (hst : stk = as.reverse ++ .ref o :: st) {v : Value} {M1 : ev_M} (hc : ev_Mt l mj (.ref o :: as) M (ev_q (.inl (some v)) M1)) (kk : el_ xs N9 l mi (kc + ev_mc mj) (ks + ev_ms mj) (pc + 3) ls (v :: st) M1 Q) : el_ xs N9 l mi kc ks pc ls stk M Q := by
  subst hst
  refine el_callV hY hw hd hR hm hlen hc (fun v' M' _ hq => ?_) (fun E M' hq => ?_)
  · obtain ⟨h1, rfl⟩ := hq
    cases h1
    exact kk
  · cases hq.1
theorem el_cI0 {idx : Nat} {n o : Nat} {as : List Value} (hY : ev_YI mj n) (hw : Cond.methodLink (ev_y mi).cls idx (ev_y mj) ∈ ev_bw) (hd : decode (ev_c mi) pc = .ok (.invokespecial idx, 3)) (hR : ev_Rm mi mj kc ks st) (hlen : as.length = n) {stk : List Value} (hst : stk = as.reverse ++ .ref o :: st) {M1 : ev_M} (hc : ev_Mt l mj (.ref o :: as) M (ev_q (.inl none) M1)) (kk : el_ xs N9 l mi (kc + ev_mc mj) (ks + ev_ms mj) (pc + 3) ls st M1 Q) : el_ xs N9 l mi kc ks pc ls stk M Q := by
  subst hst
  refine el_callI hY hw hd hR hlen hc (fun v' M' _ hq => ?_) (fun E M' hq => ?_)
  · obtain ⟨h1, rfl⟩ := hq
    cases h1
    exact kk
  · cases hq.1
theorem el_cSHw {idx n : Nat} {as : List Value} (hY : ev_YH mj n) (hw : Cond.methodLink (ev_y mi).cls idx (ev_y mj) ∈ ev_bw) (hd : decode (ev_c mi) pc = .ok (.invokestatic idx, 3)) (hR : ev_Rm mi mj kc ks st) (hlen : as.length = n) {stk : List Value} (hst : stk = as.reverse ++ st) {v : Value} {B : ev_M → Prop} (hc : ev_Mt l mj as M (fun r M1 => r = .inl (some v) ∧ B M1)) (kk : ∀ M1, M.length ≤ M1.length → B M1 → el_ xs N9 l mi (kc + ev_mc mj) (ks + ev_ms mj) (pc + 3) ls (v :: st) M1 Q) : el_ xs N9 l mi kc ks pc ls stk M Q := by
  subst hst
  refine el_callSH hY hw hd hR hlen hc (fun v' M' hle hq => ?_) (fun E M' hq => ?_)
  · obtain ⟨h1, h2⟩ := hq
    cases h1
    exact kk M' hle h2
  · cases hq.1
theorem el_nm {M0 : ev_M} (k : ∀ M1, M1 = M0 → el_ xs N9 l mi kc ks pc ls st M1 Q) : el_ xs N9 l mi kc ks pc ls st M0 Q := k M0 rfl
theorem el_fgt {ls' : ev_L} (h : ev_le ls' ls) (k : el_ xs N9 l mi kc ks pc ls' st M Q) : el_ xs N9 l mi kc ks pc ls st M Q := by
  obtain ⟨e, h1⟩ := ev_le_at h
  intro p e9 s m args below meth c D ad0 ad ax cA A H locs lsA L0 hC hS hA hL ha hP hD hK hX hM hO hOL hl hn
  refine k p e9 s m args below meth c D ad0 ad ax cA A H locs lsA L0 hC hS hA hL ha hP hD hK hX hM hO (fun i v hv => hOL i v (h1 i v hv)) ⟨hl.1, hl.2.1, fun q hq => hl.2.2 q ?_⟩ (by rw [e]; exact hn)
  obtain ⟨j, w⟩ := q
  obtain ⟨v, hv, rfl⟩ := ev_mem.mp hq
  exact ev_mem.mpr ⟨v, h1 j v hv, rfl⟩
end
