/-! THE CLAIM OUT OF ONE WALK OF THE LAW'S BODY. Your part is whole_start (and what it stands on); all else here is the same for every law, but numbers. -/
def R_law : String := "LossyChannelsLaw"
def lw_P (b : Addr) (xs : List Int32) (args : Array Value) (s : State) : Prop := args = #[.ref b] ∧ s.IntsAt b xs ∧ xs.length ≤ 3072 ∧ (Jvm.Cond.and given_1 narrow_1).before args s = true
def lw_Q (_ : Array Value) (s : State) (o : Outcome) (t : State) : Prop := o = .returned (some (.int 1)) ∧ Framed s o t [] 601024 7293034
def lw_Z (below : List Frame) (a : Array Value) (s : State) : State → Prop := fun t => ∃ o, t.status = .running ∧ Ended t below o ∧ lw_Q a s o t
/-- the law's own end, with 1 on the stack, nothing written that was there before, its room as the claim has it -/
theorem lw_ret {p : Program} {l : Launch} {e : Env} {s : State} {m : MethodId} {below : List Frame} {meth : Method} {c : Code} {b : Nat} (hx : p.tables.exec = Jvm.exec) (hb : c.code = code) (hr : meth.sig.returnType = ret) (hlocks : meth.locks = false) {pc : Nat} {H : Heap} {ls : Array Slot} (hdg : decode code pc = .ok (.ireturn, 1)) : W p l e room_1 s m #[Value.ref b] below meth c H [] 601024 7293034 (lw_Z below #[Value.ref b] s) (F0 m pc ls [.int 1]) := by
  intro T hT X
  obtain ⟨fs, hret, hrun, hended, hW, hframe⟩ := X.leave (v := some (.int 1)) (hlocks := hlocks) (fun h => by rw [hr] at h; cases h)
  have hmeth' : T.vm.method? m = some meth := X.method'
  refine ⟨T.setFrames fs, ?_, .returned (some (.int 1)), hrun, hended, rfl, ⟨_, rfl⟩, hW, hframe⟩
  jvm_step X.here [X.here.top, hx, hb, hdg, hmeth', hr, ret, narrow_b1]
  (try refine ⟨rfl, ?_⟩); (try refine ⟨rfl, ?_⟩)
  first | (intro acts; rw [hret _ acts rfl rfl rfl]) | rw [hret _ _ rfl rfl rfl]
  exact Steps.refl _
/-- what holds at the law's entry: the machine, the code, the tables' words (any of lw_tbl by 'hts w (by decide +kernel)'), the script of L ints xs at the cell b, what the Statement gives of the start (any of its parts by flat_of_before) -/
def lw_At (p : Program) (s : State) (m : MethodId) (meth : Method) (c : Code) (b L : Nat) (xs : Nat → Int32) : Prop :=
  p.tables.exec = Jvm.exec ∧ c.code = code ∧ meth.sig.returnType = ret ∧ c.maxLocals = 7 ∧ s.vm.findClass R_law = some m.cls ∧ (∀ w ∈ lw_tbl, w.before #[Value.ref b] s = true) ∧ va_X b L xs s s.heap ∧ b < s.heap.size ∧ meth.locks = false ∧ (Jvm.Cond.and given_1 narrow_1).before #[Value.ref b] s = true
theorem ws_end {s t : State} {b : Addr} {D : va_G} {ad0 ax cA : Nat → Nat} {L0 : Nat} {o : Outcome} (h : vx_Q (ev_Qc D ad0 ax cA (fun q => s.heap.size ≤ q) L0 (fun r _ => r = .inl (some (.int 1)))) (ev_XC D ad0 ax cA (fun q => s.heap.size ≤ q) L0 (fun r _ => r = .inl (some (.int 1)))) 601024 7293034 (fun q => s.heap.size ≤ q) #[Value.ref b] s o t) : lw_Q #[Value.ref b] s o t := by
  rcases h with ⟨⟨⟨r, M', ad', _, _, ⟨v, hv, ho⟩, hQ, _⟩, _⟩, L9, hF, hL9⟩ | ⟨q, hq, E, ce, L9, ⟨⟨r, M', ad', _, _, hr9, hQ, _⟩, _⟩, _⟩
  · rw [hQ] at hv
    cases hv
    exact ⟨ho, ⟨_, ho⟩, hF.2.1, sbn_new hF.2.2 hL9⟩
  · rw [hr9] at hQ
    cases hQ
set_option maxHeartbeats 4000000 in
theorem whole_start {p : Program} {e : Env} {s : State} {m : MethodId} {below : List Frame} {meth : Method} {c : Code} (l : Launch) (hflags : l.flags = flags0) {b L : Nat} {xs : Nat → Int32} (hL : L ≤ 3072) (C0 : lw_At p s m meth c b L xs) : W p l e room_1 s m #[Value.ref b] below meth c s.heap [] 0 0 (lw_Z below #[Value.ref b] s) (entryFrame m ([Value.ref b] : List Value).toArray 7) := by
  obtain ⟨hx, hb, hr, hml, hown, hts, hXs, hbl, hlk, hgv⟩ := C0
  have hst : l.stackTraces = false := by unfold Launch.stackTraces; rw [hflags]; decide +kernel
  obtain ⟨ax, hax, hX⟩ := ws_X hts hgv
  have hbw : ∀ w ∈ ev_bw, w.before #[Value.ref b] s = true := fun w hw => hts w (List.mem_filter.mp hw).1
  obtain ⟨D, cA, hK⟩ := ws_K hbw hX.2.2.2.2.2.2.1
  have hT : va_T .int (ax 20) L (fun j => .int (xs j)) (fun q => s.heap.size ≤ q) s s.heap := by
    obtain ⟨scr, h1, h2, h3, h4, h5⟩ := hXs
    rw [hax]
    exact ⟨scr, h1, h2, h3, Nat.le_of_eq h4.symm, by rw [h4], fun j hj => h5 j hj, Nat.not_le.mpr hbl⟩
  have hl0 := lv_entry [Value.ref b] (n := 7) (Nat.le_of_ble_eq_true rfl)
  rw [lg_entry_eq]
  intro T hT0 X0
  obtain ⟨t, a1, o, b1, b2, b3⟩ := w_start (xs := xs) (N9 := L) hst hL p e s m #[Value.ref b] below meth c D (fun _ => 0) (fun _ => 0) ax cA (fun q => s.heap.size ≤ q) s.heap [] _ 0
    ⟨hst, hx, hb, hml, hown, hbw, hlk, hr, trivial⟩ va_S.rf (fun q h => h) (Nat.zero_le _) (fun k hk => absurd hk (Nat.not_lt_zero _))
    (fun k q hk => by obtain ⟨e, he, _⟩ := ev_wl_of hk; cases he) ⟨fun i j p q h1 _ _ => (by obtain ⟨e, he, _⟩ := ev_wl_of h1; cases he), fun k q hk => (by obtain ⟨e, he, _⟩ := ev_wl_of hk; cases he)⟩ hK ⟨hX, hT⟩
    (fun k e he => by cases he) (fun v hv => by cases hv) (fun i v hv => by
      match i, hv with
      | 0, hv => cases hv; exact trivial
      | 1, hv => cases hv
      | 2, hv => cases hv
      | 3, hv => cases hv
      | 4, hv => cases hv
      | 5, hv => cases hv
      | 6, hv => cases hv
      | n + 7, hv => cases hv)
    ⟨hl0.1, hl0.2.1, fun q hq => hl0.2.2 q (by
      obtain ⟨j, w⟩ := q
      obtain ⟨v, hv, rfl⟩ := ev_mem.mp hq
      match j, hv with
      | 0, hv => cases hv; show (0, Value.ref (ax 20)) ∈ _; rw [hax]; exact List.mem_cons_self
      | 1, hv => cases hv
      | 2, hv => cases hv
      | 3, hv => cases hv
      | 4, hv => cases hv
      | 5, hv => cases hv
      | 6, hv => cases hv
      | n + 7, hv => cases hv)⟩ rfl T hT0 X0
  exact ⟨t, a1, o, b1, b2, ws_end b3⟩
