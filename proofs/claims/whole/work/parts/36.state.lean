/-! ===== the whole class: its state, and how the memory holds it ===== -/
def St : Type := List Tr × Cf × List Cf × Hs × Nat × (Nat → Nat) × Int32 × Bool × List Tr × Cf × List Cf
def St.T (S : St) : List Tr := S.1
def St.x (S : St) : Cf := S.2.1
def St.G (S : St) : List Cf := S.2.2.1
def St.H (S : St) : Hs := S.2.2.2.1
def St.n (S : St) : Nat := S.2.2.2.2.1
def St.t (S : St) : Nat → Nat := S.2.2.2.2.2.1
def St.f (S : St) : Int32 := S.2.2.2.2.2.2.1
def St.tk (S : St) : Bool := S.2.2.2.2.2.2.2.1
def St.T9 (S : St) : List Tr := S.2.2.2.2.2.2.2.2.1
def St.x9 (S : St) : Cf := S.2.2.2.2.2.2.2.2.2.1
def St.G9 (S : St) : List Cf := S.2.2.2.2.2.2.2.2.2.2
def St.mk (T : List Tr) (x : Cf) (G : List Cf) (H : Hs) (n : Nat) (t : Nat → Nat) (f : Int32) (tk : Bool) (T9 : List Tr) (x9 : Cf) (G9 : List Cf) : St := (T, x, G, H, n, t, f, tk, T9, x9, G9)
/-- the Analysis, fresh or not -/
def RAn (M : ev_M) (o : Nat) (T : List Tr) (G : List Cf) (cu : Bool) (tr lo : Nat) (B : Nat → List Cf) : Prop := ∃ co la N, RAo M o cu co la tr lo ∧ RBs M o B ∧ RQ M (o + 54) 330 N ∧ RWk M (o + 58) ∧ RWk M (o + 59) ∧ (cu = true → co = (rn T G).1 ∧ la = (rn T G).2 ∧ (rn T G).2 < 13 ∧ ∀ j, j ≤ (rn T G).2 → B j = bl T G j)
theorem RAn.fr {lo hi : Nat} {M M1 : ev_M} {o : Nat} {T : List Tr} {G : List Cf} {cu : Bool} {tr l9 : Nat} {B : Nat → List Cf} (hR : RAn M o T G cu tr l9 B) (hf : Fr lo hi M M1) (hd : o + 60 ≤ lo ∨ hi ≤ o) : RAn M1 o T G cu tr l9 B := by
  obtain ⟨co, la, N, h1, h2, h3, h4, h5, h6⟩ := hR
  exact ⟨co, la, N, h1.fr hf (by omega), h2.fr hf (by omega), h3.fr hf (by omega), RWk.fr h4 hf (by omega), RWk.fr h5 hf (by omega), h6⟩
def RAx (M : ev_M) (T : List Tr) (G : List Cf) : Prop := ∃ cu tr lo B, RAn M 17 T G cu tr lo B
theorem RAx.fr {lo hi : Nat} {M M1 : ev_M} {T : List Tr} {G : List Cf} (hR : RAx M T G) (hf : Fr lo hi M M1) (hd : 77 ≤ lo ∨ hi ≤ 17) : RAx M1 T G := by
  obtain ⟨cu, tr, l9, B, h⟩ := hR
  exact ⟨cu, tr, l9, B, h.fr hf (by omega)⟩
/-- the reader but its signs -/
def RRd (M : ev_M) (n : Nat) (f : Int32) : Prop := ∃ s T G, Ro M 87 n s f ∧ RM M 89 T ∧ RQ M 91 8 G ∧ RWk M 95
theorem RRd.fr {lo hi : Nat} {M M1 : ev_M} {n : Nat} {f : Int32} (hR : RRd M n f) (hf : Fr lo hi M M1) (hd : 96 ≤ lo ∨ hi ≤ 87) : RRd M1 n f := by
  obtain ⟨s, T, G, h1, h2, h3, h4⟩ := hR
  exact ⟨s, T, G, (hf.2 87 (by omega)).trans h1, h2.fr hf (by omega), h3.fr hf (by omega), RWk.fr h4 hf (by omega)⟩
def RClo (M : ev_M) : Prop := M[0]? = some (.inr (9, [.ref 1, .ref 3, .ref 4, .ref 8, .ref 15, .ref 17, .ref 77, .ref 87, .ref 96]))
theorem RClo.fr {lo hi : Nat} {M M1 : ev_M} (hR : RClo M) (hf : Fr lo hi M M1) (hd : 0 < lo) : RClo M1 := (hf.2 0 (Or.inl hd)).trans hR
abbrev RCl (M : ev_M) (S : St) : Prop := RClo M ∧ RM M 1 S.T ∧ RF M 3 S.x ∧ RQ M 4 3 S.G ∧ RT M 8 S.H ∧ RG M 15 ∧ RAx M S.T S.G ∧ RO M 77 ∧ RRd M S.n S.f ∧ Rr M 87 S.t ∧ RS M 96 S.tk S.T9 S.x9 S.G9
theorem RCl.o {M : ev_M} {S : St} (h : RCl M S) : RClo M := h.1
theorem RCl.m {M : ev_M} {S : St} (h : RCl M S) : RM M 1 S.T := h.2.1
theorem RCl.x {M : ev_M} {S : St} (h : RCl M S) : RF M 3 S.x := h.2.2.1
theorem RCl.g {M : ev_M} {S : St} (h : RCl M S) : RQ M 4 3 S.G := h.2.2.2.1
theorem RCl.h {M : ev_M} {S : St} (h : RCl M S) : RT M 8 S.H := h.2.2.2.2.1
theorem RCl.k {M : ev_M} {S : St} (h : RCl M S) : RG M 15 := h.2.2.2.2.2.1
theorem RCl.a {M : ev_M} {S : St} (h : RCl M S) : RAx M S.T S.G := h.2.2.2.2.2.2.1
theorem RCl.l {M : ev_M} {S : St} (h : RCl M S) : RO M 77 := h.2.2.2.2.2.2.2.1
theorem RCl.r {M : ev_M} {S : St} (h : RCl M S) : RRd M S.n S.f := h.2.2.2.2.2.2.2.2.1
theorem RCl.w {M : ev_M} {S : St} (h : RCl M S) : Rr M 87 S.t := h.2.2.2.2.2.2.2.2.2.1
theorem RCl.s {M : ev_M} {S : St} (h : RCl M S) : RS M 96 S.tk S.T9 S.x9 S.G9 := h.2.2.2.2.2.2.2.2.2.2
abbrev okS (S : St) : Prop := trs S.T ∧ cfW 10 S.x ∧ cfs 10 S.G ∧ cfs 10 (hL S.H) ∧ S.n ≤ 80 ∧ tOk S.t ∧ trs S.T9 ∧ S.T9.length ≤ 10 ∧ cfW 10 S.x9 ∧ cfs 10 S.G9 ∧ S.G9.length ≤ 3
theorem okS.T {S : St} (h : okS S) : trs S.T := h.1
theorem okS.x {S : St} (h : okS S) : cfW 10 S.x := h.2.1
theorem okS.G {S : St} (h : okS S) : cfs 10 S.G := h.2.2.1
theorem okS.H {S : St} (h : okS S) : cfs 10 (hL S.H) := h.2.2.2.1
theorem okS.n {S : St} (h : okS S) : S.n ≤ 80 := h.2.2.2.2.1
theorem okS.t {S : St} (h : okS S) : tOk S.t := h.2.2.2.2.2.1
theorem okS.T9 {S : St} (h : okS S) : trs S.T9 := h.2.2.2.2.2.2.1
theorem okS.l9 {S : St} (h : okS S) : S.T9.length ≤ 10 := h.2.2.2.2.2.2.2.1
theorem okS.x9 {S : St} (h : okS S) : cfW 10 S.x9 := h.2.2.2.2.2.2.2.2.1
theorem okS.G9 {S : St} (h : okS S) : cfs 10 S.G9 := h.2.2.2.2.2.2.2.2.2.1
theorem okS.g9 {S : St} (h : okS S) : S.G9.length ≤ 3 := h.2.2.2.2.2.2.2.2.2.2
/-- an int among the first n -/
def inR (a : Int32) (n : Nat) : Bool := decide (0 ≤ a ∧ a < nI n)
theorem inR_c (a : Int32) (n : Nat) (hn : n < 2 ^ 31) : (∃ k, k < n ∧ a = nI k) ∨ inR a n = false := by
  cases h : inR a n with
  | false => exact Or.inr rfl
  | true =>
    have h1 := of_decide_eq_true h
    obtain ⟨j, hj, e⟩ := nI_of (Int32.not_lt.mpr h1.1)
    refine Or.inl ⟨j, ?_, e⟩
    rw [e] at h1
    exact (nI_ltI hj hn).mp h1.2
theorem inR_n {k n : Nat} (hk : k < n) (hn : n < 2 ^ 31) : inR (nI k) n = true := decide_eq_true ⟨nI_pos' (by omega), nI_lt hk hn⟩
theorem RG.obj {M : ev_M} {o : Nat} (h : RG M o) : M[o]? = some (.inr (3, [.ref (o + 1)])) := by
  obtain ⟨f, h1, h2⟩ := h
  exact h1
theorem RCl.len {M : ev_M} {S : St} (h : RCl M S) : 104 ≤ M.length := by
  obtain ⟨-, -, f, g, q, ⟨-, -, -, h4⟩, -⟩ := h.s.2.2.2
  have := (List.getElem?_eq_some_iff.mp h4).1
  omega
abbrev tN (a : Int32) : Nat := a.toNatClampNeg
theorem inR_t {a : Int32} {n : Nat} (hn : n < 2 ^ 31) (h : inR a n = true) : tN a < n ∧ a = nI (tN a) := by
  rcases inR_c a n hn with ⟨k, hk, rfl⟩ | q
  · rw [show tN (nI k) = k from nI_clamp (by omega)]
    exact ⟨hk, rfl⟩
  · rw [h] at q; cases q
/-- what the class answers: a value, or one of its exceptions -/
def cA (E : List String) (p : Nat × Int32) : ev_R := match p.1 with
  | 0 => .inl (some (.int p.2))
  | k + 1 => .inr (E.getD k "")
abbrev eIA : String := "java/lang/IllegalArgumentException"
abbrev eIS : String := "java/lang/IllegalStateException"
abbrev eIB : String := "java/lang/IndexOutOfBoundsException"
abbrev eUO : String := "java/lang/UnsupportedOperationException"
abbrev eNS : String := "java/util/NoSuchElementException"
section EVCX
variable {l : Launch} {mi mj : ev_MI} {kc ks pc : Nat} {ls : ev_L} {st : List Value} {M : ev_M} {Q : ev_R → ev_M → Prop}
theorem ev_cVX {idx : Nat} {ci n o : Nat} {fs as : List Value} (hY : ev_YV mj ci n) (hw : Cond.methodLink (ev_y mi).cls idx (ev_y mj) ∈ ev_bw) (hd : decode (ev_c mi) pc = .ok (.invokevirtual idx, 3)) (hR : ev_Rm mi mj kc ks st) (hm : M[o]? = some (.inr (ci, fs))) (hlen : as.length = n) {stk : List Value} (hst : stk = as.reverse ++ .ref o :: st) {E : String} {P : ev_M → Prop} (hc : ev_Mt l mj (.ref o :: as) M (fun r M1 => r = .inr E ∧ P M1)) (kx : ∀ M1, M.length ≤ M1.length → P M1 → ev_Th l mi (kc + ev_mc mj) (ks + ev_ms mj) pc ls E M1 Q) : ev_ l mi kc ks pc ls stk M Q := by
  subst hst
  refine ev_callV hY hw hd hR hm hlen hc (fun v' M' _ hq => ?_) (fun E M' h9 hq => ?_)
  · cases hq.1
  · obtain ⟨h1, h2⟩ := hq
    cases h1
    exact kx _ h9 h2
end EVCX
set_option maxHeartbeats 4000000 in
set_option maxRecDepth 100000 in
theorem c_X10_isState {l : Launch} (hl : l.stackTraces = false) {M : ev_M} (a : Int32) : ev_Mt l m_X10_isState [.int (a)] M (ev_q (.inl (some (.int (ev_b (inR a 6))))) M) := by
  refine ev_body hl rfl (by decide +kernel) (Nat.le_of_ble_eq_true rfl) ?_
  show ev_ l m_X10_isState 0 0 0 [some (.int (a))] [] M _
  refine ev_blk (B := [(.iload_n 0, 1)]) (pe := 1) (ls' := [some (.int (a))]) (st' := [.int (a)]) ⟨dX10_isState_0, rfl⟩ rfl ?_
  refine ev_if_lt dX10_isState_1 (tgt := 14) (by decide) (fun q1 => ?_) (fun q1 => ?_)
  · refine ev_blk (B := [(.iconst 0, 1)]) (pe := 15) (ls' := [some (.int (a))]) (st' := [.int (nI 0)]) ⟨dX10_isState_14, rfl⟩ rfl ?_
    refine ev_iret dX10_isState_15 rfl (rfl) ⟨Nat.le_of_ble_eq_true rfl, Nat.le_of_ble_eq_true rfl⟩ ?_
    have e9 : inR a 6 = false := decide_eq_false (fun q => Int32.not_le.mpr q1 q.1)
    rw [e9]
    exact ⟨rfl, rfl⟩
  · refine ev_blk (B := [(.iload_n 0, 1), (.bipush 6, 2)]) (pe := 7) (ls' := [some (.int (a))]) (st' := [.int (nI 6), .int (a)]) ⟨dX10_isState_4, dX10_isState_5, rfl⟩ rfl ?_
    refine ev_ic_ge dX10_isState_7 (tgt := 14) (by decide) (fun q7 => ?_) (fun q7 => ?_)
    · refine ev_blk (B := [(.iconst 0, 1)]) (pe := 15) (ls' := [some (.int (a))]) (st' := [.int (nI 0)]) ⟨dX10_isState_14, rfl⟩ rfl ?_
      refine ev_iret dX10_isState_15 rfl (rfl) ⟨Nat.le_of_ble_eq_true rfl, Nat.le_of_ble_eq_true rfl⟩ ?_
      have e9 : inR a 6 = false := decide_eq_false (fun q => Int32.not_le.mpr q.2 q7)
      rw [e9]
      exact ⟨rfl, rfl⟩
    · refine ev_blk (B := [(.iconst 1, 1)]) (pe := 11) (ls' := [some (.int (a))]) (st' := [.int (nI 1)]) ⟨dX10_isState_10, rfl⟩ rfl ?_
      refine ev_goto (tgt := 15) dX10_isState_11 (by decide) ?_
      refine ev_iret dX10_isState_15 rfl (rfl) ⟨Nat.le_of_ble_eq_true rfl, Nat.le_of_ble_eq_true rfl⟩ ?_
      have e9 : inR a 6 = true := decide_eq_true ⟨Int32.not_lt.mp q1, Int32.not_le.mp q7⟩
      rw [e9]
      exact ⟨rfl, rfl⟩

set_option maxHeartbeats 4000000 in
set_option maxRecDepth 100000 in
theorem c_X10_isChannel {l : Launch} (hl : l.stackTraces = false) {M : ev_M} (a : Int32) : ev_Mt l m_X10_isChannel [.int (a)] M (ev_q (.inl (some (.int (ev_b (inR a 2))))) M) := by
  refine ev_body hl rfl (by decide +kernel) (Nat.le_of_ble_eq_true rfl) ?_
  show ev_ l m_X10_isChannel 0 0 0 [some (.int (a))] [] M _
  refine ev_blk (B := [(.iload_n 0, 1)]) (pe := 1) (ls' := [some (.int (a))]) (st' := [.int (a)]) ⟨dX10_isChannel_0, rfl⟩ rfl ?_
  refine ev_if_lt dX10_isChannel_1 (tgt := 13) (by decide) (fun q1 => ?_) (fun q1 => ?_)
  · refine ev_blk (B := [(.iconst 0, 1)]) (pe := 14) (ls' := [some (.int (a))]) (st' := [.int (nI 0)]) ⟨dX10_isChannel_13, rfl⟩ rfl ?_
    refine ev_iret dX10_isChannel_14 rfl (rfl) ⟨Nat.le_of_ble_eq_true rfl, Nat.le_of_ble_eq_true rfl⟩ ?_
    have e9 : inR a 2 = false := decide_eq_false (fun q => Int32.not_le.mpr q1 q.1)
    rw [e9]
    exact ⟨rfl, rfl⟩
  · refine ev_blk (B := [(.iload_n 0, 1), (.iconst 2, 1)]) (pe := 6) (ls' := [some (.int (a))]) (st' := [.int (nI 2), .int (a)]) ⟨dX10_isChannel_4, dX10_isChannel_5, rfl⟩ rfl ?_
    refine ev_ic_ge dX10_isChannel_6 (tgt := 13) (by decide) (fun q6 => ?_) (fun q6 => ?_)
    · refine ev_blk (B := [(.iconst 0, 1)]) (pe := 14) (ls' := [some (.int (a))]) (st' := [.int (nI 0)]) ⟨dX10_isChannel_13, rfl⟩ rfl ?_
      refine ev_iret dX10_isChannel_14 rfl (rfl) ⟨Nat.le_of_ble_eq_true rfl, Nat.le_of_ble_eq_true rfl⟩ ?_
      have e9 : inR a 2 = false := decide_eq_false (fun q => Int32.not_le.mpr q.2 q6)
      rw [e9]
      exact ⟨rfl, rfl⟩
    · refine ev_blk (B := [(.iconst 1, 1)]) (pe := 10) (ls' := [some (.int (a))]) (st' := [.int (nI 1)]) ⟨dX10_isChannel_9, rfl⟩ rfl ?_
      refine ev_goto (tgt := 14) dX10_isChannel_10 (by decide) ?_
      refine ev_iret dX10_isChannel_14 rfl (rfl) ⟨Nat.le_of_ble_eq_true rfl, Nat.le_of_ble_eq_true rfl⟩ ?_
      have e9 : inR a 2 = true := decide_eq_true ⟨Int32.not_lt.mp q1, Int32.not_le.mp q6⟩
      rw [e9]
      exact ⟨rfl, rfl⟩

set_option maxHeartbeats 4000000 in
set_option maxRecDepth 100000 in
theorem c_X10_isLetter {l : Launch} (hl : l.stackTraces = false) {M : ev_M} (a : Int32) : ev_Mt l m_X10_isLetter [.int (a)] M (ev_q (.inl (some (.int (ev_b (inR a 3))))) M) := by
  refine ev_body hl rfl (by decide +kernel) (Nat.le_of_ble_eq_true rfl) ?_
  show ev_ l m_X10_isLetter 0 0 0 [some (.int (a))] [] M _
  refine ev_blk (B := [(.iload_n 0, 1)]) (pe := 1) (ls' := [some (.int (a))]) (st' := [.int (a)]) ⟨dX10_isLetter_0, rfl⟩ rfl ?_
  refine ev_if_lt dX10_isLetter_1 (tgt := 13) (by decide) (fun q1 => ?_) (fun q1 => ?_)
  · refine ev_blk (B := [(.iconst 0, 1)]) (pe := 14) (ls' := [some (.int (a))]) (st' := [.int (nI 0)]) ⟨dX10_isLetter_13, rfl⟩ rfl ?_
    refine ev_iret dX10_isLetter_14 rfl (rfl) ⟨Nat.le_of_ble_eq_true rfl, Nat.le_of_ble_eq_true rfl⟩ ?_
    have e9 : inR a 3 = false := decide_eq_false (fun q => Int32.not_le.mpr q1 q.1)
    rw [e9]
    exact ⟨rfl, rfl⟩
  · refine ev_blk (B := [(.iload_n 0, 1), (.iconst 3, 1)]) (pe := 6) (ls' := [some (.int (a))]) (st' := [.int (nI 3), .int (a)]) ⟨dX10_isLetter_4, dX10_isLetter_5, rfl⟩ rfl ?_
    refine ev_ic_ge dX10_isLetter_6 (tgt := 13) (by decide) (fun q6 => ?_) (fun q6 => ?_)
    · refine ev_blk (B := [(.iconst 0, 1)]) (pe := 14) (ls' := [some (.int (a))]) (st' := [.int (nI 0)]) ⟨dX10_isLetter_13, rfl⟩ rfl ?_
      refine ev_iret dX10_isLetter_14 rfl (rfl) ⟨Nat.le_of_ble_eq_true rfl, Nat.le_of_ble_eq_true rfl⟩ ?_
      have e9 : inR a 3 = false := decide_eq_false (fun q => Int32.not_le.mpr q.2 q6)
      rw [e9]
      exact ⟨rfl, rfl⟩
    · refine ev_blk (B := [(.iconst 1, 1)]) (pe := 10) (ls' := [some (.int (a))]) (st' := [.int (nI 1)]) ⟨dX10_isLetter_9, rfl⟩ rfl ?_
      refine ev_goto (tgt := 14) dX10_isLetter_10 (by decide) ?_
      refine ev_iret dX10_isLetter_14 rfl (rfl) ⟨Nat.le_of_ble_eq_true rfl, Nat.le_of_ble_eq_true rfl⟩ ?_
      have e9 : inR a 3 = true := decide_eq_true ⟨Int32.not_lt.mp q1, Int32.not_le.mp q6⟩
      rw [e9]
      exact ⟨rfl, rfl⟩

set_option maxHeartbeats 4000000 in
set_option maxRecDepth 100000 in
theorem c_X10_other {l : Launch} (hl : l.stackTraces = false) {M : ev_M} (k : Nat) (hk : k < 2) : ev_Mt l m_X10_other [.int (nI k)] M (ev_q (.inl (some (.int (nI (1 - k))))) M) := by
  refine ev_body hl rfl (by decide +kernel) (Nat.le_of_ble_eq_true rfl) ?_
  show ev_ l m_X10_other 0 0 0 [some (.int (nI k))] [] M _
  refine ev_blk (B := [(.iconst 1, 1), (.iload_n 0, 1), (.isub, 1)]) (pe := 3) (ls' := [some (.int (nI k))]) (st' := [.int (nI (1 - k))]) ⟨dX10_other_0, dX10_other_1, dX10_other_2, rfl⟩ (by show some (([some (.int (nI k))] : ev_L), ([.int ((nI 1) - (nI k))] : List Value)) = _; rw [pk_sub (show k ≤ 1 by omega)]) ?_
  refine ev_iret dX10_other_3 rfl (rfl) ⟨Nat.le_of_ble_eq_true rfl, Nat.le_of_ble_eq_true rfl⟩ ?_
  exact ⟨rfl, rfl⟩

set_option maxHeartbeats 4000000 in
set_option maxRecDepth 100000 in
theorem c_X10_requireChannelT {l : Launch} (hl : l.stackTraces = false) {M : ev_M} (a : Int32) (ha : inR a 2 = true) : ev_Mt l m_X10_requireChannel [.int (a)] M (ev_q (.inl none) M) := by
  refine ev_body hl rfl (by decide +kernel) (Nat.le_of_ble_eq_true rfl) ?_
  show ev_ l m_X10_requireChannel 0 0 0 [some (.int (a))] [] M _
  refine ev_blk (B := [(.iload_n 0, 1)]) (pe := 1) (ls' := [some (.int (a))]) (st' := [.int (a)]) ⟨dX10_requireChannel_0, rfl⟩ rfl ?_
  refine ev_cSv Y_X10_isChannel L_RX10_85 dX10_requireChannel_1 ⟨Nat.le_of_ble_eq_true rfl, Nat.le_of_ble_eq_true rfl, Nat.le_of_ble_eq_true rfl, Nat.le_of_ble_eq_true rfl, Nat.le_of_ble_eq_true rfl⟩ (as := [.int (a)]) rfl rfl (c_X10_isChannel hl a) ?_
  refine ev_ifB_ne dX10_requireChannel_4 (tgt := 18) (by decide) (fun q4 => ?_) (fun q4 => ?_)
  · refine ev_vret dX10_requireChannel_18 rfl ⟨Nat.le_of_ble_eq_true rfl, Nat.le_of_ble_eq_true rfl⟩ ?_
    exact ⟨rfl, rfl⟩
  · exact absurd (ha.symm.trans q4) (by decide)

set_option maxHeartbeats 4000000 in
set_option maxRecDepth 100000 in
theorem c_X10_requireChannelF {l : Launch} (hl : l.stackTraces = false) {M : ev_M} (a : Int32) (ha : inR a 2 = false) : ev_Mt l m_X10_requireChannel [.int (a)] M (ev_q (.inr eIB) M) := by
  refine ev_body hl rfl (by decide +kernel) (Nat.le_of_ble_eq_true rfl) ?_
  show ev_ l m_X10_requireChannel 0 0 0 [some (.int (a))] [] M _
  refine ev_blk (B := [(.iload_n 0, 1)]) (pe := 1) (ls' := [some (.int (a))]) (st' := [.int (a)]) ⟨dX10_requireChannel_0, rfl⟩ rfl ?_
  refine ev_cSv Y_X10_isChannel L_RX10_85 dX10_requireChannel_1 ⟨Nat.le_of_ble_eq_true rfl, Nat.le_of_ble_eq_true rfl, Nat.le_of_ble_eq_true rfl, Nat.le_of_ble_eq_true rfl, Nat.le_of_ble_eq_true rfl⟩ (as := [.int (a)]) rfl rfl (c_X10_isChannel hl a) ?_
  refine ev_ifB_ne dX10_requireChannel_4 (tgt := 18) (by decide) (fun q4 => ?_) (fun q4 => ?_)
  · exact absurd (ha.symm.trans q4) (by decide)
  · refine ev_throwW (cls := "java/lang/IndexOutOfBoundsException") (text := "no such channel") (names := ev_nmR) (ic := 259) (ik := 255) rfl (by decide +kernel) (by decide +kernel) T_IndexOutOfBoundsException (by decide +kernel) dX10_requireChannel_7 dX10_requireChannel_10 dX10_requireChannel_11 dX10_requireChannel_14 dX10_requireChannel_17 ⟨Nat.le_of_ble_eq_true rfl, Nat.le_of_ble_eq_true rfl, Nat.le_of_ble_eq_true rfl, Nat.le_of_ble_eq_true rfl⟩ ?_
    exact ⟨rfl, rfl⟩

