/-! ===== TextReader ===== -/
/-- the next sign is one of so many from the lowest on -/
def nxt (t : Nat → Nat) (n p : Nat) (b : Bool) (lo c : Nat) : Bool := !b && decide (p < n ∧ lo ≤ t p ∧ t p < lo + c)
/-- position and fault behind a symbol; its number -/
def ps (t : Nat → Nat) (n : Nat) (s : Nat × Bool) (lo c : Nat) : Nat × Bool := if nxt t n s.1 s.2 lo c = true then (s.1 + 1, s.2) else (s.1, true)
def sv (t : Nat → Nat) (n : Nat) (s : Nat × Bool) (lo c : Nat) : Nat := if nxt t n s.1 s.2 lo c = true then t s.1 - lo else 0
theorem nxt_iff {t : Nat → Nat} {n p : Nat} {b : Bool} {lo c : Nat} : nxt t n p b lo c = true ↔ b = false ∧ p < n ∧ lo ≤ t p ∧ t p < lo + c := by
  unfold nxt
  cases b <;> simp
theorem ps_le {t : Nat → Nat} {n : Nat} {s : Nat × Bool} {lo c : Nat} (h : s.1 ≤ n) : (ps t n s lo c).1 ≤ n ∧ s.1 ≤ (ps t n s lo c).1 ∧ (ps t n s lo c).1 ≤ s.1 + 1 := by
  unfold ps
  split
  · rename_i q
    have := (nxt_iff.mp q).2.1
    exact ⟨by show s.1 + 1 ≤ n; omega, Nat.le_succ _, Nat.le_refl _⟩
  · exact ⟨h, Nat.le_refl _, Nat.le_succ _⟩
theorem sv_lt {t : Nat → Nat} {n : Nat} {s : Nat × Bool} {lo c : Nat} (hc : 0 < c) : sv t n s lo c < c := by
  unfold sv
  split
  · rename_i q
    have := (nxt_iff.mp q).2.2
    omega
  · exact hc
theorem ps_ok {t : Nat → Nat} {n : Nat} {s : Nat × Bool} {lo c : Nat} (h : (ps t n s lo c).2 = false) : s.2 = false ∧ (ps t n s lo c).1 = s.1 + 1 := by
  unfold ps at h ⊢
  split
  · rename_i q
    rw [if_pos q] at h
    exact ⟨h, rfl⟩
  · rename_i q
    rw [if_neg q] at h
    cases h
/-- a word of at most so many letters -/
def pw (t : Nat → Nat) (n : Nat) (b : Bool) : Nat → Nat → List Nat × Nat
  | 0, p => ([], p)
  | k + 1, p => bif nxt t n p b 97 3 then ((t p - 97) :: (pw t n b k (p + 1)).1, (pw t n b k (p + 1)).2) else ([], p)
theorem pw_ok {t : Nat → Nat} {n : Nat} {b : Bool} (k : Nat) : ∀ p, p ≤ n → wk (pw t n b k p).1 ∧ (pw t n b k p).1.length ≤ k ∧ (pw t n b k p).2 ≤ n ∧ p ≤ (pw t n b k p).2 := by
  induction k with
  | zero => intro p hp; exact ⟨fun a ha => absurd ha List.not_mem_nil, Nat.le_refl _, hp, Nat.le_refl _⟩
  | succ k ih =>
    intro p hp
    unfold pw
    cases q : nxt t n p b 97 3 with
    | false => exact ⟨fun a ha => absurd ha List.not_mem_nil, Nat.zero_le _, hp, Nat.le_refl _⟩
    | true =>
      have h1 := nxt_iff.mp q
      obtain ⟨i1, i2, i3, i4⟩ := ih (p + 1) (by omega)
      refine ⟨fun a ha => ?_, Nat.succ_le_succ i2, i3, by show p ≤ (pw t n b k (p + 1)).2; omega⟩
      rcases List.mem_cons.mp ha with h | h
      · rw [h]; omega
      · exact i1 a h
/-- the end of a name -/
def nd (t : Nat → Nat) (n : Nat) : Nat → Nat → Nat
  | 0, p => p
  | k + 1, p => bif decide (p < n ∧ 97 ≤ t p ∧ t p ≤ 122) then nd t n k (p + 1) else p
theorem nd_le {t : Nat → Nat} {n : Nat} (k : Nat) : ∀ p, p ≤ n → nd t n k p ≤ n ∧ p ≤ nd t n k p := by
  induction k with
  | zero => intro p hp; exact ⟨hp, Nat.le_refl _⟩
  | succ k ih =>
    intro p hp
    unfold nd
    cases q : decide (p < n ∧ 97 ≤ t p ∧ t p ≤ 122) with
    | false => exact ⟨hp, Nat.le_refl _⟩
    | true =>
      have h1 := of_decide_eq_true q
      obtain ⟨i1, i2⟩ := ih (p + 1) (by omega)
      exact ⟨i1, by show p ≤ nd t n k (p + 1); omega⟩
/-- the name that stands between -/
def rk (t : Nat → Nat) (s p k : Nat) : Bool := decide (p = s + 4 ∧ t s = xw k 0 ∧ t (s + 1) = xw k 1 ∧ t (s + 2) = xw k 2 ∧ t (s + 3) = xw k 3)
theorem rk_iff {t : Nat → Nat} {s p k : Nat} : rk t s p k = true ↔ p = s + 4 ∧ ∀ j, j < 4 → t (s + j) = xw k j := by
  unfold rk
  rw [decide_eq_true_iff]
  constructor
  · rintro ⟨h, h0, h1, h2, h3⟩
    refine ⟨h, fun j hj => ?_⟩
    match j, hj with
    | 0, _ => exact h0
    | 1, _ => exact h1
    | 2, _ => exact h2
    | 3, _ => exact h3
  · rintro ⟨h, hj⟩
    exact ⟨h, hj 0 (by decide), hj 1 (by decide), hj 2 (by decide), hj 3 (by decide)⟩
def nk (t : Nat → Nat) (s p : Nat) : Option Nat := bif rk t s p 0 then some 0 else bif rk t s p 1 then some 1 else bif rk t s p 2 then some 2 else bif rk t s p 3 then some 3 else none
theorem nk_lt {t : Nat → Nat} {s p k : Nat} (h : nk t s p = some k) : k < 4 ∧ p = s + 4 := by
  unfold nk at h
  cases q0 : rk t s p 0 with
  | true => rw [q0] at h; cases h; exact ⟨by decide, (rk_iff.mp q0).1⟩
  | false =>
    cases q1 : rk t s p 1 with
    | true => rw [q0, q1] at h; cases h; exact ⟨by decide, (rk_iff.mp q1).1⟩
    | false =>
      cases q2 : rk t s p 2 with
      | true => rw [q0, q1, q2] at h; cases h; exact ⟨by decide, (rk_iff.mp q2).1⟩
      | false =>
        cases q3 : rk t s p 3 with
        | true => rw [q0, q1, q2, q3] at h; cases h; exact ⟨by decide, (rk_iff.mp q3).1⟩
        | false => rw [q0, q1, q2, q3] at h; cases h
/-- a reader at o: its cell, its row of signs -/
def Ro (M : ev_M) (o n : Nat) (s : Nat × Bool) (f : Int32) : Prop := M[o]? = some (.inr (7, [.ref (o + 1), .ref (o + 2), .ref (o + 4), .ref (o + 8), .int (nI n), .int (nI s.1), .int (ev_b s.2), .int f]))
def Rr (M : ev_M) (o : Nat) (t : Nat → Nat) : Prop := M[o + 1]? = some (.inl (2, 80, .inl (fun i => nI (t i))))
theorem Rr.fr {lo hi : Nat} {M M1 : ev_M} {o : Nat} {t : Nat → Nat} (hR : Rr M o t) (hf : Fr lo hi M M1) (hd : o + 1 < lo ∨ hi ≤ o + 1) : Rr M1 o t := (hf.2 (o + 1) hd).trans hR
/-- what parsing needs to know of the signs -/
def tOk (t : Nat → Nat) : Prop := ∀ i, t i < 65536
set_option maxHeartbeats 4000000 in
set_option maxRecDepth 100000 in
theorem c_X7_isNext {l : Launch} (hl : l.stackTraces = false) {M : ev_M} (o n : Nat) (s : Nat × Bool) (f : Int32) (t : Nat → Nat) (hO : Ro M o n s f) (hT : Rr M o t) (ht : tOk t) (hn : n ≤ 80) (hp : s.1 ≤ n) (lo c : Nat) (hlo : lo < 1000) (hc : c < 1000) : ev_Mt l m_X7_isNext [.ref (o), .int (nI lo), .int (nI c)] M (ev_q (.inl (some (.int (ev_b (nxt t n s.1 s.2 lo c))))) M) := by
  have ht1 := ht s.1
  refine ev_body hl rfl (by decide +kernel) (Nat.le_of_ble_eq_true rfl) ?_
  show ev_ l m_X7_isNext 0 0 0 [some (.ref (o)), some (.int (nI lo)), some (.int (nI c))] [] M _
  refine ev_blk (B := [(.aload_n 0, 1)]) (pe := 1) (ls' := [some (.ref (o)), some (.int (nI lo)), some (.int (nI c))]) (st' := [.ref (o)]) ⟨dX7_isNext_0, rfl⟩ rfl ?_
  refine ev_getf (v := .int (ev_b (s.2))) F_RX7_45 dX7_isNext_1 hO rfl ?_
  refine ev_ifB_ne dX7_isNext_4 (tgt := 57) (by decide) (fun q4 => ?_) (fun q4 => ?_)
  · refine ev_blk (B := [(.iconst 0, 1)]) (pe := 58) (ls' := [some (.ref (o)), some (.int (nI lo)), some (.int (nI c))]) (st' := [.int (nI 0)]) ⟨dX7_isNext_57, rfl⟩ rfl ?_
    refine ev_iret dX7_isNext_58 rfl (rfl) ⟨Nat.le_of_ble_eq_true rfl, Nat.le_of_ble_eq_true rfl⟩ ?_
    have e9 : nxt t n s.1 s.2 lo c = false := Bool.eq_false_iff.mpr (fun z => by have z1 := nxt_iff.mp z; rw [z1.1] at q4; cases q4)
    rw [e9]
    exact ⟨rfl, rfl⟩
  · refine ev_blk (B := [(.aload_n 0, 1)]) (pe := 8) (ls' := [some (.ref (o)), some (.int (nI lo)), some (.int (nI c))]) (st' := [.ref (o)]) ⟨dX7_isNext_7, rfl⟩ rfl ?_
    refine ev_getf (v := .int (nI (s.1))) F_RX7_42 dX7_isNext_8 hO rfl ?_
    refine ev_fN_lt dX7_isNext_11 (tgt := 57) (by decide) (by omega) ?_
    refine ev_blk (B := [(.aload_n 0, 1)]) (pe := 15) (ls' := [some (.ref (o)), some (.int (nI lo)), some (.int (nI c))]) (st' := [.ref (o)]) ⟨dX7_isNext_14, rfl⟩ rfl ?_
    refine ev_getf (v := .int (nI (s.1))) F_RX7_42 dX7_isNext_15 hO rfl ?_
    refine ev_blk (B := [(.aload_n 0, 1)]) (pe := 19) (ls' := [some (.ref (o)), some (.int (nI lo)), some (.int (nI c))]) (st' := [.ref (o), .int (nI (s.1))]) ⟨dX7_isNext_18, rfl⟩ rfl ?_
    refine ev_getf (v := .int (nI n)) F_RX7_38 dX7_isNext_19 hO rfl ?_
    refine ev_iN_ge dX7_isNext_22 (tgt := 57) (by decide) (by omega) (by omega) (fun q22 => ?_) (fun q22 => ?_)
    · refine ev_blk (B := [(.iconst 0, 1)]) (pe := 58) (ls' := [some (.ref (o)), some (.int (nI lo)), some (.int (nI c))]) (st' := [.int (nI 0)]) ⟨dX7_isNext_57, rfl⟩ rfl ?_
      refine ev_iret dX7_isNext_58 rfl (rfl) ⟨Nat.le_of_ble_eq_true rfl, Nat.le_of_ble_eq_true rfl⟩ ?_
      have e9 : nxt t n s.1 s.2 lo c = false := Bool.eq_false_iff.mpr (fun z => by have z1 := nxt_iff.mp z; omega)
      rw [e9]
      exact ⟨rfl, rfl⟩
    · refine ev_blk (B := [(.aload_n 0, 1)]) (pe := 26) (ls' := [some (.ref (o)), some (.int (nI lo)), some (.int (nI c))]) (st' := [.ref (o)]) ⟨dX7_isNext_25, rfl⟩ rfl ?_
      refine ev_getf (v := .ref (o + 1)) F_RX7_9 dX7_isNext_26 hO rfl ?_
      refine ev_blk (B := [(.aload_n 0, 1)]) (pe := 30) (ls' := [some (.ref (o)), some (.int (nI lo)), some (.int (nI c))]) (st' := [.ref (o), .ref (o + 1)]) ⟨dX7_isNext_29, rfl⟩ rfl ?_
      refine ev_getf (v := .int (nI (s.1))) F_RX7_42 dX7_isNext_30 hO rfl ?_
      refine ev_cald dX7_isNext_33 hT (vp_in_nI (show s.1 < 80 by omega) (by omega)) ?_
      rw [nI_clamp (show s.1 < 2 ^ 31 by omega)]
      refine ev_blk (B := [(.iload_n 1, 1)]) (pe := 35) (ls' := [some (.ref (o)), some (.int (nI lo)), some (.int (nI c))]) (st' := [.int (nI lo), .int (nI (t (s.1)))]) ⟨dX7_isNext_34, rfl⟩ rfl ?_
      refine ev_iN_lt dX7_isNext_35 (tgt := 57) (by decide) (by omega) (by omega) (fun q35 => ?_) (fun q35 => ?_)
      · refine ev_blk (B := [(.iconst 0, 1)]) (pe := 58) (ls' := [some (.ref (o)), some (.int (nI lo)), some (.int (nI c))]) (st' := [.int (nI 0)]) ⟨dX7_isNext_57, rfl⟩ rfl ?_
        refine ev_iret dX7_isNext_58 rfl (rfl) ⟨Nat.le_of_ble_eq_true rfl, Nat.le_of_ble_eq_true rfl⟩ ?_
        have e9 : nxt t n s.1 s.2 lo c = false := Bool.eq_false_iff.mpr (fun z => by have z1 := nxt_iff.mp z; omega)
        rw [e9]
        exact ⟨rfl, rfl⟩
      · refine ev_blk (B := [(.aload_n 0, 1)]) (pe := 39) (ls' := [some (.ref (o)), some (.int (nI lo)), some (.int (nI c))]) (st' := [.ref (o)]) ⟨dX7_isNext_38, rfl⟩ rfl ?_
        refine ev_getf (v := .ref (o + 1)) F_RX7_9 dX7_isNext_39 hO rfl ?_
        refine ev_blk (B := [(.aload_n 0, 1)]) (pe := 43) (ls' := [some (.ref (o)), some (.int (nI lo)), some (.int (nI c))]) (st' := [.ref (o), .ref (o + 1)]) ⟨dX7_isNext_42, rfl⟩ rfl ?_
        refine ev_getf (v := .int (nI (s.1))) F_RX7_42 dX7_isNext_43 hO rfl ?_
        refine ev_cald dX7_isNext_46 hT (vp_in_nI (show s.1 < 80 by omega) (by omega)) ?_
        rw [nI_clamp (show s.1 < 2 ^ 31 by omega)]
        refine ev_blk (B := [(.iload_n 1, 1), (.iload_n 2, 1), (.iadd, 1)]) (pe := 50) (ls' := [some (.ref (o)), some (.int (nI lo)), some (.int (nI c))]) (st' := [.int (nI (lo + c)), .int (nI (t (s.1)))]) ⟨dX7_isNext_47, dX7_isNext_48, dX7_isNext_49, rfl⟩ (by show some (([some (.ref (o)), some (.int (nI lo)), some (.int (nI c))] : ev_L), ([.int ((nI lo) + (nI c)), .int (nI (t (s.1)))] : List Value)) = _; rw [nI_add lo c]) ?_
        refine ev_iN_ge dX7_isNext_50 (tgt := 57) (by decide) (by omega) (by omega) (fun q50 => ?_) (fun q50 => ?_)
        · refine ev_blk (B := [(.iconst 0, 1)]) (pe := 58) (ls' := [some (.ref (o)), some (.int (nI lo)), some (.int (nI c))]) (st' := [.int (nI 0)]) ⟨dX7_isNext_57, rfl⟩ rfl ?_
          refine ev_iret dX7_isNext_58 rfl (rfl) ⟨Nat.le_of_ble_eq_true rfl, Nat.le_of_ble_eq_true rfl⟩ ?_
          have e9 : nxt t n s.1 s.2 lo c = false := Bool.eq_false_iff.mpr (fun z => by have z1 := nxt_iff.mp z; omega)
          rw [e9]
          exact ⟨rfl, rfl⟩
        · refine ev_blk (B := [(.iconst 1, 1)]) (pe := 54) (ls' := [some (.ref (o)), some (.int (nI lo)), some (.int (nI c))]) (st' := [.int (nI 1)]) ⟨dX7_isNext_53, rfl⟩ rfl ?_
          refine ev_goto (tgt := 58) dX7_isNext_54 (by decide) ?_
          refine ev_iret dX7_isNext_58 rfl (rfl) ⟨Nat.le_of_ble_eq_true rfl, Nat.le_of_ble_eq_true rfl⟩ ?_
          have e9 : nxt t n s.1 s.2 lo c = true := nxt_iff.mpr ⟨q4, by omega, by omega, by omega⟩
          rw [e9]
          exact ⟨rfl, rfl⟩

set_option maxHeartbeats 4000000 in
set_option maxRecDepth 100000 in
theorem c_X7_sym {l : Launch} (hl : l.stackTraces = false) {M : ev_M} (o n : Nat) (s : Nat × Bool) (f : Int32) (t : Nat → Nat) (hO : Ro M o n s f) (hT : Rr M o t) (ht : tOk t) (hn : n ≤ 80) (hp : s.1 ≤ n) (lo c : Nat) (hlo : lo < 1000) (hc : c < 1000) : ev_Mt l m_X7_parseSymbol [.ref (o), .int (nI lo), .int (nI c)] M (fun r M1 => r = .inl (some (.int (nI (sv t n s lo c)))) ∧ Ro M1 o n (ps t n s lo c) f ∧ Fr o (o + 1) M M1) := by
  have ht1 := ht s.1
  refine ev_body hl rfl (by decide +kernel) (Nat.le_of_ble_eq_true rfl) ?_
  show ev_ l m_X7_parseSymbol 0 0 0 [some (.ref (o)), some (.int (nI lo)), some (.int (nI c)), none] [] M _
  refine ev_blk (B := [(.aload_n 0, 1), (.iload_n 1, 1), (.iload_n 2, 1)]) (pe := 3) (ls' := [some (.ref (o)), some (.int (nI lo)), some (.int (nI c)), none]) (st' := [.int (nI c), .int (nI lo), .ref (o)]) ⟨dX7_parseSymbol_0, dX7_parseSymbol_1, dX7_parseSymbol_2, rfl⟩ rfl ?_
  refine ev_cVv Y_X7_isNext L_RX7_129 dX7_parseSymbol_3 ⟨Nat.le_of_ble_eq_true rfl, Nat.le_of_ble_eq_true rfl, Nat.le_of_ble_eq_true rfl, Nat.le_of_ble_eq_true rfl, Nat.le_of_ble_eq_true rfl⟩ hO (as := [.int (nI lo), .int (nI c)]) rfl rfl (c_X7_isNext hl o n s f t hO hT ht hn hp lo c hlo hc) ?_
  refine ev_ifB_ne dX7_parseSymbol_6 (tgt := 16) (by decide) (fun q6 => ?_) (fun q6 => ?_)
  · have y9 := nxt_iff.mp q6
    refine ev_blk (B := [(.aload_n 0, 1)]) (pe := 17) (ls' := [some (.ref (o)), some (.int (nI lo)), some (.int (nI c)), none]) (st' := [.ref (o)]) ⟨dX7_parseSymbol_16, rfl⟩ rfl ?_
    refine ev_getf (v := .ref (o + 1)) F_RX7_9 dX7_parseSymbol_17 hO rfl ?_
    refine ev_blk (B := [(.aload_n 0, 1)]) (pe := 21) (ls' := [some (.ref (o)), some (.int (nI lo)), some (.int (nI c)), none]) (st' := [.ref (o), .ref (o + 1)]) ⟨dX7_parseSymbol_20, rfl⟩ rfl ?_
    refine ev_getf (v := .int (nI (s.1))) F_RX7_42 dX7_parseSymbol_21 hO rfl ?_
    refine ev_cald dX7_parseSymbol_24 hT (vp_in_nI (show s.1 < 80 by omega) (by omega)) ?_
    rw [nI_clamp (show s.1 < 2 ^ 31 by omega)]
    refine ev_blk (B := [(.iload_n 1, 1), (.isub, 1), (.istore_n 3, 1), (.aload_n 0, 1), (.dup, 1)]) (pe := 30) (ls' := [some (.ref (o)), some (.int (nI lo)), some (.int (nI c)), some (.int (nI ((t (s.1)) - lo)))]) (st' := [.ref (o), .ref (o)]) ⟨dX7_parseSymbol_25, dX7_parseSymbol_26, dX7_parseSymbol_27, dX7_parseSymbol_28, dX7_parseSymbol_29, rfl⟩ (by show some (([some (.ref (o)), some (.int (nI lo)), some (.int (nI c)), some (.int ((nI (t (s.1))) - (nI lo)))] : ev_L), ([.ref (o), .ref (o)] : List Value)) = _; rw [pk_sub (show lo ≤ (t (s.1)) by omega)]) ?_
    refine ev_getf (v := .int (nI (s.1))) F_RX7_42 dX7_parseSymbol_30 hO rfl ?_
    refine ev_blk (B := [(.iconst 1, 1), (.iadd, 1)]) (pe := 35) (ls' := [some (.ref (o)), some (.int (nI lo)), some (.int (nI c)), some (.int (nI ((t (s.1)) - lo)))]) (st' := [.int (nI ((s.1) + 1)), .ref (o)]) ⟨dX7_parseSymbol_33, dX7_parseSymbol_34, rfl⟩ (by show some (([some (.ref (o)), some (.int (nI lo)), some (.int (nI c)), some (.int (nI ((t (s.1)) - lo)))] : ev_L), ([.int ((nI (s.1)) + (nI 1)), .ref (o)] : List Value)) = _; rw [nI_add (s.1) 1]) ?_
    refine ev_put F_RX7_42 dX7_parseSymbol_35 hO (Nat.le_of_ble_eq_true rfl) (fun _ _ => ⟨rfl, rfl⟩) ?_
    refine ev_nm (M0 := M.set (o) (.inr (7, [.ref (o + 1), .ref (o + 2), .ref (o + 4), .ref (o + 8), .int (nI n), .int (nI ((s.1) + 1)), .int (ev_b (s.2)), .int (f)]))) (fun M1 eM1 => ?_)
    have f2 : M1[o]? = some (.inr (7, [.ref (o + 1), .ref (o + 2), .ref (o + 4), .ref (o + 8), .int (nI n), .int (nI ((s.1) + 1)), .int (ev_b (s.2)), .int (f)])) := by rw [eM1]; exact ev_sg hO
    have f3 : M1[o + 1]? = some (.inl (2, 80, .inl (fun i => nI (t i)))) := by rw [eM1, ev_sn (by omega)]; exact hT
    refine ev_blk (B := [(.iload_n 3, 1)]) (pe := 39) (ls' := [some (.ref (o)), some (.int (nI lo)), some (.int (nI c)), some (.int (nI ((t (s.1)) - lo)))]) (st' := [.int (nI ((t (s.1)) - lo))]) ⟨dX7_parseSymbol_38, rfl⟩ rfl ?_
    refine ev_iret dX7_parseSymbol_39 rfl (rfl) ⟨Nat.le_of_ble_eq_true rfl, Nat.le_of_ble_eq_true rfl⟩ ?_
    have e9 : sv t n s lo c = t s.1 - lo := if_pos q6
    have e8 : ps t n s lo c = (s.1 + 1, s.2) := if_pos q6
    rw [e9, e8]
    exact ⟨rfl, f2, ⟨by rw [eM1]; simp only [List.length_set], fun j hj => by rw [eM1, ev_sn (by omega)]⟩⟩
  · refine ev_blk (B := [(.aload_n 0, 1), (.iconst 1, 1)]) (pe := 11) (ls' := [some (.ref (o)), some (.int (nI lo)), some (.int (nI c)), none]) (st' := [.int (nI 1), .ref (o)]) ⟨dX7_parseSymbol_9, dX7_parseSymbol_10, rfl⟩ rfl ?_
    refine ev_put F_RX7_45 dX7_parseSymbol_11 hO (Nat.le_of_ble_eq_true rfl) (fun _ _ => ⟨rfl, rfl⟩) ?_
    refine ev_nm (M0 := M.set (o) (.inr (7, [.ref (o + 1), .ref (o + 2), .ref (o + 4), .ref (o + 8), .int (nI n), .int (nI (s.1)), .int (nI 1), .int (f)]))) (fun M4 eM4 => ?_)
    have f5 : M4[o]? = some (.inr (7, [.ref (o + 1), .ref (o + 2), .ref (o + 4), .ref (o + 8), .int (nI n), .int (nI (s.1)), .int (nI 1), .int (f)])) := by rw [eM4]; exact ev_sg hO
    have f6 : M4[o + 1]? = some (.inl (2, 80, .inl (fun i => nI (t i)))) := by rw [eM4, ev_sn (by omega)]; exact hT
    refine ev_blk (B := [(.iconst 0, 1)]) (pe := 15) (ls' := [some (.ref (o)), some (.int (nI lo)), some (.int (nI c)), none]) (st' := [.int (nI 0)]) ⟨dX7_parseSymbol_14, rfl⟩ rfl ?_
    refine ev_iret dX7_parseSymbol_15 rfl (rfl) ⟨Nat.le_of_ble_eq_true rfl, Nat.le_of_ble_eq_true rfl⟩ ?_
    have e9 : sv t n s lo c = 0 := if_neg (Bool.eq_false_iff.mp q6)
    have e8 : ps t n s lo c = (s.1, true) := if_neg (Bool.eq_false_iff.mp q6)
    rw [e9, e8]
    exact ⟨rfl, f5, ⟨by rw [eM4]; simp only [List.length_set], fun j hj => by rw [eM4, ev_sn (by omega)]⟩⟩

theorem if_pos_b {α : Type} {b : Bool} {x y : α} (h : b = true) : (bif b then x else y) = x := by rw [h]; rfl
theorem if_neg_b {α : Type} {b : Bool} {x y : α} (h : b = false) : (bif b then x else y) = y := by rw [h]; rfl
theorem oI_0 {k : Option Nat} (h : ∀ a, k = some a → a < 4) : oI k = 0 ↔ k = some 0 := by
  cases k with
  | none => exact ⟨fun q => absurd q (by decide), fun q => by cases q⟩
  | some a =>
    have ha := h a rfl
    constructor
    · intro q
      have : nI a = nI 0 := q
      rw [(nI_eq (by omega) (by omega)).mp this]
    · intro q; cases q; rfl
theorem oI_m {k : Option Nat} (h : ∀ a, k = some a → a < 4) : oI k = -1 ↔ k = none := by
  cases k with
  | none => exact ⟨fun _ => rfl, fun _ => rfl⟩
  | some a =>
    have ha := h a rfl
    constructor
    · intro q
      have q1 : nI a = -1 := q
      have : ∀ a, a < 4 → nI a ≠ -1 := by decide
      exact absurd q1 (this a ha)
    · intro q; cases q
/-- nothing changed but two cells -/
def Fdd (a b : Nat) (M M1 : ev_M) : Prop := M1.length = M.length ∧ ∀ j, j ≠ a → j ≠ b → M1[j]? = M[j]?
theorem Fdd.rf {a b : Nat} {M : ev_M} : Fdd a b M M := ⟨rfl, fun _ _ _ => rfl⟩
theorem Fdd.tr {a b : Nat} {M M1 M2 : ev_M} (h1 : Fdd a b M M1) (h2 : Fdd a b M1 M2) : Fdd a b M M2 := ⟨h2.1.trans h1.1, fun j x y => (h2.2 j x y).trans (h1.2 j x y)⟩
theorem Fdd.of {a b lo hi : Nat} {M M1 : ev_M} (h : Fr lo hi M M1) (hd : lo = a ∧ hi = a + 1 ∨ lo = b ∧ hi = b + 1) : Fdd a b M M1 := ⟨h.1, fun j x y => h.2 j (by omega)⟩
theorem Fdd.fr {a b lo hi : Nat} {M M1 : ev_M} (h : Fdd a b M M1) (h1 : lo ≤ a ∧ a < hi) (h2 : lo ≤ b ∧ b < hi) : Fr lo hi M M1 := ⟨h.1, fun j x => h.2 j (by omega) (by omega)⟩
theorem RQ.fd {a b : Nat} {M M1 : ev_M} {p cap : Nat} {L : List Cf} (hR : RQ M p cap L) (hf : Fdd a b M M1) (h1 : a < p ∨ p + 4 ≤ a) (h2 : b < p ∨ p + 4 ≤ b) : RQ M1 p cap L := hR.kept fun j x y => hf.2 j (by omega) (by omega)
theorem RM.fd {a b : Nat} {M M1 : ev_M} {p : Nat} {T : List Tr} (hR : RM M p T) (hf : Fdd a b M M1) (h1 : a < p ∨ p + 2 ≤ a) (h2 : b < p ∨ p + 2 ≤ b) : RM M1 p T := hR.kept fun j x y => hf.2 j (by omega) (by omega)
/-- a word, and the state behind it -/
def pwS (t : Nat → Nat) (n : Nat) (s : Nat × Bool) : List Nat × Nat × Bool := ((pw t n s.2 10 s.1).1, (pw t n s.2 10 s.1).2, s.2)
/-- the rest of a goal: two words, the state -/
def gl (t : Nat → Nat) (n : Nat) (s : Nat × Bool) : List Nat × List Nat × Nat × Bool := ((pwS t n s).1, (pwS t n (ps t n (pwS t n s).2 44 1)).1, ps t n (ps t n (pwS t n (ps t n (pwS t n s).2 44 1)).2 41 1) 59 1)
/-- the rest of a transition: new state, channel, letter, the state -/
def t5 (t : Nat → Nat) (n : Nat) (s : Nat × Bool) : Nat × Bool := ps t n (ps t n (ps t n (ps t n s 44 1) 48 2) 44 1) 97 3
def tl (t : Nat → Nat) (n : Nat) (k : Option Nat) (s : Nat × Bool) : Nat × Nat × Nat × Nat × Bool :=
  if k = some 0 then (sv t n s 48 6, 0, 0, ps t n (ps t n (ps t n s 48 6) 41 1) 59 1)
  else (sv t n s 48 6, sv t n (ps t n (ps t n s 48 6) 44 1) 48 2, sv t n (ps t n (ps t n (ps t n (ps t n s 48 6) 44 1) 48 2) 44 1) 97 3, ps t n (ps t n (t5 t n (ps t n s 48 6)) 41 1) 59 1)
/-- the state behind a name -/
def ns (t : Nat → Nat) (n p : Nat) : Nat × Bool := match nk t p (nd t n (n - p) p) with
  | none => (p, true)
  | some _ => (nd t n (n - p) p, false)
/-- behind the old state and its comma -/
def hs (t : Nat → Nat) (n p : Nat) : Nat × Bool := ps t n (ps t n (ps t n (ns t n p) 40 1) 48 6) 44 1
/-- a command: the state behind it, and what it says -/
def cmA (t : Nat → Nat) (n p : Nat) : Nat := sv t n (ps t n (ns t n p) 40 1) 48 6
def cmG (t : Nat → Nat) (n p : Nat) : List Nat × List Nat × Nat × Bool := gl t n (hs t n p)
def cmT (t : Nat → Nat) (n p : Nat) : Nat × Nat × Nat × Nat × Bool := tl t n (nk t p (nd t n (n - p) p)) (hs t n p)
def cm (t : Nat → Nat) (n p : Nat) : (Nat × Bool) × Option (Tr ⊕ Cf) :=
  if nk t p (nd t n (n - p) p) = some 3 then ((cmG t n p).2.2, if (cmG t n p).2.2.2 = true then none else some (.inr (cmA t n p, (cmG t n p).1, (cmG t n p).2.1)))
  else ((cmT t n p).2.2.2, if (cmT t n p).2.2.2.2 = true then none else some (.inl (cmA t n p, (cmT t n p).1, (nk t p (nd t n (n - p) p)).getD 0, (cmT t n p).2.1, (cmT t n p).2.2.1)))
def cT (r : Option (Tr ⊕ Cf)) (T : List Tr) : List Tr := match r with
  | some (.inl x) => T ++ [x]
  | _ => T
def cG (r : Option (Tr ⊕ Cf)) (G : List Cf) : List Cf := match r with
  | some (.inr g) => G ++ [g]
  | _ => G
theorem cT_inr {b : Bool} {g : Cf} {T : List Tr} : cT (if b = true then none else some (.inr g)) T = T := by cases b <;> rfl
theorem cT_inl {b : Bool} {x : Tr} {T : List Tr} : cT (if b = true then none else some (.inl x)) T = if b = true then T else T ++ [x] := by cases b <;> rfl
theorem cG_inl {b : Bool} {x : Tr} {G : List Cf} : cG (if b = true then none else some (.inl x)) G = G := by cases b <;> rfl
theorem cG_inr {b : Bool} {g : Cf} {G : List Cf} : cG (if b = true then none else some (.inr g)) G = if b = true then G else G ++ [g] := by cases b <;> rfl
theorem ns_le {t : Nat → Nat} {n p : Nat} (hp : p ≤ n) : (ns t n p).1 ≤ n := by
  unfold ns
  split
  · exact hp
  · exact (nd_le _ _ hp).1
theorem ns_ok {t : Nat → Nat} {n p : Nat} (h : (ns t n p).2 = false) : ∃ k, nk t p (nd t n (n - p) p) = some k ∧ (ns t n p).1 = p + 4 := by
  unfold ns at h ⊢
  split
  · rename_i q; rw [q] at h; cases h
  · rename_i k q
    exact ⟨k, q, (nk_lt q).2⟩
theorem hs_ok {t : Nat → Nat} {n p : Nat} (h : (hs t n p).2 = false) : ∃ k, nk t p (nd t n (n - p) p) = some k ∧ (hs t n p).1 = p + 7 := by
  obtain ⟨h1, a1⟩ := ps_ok h
  obtain ⟨h2, a2⟩ := ps_ok h1
  obtain ⟨h3, a3⟩ := ps_ok h2
  obtain ⟨k, hk, a4⟩ := ns_ok h3
  refine ⟨k, hk, ?_⟩
  show (ps t n (ps t n (ps t n (ns t n p) 40 1) 48 6) 44 1).1 = p + 7
  omega
theorem hs_le {t : Nat → Nat} {n p : Nat} (hp : p ≤ n) : (hs t n p).1 ≤ n := (ps_le (ps_le (ps_le (ns_le hp)).1).1).1
theorem gl_ok {t : Nat → Nat} {n : Nat} {s : Nat × Bool} (hn : s.1 ≤ n) (h : (gl t n s).2.2.2 = false) : s.2 = false ∧ s.1 + 3 ≤ (gl t n s).2.2.1 := by
  obtain ⟨h1, a1⟩ := ps_ok h
  obtain ⟨h2, a2⟩ := ps_ok h1
  obtain ⟨h3, a3⟩ := ps_ok (s := (pwS t n s).2) (lo := 44) (c := 1) h2
  have b1 := pw_ok (t := t) (n := n) (b := s.2) 10 s.1 hn
  have b2 := pw_ok (t := t) (n := n) (b := (ps t n (pwS t n s).2 44 1).2) 10 (ps t n (pwS t n s).2 44 1).1 (ps_le b1.2.2.1).1
  refine ⟨h3, ?_⟩
  have c1 : (pwS t n (ps t n (pwS t n s).2 44 1)).2.1 = (pw t n (ps t n (pwS t n s).2 44 1).2 10 (ps t n (pwS t n s).2 44 1).1).2 := rfl
  have c2 : (pwS t n s).2.1 = (pw t n s.2 10 s.1).2 := rfl
  show s.1 + 3 ≤ (ps t n (ps t n (pwS t n (ps t n (pwS t n s).2 44 1)).2 41 1) 59 1).1
  omega
theorem tl_ok {t : Nat → Nat} {n : Nat} {k : Option Nat} {s : Nat × Bool} (h : (tl t n k s).2.2.2.2 = false) : s.2 = false ∧ s.1 + 3 ≤ (tl t n k s).2.2.2.1 := by
  unfold tl at h ⊢
  split
  · rename_i q
    rw [if_pos q] at h
    obtain ⟨h1, a1⟩ := ps_ok h
    obtain ⟨h2, a2⟩ := ps_ok h1
    obtain ⟨h3, a3⟩ := ps_ok h2
    refine ⟨h3, ?_⟩
    show s.1 + 3 ≤ (ps t n (ps t n (ps t n s 48 6) 41 1) 59 1).1
    omega
  · rename_i q
    rw [if_neg q] at h
    obtain ⟨h1, a1⟩ := ps_ok h
    obtain ⟨h2, a2⟩ := ps_ok h1
    obtain ⟨h4, a4⟩ := ps_ok h2
    obtain ⟨h5, a5⟩ := ps_ok h4
    obtain ⟨h6, a6⟩ := ps_ok h5
    obtain ⟨h7, a7⟩ := ps_ok h6
    obtain ⟨h3, a3⟩ := ps_ok h7
    refine ⟨h3, ?_⟩
    show s.1 + 3 ≤ (ps t n (ps t n (t5 t n (ps t n s 48 6)) 41 1) 59 1).1
    have c1 : t5 t n (ps t n s 48 6) = ps t n (ps t n (ps t n (ps t n (ps t n s 48 6) 44 1) 48 2) 44 1) 97 3 := rfl
    rw [c1] at a1 a2 ⊢
    omega
theorem cm_adv {t : Nat → Nat} {n p : Nat} (hp : p ≤ n) (h : (cm t n p).1.2 = false) : p + 10 ≤ (cm t n p).1.1 := by
  unfold cm at h ⊢
  split
  · rename_i q
    rw [if_pos q] at h
    obtain ⟨h1, a1⟩ := gl_ok (hs_le hp) h
    obtain ⟨k, -, a2⟩ := hs_ok h1
    show p + 10 ≤ (gl t n (hs t n p)).2.2.1
    omega
  · rename_i q
    rw [if_neg q] at h
    obtain ⟨h1, a1⟩ := tl_ok h
    obtain ⟨k, -, a2⟩ := hs_ok h1
    show p + 10 ≤ (tl t n (nk t p (nd t n (n - p) p)) (hs t n p)).2.2.2.1
    omega
theorem cT_len {r : Option (Tr ⊕ Cf)} {T : List Tr} {G : List Cf} : (cT r T).length + (cG r G).length ≤ T.length + G.length + 1 := by
  rcases r with _ | x | g
  · show T.length + G.length ≤ _; omega
  · show (T ++ [x]).length + G.length ≤ _; rw [List.length_append, List.length_singleton]; omega
  · show T.length + (G ++ [g]).length ≤ _; rw [List.length_append, List.length_singleton]; omega
theorem tl_le {t : Nat → Nat} {n : Nat} {k : Option Nat} {s : Nat × Bool} (hn : s.1 ≤ n) : (tl t n k s).2.2.2.1 ≤ n := by
  unfold tl
  split
  · exact (ps_le (ps_le (ps_le hn).1).1).1
  · exact (ps_le (ps_le (ps_le (ps_le (ps_le (ps_le (ps_le hn).1).1).1).1).1).1).1
theorem gl_le {t : Nat → Nat} {n : Nat} {s : Nat × Bool} (hn : s.1 ≤ n) : (gl t n s).2.2.1 ≤ n := (ps_le (ps_le (pw_ok 10 _ (ps_le (pw_ok 10 _ hn).2.2.1).1).2.2.1).1).1
theorem cm_le {t : Nat → Nat} {n p : Nat} (hp : p ≤ n) : (cm t n p).1.1 ≤ n := by
  unfold cm
  split
  · exact gl_le (hs_le hp)
  · exact tl_le (hs_le hp)
/-- the text: transitions, goals, the number of commands, the position, the fault -/
def pl (t : Nat → Nat) (n : Nat) : Nat → Nat → List Tr → List Cf → Nat → List Tr × List Cf × Nat × Nat × Bool
  | 0, p, T, G, c => (T, G, c, p, true)
  | k + 1, p, T, G, c => bif (!(cm t n p).1.2 && decide ((cm t n p).1.1 < n)) then pl t n k (cm t n p).1.1 (cT (cm t n p).2 T) (cG (cm t n p).2 G) (c + 1) else (cT (cm t n p).2 T, cG (cm t n p).2 G, c + 1, (cm t n p).1.1, (cm t n p).1.2)
theorem RWk.fd {a b c : Nat} {M M1 : ev_M} (h : RWk M c) (hf : Fdd a b M M1) (h1 : c ≠ a) (h2 : c ≠ b) : RWk M1 c := by
  obtain ⟨y, hy⟩ := h
  exact ⟨y, (hf.2 c h1 h2).trans hy⟩
set_option maxHeartbeats 4000000 in
set_option maxRecDepth 100000 in
theorem c_X7_isRead_l {l : Launch} (hl : l.stackTraces = false) {M : ev_M} (o n : Nat) (s : Nat × Bool) (f : Int32) (t : Nat → Nat) (hO : Ro M o n s f) (hT : Rr M o t) (ht : tOk t) (hn : n ≤ 80) (st : Nat) (hst : st ≤ s.1) (hp : s.1 ≤ n) (k : Nat) (hk : k < 4) (h4 : s.1 = st + 4) : ∀ (n9 : Nat) (i : Nat), i ≤ 4 → (∀ j, j < i → t (st + j) = xw k j) → 4 - i < n9 → ev_ l m_X7_isRead 0 0 32 [some (.ref (o)), some (.int (nI st)), some (.retAddr (4 + k)), some (.int (nI i))] [] M (ev_q (.inl (some (.int (ev_b (rk t st s.1 k))))) M) := by
  intro n9
  induction n9 with
  | zero => intro i hi hj hm9; exact absurd hm9 (by omega)
  | succ n9 ih =>
    intro i hi hj hm9
    have ht1 := ht (st + i)
    refine ev_blk (B := [(.iload_n 3, 1), (.aload_n 2, 1)]) (pe := 34) (ls' := [some (.ref (o)), some (.int (nI st)), some (.retAddr (4 + k)), some (.int (nI i))]) (st' := [.retAddr (4 + k), .int (nI i)]) ⟨dX7_isRead_32, dX7_isRead_33, rfl⟩ rfl ?_
    refine ev_cXv Y_J0_length_8abf5 L_RX7_119 dX7_isRead_34 ⟨Nat.le_of_ble_eq_true rfl, Nat.le_of_ble_eq_true rfl, Nat.le_of_ble_eq_true rfl, Nat.le_of_ble_eq_true rfl, Nat.le_of_ble_eq_true rfl⟩ hk (as := []) rfl rfl (c_slen hl k hk) ?_
    refine ev_iN_ge dX7_isRead_37 (tgt := 64) (by decide) (by omega) (by omega) (fun q37 => ?_) (fun q37 => ?_)
    · refine ev_blk (B := [(.iconst 1, 1)]) (pe := 65) (ls' := [some (.ref (o)), some (.int (nI st)), some (.retAddr (4 + k)), some (.int (nI i))]) (st' := [.int (nI 1)]) ⟨dX7_isRead_64, rfl⟩ rfl ?_
      refine ev_iret dX7_isRead_65 rfl (rfl) ⟨Nat.le_of_ble_eq_true rfl, Nat.le_of_ble_eq_true rfl⟩ ?_
      have e9 : rk t st s.1 k = true := rk_iff.mpr ⟨h4, fun j hj9 => hj j (by omega)⟩
      rw [e9]
      exact ⟨rfl, rfl⟩
    · refine ev_blk (B := [(.aload_n 0, 1)]) (pe := 41) (ls' := [some (.ref (o)), some (.int (nI st)), some (.retAddr (4 + k)), some (.int (nI i))]) (st' := [.ref (o)]) ⟨dX7_isRead_40, rfl⟩ rfl ?_
      refine ev_getf (v := .ref (o + 1)) F_RX7_9 dX7_isRead_41 hO rfl ?_
      refine ev_blk (B := [(.iload_n 1, 1), (.iload_n 3, 1), (.iadd, 1)]) (pe := 47) (ls' := [some (.ref (o)), some (.int (nI st)), some (.retAddr (4 + k)), some (.int (nI i))]) (st' := [.int (nI (st + i)), .ref (o + 1)]) ⟨dX7_isRead_44, dX7_isRead_45, dX7_isRead_46, rfl⟩ (by show some (([some (.ref (o)), some (.int (nI st)), some (.retAddr (4 + k)), some (.int (nI i))] : ev_L), ([.int ((nI st) + (nI i)), .ref (o + 1)] : List Value)) = _; rw [nI_add st i]) ?_
      refine ev_cald dX7_isRead_47 hT (vp_in_nI (show st + i < 80 by omega) (by omega)) ?_
      rw [nI_clamp (show st + i < 2 ^ 31 by omega)]
      refine ev_blk (B := [(.aload_n 2, 1), (.iload_n 3, 1)]) (pe := 50) (ls' := [some (.ref (o)), some (.int (nI st)), some (.retAddr (4 + k)), some (.int (nI i))]) (st' := [.int (nI i), .retAddr (4 + k), .int (nI (t (st + i)))]) ⟨dX7_isRead_48, dX7_isRead_49, rfl⟩ rfl ?_
      have y8 := (xw_b k hk i (by omega)).2.2.2
      refine ev_cXv Y_J0_charAt_5068e L_RX7_123 dX7_isRead_50 ⟨Nat.le_of_ble_eq_true rfl, Nat.le_of_ble_eq_true rfl, Nat.le_of_ble_eq_true rfl, Nat.le_of_ble_eq_true rfl, Nat.le_of_ble_eq_true rfl⟩ hk (as := [.int (nI i)]) rfl rfl (c_sat hl k hk i (by omega)) ?_
      refine ev_iN_eq dX7_isRead_53 (tgt := 58) (by decide) (by omega) (by omega) (fun q53 => ?_) (fun q53 => ?_)
      · refine ev_blk (B := [(.iinc 3 1, 3)]) (pe := 61) (ls' := [some (.ref (o)), some (.int (nI st)), some (.retAddr (4 + k)), some (.int (nI (i + 1)))]) (st' := []) ⟨dX7_isRead_58, rfl⟩ (by show some (([some (.ref (o)), some (.int (nI st)), some (.retAddr (4 + k)), some (.int ((nI i) + Int32.ofInt (1)))] : ev_L), ([] : List Value)) = _; rw [ev_inc1 i]) ?_
        refine ev_goto (tgt := 32) dX7_isRead_61 (by decide) ?_
        refine ih (i + 1) (by omega) (fun j hj9 => ?_) (by omega)
        by_cases h9 : j < i
        · exact hj j h9
        · rw [show j = i by omega]; exact q53
      · refine ev_blk (B := [(.iconst 0, 1)]) (pe := 57) (ls' := [some (.ref (o)), some (.int (nI st)), some (.retAddr (4 + k)), some (.int (nI i))]) (st' := [.int (nI 0)]) ⟨dX7_isRead_56, rfl⟩ rfl ?_
        refine ev_iret dX7_isRead_57 rfl (rfl) ⟨Nat.le_of_ble_eq_true rfl, Nat.le_of_ble_eq_true rfl⟩ ?_
        have e9 : rk t st s.1 k = false := Bool.eq_false_iff.mpr (fun z => q53 ((rk_iff.mp z).2 i (by omega)))
        rw [e9]
        exact ⟨rfl, rfl⟩

set_option maxHeartbeats 4000000 in
set_option maxRecDepth 100000 in
theorem c_X7_isRead {l : Launch} (hl : l.stackTraces = false) {M : ev_M} (o n : Nat) (s : Nat × Bool) (f : Int32) (t : Nat → Nat) (hO : Ro M o n s f) (hT : Rr M o t) (ht : tOk t) (hn : n ≤ 80) (st : Nat) (hst : st ≤ s.1) (hp : s.1 ≤ n) (k : Nat) (hk : k < 4) : ev_Mt l m_X7_isRead [.ref (o), .int (nI st), .retAddr (4 + k)] M (ev_q (.inl (some (.int (ev_b (rk t st s.1 k))))) M) := by
  refine ev_body hl rfl (by decide +kernel) (Nat.le_of_ble_eq_true rfl) ?_
  show ev_ l m_X7_isRead 0 0 0 [some (.ref (o)), some (.int (nI st)), some (.retAddr (4 + k)), none] [] M _
  refine ev_blk (B := [(.iload_n 1, 1)]) (pe := 1) (ls' := [some (.ref (o)), some (.int (nI st)), some (.retAddr (4 + k)), none]) (st' := [.int (nI st)]) ⟨dX7_isRead_0, rfl⟩ rfl ?_
  refine ev_fN_lt dX7_isRead_1 (tgt := 28) (by decide) (by omega) ?_
  refine ev_blk (B := [(.aload_n 0, 1)]) (pe := 5) (ls' := [some (.ref (o)), some (.int (nI st)), some (.retAddr (4 + k)), none]) (st' := [.ref (o)]) ⟨dX7_isRead_4, rfl⟩ rfl ?_
  refine ev_getf (v := .int (nI (s.1))) F_RX7_42 dX7_isRead_5 hO rfl ?_
  refine ev_blk (B := [(.aload_n 0, 1)]) (pe := 9) (ls' := [some (.ref (o)), some (.int (nI st)), some (.retAddr (4 + k)), none]) (st' := [.ref (o), .int (nI (s.1))]) ⟨dX7_isRead_8, rfl⟩ rfl ?_
  refine ev_getf (v := .int (nI n)) F_RX7_38 dX7_isRead_9 hO rfl ?_
  refine ev_iN_gt dX7_isRead_12 (tgt := 28) (by decide) (by omega) (by omega) (fun q12 => ?_) (fun q12 => ?_)
  · exact absurd q12 (by omega)
  · refine ev_blk (B := [(.aload_n 0, 1)]) (pe := 16) (ls' := [some (.ref (o)), some (.int (nI st)), some (.retAddr (4 + k)), none]) (st' := [.ref (o)]) ⟨dX7_isRead_15, rfl⟩ rfl ?_
    refine ev_getf (v := .int (nI (s.1))) F_RX7_42 dX7_isRead_16 hO rfl ?_
    refine ev_blk (B := [(.iload_n 1, 1), (.isub, 1), (.aload_n 2, 1)]) (pe := 22) (ls' := [some (.ref (o)), some (.int (nI st)), some (.retAddr (4 + k)), none]) (st' := [.retAddr (4 + k), .int (nI ((s.1) - st))]) ⟨dX7_isRead_19, dX7_isRead_20, dX7_isRead_21, rfl⟩ (by show some (([some (.ref (o)), some (.int (nI st)), some (.retAddr (4 + k)), none] : ev_L), ([.retAddr (4 + k), .int ((nI (s.1)) - (nI st))] : List Value)) = _; rw [pk_sub (show st ≤ (s.1) by omega)]) ?_
    refine ev_cXv Y_J0_length_8abf5 L_RX7_119 dX7_isRead_22 ⟨Nat.le_of_ble_eq_true rfl, Nat.le_of_ble_eq_true rfl, Nat.le_of_ble_eq_true rfl, Nat.le_of_ble_eq_true rfl, Nat.le_of_ble_eq_true rfl⟩ hk (as := []) rfl rfl (c_slen hl k hk) ?_
    refine ev_iN_eq dX7_isRead_25 (tgt := 30) (by decide) (by omega) (by omega) (fun q25 => ?_) (fun q25 => ?_)
    · refine ev_blk (B := [(.iconst 0, 1), (.istore_n 3, 1)]) (pe := 32) (ls' := [some (.ref (o)), some (.int (nI st)), some (.retAddr (4 + k)), some (.int (nI 0))]) (st' := []) ⟨dX7_isRead_30, dX7_isRead_31, rfl⟩ rfl ?_
      exact c_X7_isRead_l hl o n s f t hO hT ht hn st hst hp k hk (by omega) _ 0 (by omega) (fun j hj9 => absurd hj9 (Nat.not_lt_zero _)) (Nat.lt_succ_self _)
    · refine ev_blk (B := [(.iconst 0, 1)]) (pe := 29) (ls' := [some (.ref (o)), some (.int (nI st)), some (.retAddr (4 + k)), none]) (st' := [.int (nI 0)]) ⟨dX7_isRead_28, rfl⟩ rfl ?_
      refine ev_iret dX7_isRead_29 rfl (rfl) ⟨Nat.le_of_ble_eq_true rfl, Nat.le_of_ble_eq_true rfl⟩ ?_
      have e9 : rk t st s.1 k = false := Bool.eq_false_iff.mpr (fun z => by have z1 := (rk_iff.mp z).1; omega)
      rw [e9]
      exact ⟨rfl, rfl⟩

set_option maxHeartbeats 4000000 in
set_option maxRecDepth 100000 in
theorem c_X7_nameFrom {l : Launch} (hl : l.stackTraces = false) {M : ev_M} (o n : Nat) (s : Nat × Bool) (f : Int32) (t : Nat → Nat) (hO : Ro M o n s f) (hT : Rr M o t) (ht : tOk t) (hn : n ≤ 80) (st : Nat) (hst : st ≤ s.1) (hp : s.1 ≤ n) : ev_Mt l m_X7_nameFrom [.ref (o), .int (nI st)] M (ev_q (.inl (some (.int (oI (nk t st s.1))))) M) := by
  refine ev_body hl rfl (by decide +kernel) (Nat.le_of_ble_eq_true rfl) ?_
  show ev_ l m_X7_nameFrom 0 0 0 [some (.ref (o)), some (.int (nI st))] [] M _
  refine ev_blk (B := [(.aload_n 0, 1), (.iload_n 1, 1)]) (pe := 2) (ls' := [some (.ref (o)), some (.int (nI st))]) (st' := [.int (nI st), .ref (o)]) ⟨dX7_nameFrom_0, dX7_nameFrom_1, rfl⟩ rfl ?_
  refine ev_xldc (k := 0) (by decide) rfl rfl dX7_nameFrom_2 ?_
  refine ev_cVv Y_X7_isRead L_RX7_109 dX7_nameFrom_4 ⟨Nat.le_of_ble_eq_true rfl, Nat.le_of_ble_eq_true rfl, Nat.le_of_ble_eq_true rfl, Nat.le_of_ble_eq_true rfl, Nat.le_of_ble_eq_true rfl⟩ hO (as := [.int (nI st), .retAddr (4 + 0)]) rfl rfl (c_X7_isRead hl o n s f t hO hT ht hn st hst hp 0 (by decide)) ?_
  refine ev_ifB_eq dX7_nameFrom_7 (tgt := 12) (by decide) (fun q7 => ?_) (fun q7 => ?_)
  · refine ev_blk (B := [(.aload_n 0, 1), (.iload_n 1, 1)]) (pe := 14) (ls' := [some (.ref (o)), some (.int (nI st))]) (st' := [.int (nI st), .ref (o)]) ⟨dX7_nameFrom_12, dX7_nameFrom_13, rfl⟩ rfl ?_
    refine ev_xldc (k := 1) (by decide) rfl rfl dX7_nameFrom_14 ?_
    refine ev_cVv Y_X7_isRead L_RX7_109 dX7_nameFrom_16 ⟨Nat.le_of_ble_eq_true rfl, Nat.le_of_ble_eq_true rfl, Nat.le_of_ble_eq_true rfl, Nat.le_of_ble_eq_true rfl, Nat.le_of_ble_eq_true rfl⟩ hO (as := [.int (nI st), .retAddr (4 + 1)]) rfl rfl (c_X7_isRead hl o n s f t hO hT ht hn st hst hp 1 (by decide)) ?_
    refine ev_ifB_eq dX7_nameFrom_19 (tgt := 24) (by decide) (fun q19 => ?_) (fun q19 => ?_)
    · refine ev_blk (B := [(.aload_n 0, 1), (.iload_n 1, 1)]) (pe := 26) (ls' := [some (.ref (o)), some (.int (nI st))]) (st' := [.int (nI st), .ref (o)]) ⟨dX7_nameFrom_24, dX7_nameFrom_25, rfl⟩ rfl ?_
      refine ev_xldc (k := 2) (by decide) rfl rfl dX7_nameFrom_26 ?_
      refine ev_cVv Y_X7_isRead L_RX7_109 dX7_nameFrom_28 ⟨Nat.le_of_ble_eq_true rfl, Nat.le_of_ble_eq_true rfl, Nat.le_of_ble_eq_true rfl, Nat.le_of_ble_eq_true rfl, Nat.le_of_ble_eq_true rfl⟩ hO (as := [.int (nI st), .retAddr (4 + 2)]) rfl rfl (c_X7_isRead hl o n s f t hO hT ht hn st hst hp 2 (by decide)) ?_
      refine ev_ifB_eq dX7_nameFrom_31 (tgt := 36) (by decide) (fun q31 => ?_) (fun q31 => ?_)
      · refine ev_blk (B := [(.aload_n 0, 1), (.iload_n 1, 1)]) (pe := 38) (ls' := [some (.ref (o)), some (.int (nI st))]) (st' := [.int (nI st), .ref (o)]) ⟨dX7_nameFrom_36, dX7_nameFrom_37, rfl⟩ rfl ?_
        refine ev_xldc (k := 3) (by decide) rfl rfl dX7_nameFrom_38 ?_
        refine ev_cVv Y_X7_isRead L_RX7_109 dX7_nameFrom_40 ⟨Nat.le_of_ble_eq_true rfl, Nat.le_of_ble_eq_true rfl, Nat.le_of_ble_eq_true rfl, Nat.le_of_ble_eq_true rfl, Nat.le_of_ble_eq_true rfl⟩ hO (as := [.int (nI st), .retAddr (4 + 3)]) rfl rfl (c_X7_isRead hl o n s f t hO hT ht hn st hst hp 3 (by decide)) ?_
        refine ev_ifB_eq dX7_nameFrom_43 (tgt := 50) (by decide) (fun q43 => ?_) (fun q43 => ?_)
        · refine ev_blk (B := [(.iconst (-1), 1)]) (pe := 51) (ls' := [some (.ref (o)), some (.int (nI st))]) (st' := [.int ((-1))]) ⟨dX7_nameFrom_50, rfl⟩ rfl ?_
          refine ev_iret dX7_nameFrom_51 rfl (rfl) ⟨Nat.le_of_ble_eq_true rfl, Nat.le_of_ble_eq_true rfl⟩ ?_
          have e9 : nk t st s.1 = none := by unfold nk; rw [q7, q19, q31, q43]; rfl
          rw [e9]
          exact ⟨rfl, rfl⟩
        · refine ev_blk (B := [(.iconst 3, 1)]) (pe := 47) (ls' := [some (.ref (o)), some (.int (nI st))]) (st' := [.int (nI 3)]) ⟨dX7_nameFrom_46, rfl⟩ rfl ?_
          refine ev_goto (tgt := 51) dX7_nameFrom_47 (by decide) ?_
          refine ev_iret dX7_nameFrom_51 rfl (rfl) ⟨Nat.le_of_ble_eq_true rfl, Nat.le_of_ble_eq_true rfl⟩ ?_
          have e9 : nk t st s.1 = some 3 := by unfold nk; rw [q7, q19, q31, q43]; rfl
          rw [e9]
          exact ⟨rfl, rfl⟩
      · refine ev_blk (B := [(.iconst 2, 1)]) (pe := 35) (ls' := [some (.ref (o)), some (.int (nI st))]) (st' := [.int (nI 2)]) ⟨dX7_nameFrom_34, rfl⟩ rfl ?_
        refine ev_iret dX7_nameFrom_35 rfl (rfl) ⟨Nat.le_of_ble_eq_true rfl, Nat.le_of_ble_eq_true rfl⟩ ?_
        have e9 : nk t st s.1 = some 2 := by unfold nk; rw [q7, q19, q31]; rfl
        rw [e9]
        exact ⟨rfl, rfl⟩
    · refine ev_blk (B := [(.iconst 1, 1)]) (pe := 23) (ls' := [some (.ref (o)), some (.int (nI st))]) (st' := [.int (nI 1)]) ⟨dX7_nameFrom_22, rfl⟩ rfl ?_
      refine ev_iret dX7_nameFrom_23 rfl (rfl) ⟨Nat.le_of_ble_eq_true rfl, Nat.le_of_ble_eq_true rfl⟩ ?_
      have e9 : nk t st s.1 = some 1 := by unfold nk; rw [q7, q19]; rfl
      rw [e9]
      exact ⟨rfl, rfl⟩
  · refine ev_blk (B := [(.iconst 0, 1)]) (pe := 11) (ls' := [some (.ref (o)), some (.int (nI st))]) (st' := [.int (nI 0)]) ⟨dX7_nameFrom_10, rfl⟩ rfl ?_
    refine ev_iret dX7_nameFrom_11 rfl (rfl) ⟨Nat.le_of_ble_eq_true rfl, Nat.le_of_ble_eq_true rfl⟩ ?_
    have e9 : nk t st s.1 = some 0 := by unfold nk; rw [q7]; rfl
    rw [e9]
    exact ⟨rfl, rfl⟩

set_option maxHeartbeats 4000000 in
set_option maxRecDepth 100000 in
theorem c_X7_name2 {l : Launch} (hl : l.stackTraces = false) (o n p : Nat) (f : Int32) (t : Nat → Nat) (ht : tOk t) (hn : n ≤ 80) (hp : p ≤ n) (M0 : ev_M) (q : Nat) (hpq : p ≤ q) (hqn : q ≤ n) (e7 : nd t n (n - p) p = q) (M : ev_M) (hO : Ro M o n (q, false) f) (hT : Rr M o t) (hFr : Fr o (o + 1) M0 M) : ev_ l m_X7_parseName 0 0 57 [some (.ref (o)), some (.int (nI p)), none] [] M (fun r M1 => r = .inl (some (.int (oI (nk t p (nd t n (n - p) p))))) ∧ Ro M1 o n (ns t n p) f ∧ Fr o (o + 1) M0 M1) := by
  refine ev_blk (B := [(.aload_n 0, 1), (.iload_n 1, 1)]) (pe := 59) (ls' := [some (.ref (o)), some (.int (nI p)), none]) (st' := [.int (nI p), .ref (o)]) ⟨dX7_parseName_57, dX7_parseName_58, rfl⟩ rfl ?_
  refine ev_cVv Y_X7_nameFrom L_RX7_103 dX7_parseName_59 ⟨Nat.le_of_ble_eq_true rfl, Nat.le_of_ble_eq_true rfl, Nat.le_of_ble_eq_true rfl, Nat.le_of_ble_eq_true rfl, Nat.le_of_ble_eq_true rfl⟩ hO (as := [.int (nI p)]) rfl rfl (c_X7_nameFrom hl o n (q, false) f t hO hT ht hn p hpq hqn) ?_
  refine ev_blk (B := [(.istore_n 2, 1), (.iload_n 2, 1), (.iconst (-1), 1)]) (pe := 65) (ls' := [some (.ref (o)), some (.int (nI p)), some (.int (oI (nk t p q)))]) (st' := [.int ((-1)), .int (oI (nk t p q))]) ⟨dX7_parseName_62, dX7_parseName_63, dX7_parseName_64, rfl⟩ rfl ?_
  refine ev_ic_ne dX7_parseName_65 (tgt := 78) (by decide) (fun q65 => ?_) (fun q65 => ?_)
  · refine ev_blk (B := [(.iload_n 2, 1)]) (pe := 79) (ls' := [some (.ref (o)), some (.int (nI p)), some (.int (oI (nk t p q)))]) (st' := [.int (oI (nk t p q))]) ⟨dX7_parseName_78, rfl⟩ rfl ?_
    refine ev_iret dX7_parseName_79 rfl (rfl) ⟨Nat.le_of_ble_eq_true rfl, Nat.le_of_ble_eq_true rfl⟩ ?_
    have e6 : nk t p q ≠ none := fun z => q65 ((oI_m (fun a h => (nk_lt h).1)).mpr z)
    have e5 : ns t n p = (q, false) := by
      unfold ns; rw [e7]
      cases h9 : nk t p q with
      | none => exact absurd h9 e6
      | some a => rfl
    rw [e7, e5]
    exact ⟨rfl, hO, hFr⟩
  · refine ev_blk (B := [(.aload_n 0, 1), (.iload_n 1, 1)]) (pe := 70) (ls' := [some (.ref (o)), some (.int (nI p)), some (.int (oI (nk t p q)))]) (st' := [.int (nI p), .ref (o)]) ⟨dX7_parseName_68, dX7_parseName_69, rfl⟩ rfl ?_
    refine ev_put F_RX7_42 dX7_parseName_70 hO (Nat.le_of_ble_eq_true rfl) (fun _ _ => ⟨rfl, rfl⟩) ?_
    refine ev_nm (M0 := M.set (o) (.inr (7, [.ref (o + 1), .ref (o + 2), .ref (o + 4), .ref (o + 8), .int (nI n), .int (nI p), .int (ev_b (false)), .int (f)]))) (fun M1 eM1 => ?_)
    have f2 : M1[o]? = some (.inr (7, [.ref (o + 1), .ref (o + 2), .ref (o + 4), .ref (o + 8), .int (nI n), .int (nI p), .int (ev_b (false)), .int (f)])) := by rw [eM1]; exact ev_sg hO
    have f3 : M1[o + 1]? = some (.inl (2, 80, .inl (fun i => nI (t i)))) := by rw [eM1, ev_sn (by omega)]; exact hT
    refine ev_blk (B := [(.aload_n 0, 1), (.iconst 1, 1)]) (pe := 75) (ls' := [some (.ref (o)), some (.int (nI p)), some (.int (oI (nk t p q)))]) (st' := [.int (nI 1), .ref (o)]) ⟨dX7_parseName_73, dX7_parseName_74, rfl⟩ rfl ?_
    refine ev_put F_RX7_45 dX7_parseName_75 f2 (Nat.le_of_ble_eq_true rfl) (fun _ _ => ⟨rfl, rfl⟩) ?_
    refine ev_nm (M0 := M1.set (o) (.inr (7, [.ref (o + 1), .ref (o + 2), .ref (o + 4), .ref (o + 8), .int (nI n), .int (nI p), .int (nI 1), .int (f)]))) (fun M4 eM4 => ?_)
    have f5 : M4[o]? = some (.inr (7, [.ref (o + 1), .ref (o + 2), .ref (o + 4), .ref (o + 8), .int (nI n), .int (nI p), .int (nI 1), .int (f)])) := by rw [eM4]; exact ev_sg f2
    have f6 : M4[o + 1]? = some (.inl (2, 80, .inl (fun i => nI (t i)))) := by rw [eM4, ev_sn (by omega)]; exact f3
    refine ev_blk (B := [(.iload_n 2, 1)]) (pe := 79) (ls' := [some (.ref (o)), some (.int (nI p)), some (.int (oI (nk t p q)))]) (st' := [.int (oI (nk t p q))]) ⟨dX7_parseName_78, rfl⟩ rfl ?_
    refine ev_iret dX7_parseName_79 rfl (rfl) ⟨Nat.le_of_ble_eq_true rfl, Nat.le_of_ble_eq_true rfl⟩ ?_
    have e6 : nk t p q = none := (oI_m (fun a h => (nk_lt h).1)).mp q65
    have e5 : ns t n p = (p, true) := by
      unfold ns; rw [e7, e6]
    rw [e7, e5]
    exact ⟨rfl, f5, hFr.tr ⟨by rw [eM4, eM1]; simp only [List.length_set], fun j hj => by rw [eM4, ev_sn (by omega), eM1, ev_sn (by omega)]⟩⟩

set_option maxHeartbeats 4000000 in
set_option maxRecDepth 100000 in
theorem c_X7_name_l {l : Launch} (hl : l.stackTraces = false)  (o n p : Nat) (f : Int32) (t : Nat → Nat) (ht : tOk t) (hn : n ≤ 80) (hp : p ≤ n) (M0 : ev_M) : ∀ (n9 : Nat) (q : Nat) (M : ev_M), p ≤ q → q ≤ n → nd t n (n - q) q = nd t n (n - p) p → Ro M o n (q, false) f → Rr M o t → Fr o (o + 1) M0 M → n - q < n9 → ev_ l m_X7_parseName 0 0 5 [some (.ref (o)), some (.int (nI p)), none] [] M (fun r M1 => r = .inl (some (.int (oI (nk t p (nd t n (n - p) p))))) ∧ Ro M1 o n (ns t n p) f ∧ Fr o (o + 1) M0 M1) := by
  intro n9
  induction n9 with
  | zero => intro q M hpq hqn hE hO hT hFr hm9; exact absurd hm9 (by omega)
  | succ n9 ih =>
    intro q M hpq hqn hE hO hT hFr hm9
    have ht1 := ht q
    refine ev_blk (B := [(.aload_n 0, 1)]) (pe := 6) (ls' := [some (.ref (o)), some (.int (nI p)), none]) (st' := [.ref (o)]) ⟨dX7_parseName_5, rfl⟩ rfl ?_
    refine ev_getf (v := .int (nI q)) F_RX7_42 dX7_parseName_6 hO rfl ?_
    refine ev_blk (B := [(.aload_n 0, 1)]) (pe := 10) (ls' := [some (.ref (o)), some (.int (nI p)), none]) (st' := [.ref (o), .int (nI q)]) ⟨dX7_parseName_9, rfl⟩ rfl ?_
    refine ev_getf (v := .int (nI n)) F_RX7_38 dX7_parseName_10 hO rfl ?_
    refine ev_iN_ge dX7_parseName_13 (tgt := 57) (by decide) (by omega) (by omega) (fun q13 => ?_) (fun q13 => ?_)
    · have e7 : nd t n (n - p) p = q := by
        rw [← hE]
        cases hc9 : n - q with
        | zero => rfl
        | succ k9 =>
          show (bif decide (q < n ∧ 97 ≤ t q ∧ t q ≤ 122) then nd t n k9 (q + 1) else q) = q
          exact if_neg_b (decide_eq_false (by omega))
      exact c_X7_name2 hl o n p f t ht hn hp M0 q hpq hqn e7 M hO hT hFr
    · refine ev_blk (B := [(.aload_n 0, 1)]) (pe := 17) (ls' := [some (.ref (o)), some (.int (nI p)), none]) (st' := [.ref (o)]) ⟨dX7_parseName_16, rfl⟩ rfl ?_
      refine ev_getf (v := .ref (o + 1)) F_RX7_9 dX7_parseName_17 hO rfl ?_
      refine ev_blk (B := [(.aload_n 0, 1)]) (pe := 21) (ls' := [some (.ref (o)), some (.int (nI p)), none]) (st' := [.ref (o), .ref (o + 1)]) ⟨dX7_parseName_20, rfl⟩ rfl ?_
      refine ev_getf (v := .int (nI q)) F_RX7_42 dX7_parseName_21 hO rfl ?_
      refine ev_cald dX7_parseName_24 hT (vp_in_nI (show q < 80 by omega) (by omega)) ?_
      rw [nI_clamp (show q < 2 ^ 31 by omega)]
      refine ev_blk (B := [(.bipush 97, 2)]) (pe := 27) (ls' := [some (.ref (o)), some (.int (nI p)), none]) (st' := [.int (nI 97), .int (nI (t q))]) ⟨dX7_parseName_25, rfl⟩ rfl ?_
      refine ev_iN_lt dX7_parseName_27 (tgt := 57) (by decide) (by omega) (by omega) (fun q27 => ?_) (fun q27 => ?_)
      · have e7 : nd t n (n - p) p = q := by
          rw [← hE]
          cases hc9 : n - q with
          | zero => rfl
          | succ k9 =>
            show (bif decide (q < n ∧ 97 ≤ t q ∧ t q ≤ 122) then nd t n k9 (q + 1) else q) = q
            exact if_neg_b (decide_eq_false (by omega))
        exact c_X7_name2 hl o n p f t ht hn hp M0 q hpq hqn e7 M hO hT hFr
      · refine ev_blk (B := [(.aload_n 0, 1)]) (pe := 31) (ls' := [some (.ref (o)), some (.int (nI p)), none]) (st' := [.ref (o)]) ⟨dX7_parseName_30, rfl⟩ rfl ?_
        refine ev_getf (v := .ref (o + 1)) F_RX7_9 dX7_parseName_31 hO rfl ?_
        refine ev_blk (B := [(.aload_n 0, 1)]) (pe := 35) (ls' := [some (.ref (o)), some (.int (nI p)), none]) (st' := [.ref (o), .ref (o + 1)]) ⟨dX7_parseName_34, rfl⟩ rfl ?_
        refine ev_getf (v := .int (nI q)) F_RX7_42 dX7_parseName_35 hO rfl ?_
        refine ev_cald dX7_parseName_38 hT (vp_in_nI (show q < 80 by omega) (by omega)) ?_
        rw [nI_clamp (show q < 2 ^ 31 by omega)]
        refine ev_blk (B := [(.bipush 122, 2)]) (pe := 41) (ls' := [some (.ref (o)), some (.int (nI p)), none]) (st' := [.int (nI 122), .int (nI (t q))]) ⟨dX7_parseName_39, rfl⟩ rfl ?_
        refine ev_iN_gt dX7_parseName_41 (tgt := 57) (by decide) (by omega) (by omega) (fun q41 => ?_) (fun q41 => ?_)
        · have e7 : nd t n (n - p) p = q := by
            rw [← hE]
            cases hc9 : n - q with
            | zero => rfl
            | succ k9 =>
              show (bif decide (q < n ∧ 97 ≤ t q ∧ t q ≤ 122) then nd t n k9 (q + 1) else q) = q
              exact if_neg_b (decide_eq_false (by omega))
          exact c_X7_name2 hl o n p f t ht hn hp M0 q hpq hqn e7 M hO hT hFr
        · refine ev_blk (B := [(.aload_n 0, 1), (.dup, 1)]) (pe := 46) (ls' := [some (.ref (o)), some (.int (nI p)), none]) (st' := [.ref (o), .ref (o)]) ⟨dX7_parseName_44, dX7_parseName_45, rfl⟩ rfl ?_
          refine ev_getf (v := .int (nI q)) F_RX7_42 dX7_parseName_46 hO rfl ?_
          refine ev_blk (B := [(.iconst 1, 1), (.iadd, 1)]) (pe := 51) (ls' := [some (.ref (o)), some (.int (nI p)), none]) (st' := [.int (nI (q + 1)), .ref (o)]) ⟨dX7_parseName_49, dX7_parseName_50, rfl⟩ (by show some (([some (.ref (o)), some (.int (nI p)), none] : ev_L), ([.int ((nI q) + (nI 1)), .ref (o)] : List Value)) = _; rw [nI_add q 1]) ?_
          refine ev_put F_RX7_42 dX7_parseName_51 hO (Nat.le_of_ble_eq_true rfl) (fun _ _ => ⟨rfl, rfl⟩) ?_
          refine ev_nm (M0 := M.set (o) (.inr (7, [.ref (o + 1), .ref (o + 2), .ref (o + 4), .ref (o + 8), .int (nI n), .int (nI (q + 1)), .int (ev_b (false)), .int (f)]))) (fun M1 eM1 => ?_)
          have f2 : M1[o]? = some (.inr (7, [.ref (o + 1), .ref (o + 2), .ref (o + 4), .ref (o + 8), .int (nI n), .int (nI (q + 1)), .int (ev_b (false)), .int (f)])) := by rw [eM1]; exact ev_sg hO
          have f3 : M1[o + 1]? = some (.inl (2, 80, .inl (fun i => nI (t i)))) := by rw [eM1, ev_sn (by omega)]; exact hT
          refine ev_goto (tgt := 5) dX7_parseName_54 (by decide) ?_
          refine ih (q + 1) _ (by omega) (by omega) ?_ f2 f3 (hFr.tr ⟨by rw [eM1]; simp only [List.length_set], fun j hj => by rw [eM1, ev_sn (by omega)]⟩) (by omega)
          rw [← hE, show n - q = (n - (q + 1)) + 1 by omega]
          show nd t n (n - (q + 1)) (q + 1) = (bif decide (q < n ∧ 97 ≤ t q ∧ t q ≤ 122) then nd t n (n - (q + 1)) (q + 1) else q)
          exact (if_pos_b (decide_eq_true (by omega))).symm

set_option maxHeartbeats 4000000 in
set_option maxRecDepth 100000 in
theorem c_X7_parseName {l : Launch} (hl : l.stackTraces = false) {M : ev_M} (o n p : Nat) (f : Int32) (t : Nat → Nat) (ht : tOk t) (hn : n ≤ 80) (hp : p ≤ n) (hO : Ro M o n (p, false) f) (hT : Rr M o t) : ev_Mt l m_X7_parseName [.ref (o)] M (fun r M1 => r = .inl (some (.int (oI (nk t p (nd t n (n - p) p))))) ∧ Ro M1 o n (ns t n p) f ∧ Fr o (o + 1) M M1) := by
  refine ev_body hl rfl (by decide +kernel) (Nat.le_of_ble_eq_true rfl) ?_
  show ev_ l m_X7_parseName 0 0 0 [some (.ref (o)), none, none] [] M _
  refine ev_blk (B := [(.aload_n 0, 1)]) (pe := 1) (ls' := [some (.ref (o)), none, none]) (st' := [.ref (o)]) ⟨dX7_parseName_0, rfl⟩ rfl ?_
  refine ev_getf (v := .int (nI p)) F_RX7_42 dX7_parseName_1 hO rfl ?_
  refine ev_blk (B := [(.istore_n 1, 1)]) (pe := 5) (ls' := [some (.ref (o)), some (.int (nI p)), none]) (st' := []) ⟨dX7_parseName_4, rfl⟩ rfl ?_
  exact c_X7_name_l hl o n p f t ht hn hp M _ p M (Nat.le_refl _) hp rfl hO hT Fr.rf (Nat.lt_succ_self _)

set_option maxHeartbeats 4000000 in
set_option maxRecDepth 100000 in
theorem c_X7_expect {l : Launch} (hl : l.stackTraces = false) {M : ev_M} (o n : Nat) (s : Nat × Bool) (f : Int32) (t : Nat → Nat) (hO : Ro M o n s f) (hT : Rr M o t) (ht : tOk t) (hn : n ≤ 80) (hp : s.1 ≤ n) (lo : Nat) (hlo : lo < 1000) : ev_Mt l m_X7_expect [.ref (o), .int (nI lo)] M (fun r M1 => r = .inl none ∧ Ro M1 o n (ps t n s lo 1) f ∧ Fr o (o + 1) M M1) := by
  refine ev_body hl rfl (by decide +kernel) (Nat.le_of_ble_eq_true rfl) ?_
  show ev_ l m_X7_expect 0 0 0 [some (.ref (o)), some (.int (nI lo))] [] M _
  refine ev_blk (B := [(.aload_n 0, 1), (.iload_n 1, 1), (.iconst 1, 1)]) (pe := 3) (ls' := [some (.ref (o)), some (.int (nI lo))]) (st' := [.int (nI 1), .int (nI lo), .ref (o)]) ⟨dX7_expect_0, dX7_expect_1, dX7_expect_2, rfl⟩ rfl ?_
  refine ev_cVw Y_X7_parseSymbol L_RX7_71 dX7_expect_3 ⟨Nat.le_of_ble_eq_true rfl, Nat.le_of_ble_eq_true rfl, Nat.le_of_ble_eq_true rfl, Nat.le_of_ble_eq_true rfl, Nat.le_of_ble_eq_true rfl⟩ hO (as := [.int (nI lo), .int (nI 1)]) rfl rfl (c_X7_sym hl o n s f t hO hT ht hn hp lo 1 hlo (by decide)) (fun M1 hL1 hB1 => ?_)
  refine ev_blk (B := [(.pop, 1)]) (pe := 7) (ls' := [some (.ref (o)), some (.int (nI lo))]) (st' := []) ⟨dX7_expect_6, rfl⟩ rfl ?_
  refine ev_vret dX7_expect_7 rfl ⟨Nat.le_of_ble_eq_true rfl, Nat.le_of_ble_eq_true rfl⟩ ?_
  exact ⟨rfl, hB1⟩

set_option maxHeartbeats 4000000 in
set_option maxRecDepth 100000 in
theorem c_X7_word_l {l : Launch} (hl : l.stackTraces = false)  (o n : Nat) (s : Nat × Bool) (f : Int32) (t : Nat → Nat) (ht : tOk t) (hn : n ≤ 80) (hp : s.1 ≤ n) (M0 : ev_M) : ∀ (n9 : Nat) (i : Nat) (p : Nat) (w : List Nat) (M : ev_M), i ≤ 10 → w.length = i → wk w → p ≤ n → (pwS t n s).1 = w ++ (pw t n s.2 (10 - i) p).1 → (pwS t n s).2 = ((pw t n s.2 (10 - i) p).2, s.2) → Ro M o n (p, s.2) f → Rr M o t → Fr o (o + 1) M0 M → 10 - i < n9 → ev_ l m_X7_parseWord 0 0 4 [some (.ref (o)), some (.long (e1 w)), none, some (.int (nI i))] [] M (fun r M1 => r = .inl (some (.long (e1 (pwS t n s).1))) ∧ Ro M1 o n (pwS t n s).2 f ∧ Fr o (o + 1) M0 M1) := by
  intro n9
  induction n9 with
  | zero => intro i p w M hi hw1 hw hpn hE1 hE2 hO hT hFr hm9; exact absurd hm9 (by omega)
  | succ n9 ih =>
    intro i p w M hi hw1 hw hpn hE1 hE2 hO hT hFr hm9
    refine ev_blk (B := [(.iload_n 3, 1), (.bipush 10, 2)]) (pe := 7) (ls' := [some (.ref (o)), some (.long (e1 w)), none, some (.int (nI i))]) (st' := [.int (nI 10), .int (nI i)]) ⟨dX7_parseWord_4, dX7_parseWord_5, rfl⟩ rfl ?_
    refine ev_iN_ge dX7_parseWord_7 (tgt := 38) (by decide) (by omega) (by omega) (fun q7 => ?_) (fun q7 => ?_)
    · refine ev_blk (B := [(.lload_n 1, 1)]) (pe := 39) (ls' := [some (.ref (o)), some (.long (e1 w)), none, some (.int (nI i))]) (st' := [.long (e1 w)]) ⟨dX7_parseWord_38, rfl⟩ rfl ?_
      refine ev_lret dX7_parseWord_39 rfl ⟨Nat.le_of_ble_eq_true rfl, Nat.le_of_ble_eq_true rfl⟩ ?_
      have e5 : pw t n s.2 (10 - i) p = ([], p) := by
        rw [show 10 - i = 0 by omega]; rfl
      rw [e5, List.append_nil] at hE1
      rw [e5] at hE2
      rw [hE1, hE2]
      exact ⟨rfl, hO, hFr⟩
    · refine ev_blk (B := [(.aload_n 0, 1), (.bipush 97, 2), (.iconst 3, 1)]) (pe := 14) (ls' := [some (.ref (o)), some (.long (e1 w)), none, some (.int (nI i))]) (st' := [.int (nI 3), .int (nI 97), .ref (o)]) ⟨dX7_parseWord_10, dX7_parseWord_11, dX7_parseWord_13, rfl⟩ rfl ?_
      refine ev_cVv Y_X7_isNext L_RX7_129 dX7_parseWord_14 ⟨Nat.le_of_ble_eq_true rfl, Nat.le_of_ble_eq_true rfl, Nat.le_of_ble_eq_true rfl, Nat.le_of_ble_eq_true rfl, Nat.le_of_ble_eq_true rfl⟩ hO (as := [.int (nI 97), .int (nI 3)]) rfl rfl (c_X7_isNext hl o n (p, s.2) f t hO hT ht hn hpn 97 3 (by decide) (by decide)) ?_
      refine ev_ifB_eq dX7_parseWord_17 (tgt := 38) (by decide) (fun q17 => ?_) (fun q17 => ?_)
      · refine ev_blk (B := [(.lload_n 1, 1)]) (pe := 39) (ls' := [some (.ref (o)), some (.long (e1 w)), none, some (.int (nI i))]) (st' := [.long (e1 w)]) ⟨dX7_parseWord_38, rfl⟩ rfl ?_
        refine ev_lret dX7_parseWord_39 rfl ⟨Nat.le_of_ble_eq_true rfl, Nat.le_of_ble_eq_true rfl⟩ ?_
        have e5 : pw t n s.2 (10 - i) p = ([], p) := by
          rw [show 10 - i = (10 - (i + 1)) + 1 by omega]
          show (bif nxt t n p s.2 97 3 then ((t p - 97) :: (pw t n s.2 (10 - (i + 1)) (p + 1)).1, (pw t n s.2 (10 - (i + 1)) (p + 1)).2) else ([], p)) = _
          exact if_neg_b q17
        rw [e5, List.append_nil] at hE1
        rw [e5] at hE2
        rw [hE1, hE2]
        exact ⟨rfl, hO, hFr⟩
      · refine ev_blk (B := [(.lload_n 1, 1), (.aload_n 0, 1), (.bipush 97, 2), (.iconst 3, 1)]) (pe := 25) (ls' := [some (.ref (o)), some (.long (e1 w)), none, some (.int (nI i))]) (st' := [.int (nI 3), .int (nI 97), .ref (o), .long (e1 w)]) ⟨dX7_parseWord_20, dX7_parseWord_21, dX7_parseWord_22, dX7_parseWord_24, rfl⟩ rfl ?_
        refine ev_cVw Y_X7_parseSymbol L_RX7_71 dX7_parseWord_25 ⟨Nat.le_of_ble_eq_true rfl, Nat.le_of_ble_eq_true rfl, Nat.le_of_ble_eq_true rfl, Nat.le_of_ble_eq_true rfl, Nat.le_of_ble_eq_true rfl⟩ hO (as := [.int (nI 97), .int (nI 3)]) rfl rfl (c_X7_sym hl o n (p, s.2) f t hO hT ht hn hpn 97 3 (by decide) (by decide)) (fun M1 hL1 hB1 => ?_)
        obtain ⟨hB1, hB2⟩ := hB1
        have e8 : ps t n (p, s.2) 97 3 = (p + 1, s.2) := if_pos q17
        have e6 : sv t n (p, s.2) 97 3 = t p - 97 := if_pos q17
        have y1 := nxt_iff.mp (show nxt t n p s.2 97 3 = true from q17)
        have hT3 := hT.fr hB2 (by omega)
        rw [e8] at hB1
        rw [e6]
        refine ev_cSv Y_X9_extend L_RX7_133 dX7_parseWord_28 ⟨Nat.le_of_ble_eq_true rfl, Nat.le_of_ble_eq_true rfl, Nat.le_of_ble_eq_true rfl, Nat.le_of_ble_eq_true rfl, Nat.le_of_ble_eq_true rfl⟩ (as := [.long (e1 w), .int (nI (t p - 97))]) rfl rfl (c_X9_extend hl w hw (by omega) (t p - 97) (by omega)) ?_
        refine ev_blk (B := [(.lstore_n 1, 1), (.iinc 3 1, 3)]) (pe := 35) (ls' := [some (.ref (o)), some (.long (e1 (w ++ [t p - 97]))), none, some (.int (nI (i + 1)))]) (st' := []) ⟨dX7_parseWord_31, dX7_parseWord_32, rfl⟩ (by show some (([some (.ref (o)), some (.long (e1 (w ++ [t p - 97]))), none, some (.int ((nI i) + Int32.ofInt (1)))] : ev_L), ([] : List Value)) = _; rw [ev_inc1 i]) ?_
        refine ev_goto (tgt := 4) dX7_parseWord_35 (by decide) ?_
        have e5 : pw t n s.2 (10 - i) p = ((t p - 97) :: (pw t n s.2 (10 - (i + 1)) (p + 1)).1, (pw t n s.2 (10 - (i + 1)) (p + 1)).2) := by
          rw [show 10 - i = (10 - (i + 1)) + 1 by omega]
          show (bif nxt t n p s.2 97 3 then ((t p - 97) :: (pw t n s.2 (10 - (i + 1)) (p + 1)).1, (pw t n s.2 (10 - (i + 1)) (p + 1)).2) else ([], p)) = _
          exact if_pos_b q17
        refine ih (i + 1) (p + 1) (w ++ [t p - 97]) _ (by omega) (by rw [List.length_append, List.length_singleton]; omega) (fun a ha => ?_) (by omega) (by rw [hE1, e5, List.append_assoc]; rfl) (by rw [hE2, e5]) hB1 hT3 (hFr.tr hB2) (by omega)
        rcases List.mem_append.mp ha with h | h
        · exact hw a h
        · rw [List.mem_singleton.mp h]; omega

set_option maxHeartbeats 4000000 in
set_option maxRecDepth 100000 in
theorem c_X7_parseWord {l : Launch} (hl : l.stackTraces = false) {M : ev_M} (o n : Nat) (s : Nat × Bool) (f : Int32) (t : Nat → Nat) (ht : tOk t) (hn : n ≤ 80) (hp : s.1 ≤ n) (hO : Ro M o n s f) (hT : Rr M o t) : ev_Mt l m_X7_parseWord [.ref (o)] M (fun r M1 => r = .inl (some (.long (e1 (pwS t n s).1))) ∧ Ro M1 o n (pwS t n s).2 f ∧ Fr o (o + 1) M M1) := by
  refine ev_body hl rfl (by decide +kernel) (Nat.le_of_ble_eq_true rfl) ?_
  show ev_ l m_X7_parseWord 0 0 0 [some (.ref (o)), none, none, none] [] M _
  refine ev_blk (B := [(.lconst 1, 1), (.lstore_n 1, 1), (.iconst 0, 1), (.istore_n 3, 1)]) (pe := 4) (ls' := [some (.ref (o)), some (.long (1)), none, some (.int (nI 0))]) (st' := []) ⟨dX7_parseWord_0, dX7_parseWord_1, dX7_parseWord_2, dX7_parseWord_3, rfl⟩ rfl ?_
  rw [show (1 : Int64) = e1 [] from by decide]
  exact c_X7_word_l hl o n s f t ht hn hp M _ 0 s.1 [] M (by omega) rfl (fun a ha => absurd ha List.not_mem_nil) hp rfl rfl hO hT Fr.rf (Nat.lt_succ_self _)

