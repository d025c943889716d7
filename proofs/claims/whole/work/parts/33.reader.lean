/-! ===== TextReader ===== -/
/-- the next sign is one of so many from the lowest on -/
def nx (t : Nat → Nat) (n p : Nat) (b : Bool) (lo c : Nat) : Bool := !b && decide (p < n ∧ lo ≤ t p ∧ t p < lo + c)
/-- position and fault behind a symbol; its number -/
def ps (t : Nat → Nat) (n : Nat) (s : Nat × Bool) (lo c : Nat) : Nat × Bool := if nx t n s.1 s.2 lo c = true then (s.1 + 1, s.2) else (s.1, true)
def sv (t : Nat → Nat) (n : Nat) (s : Nat × Bool) (lo c : Nat) : Nat := if nx t n s.1 s.2 lo c = true then t s.1 - lo else 0
theorem nx_iff {t : Nat → Nat} {n p : Nat} {b : Bool} {lo c : Nat} : nx t n p b lo c = true ↔ b = false ∧ p < n ∧ lo ≤ t p ∧ t p < lo + c := by
  unfold nx
  cases b <;> simp
theorem ps_le {t : Nat → Nat} {n : Nat} {s : Nat × Bool} {lo c : Nat} (h : s.1 ≤ n) : (ps t n s lo c).1 ≤ n ∧ s.1 ≤ (ps t n s lo c).1 ∧ (ps t n s lo c).1 ≤ s.1 + 1 := by
  unfold ps
  split
  · rename_i q
    have := (nx_iff.mp q).2.1
    exact ⟨by show s.1 + 1 ≤ n; omega, Nat.le_succ _, Nat.le_refl _⟩
  · exact ⟨h, Nat.le_refl _, Nat.le_succ _⟩
theorem sv_lt {t : Nat → Nat} {n : Nat} {s : Nat × Bool} {lo c : Nat} (hc : 0 < c) : sv t n s lo c < c := by
  unfold sv
  split
  · rename_i q
    have := (nx_iff.mp q).2.2
    omega
  · exact hc
theorem ps_ok {t : Nat → Nat} {n : Nat} {s : Nat × Bool} {lo c : Nat} (h : (ps t n s lo c).2 = false) : s.2 = false ∧ (ps t n s lo c).1 = s.1 + 1 := by
  unfold ps at h ⊢
  split
  · rename_i q
    rw [if_pos q] at h
    exact ⟨h, rfl⟩
  · rename_i q
    rw [if_neg q] at h
    cases h
/-- a word of at most so many letters -/
def pw (t : Nat → Nat) (n : Nat) (b : Bool) : Nat → Nat → List Nat × Nat
  | 0, p => ([], p)
  | k + 1, p => bif nx t n p b 97 3 then ((t p - 97) :: (pw t n b k (p + 1)).1, (pw t n b k (p + 1)).2) else ([], p)
theorem pw_ok {t : Nat → Nat} {n : Nat} {b : Bool} (k : Nat) : ∀ p, p ≤ n → wk (pw t n b k p).1 ∧ (pw t n b k p).1.length ≤ k ∧ (pw t n b k p).2 ≤ n ∧ p ≤ (pw t n b k p).2 := by
  induction k with
  | zero => intro p hp; exact ⟨fun a ha => absurd ha List.not_mem_nil, Nat.le_refl _, hp, Nat.le_refl _⟩
  | succ k ih =>
    intro p hp
    unfold pw
    cases q : nx t n p b 97 3 with
    | false => exact ⟨fun a ha => absurd ha List.not_mem_nil, Nat.zero_le _, hp, Nat.le_refl _⟩
    | true =>
      have h1 := nx_iff.mp q
      obtain ⟨i1, i2, i3, i4⟩ := ih (p + 1) (by omega)
      refine ⟨fun a ha => ?_, by show (_ :: _ : List Nat).length ≤ _; rw [List.length_cons]; omega, i3, by omega⟩
      rcases List.mem_cons.mp ha with h | h
      · rw [h]; omega
      · exact i1 a h
/-- the end of a name -/
def nd (t : Nat → Nat) (n : Nat) : Nat → Nat → Nat
  | 0, p => p
  | k + 1, p => bif decide (p < n ∧ 97 ≤ t p ∧ t p ≤ 122) then nd t n k (p + 1) else p
theorem nd_le {t : Nat → Nat} {n : Nat} (k : Nat) : ∀ p, p ≤ n → nd t n k p ≤ n ∧ p ≤ nd t n k p := by
  induction k with
  | zero => intro p hp; exact ⟨hp, Nat.le_refl _⟩
  | succ k ih =>
    intro p hp
    unfold nd
    cases q : decide (p < n ∧ 97 ≤ t p ∧ t p ≤ 122) with
    | false => exact ⟨hp, Nat.le_refl _⟩
    | true =>
      have h1 := of_decide_eq_true q
      obtain ⟨i1, i2⟩ := ih (p + 1) (by omega)
      exact ⟨i1, by show p ≤ nd t n k (p + 1); omega⟩
/-- the name that stands between -/
def rk (t : Nat → Nat) (s p k : Nat) : Bool := decide (p = s + 4 ∧ ∀ j, j < 4 → t (s + j) = xw k j)
def nk (t : Nat → Nat) (s p : Nat) : Option Nat := bif rk t s p 0 then some 0 else bif rk t s p 1 then some 1 else bif rk t s p 2 then some 2 else bif rk t s p 3 then some 3 else none
theorem nk_lt {t : Nat → Nat} {s p k : Nat} (h : nk t s p = some k) : k < 4 ∧ p = s + 4 := by
  unfold nk at h
  cases q0 : rk t s p 0 with
  | true => rw [q0] at h; cases h; exact ⟨by decide, (of_decide_eq_true q0).1⟩
  | false =>
    cases q1 : rk t s p 1 with
    | true => rw [q0, q1] at h; cases h; exact ⟨by decide, (of_decide_eq_true q1).1⟩
    | false =>
      cases q2 : rk t s p 2 with
      | true => rw [q0, q1, q2] at h; cases h; exact ⟨by decide, (of_decide_eq_true q2).1⟩
      | false =>
        cases q3 : rk t s p 3 with
        | true => rw [q0, q1, q2, q3] at h; cases h; exact ⟨by decide, (of_decide_eq_true q3).1⟩
        | false => rw [q0, q1, q2, q3] at h; cases h
/-- a reader at o: its cell, its row of signs -/
def Ro (M : ev_M) (o n : Nat) (s : Nat × Bool) (f : Int32) : Prop := M[o]? = some (.inr (7, [.ref (o + 1), .ref (o + 2), .ref (o + 4), .ref (o + 8), .int (nI n), .int (nI s.1), .int (ev_b s.2), .int f]))
def Rr (M : ev_M) (o : Nat) (t : Nat → Nat) : Prop := M[o + 1]? = some (.inl (2, 80, .inl (fun i => nI (t i))))
theorem Rr.fr {lo hi : Nat} {M M1 : ev_M} {o : Nat} {t : Nat → Nat} (hR : Rr M o t) (hf : Fr lo hi M M1) (hd : o + 1 < lo ∨ hi ≤ o + 1) : Rr M1 o t := (hf.2 (o + 1) hd).trans hR
/-- what parsing needs to know of the signs -/
def tOk (t : Nat → Nat) : Prop := ∀ i, t i < 65536
set_option maxHeartbeats 4000000 in
set_option maxRecDepth 100000 in
theorem c_X7_isNext {l : Launch} (hl : l.stackTraces = false) {M : ev_M} (o n : Nat) (s : Nat × Bool) (f : Int32) (t : Nat → Nat) (hO : Ro M o n s f) (hT : Rr M o t) (ht : tOk t) (hn : n ≤ 80) (lo c : Nat) (hlo : lo < 1000) (hc : c < 1000) : ev_Mt l m_X7_isNext [.ref (o), .int (nI lo), .int (nI c)] M (ev_q (.inl (some (.int (ev_b (nx t n s.1 s.2 lo c))))) M) := by
  have ht1 := ht s.1
  refine ev_body hl rfl (by decide +kernel) (Nat.le_of_ble_eq_true rfl) ?_
  show ev_ l m_X7_isNext 0 0 0 [some (.ref (o)), some (.int (nI lo)), some (.int (nI c))] [] M _
  refine ev_blk (B := [(.aload_n 0, 1)]) (pe := 1) (ls' := [some (.ref (o)), some (.int (nI lo)), some (.int (nI c))]) (st' := [.ref (o)]) ⟨dX7_isNext_0, rfl⟩ rfl ?_
  refine ev_getf (v := .int (ev_b (s.2))) F_RX7_45 dX7_isNext_1 hO rfl ?_
  refine ev_ifB_ne dX7_isNext_4 (tgt := 57) (by decide) (fun q4 => ?_) (fun q4 => ?_)
  · refine ev_blk (B := [(.iconst 0, 1)]) (pe := 58) (ls' := [some (.ref (o)), some (.int (nI lo)), some (.int (nI c))]) (st' := [.int (nI 0)]) ⟨dX7_isNext_57, rfl⟩ rfl ?_
    refine ev_iret dX7_isNext_58 rfl (rfl) ⟨Nat.le_of_ble_eq_true rfl, Nat.le_of_ble_eq_true rfl⟩ ?_
    have e9 : nx t n s.1 s.2 lo c = false := Bool.eq_false_iff.mpr (fun z => by have z1 := nx_iff.mp z; rw [z1.1] at q4; cases q4)
    rw [e9]
    exact ⟨rfl, rfl⟩
  · refine ev_blk (B := [(.aload_n 0, 1)]) (pe := 8) (ls' := [some (.ref (o)), some (.int (nI lo)), some (.int (nI c))]) (st' := [.ref (o)]) ⟨dX7_isNext_7, rfl⟩ rfl ?_
    refine ev_getf (v := .int (nI (s.1))) F_RX7_42 dX7_isNext_8 hO rfl ?_
    refine ev_fN_lt dX7_isNext_11 (tgt := 57) (by decide) (by omega) ?_
    refine ev_blk (B := [(.aload_n 0, 1)]) (pe := 15) (ls' := [some (.ref (o)), some (.int (nI lo)), some (.int (nI c))]) (st' := [.ref (o)]) ⟨dX7_isNext_14, rfl⟩ rfl ?_
    refine ev_getf (v := .int (nI (s.1))) F_RX7_42 dX7_isNext_15 hO rfl ?_
    refine ev_blk (B := [(.aload_n 0, 1)]) (pe := 19) (ls' := [some (.ref (o)), some (.int (nI lo)), some (.int (nI c))]) (st' := [.ref (o), .int (nI (s.1))]) ⟨dX7_isNext_18, rfl⟩ rfl ?_
    refine ev_getf (v := .int (nI n)) F_RX7_38 dX7_isNext_19 hO rfl ?_
    refine ev_iN_ge dX7_isNext_22 (tgt := 57) (by decide) (by omega) (by omega) (fun q22 => ?_) (fun q22 => ?_)
    · refine ev_blk (B := [(.iconst 0, 1)]) (pe := 58) (ls' := [some (.ref (o)), some (.int (nI lo)), some (.int (nI c))]) (st' := [.int (nI 0)]) ⟨dX7_isNext_57, rfl⟩ rfl ?_
      refine ev_iret dX7_isNext_58 rfl (rfl) ⟨Nat.le_of_ble_eq_true rfl, Nat.le_of_ble_eq_true rfl⟩ ?_
      have e9 : nx t n s.1 s.2 lo c = false := Bool.eq_false_iff.mpr (fun z => by have z1 := nx_iff.mp z; omega)
      rw [e9]
      exact ⟨rfl, rfl⟩
    · refine ev_blk (B := [(.aload_n 0, 1)]) (pe := 26) (ls' := [some (.ref (o)), some (.int (nI lo)), some (.int (nI c))]) (st' := [.ref (o)]) ⟨dX7_isNext_25, rfl⟩ rfl ?_
      refine ev_getf (v := .ref (o + 1)) F_RX7_9 dX7_isNext_26 hO rfl ?_
      refine ev_blk (B := [(.aload_n 0, 1)]) (pe := 30) (ls' := [some (.ref (o)), some (.int (nI lo)), some (.int (nI c))]) (st' := [.ref (o), .ref (o + 1)]) ⟨dX7_isNext_29, rfl⟩ rfl ?_
      refine ev_getf (v := .int (nI (s.1))) F_RX7_42 dX7_isNext_30 hO rfl ?_
      refine ev_cald dX7_isNext_33 hT (vp_in_nI (show s.1 < 80 by omega) (by omega)) ?_
      rw [nI_clamp (show s.1 < 2 ^ 31 by omega)]
      rw [show (fun i => nI (t i)) s.1 = nI (t (s.1)) from rfl]
      refine ev_blk (B := [(.iload_n 1, 1)]) (pe := 35) (ls' := [some (.ref (o)), some (.int (nI lo)), some (.int (nI c))]) (st' := [.int (nI lo), .int (nI (t (s.1)))]) ⟨dX7_isNext_34, rfl⟩ rfl ?_
      refine ev_iN_lt dX7_isNext_35 (tgt := 57) (by decide) (by omega) (by omega) (fun q35 => ?_) (fun q35 => ?_)
      · refine ev_blk (B := [(.iconst 0, 1)]) (pe := 58) (ls' := [some (.ref (o)), some (.int (nI lo)), some (.int (nI c))]) (st' := [.int (nI 0)]) ⟨dX7_isNext_57, rfl⟩ rfl ?_
        refine ev_iret dX7_isNext_58 rfl (rfl) ⟨Nat.le_of_ble_eq_true rfl, Nat.le_of_ble_eq_true rfl⟩ ?_
        have e9 : nx t n s.1 s.2 lo c = false := Bool.eq_false_iff.mpr (fun z => by have z1 := nx_iff.mp z; omega)
        rw [e9]
        exact ⟨rfl, rfl⟩
      · refine ev_blk (B := [(.aload_n 0, 1)]) (pe := 39) (ls' := [some (.ref (o)), some (.int (nI lo)), some (.int (nI c))]) (st' := [.ref (o)]) ⟨dX7_isNext_38, rfl⟩ rfl ?_
        refine ev_getf (v := .ref (o + 1)) F_RX7_9 dX7_isNext_39 hO rfl ?_
        refine ev_blk (B := [(.aload_n 0, 1)]) (pe := 43) (ls' := [some (.ref (o)), some (.int (nI lo)), some (.int (nI c))]) (st' := [.ref (o), .ref (o + 1)]) ⟨dX7_isNext_42, rfl⟩ rfl ?_
        refine ev_getf (v := .int (nI (s.1))) F_RX7_42 dX7_isNext_43 hO rfl ?_
        refine ev_cald dX7_isNext_46 hT (vp_in_nI (show s.1 < 80 by omega) (by omega)) ?_
        rw [nI_clamp (show s.1 < 2 ^ 31 by omega)]
        rw [show (fun i => nI (t i)) s.1 = nI (t (s.1)) from rfl]
        refine ev_blk (B := [(.iload_n 1, 1), (.iload_n 2, 1), (.iadd, 1)]) (pe := 50) (ls' := [some (.ref (o)), some (.int (nI lo)), some (.int (nI c))]) (st' := [.int (nI (lo + c)), .int (nI (t (s.1)))]) ⟨dX7_isNext_47, dX7_isNext_48, dX7_isNext_49, rfl⟩ (by show some (([some (.ref (o)), some (.int (nI lo)), some (.int (nI c))] : ev_L), ([.int ((nI lo) + (nI c)), .int (nI (t (s.1)))] : List Value)) = _; rw [nI_add lo c]) ?_
        refine ev_iN_ge dX7_isNext_50 (tgt := 57) (by decide) (by omega) (by omega) (fun q50 => ?_) (fun q50 => ?_)
        · refine ev_blk (B := [(.iconst 0, 1)]) (pe := 58) (ls' := [some (.ref (o)), some (.int (nI lo)), some (.int (nI c))]) (st' := [.int (nI 0)]) ⟨dX7_isNext_57, rfl⟩ rfl ?_
          refine ev_iret dX7_isNext_58 rfl (rfl) ⟨Nat.le_of_ble_eq_true rfl, Nat.le_of_ble_eq_true rfl⟩ ?_
          have e9 : nx t n s.1 s.2 lo c = false := Bool.eq_false_iff.mpr (fun z => by have z1 := nx_iff.mp z; omega)
          rw [e9]
          exact ⟨rfl, rfl⟩
        · refine ev_blk (B := [(.iconst 1, 1)]) (pe := 54) (ls' := [some (.ref (o)), some (.int (nI lo)), some (.int (nI c))]) (st' := [.int (nI 1)]) ⟨dX7_isNext_53, rfl⟩ rfl ?_
          refine ev_goto (tgt := 58) dX7_isNext_54 (by decide) ?_
          refine ev_iret dX7_isNext_58 rfl (rfl) ⟨Nat.le_of_ble_eq_true rfl, Nat.le_of_ble_eq_true rfl⟩ ?_
          have e9 : nx t n s.1 s.2 lo c = true := nx_iff.mpr ⟨q4, by omega, by omega, by omega⟩
          rw [e9]
          exact ⟨rfl, rfl⟩

set_option maxHeartbeats 4000000 in
set_option maxRecDepth 100000 in
theorem c_X7_sym {l : Launch} (hl : l.stackTraces = false) {M : ev_M} (o n : Nat) (s : Nat × Bool) (f : Int32) (t : Nat → Nat) (hO : Ro M o n s f) (hT : Rr M o t) (ht : tOk t) (hn : n ≤ 80) (hp : s.1 ≤ n) (lo c : Nat) (hlo : lo < 1000) (hc : c < 1000) : ev_Mt l m_X7_parseSymbol [.ref (o), .int (nI lo), .int (nI c)] M (fun r M1 => r = .inl (some (.int (nI (sv t n s lo c)))) ∧ Ro M1 o n (ps t n s lo c) f ∧ Fr o (o + 1) M M1) := by
  have ht1 := ht s.1
  refine ev_body hl rfl (by decide +kernel) (Nat.le_of_ble_eq_true rfl) ?_
  show ev_ l m_X7_parseSymbol 0 0 0 [some (.ref (o)), some (.int (nI lo)), some (.int (nI c)), none] [] M _
  refine ev_blk (B := [(.aload_n 0, 1), (.iload_n 1, 1), (.iload_n 2, 1)]) (pe := 3) (ls' := [some (.ref (o)), some (.int (nI lo)), some (.int (nI c)), none]) (st' := [.int (nI c), .int (nI lo), .ref (o)]) ⟨dX7_parseSymbol_0, dX7_parseSymbol_1, dX7_parseSymbol_2, rfl⟩ rfl ?_
  refine ev_cVv Y_X7_isNext L_RX7_129 dX7_parseSymbol_3 ⟨Nat.le_of_ble_eq_true rfl, Nat.le_of_ble_eq_true rfl, Nat.le_of_ble_eq_true rfl, Nat.le_of_ble_eq_true rfl, Nat.le_of_ble_eq_true rfl⟩ hO (as := [.int (nI lo), .int (nI c)]) rfl rfl (c_X7_isNext hl o n s f t hO hT ht hn lo c hlo hc) ?_
  refine ev_ifB_ne dX7_parseSymbol_6 (tgt := 16) (by decide) (fun q6 => ?_) (fun q6 => ?_)
  · have y9 := nx_iff.mp q6
    refine ev_blk (B := [(.aload_n 0, 1)]) (pe := 17) (ls' := [some (.ref (o)), some (.int (nI lo)), some (.int (nI c)), none]) (st' := [.ref (o)]) ⟨dX7_parseSymbol_16, rfl⟩ rfl ?_
    refine ev_getf (v := .ref (o + 1)) F_RX7_9 dX7_parseSymbol_17 hO rfl ?_
    refine ev_blk (B := [(.aload_n 0, 1)]) (pe := 21) (ls' := [some (.ref (o)), some (.int (nI lo)), some (.int (nI c)), none]) (st' := [.ref (o), .ref (o + 1)]) ⟨dX7_parseSymbol_20, rfl⟩ rfl ?_
    refine ev_getf (v := .int (nI (s.1))) F_RX7_42 dX7_parseSymbol_21 hO rfl ?_
    refine ev_cald dX7_parseSymbol_24 hT (vp_in_nI (show s.1 < 80 by omega) (by omega)) ?_
    rw [nI_clamp (show s.1 < 2 ^ 31 by omega)]
    rw [show (fun i => nI (t i)) s.1 = nI (t (s.1)) from rfl]
    refine ev_blk (B := [(.iload_n 1, 1), (.isub, 1), (.istore_n 3, 1), (.aload_n 0, 1), (.dup, 1)]) (pe := 30) (ls' := [some (.ref (o)), some (.int (nI lo)), some (.int (nI c)), some (.int (nI ((t (s.1)) - lo)))]) (st' := [.ref (o), .ref (o)]) ⟨dX7_parseSymbol_25, dX7_parseSymbol_26, dX7_parseSymbol_27, dX7_parseSymbol_28, dX7_parseSymbol_29, rfl⟩ (by show some (([some (.ref (o)), some (.int (nI lo)), some (.int (nI c)), some (.int ((nI (t (s.1))) - (nI lo)))] : ev_L), ([.ref (o), .ref (o)] : List Value)) = _; rw [pk_sub (show lo ≤ (t (s.1)) by omega)]) ?_
    refine ev_getf (v := .int (nI (s.1))) F_RX7_42 dX7_parseSymbol_30 hO rfl ?_
    refine ev_blk (B := [(.iconst 1, 1), (.iadd, 1)]) (pe := 35) (ls' := [some (.ref (o)), some (.int (nI lo)), some (.int (nI c)), some (.int (nI ((t (s.1)) - lo)))]) (st' := [.int (nI ((s.1) + 1)), .ref (o)]) ⟨dX7_parseSymbol_33, dX7_parseSymbol_34, rfl⟩ (by show some (([some (.ref (o)), some (.int (nI lo)), some (.int (nI c)), some (.int (nI ((t (s.1)) - lo)))] : ev_L), ([.int ((nI (s.1)) + (nI 1)), .ref (o)] : List Value)) = _; rw [nI_add (s.1) 1]) ?_
    refine ev_put F_RX7_42 dX7_parseSymbol_35 hO (Nat.le_of_ble_eq_true rfl) (fun _ _ => ⟨rfl, rfl⟩) ?_
    refine ev_nm (M0 := M.set (o) (.inr (7, [.ref (o + 1), .ref (o + 2), .ref (o + 4), .ref (o + 8), .int (nI n), .int (nI ((s.1) + 1)), .int (ev_b (s.2)), .int (f)]))) (fun M1 eM1 => ?_)
    have f2 : M1[o]? = some (.inr (7, [.ref (o + 1), .ref (o + 2), .ref (o + 4), .ref (o + 8), .int (nI n), .int (nI ((s.1) + 1)), .int (ev_b (s.2)), .int (f)])) := by rw [eM1]; exact ev_sg hO
    have f3 : M1[o + 1]? = some (.inl (2, 80, .inl (fun i => nI (t i)))) := by rw [eM1, ev_sn (by omega)]; exact hT
    refine ev_blk (B := [(.iload_n 3, 1)]) (pe := 39) (ls' := [some (.ref (o)), some (.int (nI lo)), some (.int (nI c)), some (.int (nI ((t (s.1)) - lo)))]) (st' := [.int (nI ((t (s.1)) - lo))]) ⟨dX7_parseSymbol_38, rfl⟩ rfl ?_
    refine ev_iret dX7_parseSymbol_39 rfl (rfl) ⟨Nat.le_of_ble_eq_true rfl, Nat.le_of_ble_eq_true rfl⟩ ?_
    have e9 : sv t n s lo c = t s.1 - lo := if_pos q6
    have e8 : ps t n s lo c = (s.1 + 1, s.2) := if_pos q6
    rw [e9, e8]
    exact ⟨rfl, f2, ⟨by rw [eM1]; simp only [List.length_set], fun j hj => by rw [eM1, ev_sn (by omega)]⟩⟩
  · refine ev_blk (B := [(.aload_n 0, 1), (.iconst 1, 1)]) (pe := 11) (ls' := [some (.ref (o)), some (.int (nI lo)), some (.int (nI c)), none]) (st' := [.int (nI 1), .ref (o)]) ⟨dX7_parseSymbol_9, dX7_parseSymbol_10, rfl⟩ rfl ?_
    refine ev_put F_RX7_45 dX7_parseSymbol_11 hO (Nat.le_of_ble_eq_true rfl) (fun _ _ => ⟨rfl, rfl⟩) ?_
    refine ev_nm (M0 := M.set (o) (.inr (7, [.ref (o + 1), .ref (o + 2), .ref (o + 4), .ref (o + 8), .int (nI n), .int (nI (s.1)), .int (nI 1), .int (f)]))) (fun M4 eM4 => ?_)
    have f5 : M4[o]? = some (.inr (7, [.ref (o + 1), .ref (o + 2), .ref (o + 4), .ref (o + 8), .int (nI n), .int (nI (s.1)), .int (nI 1), .int (f)])) := by rw [eM4]; exact ev_sg hO
    have f6 : M4[o + 1]? = some (.inl (2, 80, .inl (fun i => nI (t i)))) := by rw [eM4, ev_sn (by omega)]; exact hT
    refine ev_blk (B := [(.iconst 0, 1)]) (pe := 15) (ls' := [some (.ref (o)), some (.int (nI lo)), some (.int (nI c)), none]) (st' := [.int (nI 0)]) ⟨dX7_parseSymbol_14, rfl⟩ rfl ?_
    refine ev_iret dX7_parseSymbol_15 rfl (rfl) ⟨Nat.le_of_ble_eq_true rfl, Nat.le_of_ble_eq_true rfl⟩ ?_
    have e9 : sv t n s lo c = 0 := if_neg (Bool.eq_false_iff.mp q6)
    have e8 : ps t n s lo c = (s.1, true) := if_neg (Bool.eq_false_iff.mp q6)
    rw [e9, e8]
    exact ⟨rfl, f5, ⟨by rw [eM4]; simp only [List.length_set], fun j hj => by rw [eM4, ev_sn (by omega)]⟩⟩

theorem if_pos_b {α : Type} {b : Bool} {x y : α} (h : b = true) : (bif b then x else y) = x := by rw [h]; rfl
theorem if_neg_b {α : Type} {b : Bool} {x y : α} (h : b = false) : (bif b then x else y) = y := by rw [h]; rfl
theorem oI_0 {k : Option Nat} (h : ∀ a, k = some a → a < 4) : oI k = 0 ↔ k = some 0 := by
  cases k with
  | none => exact ⟨fun q => absurd q (by decide), fun q => by cases q⟩
  | some a =>
    have ha := h a rfl
    constructor
    · intro q
      have : nI a = nI 0 := q
      rw [(nI_eq (by omega) (by omega)).mp this]
    · intro q; cases q; rfl
theorem oI_m {k : Option Nat} (h : ∀ a, k = some a → a < 4) : oI k = -1 ↔ k = none := by
  cases k with
  | none => exact ⟨fun _ => rfl, fun _ => rfl⟩
  | some a =>
    have ha := h a rfl
    constructor
    · intro q
      have q1 : nI a = -1 := q
      have : ∀ a, a < 4 → nI a ≠ -1 := by decide
      exact absurd q1 (this a ha)
    · intro q; cases q
/-- nothing changed but two cells -/
def Fd (a b : Nat) (M M1 : ev_M) : Prop := M1.length = M.length ∧ ∀ j, j ≠ a → j ≠ b → M1[j]? = M[j]?
theorem Fd.rf {a b : Nat} {M : ev_M} : Fd a b M M := ⟨rfl, fun _ _ _ => rfl⟩
theorem Fd.tr {a b : Nat} {M M1 M2 : ev_M} (h1 : Fd a b M M1) (h2 : Fd a b M1 M2) : Fd a b M M2 := ⟨h2.1.trans h1.1, fun j x y => (h2.2 j x y).trans (h1.2 j x y)⟩
theorem Fd.of {a b lo hi : Nat} {M M1 : ev_M} (h : Fr lo hi M M1) (hd : lo = a ∧ hi = a + 1 ∨ lo = b ∧ hi = b + 1) : Fd a b M M1 := ⟨h.1, fun j x y => h.2 j (by omega)⟩
theorem Fd.fr {a b lo hi : Nat} {M M1 : ev_M} (h : Fd a b M M1) (h1 : lo ≤ a ∧ a < hi) (h2 : lo ≤ b ∧ b < hi) : Fr lo hi M M1 := ⟨h.1, fun j x => h.2 j (by omega) (by omega)⟩
theorem RQ.fd {a b : Nat} {M M1 : ev_M} {p cap : Nat} {L : List Cf} (hR : RQ M p cap L) (hf : Fd a b M M1) (h1 : a < p ∨ p + 4 ≤ a) (h2 : b < p ∨ p + 4 ≤ b) : RQ M1 p cap L := hR.kept fun j x y => hf.2 j (by omega) (by omega)
theorem RM.fd {a b : Nat} {M M1 : ev_M} {p : Nat} {T : List Tr} (hR : RM M p T) (hf : Fd a b M M1) (h1 : a < p ∨ p + 2 ≤ a) (h2 : b < p ∨ p + 2 ≤ b) : RM M1 p T := hR.kept fun j x y => hf.2 j (by omega) (by omega)
/-- a word, and the state behind it -/
def pwS (t : Nat → Nat) (n : Nat) (s : Nat × Bool) : List Nat × Nat × Bool := ((pw t n s.2 10 s.1).1, (pw t n s.2 10 s.1).2, s.2)
/-- the rest of a goal: two words, the state -/
def gl (t : Nat → Nat) (n : Nat) (s : Nat × Bool) : List Nat × List Nat × Nat × Bool := ((pwS t n s).1, (pwS t n (ps t n (pwS t n s).2 44 1)).1, ps t n (ps t n (pwS t n (ps t n (pwS t n s).2 44 1)).2 41 1) 59 1)
/-- the rest of a transition: new state, channel, letter, the state -/
def t5 (t : Nat → Nat) (n : Nat) (s : Nat × Bool) : Nat × Bool := ps t n (ps t n (ps t n (ps t n s 44 1) 48 2) 44 1) 97 3
def tl (t : Nat → Nat) (n : Nat) (k : Option Nat) (s : Nat × Bool) : Nat × Nat × Nat × Nat × Bool :=
  if k = some 0 then (sv t n s 48 6, 0, 0, ps t n (ps t n (ps t n s 48 6) 41 1) 59 1)
  else (sv t n s 48 6, sv t n (ps t n (ps t n s 48 6) 44 1) 48 2, sv t n (ps t n (ps t n (ps t n (ps t n s 48 6) 44 1) 48 2) 44 1) 97 3, ps t n (ps t n (t5 t n (ps t n s 48 6)) 41 1) 59 1)
/-- the state behind a name -/
def ns (t : Nat → Nat) (n p : Nat) : Nat × Bool := match nk t p (nd t n (n - p) p) with
  | none => (p, true)
  | some _ => (nd t n (n - p) p, false)
/-- behind the old state and its comma -/
def hs (t : Nat → Nat) (n p : Nat) : Nat × Bool := ps t n (ps t n (ps t n (ns t n p) 40 1) 48 6) 44 1
/-- a command: the state behind it, and what it says -/
def cmA (t : Nat → Nat) (n p : Nat) : Nat := sv t n (ps t n (ns t n p) 40 1) 48 6
def cmG (t : Nat → Nat) (n p : Nat) : List Nat × List Nat × Nat × Bool := gl t n (hs t n p)
def cmT (t : Nat → Nat) (n p : Nat) : Nat × Nat × Nat × Nat × Bool := tl t n (nk t p (nd t n (n - p) p)) (hs t n p)
def cm (t : Nat → Nat) (n p : Nat) : (Nat × Bool) × Option (Tr ⊕ Cf) :=
  if nk t p (nd t n (n - p) p) = some 3 then ((cmG t n p).2.2, if (cmG t n p).2.2.2 = true then none else some (.inr (cmA t n p, (cmG t n p).1, (cmG t n p).2.1)))
  else ((cmT t n p).2.2.2, if (cmT t n p).2.2.2.2 = true then none else some (.inl (cmA t n p, (cmT t n p).1, (nk t p (nd t n (n - p) p)).getD 0, (cmT t n p).2.1, (cmT t n p).2.2.1)))
def cT (r : Option (Tr ⊕ Cf)) (T : List Tr) : List Tr := match r with
  | some (.inl x) => T ++ [x]
  | _ => T
def cG (r : Option (Tr ⊕ Cf)) (G : List Cf) : List Cf := match r with
  | some (.inr g) => G ++ [g]
  | _ => G
theorem cT_inr {b : Bool} {g : Cf} {T : List Tr} : cT (if b = true then none else some (.inr g)) T = T := by cases b <;> rfl
theorem cT_inl {b : Bool} {x : Tr} {T : List Tr} : cT (if b = true then none else some (.inl x)) T = if b = true then T else T ++ [x] := by cases b <;> rfl
theorem cG_inl {b : Bool} {x : Tr} {G : List Cf} : cG (if b = true then none else some (.inl x)) G = G := by cases b <;> rfl
theorem cG_inr {b : Bool} {g : Cf} {G : List Cf} : cG (if b = true then none else some (.inr g)) G = if b = true then G else G ++ [g] := by cases b <;> rfl
theorem ns_le {t : Nat → Nat} {n p : Nat} (hp : p ≤ n) : (ns t n p).1 ≤ n := by
  unfold ns
  split
  · exact hp
  · exact (nd_le _ _ hp).1
theorem ns_ok {t : Nat → Nat} {n p : Nat} (h : (ns t n p).2 = false) : ∃ k, nk t p (nd t n (n - p) p) = some k ∧ (ns t n p).1 = p + 4 := by
  unfold ns at h ⊢
  split
  · rename_i q; rw [q] at h; cases h
  · rename_i k q
    exact ⟨k, q, (nk_lt q).2⟩
theorem hs_ok {t : Nat → Nat} {n p : Nat} (h : (hs t n p).2 = false) : ∃ k, nk t p (nd t n (n - p) p) = some k ∧ (hs t n p).1 = p + 7 := by
  obtain ⟨h1, a1⟩ := ps_ok h
  obtain ⟨h2, a2⟩ := ps_ok h1
  obtain ⟨h3, a3⟩ := ps_ok h2
  obtain ⟨k, hk, a4⟩ := ns_ok h3
  refine ⟨k, hk, ?_⟩
  show (ps t n (ps t n (ps t n (ns t n p) 40 1) 48 6) 44 1).1 = p + 7
  omega
theorem hs_le {t : Nat → Nat} {n p : Nat} (hp : p ≤ n) : (hs t n p).1 ≤ n := (ps_le (ps_le (ps_le (ns_le hp)).1).1).1
theorem gl_ok {t : Nat → Nat} {n : Nat} {s : Nat × Bool} (hn : s.1 ≤ n) (h : (gl t n s).2.2.2 = false) : s.2 = false ∧ s.1 + 3 ≤ (gl t n s).2.2.1 := by
  obtain ⟨h1, a1⟩ := ps_ok h
  obtain ⟨h2, a2⟩ := ps_ok h1
  obtain ⟨h3, a3⟩ := ps_ok (s := (pwS t n s).2) (lo := 44) (c := 1) h2
  have b1 := pw_ok (t := t) (n := n) (b := s.2) 10 s.1 hn
  have b2 := pw_ok (t := t) (n := n) (b := (ps t n (pwS t n s).2 44 1).2) 10 (ps t n (pwS t n s).2 44 1).1 (ps_le b1.2.2.1).1
  refine ⟨h3, ?_⟩
  have c1 : (pwS t n (ps t n (pwS t n s).2 44 1)).2.1 = (pw t n (ps t n (pwS t n s).2 44 1).2 10 (ps t n (pwS t n s).2 44 1).1).2 := rfl
  have c2 : (pwS t n s).2.1 = (pw t n s.2 10 s.1).2 := rfl
  show s.1 + 3 ≤ (ps t n (ps t n (pwS t n (ps t n (pwS t n s).2 44 1)).2 41 1) 59 1).1
  omega
theorem tl_ok {t : Nat → Nat} {n : Nat} {k : Option Nat} {s : Nat × Bool} (h : (tl t n k s).2.2.2.2 = false) : s.2 = false ∧ s.1 + 3 ≤ (tl t n k s).2.2.2.1 := by
  unfold tl at h ⊢
  split
  · rename_i q
    rw [if_pos q] at h
    obtain ⟨h1, a1⟩ := ps_ok h
    obtain ⟨h2, a2⟩ := ps_ok h1
    obtain ⟨h3, a3⟩ := ps_ok h2
    refine ⟨h3, ?_⟩
    show s.1 + 3 ≤ (ps t n (ps t n (ps t n s 48 6) 41 1) 59 1).1
    omega
  · rename_i q
    rw [if_neg q] at h
    obtain ⟨h1, a1⟩ := ps_ok h
    obtain ⟨h2, a2⟩ := ps_ok h1
    obtain ⟨h4, a4⟩ := ps_ok h2
    obtain ⟨h5, a5⟩ := ps_ok h4
    obtain ⟨h6, a6⟩ := ps_ok h5
    obtain ⟨h7, a7⟩ := ps_ok h6
    obtain ⟨h3, a3⟩ := ps_ok h7
    refine ⟨h3, ?_⟩
    show s.1 + 3 ≤ (ps t n (ps t n (t5 t n (ps t n s 48 6)) 41 1) 59 1).1
    have c1 : t5 t n (ps t n s 48 6) = ps t n (ps t n (ps t n (ps t n (ps t n s 48 6) 44 1) 48 2) 44 1) 97 3 := rfl
    rw [c1] at a1 a2 ⊢
    omega
theorem cm_adv {t : Nat → Nat} {n p : Nat} (hp : p ≤ n) (h : (cm t n p).1.2 = false) : p + 10 ≤ (cm t n p).1.1 := by
  unfold cm at h ⊢
  split
  · rename_i q
    rw [if_pos q] at h
    obtain ⟨h1, a1⟩ := gl_ok (hs_le hp) h
    obtain ⟨k, -, a2⟩ := hs_ok h1
    show p + 10 ≤ (gl t n (hs t n p)).2.2.1
    omega
  · rename_i q
    rw [if_neg q] at h
    obtain ⟨h1, a1⟩ := tl_ok h
    obtain ⟨k, -, a2⟩ := hs_ok h1
    show p + 10 ≤ (tl t n (nk t p (nd t n (n - p) p)) (hs t n p)).2.2.2.1
    omega
theorem cT_len {r : Option (Tr ⊕ Cf)} {T : List Tr} {G : List Cf} : (cT r T).length + (cG r G).length ≤ T.length + G.length + 1 := by
  rcases r with _ | x | g
  · show T.length + G.length ≤ _; omega
  · show (T ++ [x]).length + G.length ≤ _; rw [List.length_append, List.length_singleton]; omega
  · show T.length + (G ++ [g]).length ≤ _; rw [List.length_append, List.length_singleton]; omega
theorem tl_le {t : Nat → Nat} {n : Nat} {k : Option Nat} {s : Nat × Bool} (hn : s.1 ≤ n) : (tl t n k s).2.2.2.1 ≤ n := by
  unfold tl
  split
  · exact (ps_le (ps_le (ps_le hn).1).1).1
  · exact (ps_le (ps_le (ps_le (ps_le (ps_le (ps_le (ps_le hn).1).1).1).1).1).1).1
theorem gl_le {t : Nat → Nat} {n : Nat} {s : Nat × Bool} (hn : s.1 ≤ n) : (gl t n s).2.2.1 ≤ n := (ps_le (ps_le (pw_ok 10 _ (ps_le (pw_ok 10 _ hn).2.2.1).1).2.2.1).1).1
theorem cm_le {t : Nat → Nat} {n p : Nat} (hp : p ≤ n) : (cm t n p).1.1 ≤ n := by
  unfold cm
  split
  · exact gl_le (hs_le hp)
  · exact tl_le (hs_le hp)
/-- the text: transitions, goals, the number of commands, the position, the fault -/
def pl (t : Nat → Nat) (n : Nat) : Nat → Nat → List Tr → List Cf → Nat → List Tr × List Cf × Nat × Nat × Bool
  | 0, p, T, G, c => (T, G, c, p, true)
  | k + 1, p, T, G, c => bif (!(cm t n p).1.2 && decide ((cm t n p).1.1 < n)) then pl t n k (cm t n p).1.1 (cT (cm t n p).2 T) (cG (cm t n p).2 G) (c + 1) else (cT (cm t n p).2 T, cG (cm t n p).2 G, c + 1, (cm t n p).1.1, (cm t n p).1.2)
theorem RWk.fd {a b c : Nat} {M M1 : ev_M} (h : RWk M c) (hf : Fd a b M M1) (h1 : c ≠ a) (h2 : c ≠ b) : RWk M1 c := by
  obtain ⟨y, hy⟩ := h
  exact ⟨y, (hf.2 c h1 h2).trans hy⟩
set_option maxHeartbeats 4000000 in
set_option maxRecDepth 100000 in
theorem c_X7_isRead_l {l : Launch} (hl : l.stackTraces = false) {M : ev_M} (o n : Nat) (s : Nat × Bool) (f : Int32) (t : Nat → Nat) (hO : Ro M o n s f) (hT : Rr M o t) (ht : tOk t) (hn : n ≤ 80) (st : Nat) (hst : st ≤ s.1) (hp : s.1 ≤ n) (k : Nat) (hk : k < 4) (h4 : s.1 = st + 4) : ∀ (n9 : Nat) (i : Nat), i ≤ 4 → (∀ j, j < i → t (st + j) = xw k j) → 4 - i < n9 → ev_ l m_X7_isRead 0 0 32 [some (.ref (o)), some (.int (nI st)), some (.retAddr (4 + k)), some (.int (nI i))] [] M (ev_q (.inl (some (.int (ev_b (rk t st s.1 k))))) M) := by
  intro n9
  induction n9 with
  | zero => intro i hi hj hm9; exact absurd hm9 (by omega)
  | succ n9 ih =>
    intro i hi hj hm9
    have ht1 := ht (st + i)
    refine ev_blk (B := [(.iload_n 3, 1), (.aload_n 2, 1)]) (pe := 34) (ls' := [some (.ref (o)), some (.int (nI st)), some (.retAddr (4 + k)), some (.int (nI i))]) (st' := [.retAddr (4 + k), .int (nI i)]) ⟨dX7_isRead_32, dX7_isRead_33, rfl⟩ rfl ?_
    refine ev_cXv Y_J0_length_8abf5 L_RX7_119 dX7_isRead_34 ⟨Nat.le_of_ble_eq_true rfl, Nat.le_of_ble_eq_true rfl, Nat.le_of_ble_eq_true rfl, Nat.le_of_ble_eq_true rfl, Nat.le_of_ble_eq_true rfl⟩ hk (as := []) rfl rfl (c_slen hl k hk) ?_
    refine ev_iN_ge dX7_isRead_37 (tgt := 64) (by decide) (by omega) (by omega) (fun q37 => ?_) (fun q37 => ?_)
    · refine ev_blk (B := [(.iconst 1, 1)]) (pe := 65) (ls' := [some (.ref (o)), some (.int (nI st)), some (.retAddr (4 + k)), some (.int (nI i))]) (st' := [.int (nI 1)]) ⟨dX7_isRead_64, rfl⟩ rfl ?_
      refine ev_iret dX7_isRead_65 rfl (rfl) ⟨Nat.le_of_ble_eq_true rfl, Nat.le_of_ble_eq_true rfl⟩ ?_
      have e9 : rk t st s.1 k = true := decide_eq_true ⟨h4, fun j hj9 => hj j (by omega)⟩
      rw [e9]
      exact ⟨rfl, rfl⟩
    · refine ev_blk (B := [(.aload_n 0, 1)]) (pe := 41) (ls' := [some (.ref (o)), some (.int (nI st)), some (.retAddr (4 + k)), some (.int (nI i))]) (st' := [.ref (o)]) ⟨dX7_isRead_40, rfl⟩ rfl ?_
      refine ev_getf (v := .ref (o + 1)) F_RX7_9 dX7_isRead_41 hO rfl ?_
      refine ev_blk (B := [(.iload_n 1, 1), (.iload_n 3, 1), (.iadd, 1)]) (pe := 47) (ls' := [some (.ref (o)), some (.int (nI st)), some (.retAddr (4 + k)), some (.int (nI i))]) (st' := [.int (nI (st + i)), .ref (o + 1)]) ⟨dX7_isRead_44, dX7_isRead_45, dX7_isRead_46, rfl⟩ (by show some (([some (.ref (o)), some (.int (nI st)), some (.retAddr (4 + k)), some (.int (nI i))] : ev_L), ([.int ((nI st) + (nI i)), .ref (o + 1)] : List Value)) = _; rw [nI_add st i]) ?_
      refine ev_cald dX7_isRead_47 hT (vp_in_nI (show st + i < 80 by omega) (by omega)) ?_
      rw [nI_clamp (show st + i < 2 ^ 31 by omega)]
      rw [show (fun i => nI (t i)) (st + i) = nI (t (st + i)) from rfl]
      refine ev_blk (B := [(.aload_n 2, 1), (.iload_n 3, 1)]) (pe := 50) (ls' := [some (.ref (o)), some (.int (nI st)), some (.retAddr (4 + k)), some (.int (nI i))]) (st' := [.int (nI i), .retAddr (4 + k), .int (nI (t (st + i)))]) ⟨dX7_isRead_48, dX7_isRead_49, rfl⟩ rfl ?_
      have y8 := (xw_b k hk i (by omega)).2.2.2
      refine ev_cXv Y_J0_charAt_5068e L_RX7_123 dX7_isRead_50 ⟨Nat.le_of_ble_eq_true rfl, Nat.le_of_ble_eq_true rfl, Nat.le_of_ble_eq_true rfl, Nat.le_of_ble_eq_true rfl, Nat.le_of_ble_eq_true rfl⟩ hk (as := [.int (nI i)]) rfl rfl (c_sat hl k hk i (by omega)) ?_
      refine ev_iN_eq dX7_isRead_53 (tgt := 58) (by decide) (by omega) (by omega) (fun q53 => ?_) (fun q53 => ?_)
      · refine ev_blk (B := [(.iinc 3 1, 3)]) (pe := 61) (ls' := [some (.ref (o)), some (.int (nI st)), some (.retAddr (4 + k)), some (.int (nI (i + 1)))]) (st' := []) ⟨dX7_isRead_58, rfl⟩ (by show some (([some (.ref (o)), some (.int (nI st)), some (.retAddr (4 + k)), some (.int ((nI i) + Int32.ofInt (1)))] : ev_L), ([] : List Value)) = _; rw [ev_inc1 i]) ?_
        refine ev_goto (tgt := 32) dX7_isRead_61 (by decide) ?_
        refine ih (i + 1) (by omega) (fun j hj9 => ?_) (by omega)
        by_cases h9 : j < i
        · exact hj j h9
        · rw [show j = i by omega]; exact q53
      · refine ev_blk (B := [(.iconst 0, 1)]) (pe := 57) (ls' := [some (.ref (o)), some (.int (nI st)), some (.retAddr (4 + k)), some (.int (nI i))]) (st' := [.int (nI 0)]) ⟨dX7_isRead_56, rfl⟩ rfl ?_
        refine ev_iret dX7_isRead_57 rfl (rfl) ⟨Nat.le_of_ble_eq_true rfl, Nat.le_of_ble_eq_true rfl⟩ ?_
        have e9 : rk t st s.1 k = false := decide_eq_false (fun z => q53 (z.2 i (by omega)))
        rw [e9]
        exact ⟨rfl, rfl⟩

set_option maxHeartbeats 4000000 in
set_option maxRecDepth 100000 in
theorem c_X7_isRead {l : Launch} (hl : l.stackTraces = false) {M : ev_M} (o n : Nat) (s : Nat × Bool) (f : Int32) (t : Nat → Nat) (hO : Ro M o n s f) (hT : Rr M o t) (ht : tOk t) (hn : n ≤ 80) (st : Nat) (hst : st ≤ s.1) (hp : s.1 ≤ n) (k : Nat) (hk : k < 4) : ev_Mt l m_X7_isRead [.ref (o), .int (nI st), .retAddr (4 + k)] M (ev_q (.inl (some (.int (ev_b (rk t st s.1 k))))) M) := by
  refine ev_body hl rfl (by decide +kernel) (Nat.le_of_ble_eq_true rfl) ?_
  show ev_ l m_X7_isRead 0 0 0 [some (.ref (o)), some (.int (nI st)), some (.retAddr (4 + k)), none] [] M _
  refine ev_blk (B := [(.iload_n 1, 1)]) (pe := 1) (ls' := [some (.ref (o)), some (.int (nI st)), some (.retAddr (4 + k)), none]) (st' := [.int (nI st)]) ⟨dX7_isRead_0, rfl⟩ rfl ?_
  refine ev_fN_lt dX7_isRead_1 (tgt := 28) (by decide) (by omega) ?_
  refine ev_blk (B := [(.aload_n 0, 1)]) (pe := 5) (ls' := [some (.ref (o)), some (.int (nI st)), some (.retAddr (4 + k)), none]) (st' := [.ref (o)]) ⟨dX7_isRead_4, rfl⟩ rfl ?_
  refine ev_getf (v := .int (nI (s.1))) F_RX7_42 dX7_isRead_5 hO rfl ?_
  refine ev_blk (B := [(.aload_n 0, 1)]) (pe := 9) (ls' := [some (.ref (o)), some (.int (nI st)), some (.retAddr (4 + k)), none]) (st' := [.ref (o), .int (nI (s.1))]) ⟨dX7_isRead_8, rfl⟩ rfl ?_
  refine ev_getf (v := .int (nI n)) F_RX7_38 dX7_isRead_9 hO rfl ?_
  refine ev_iN_gt dX7_isRead_12 (tgt := 28) (by decide) (by omega) (by omega) (fun q12 => ?_) (fun q12 => ?_)
  · exact absurd q12 (by omega)
  · refine ev_blk (B := [(.aload_n 0, 1)]) (pe := 16) (ls' := [some (.ref (o)), some (.int (nI st)), some (.retAddr (4 + k)), none]) (st' := [.ref (o)]) ⟨dX7_isRead_15, rfl⟩ rfl ?_
    refine ev_getf (v := .int (nI (s.1))) F_RX7_42 dX7_isRead_16 hO rfl ?_
    refine ev_blk (B := [(.iload_n 1, 1), (.isub, 1), (.aload_n 2, 1)]) (pe := 22) (ls' := [some (.ref (o)), some (.int (nI st)), some (.retAddr (4 + k)), none]) (st' := [.retAddr (4 + k), .int (nI ((s.1) - st))]) ⟨dX7_isRead_19, dX7_isRead_20, dX7_isRead_21, rfl⟩ (by show some (([some (.ref (o)), some (.int (nI st)), some (.retAddr (4 + k)), none] : ev_L), ([.retAddr (4 + k), .int ((nI (s.1)) - (nI st))] : List Value)) = _; rw [pk_sub (show st ≤ (s.1) by omega)]) ?_
    refine ev_cXv Y_J0_length_8abf5 L_RX7_119 dX7_isRead_22 ⟨Nat.le_of_ble_eq_true rfl, Nat.le_of_ble_eq_true rfl, Nat.le_of_ble_eq_true rfl, Nat.le_of_ble_eq_true rfl, Nat.le_of_ble_eq_true rfl⟩ hk (as := []) rfl rfl (c_slen hl k hk) ?_
    refine ev_iN_eq dX7_isRead_25 (tgt := 30) (by decide) (by omega) (by omega) (fun q25 => ?_) (fun q25 => ?_)
    · refine ev_blk (B := [(.iconst 0, 1), (.istore_n 3, 1)]) (pe := 32) (ls' := [some (.ref (o)), some (.int (nI st)), some (.retAddr (4 + k)), some (.int (nI 0))]) (st' := []) ⟨dX7_isRead_30, dX7_isRead_31, rfl⟩ rfl ?_
      exact c_X7_isRead_l hl o n s f t hO hT ht hn st hst hp k hk (by omega) _ 0 (by omega) (fun j hj9 => absurd hj9 (Nat.not_lt_zero _)) (Nat.lt_succ_self _)
    · refine ev_blk (B := [(.iconst 0, 1)]) (pe := 29) (ls' := [some (.ref (o)), some (.int (nI st)), some (.retAddr (4 + k)), none]) (st' := [.int (nI 0)]) ⟨dX7_isRead_28, rfl⟩ rfl ?_
      refine ev_iret dX7_isRead_29 rfl (rfl) ⟨Nat.le_of_ble_eq_true rfl, Nat.le_of_ble_eq_true rfl⟩ ?_
      have e9 : rk t st s.1 k = false := decide_eq_false (fun z => by have z1 := z.1; omega)
      rw [e9]
      exact ⟨rfl, rfl⟩

set_option maxHeartbeats 4000000 in
set_option maxRecDepth 100000 in
theorem c_X7_nameFrom {l : Launch} (hl : l.stackTraces = false) {M : ev_M} (o n : Nat) (s : Nat × Bool) (f : Int32) (t : Nat → Nat) (hO : Ro M o n s f) (hT : Rr M o t) (ht : tOk t) (hn : n ≤ 80) (st : Nat) (hst : st ≤ s.1) (hp : s.1 ≤ n) : ev_Mt l m_X7_nameFrom [.ref (o), .int (nI st)] M (ev_q (.inl (some (.int (oI (nk t st s.1))))) M) := by
  refine ev_body hl rfl (by decide +kernel) (Nat.le_of_ble_eq_true rfl) ?_
  show ev_ l m_X7_nameFrom 0 0 0 [some (.ref (o)), some (.int (nI st))] [] M _
  refine ev_blk (B := [(.aload_n 0, 1), (.iload_n 1, 1)]) (pe := 2) (ls' := [some (.ref (o)), some (.int (nI st))]) (st' := [.int (nI st), .ref (o)]) ⟨dX7_nameFrom_0, dX7_nameFrom_1, rfl⟩ rfl ?_
  refine ev_xldc (k := 0) (by decide) rfl rfl dX7_nameFrom_2 ?_
  refine ev_cVv Y_X7_isRead L_RX7_109 dX7_nameFrom_4 ⟨Nat.le_of_ble_eq_true rfl, Nat.le_of_ble_eq_true rfl, Nat.le_of_ble_eq_true rfl, Nat.le_of_ble_eq_true rfl, Nat.le_of_ble_eq_true rfl⟩ hO (as := [.int (nI st), .retAddr (4 + 0)]) rfl rfl (c_X7_isRead hl o n s f t hO hT ht hn st hst hp 0 (by decide)) ?_
  refine ev_ifB_eq dX7_nameFrom_7 (tgt := 12) (by decide) (fun q7 => ?_) (fun q7 => ?_)
  · refine ev_blk (B := [(.aload_n 0, 1), (.iload_n 1, 1)]) (pe := 14) (ls' := [some (.ref (o)), some (.int (nI st))]) (st' := [.int (nI st), .ref (o)]) ⟨dX7_nameFrom_12, dX7_nameFrom_13, rfl⟩ rfl ?_
    refine ev_xldc (k := 1) (by decide) rfl rfl dX7_nameFrom_14 ?_
    refine ev_cVv Y_X7_isRead L_RX7_109 dX7_nameFrom_16 ⟨Nat.le_of_ble_eq_true rfl, Nat.le_of_ble_eq_true rfl, Nat.le_of_ble_eq_true rfl, Nat.le_of_ble_eq_true rfl, Nat.le_of_ble_eq_true rfl⟩ hO (as := [.int (nI st), .retAddr (4 + 1)]) rfl rfl (c_X7_isRead hl o n s f t hO hT ht hn st hst hp 1 (by decide)) ?_
    refine ev_ifB_eq dX7_nameFrom_19 (tgt := 24) (by decide) (fun q19 => ?_) (fun q19 => ?_)
    · refine ev_blk (B := [(.aload_n 0, 1), (.iload_n 1, 1)]) (pe := 26) (ls' := [some (.ref (o)), some (.int (nI st))]) (st' := [.int (nI st), .ref (o)]) ⟨dX7_nameFrom_24, dX7_nameFrom_25, rfl⟩ rfl ?_
      refine ev_xldc (k := 2) (by decide) rfl rfl dX7_nameFrom_26 ?_
      refine ev_cVv Y_X7_isRead L_RX7_109 dX7_nameFrom_28 ⟨Nat.le_of_ble_eq_true rfl, Nat.le_of_ble_eq_true rfl, Nat.le_of_ble_eq_true rfl, Nat.le_of_ble_eq_true rfl, Nat.le_of_ble_eq_true rfl⟩ hO (as := [.int (nI st), .retAddr (4 + 2)]) rfl rfl (c_X7_isRead hl o n s f t hO hT ht hn st hst hp 2 (by decide)) ?_
      refine ev_ifB_eq dX7_nameFrom_31 (tgt := 36) (by decide) (fun q31 => ?_) (fun q31 => ?_)
      · refine ev_blk (B := [(.aload_n 0, 1), (.iload_n 1, 1)]) (pe := 38) (ls' := [some (.ref (o)), some (.int (nI st))]) (st' := [.int (nI st), .ref (o)]) ⟨dX7_nameFrom_36, dX7_nameFrom_37, rfl⟩ rfl ?_
        refine ev_xldc (k := 3) (by decide) rfl rfl dX7_nameFrom_38 ?_
        refine ev_cVv Y_X7_isRead L_RX7_109 dX7_nameFrom_40 ⟨Nat.le_of_ble_eq_true rfl, Nat.le_of_ble_eq_true rfl, Nat.le_of_ble_eq_true rfl, Nat.le_of_ble_eq_true rfl, Nat.le_of_ble_eq_true rfl⟩ hO (as := [.int (nI st), .retAddr (4 + 3)]) rfl rfl (c_X7_isRead hl o n s f t hO hT ht hn st hst hp 3 (by decide)) ?_
        refine ev_ifB_eq dX7_nameFrom_43 (tgt := 50) (by decide) (fun q43 => ?_) (fun q43 => ?_)
        · refine ev_blk (B := [(.iconst (-1), 1)]) (pe := 51) (ls' := [some (.ref (o)), some (.int (nI st))]) (st' := [.int ((-1))]) ⟨dX7_nameFrom_50, rfl⟩ rfl ?_
          refine ev_iret dX7_nameFrom_51 rfl (rfl) ⟨Nat.le_of_ble_eq_true rfl, Nat.le_of_ble_eq_true rfl⟩ ?_
          have e9 : nk t st s.1 = none := by unfold nk; rw [q7, q19, q31, q43]; rfl
          rw [e9]
          exact ⟨rfl, rfl⟩
        · refine ev_blk (B := [(.iconst 3, 1)]) (pe := 47) (ls' := [some (.ref (o)), some (.int (nI st))]) (st' := [.int (nI 3)]) ⟨dX7_nameFrom_46, rfl⟩ rfl ?_
          refine ev_goto (tgt := 51) dX7_nameFrom_47 (by decide) ?_
          refine ev_iret dX7_nameFrom_51 rfl (rfl) ⟨Nat.le_of_ble_eq_true rfl, Nat.le_of_ble_eq_true rfl⟩ ?_
          have e9 : nk t st s.1 = some 3 := by unfold nk; rw [q7, q19, q31, q43]; rfl
          rw [e9]
          exact ⟨rfl, rfl⟩
      · refine ev_blk (B := [(.iconst 2, 1)]) (pe := 35) (ls' := [some (.ref (o)), some (.int (nI st))]) (st' := [.int (nI 2)]) ⟨dX7_nameFrom_34, rfl⟩ rfl ?_
        refine ev_iret dX7_nameFrom_35 rfl (rfl) ⟨Nat.le_of_ble_eq_true rfl, Nat.le_of_ble_eq_true rfl⟩ ?_
        have e9 : nk t st s.1 = some 2 := by unfold nk; rw [q7, q19, q31]; rfl
        rw [e9]
        exact ⟨rfl, rfl⟩
    · refine ev_blk (B := [(.iconst 1, 1)]) (pe := 23) (ls' := [some (.ref (o)), some (.int (nI st))]) (st' := [.int (nI 1)]) ⟨dX7_nameFrom_22, rfl⟩ rfl ?_
      refine ev_iret dX7_nameFrom_23 rfl (rfl) ⟨Nat.le_of_ble_eq_true rfl, Nat.le_of_ble_eq_true rfl⟩ ?_
      have e9 : nk t st s.1 = some 1 := by unfold nk; rw [q7, q19]; rfl
      rw [e9]
      exact ⟨rfl, rfl⟩
  · refine ev_blk (B := [(.iconst 0, 1)]) (pe := 11) (ls' := [some (.ref (o)), some (.int (nI st))]) (st' := [.int (nI 0)]) ⟨dX7_nameFrom_10, rfl⟩ rfl ?_
    refine ev_iret dX7_nameFrom_11 rfl (rfl) ⟨Nat.le_of_ble_eq_true rfl, Nat.le_of_ble_eq_true rfl⟩ ?_
    have e9 : nk t st s.1 = some 0 := by unfold nk; rw [q7]; rfl
    rw [e9]
    exact ⟨rfl, rfl⟩

set_option maxHeartbeats 4000000 in
set_option maxRecDepth 100000 in
theorem c_X7_name2 {l : Launch} (hl : l.stackTraces = false) (o n p : Nat) (f : Int32) (t : Nat → Nat) (ht : tOk t) (hn : n ≤ 80) (hp : p ≤ n) (M0 : ev_M) (q : Nat) (hpq : p ≤ q) (hqn : q ≤ n) (e7 : nd t n (n - p) p = q) (M : ev_M) (hO : Ro M o n (q, false) f) (hT : Rr M o t) (hFr : Fr o (o + 1) M0 M) : ev_ l m_X7_parseName 0 0 57 [some (.ref (o)), some (.int (nI p)), none] [] M (fun r M1 => r = .inl (some (.int (oI (nk t p (nd t n (n - p) p))))) ∧ Ro M1 o n (ns t n p) f ∧ Fr o (o + 1) M0 M1) := by
  refine ev_blk (B := [(.aload_n 0, 1), (.iload_n 1, 1)]) (pe := 59) (ls' := [some (.ref (o)), some (.int (nI p)), none]) (st' := [.int (nI p), .ref (o)]) ⟨dX7_parseName_57, dX7_parseName_58, rfl⟩ rfl ?_
  refine ev_cVv Y_X7_nameFrom L_RX7_103 dX7_parseName_59 ⟨Nat.le_of_ble_eq_true rfl, Nat.le_of_ble_eq_true rfl, Nat.le_of_ble_eq_true rfl, Nat.le_of_ble_eq_true rfl, Nat.le_of_ble_eq_true rfl⟩ hO (as := [.int (nI p)]) rfl rfl (c_X7_nameFrom hl o n (q, false) f t hO hT ht hn p hpq hqn) ?_
  refine ev_blk (B := [(.istore_n 2, 1), (.iload_n 2, 1), (.iconst (-1), 1)]) (pe := 65) (ls' := [some (.ref (o)), some (.int (nI p)), some (.int (oI (nk t p q)))]) (st' := [.int ((-1)), .int (oI (nk t p q))]) ⟨dX7_parseName_62, dX7_parseName_63, dX7_parseName_64, rfl⟩ rfl ?_
  refine ev_ic_ne dX7_parseName_65 (tgt := 78) (by decide) (fun q65 => ?_) (fun q65 => ?_)
  · refine ev_blk (B := [(.iload_n 2, 1)]) (pe := 79) (ls' := [some (.ref (o)), some (.int (nI p)), some (.int (oI (nk t p q)))]) (st' := [.int (oI (nk t p q))]) ⟨dX7_parseName_78, rfl⟩ rfl ?_
    refine ev_iret dX7_parseName_79 rfl (rfl) ⟨Nat.le_of_ble_eq_true rfl, Nat.le_of_ble_eq_true rfl⟩ ?_
    have e6 : nk t p q ≠ none := fun z => q65 ((oI_m (fun a h => (nk_lt h).1)).mpr z)
    have e5 : ns t n p = (q, false) := by
      unfold ns; rw [e7]
      cases h9 : nk t p q with
      | none => exact absurd h9 e6
      | some a => rfl
    rw [e7, e5]
    exact ⟨rfl, hO, hFr⟩
  · refine ev_blk (B := [(.aload_n 0, 1), (.iload_n 1, 1)]) (pe := 70) (ls' := [some (.ref (o)), some (.int (nI p)), some (.int (oI (nk t p q)))]) (st' := [.int (nI p), .ref (o)]) ⟨dX7_parseName_68, dX7_parseName_69, rfl⟩ rfl ?_
    refine ev_put F_RX7_42 dX7_parseName_70 hO (Nat.le_of_ble_eq_true rfl) (fun _ _ => ⟨rfl, rfl⟩) ?_
    refine ev_nm (M0 := M.set (o) (.inr (7, [.ref (o + 1), .ref (o + 2), .ref (o + 4), .ref (o + 8), .int (nI n), .int (nI p), .int (ev_b (false)), .int (f)]))) (fun M1 eM1 => ?_)
    have f2 : M1[o]? = some (.inr (7, [.ref (o + 1), .ref (o + 2), .ref (o + 4), .ref (o + 8), .int (nI n), .int (nI p), .int (ev_b (false)), .int (f)])) := by rw [eM1]; exact ev_sg hO
    have f3 : M1[o + 1]? = some (.inl (2, 80, .inl (fun i => nI (t i)))) := by rw [eM1, ev_sn (by omega)]; exact hT
    refine ev_blk (B := [(.aload_n 0, 1), (.iconst 1, 1)]) (pe := 75) (ls' := [some (.ref (o)), some (.int (nI p)), some (.int (oI (nk t p q)))]) (st' := [.int (nI 1), .ref (o)]) ⟨dX7_parseName_73, dX7_parseName_74, rfl⟩ rfl ?_
    refine ev_put F_RX7_45 dX7_parseName_75 f2 (Nat.le_of_ble_eq_true rfl) (fun _ _ => ⟨rfl, rfl⟩) ?_
    refine ev_nm (M0 := M1.set (o) (.inr (7, [.ref (o + 1), .ref (o + 2), .ref (o + 4), .ref (o + 8), .int (nI n), .int (nI p), .int (nI 1), .int (f)]))) (fun M4 eM4 => ?_)
    have f5 : M4[o]? = some (.inr (7, [.ref (o + 1), .ref (o + 2), .ref (o + 4), .ref (o + 8), .int (nI n), .int (nI p), .int (nI 1), .int (f)])) := by rw [eM4]; exact ev_sg f2
    have f6 : M4[o + 1]? = some (.inl (2, 80, .inl (fun i => nI (t i)))) := by rw [eM4, ev_sn (by omega)]; exact f3
    refine ev_blk (B := [(.iload_n 2, 1)]) (pe := 79) (ls' := [some (.ref (o)), some (.int (nI p)), some (.int (oI (nk t p q)))]) (st' := [.int (oI (nk t p q))]) ⟨dX7_parseName_78, rfl⟩ rfl ?_
    refine ev_iret dX7_parseName_79 rfl (rfl) ⟨Nat.le_of_ble_eq_true rfl, Nat.le_of_ble_eq_true rfl⟩ ?_
    have e6 : nk t p q = none := (oI_m (fun a h => (nk_lt h).1)).mp q65
    have e5 : ns t n p = (p, true) := by
      unfold ns; rw [e7, e6]
    rw [e7, e5]
    exact ⟨rfl, f5, hFr.tr ⟨by rw [eM4, eM1]; simp only [List.length_set], fun j hj => by rw [eM4, ev_sn (by omega), eM1, ev_sn (by omega)]⟩⟩

set_option maxHeartbeats 4000000 in
set_option maxRecDepth 100000 in
theorem c_X7_name_l {l : Launch} (hl : l.stackTraces = false)  (o n p : Nat) (f : Int32) (t : Nat → Nat) (ht : tOk t) (hn : n ≤ 80) (hp : p ≤ n) (M0 : ev_M) : ∀ (n9 : Nat) (q : Nat) (M : ev_M), p ≤ q → q ≤ n → nd t n (n - q) q = nd t n (n - p) p → Ro M o n (q, false) f → Rr M o t → Fr o (o + 1) M0 M → n - q < n9 → ev_ l m_X7_parseName 0 0 5 [some (.ref (o)), some (.int (nI p)), none] [] M (fun r M1 => r = .inl (some (.int (oI (nk t p (nd t n (n - p) p))))) ∧ Ro M1 o n (ns t n p) f ∧ Fr o (o + 1) M0 M1) := by
  intro n9
  induction n9 with
  | zero => intro q M hpq hqn hE hO hT hFr hm9; exact absurd hm9 (by omega)
  | succ n9 ih =>
    intro q M hpq hqn hE hO hT hFr hm9
    have ht1 := ht q
    refine ev_blk (B := [(.aload_n 0, 1)]) (pe := 6) (ls' := [some (.ref (o)), some (.int (nI p)), none]) (st' := [.ref (o)]) ⟨dX7_parseName_5, rfl⟩ rfl ?_
    refine ev_getf (v := .int (nI q)) F_RX7_42 dX7_parseName_6 hO rfl ?_
    refine ev_blk (B := [(.aload_n 0, 1)]) (pe := 10) (ls' := [some (.ref (o)), some (.int (nI p)), none]) (st' := [.ref (o), .int (nI q)]) ⟨dX7_parseName_9, rfl⟩ rfl ?_
    refine ev_getf (v := .int (nI n)) F_RX7_38 dX7_parseName_10 hO rfl ?_
    refine ev_iN_ge dX7_parseName_13 (tgt := 57) (by decide) (by omega) (by omega) (fun q13 => ?_) (fun q13 => ?_)
    · have e7 : nd t n (n - p) p = q := by
        rw [← hE]
        cases hc9 : n - q with
        | zero => rfl
        | succ k9 => show (bif decide (q < n ∧ 97 ≤ t q ∧ t q ≤ 122) then nd t n k9 (q + 1) else q) = q
          exact if_neg_b (decide_eq_false (by omega))
      exact c_X7_name2 hl o n p f t ht hn hp M0 q hpq hqn e7 M hO hT hFr
    · refine ev_blk (B := [(.aload_n 0, 1)]) (pe := 17) (ls' := [some (.ref (o)), some (.int (nI p)), none]) (st' := [.ref (o)]) ⟨dX7_parseName_16, rfl⟩ rfl ?_
      refine ev_getf (v := .ref (o + 1)) F_RX7_9 dX7_parseName_17 hO rfl ?_
      refine ev_blk (B := [(.aload_n 0, 1)]) (pe := 21) (ls' := [some (.ref (o)), some (.int (nI p)), none]) (st' := [.ref (o), .ref (o + 1)]) ⟨dX7_parseName_20, rfl⟩ rfl ?_
      refine ev_getf (v := .int (nI q)) F_RX7_42 dX7_parseName_21 hO rfl ?_
      refine ev_cald dX7_parseName_24 hT (vp_in_nI (show q < 80 by omega) (by omega)) ?_
      rw [nI_clamp (show q < 2 ^ 31 by omega)]
      rw [show (fun i => nI (t i)) q = nI (t q) from rfl]
      refine ev_blk (B := [(.bipush 97, 2)]) (pe := 27) (ls' := [some (.ref (o)), some (.int (nI p)), none]) (st' := [.int (nI 97), .int (nI (t q))]) ⟨dX7_parseName_25, rfl⟩ rfl ?_
      refine ev_iN_lt dX7_parseName_27 (tgt := 57) (by decide) (by omega) (by omega) (fun q27 => ?_) (fun q27 => ?_)
      · have e7 : nd t n (n - p) p = q := by
          rw [← hE]
          cases hc9 : n - q with
          | zero => rfl
          | succ k9 => show (bif decide (q < n ∧ 97 ≤ t q ∧ t q ≤ 122) then nd t n k9 (q + 1) else q) = q
            exact if_neg_b (decide_eq_false (by omega))
        exact c_X7_name2 hl o n p f t ht hn hp M0 q hpq hqn e7 M hO hT hFr
      · refine ev_blk (B := [(.aload_n 0, 1)]) (pe := 31) (ls' := [some (.ref (o)), some (.int (nI p)), none]) (st' := [.ref (o)]) ⟨dX7_parseName_30, rfl⟩ rfl ?_
        refine ev_getf (v := .ref (o + 1)) F_RX7_9 dX7_parseName_31 hO rfl ?_
        refine ev_blk (B := [(.aload_n 0, 1)]) (pe := 35) (ls' := [some (.ref (o)), some (.int (nI p)), none]) (st' := [.ref (o), .ref (o + 1)]) ⟨dX7_parseName_34, rfl⟩ rfl ?_
        refine ev_getf (v := .int (nI q)) F_RX7_42 dX7_parseName_35 hO rfl ?_
        refine ev_cald dX7_parseName_38 hT (vp_in_nI (show q < 80 by omega) (by omega)) ?_
        rw [nI_clamp (show q < 2 ^ 31 by omega)]
        rw [show (fun i => nI (t i)) q = nI (t q) from rfl]
        refine ev_blk (B := [(.bipush 122, 2)]) (pe := 41) (ls' := [some (.ref (o)), some (.int (nI p)), none]) (st' := [.int (nI 122), .int (nI (t q))]) ⟨dX7_parseName_39, rfl⟩ rfl ?_
        refine ev_iN_gt dX7_parseName_41 (tgt := 57) (by decide) (by omega) (by omega) (fun q41 => ?_) (fun q41 => ?_)
        · have e7 : nd t n (n - p) p = q := by
            rw [← hE]
            cases hc9 : n - q with
            | zero => rfl
            | succ k9 => show (bif decide (q < n ∧ 97 ≤ t q ∧ t q ≤ 122) then nd t n k9 (q + 1) else q) = q
              exact if_neg_b (decide_eq_false (by omega))
          exact c_X7_name2 hl o n p f t ht hn hp M0 q hpq hqn e7 M hO hT hFr
        · refine ev_blk (B := [(.aload_n 0, 1), (.dup, 1)]) (pe := 46) (ls' := [some (.ref (o)), some (.int (nI p)), none]) (st' := [.ref (o), .ref (o)]) ⟨dX7_parseName_44, dX7_parseName_45, rfl⟩ rfl ?_
          refine ev_getf (v := .int (nI q)) F_RX7_42 dX7_parseName_46 hO rfl ?_
          refine ev_blk (B := [(.iconst 1, 1), (.iadd, 1)]) (pe := 51) (ls' := [some (.ref (o)), some (.int (nI p)), none]) (st' := [.int (nI (q + 1)), .ref (o)]) ⟨dX7_parseName_49, dX7_parseName_50, rfl⟩ (by show some (([some (.ref (o)), some (.int (nI p)), none] : ev_L), ([.int ((nI q) + (nI 1)), .ref (o)] : List Value)) = _; rw [nI_add q 1]) ?_
          refine ev_put F_RX7_42 dX7_parseName_51 hO (Nat.le_of_ble_eq_true rfl) (fun _ _ => ⟨rfl, rfl⟩) ?_
          refine ev_nm (M0 := M.set (o) (.inr (7, [.ref (o + 1), .ref (o + 2), .ref (o + 4), .ref (o + 8), .int (nI n), .int (nI (q + 1)), .int (ev_b (false)), .int (f)]))) (fun M1 eM1 => ?_)
          have f2 : M1[o]? = some (.inr (7, [.ref (o + 1), .ref (o + 2), .ref (o + 4), .ref (o + 8), .int (nI n), .int (nI (q + 1)), .int (ev_b (false)), .int (f)])) := by rw [eM1]; exact ev_sg hO
          have f3 : M1[o + 1]? = some (.inl (2, 80, .inl (fun i => nI (t i)))) := by rw [eM1, ev_sn (by omega)]; exact hT
          refine ev_goto (tgt := 5) dX7_parseName_54 (by decide) ?_
          refine ih (q + 1) _ (by omega) (by omega) ?_ f2 f3 (hFr.tr ⟨by rw [eM1]; simp only [List.length_set], fun j hj => by rw [eM1, ev_sn (by omega)]⟩) (by omega)
          rw [← hE, show n - q = (n - (q + 1)) + 1 by omega]
          show nd t n (n - (q + 1)) (q + 1) = (bif decide (q < n ∧ 97 ≤ t q ∧ t q ≤ 122) then nd t n (n - (q + 1)) (q + 1) else q)
          exact (if_pos_b (decide_eq_true (by omega))).symm

set_option maxHeartbeats 4000000 in
set_option maxRecDepth 100000 in
theorem c_X7_parseName {l : Launch} (hl : l.stackTraces = false) {M : ev_M} (o n p : Nat) (f : Int32) (t : Nat → Nat) (ht : tOk t) (hn : n ≤ 80) (hp : p ≤ n) (hO : Ro M o n (p, false) f) (hT : Rr M o t) : ev_Mt l m_X7_parseName [.ref (o)] M (fun r M1 => r = .inl (some (.int (oI (nk t p (nd t n (n - p) p))))) ∧ Ro M1 o n (ns t n p) f ∧ Fr o (o + 1) M M1) := by
  refine ev_body hl rfl (by decide +kernel) (Nat.le_of_ble_eq_true rfl) ?_
  show ev_ l m_X7_parseName 0 0 0 [some (.ref (o)), none, none] [] M _
  refine ev_blk (B := [(.aload_n 0, 1)]) (pe := 1) (ls' := [some (.ref (o)), none, none]) (st' := [.ref (o)]) ⟨dX7_parseName_0, rfl⟩ rfl ?_
  refine ev_getf (v := .int (nI p)) F_RX7_42 dX7_parseName_1 hO rfl ?_
  refine ev_blk (B := [(.istore_n 1, 1)]) (pe := 5) (ls' := [some (.ref (o)), some (.int (nI p)), none]) (st' := []) ⟨dX7_parseName_4, rfl⟩ rfl ?_
  exact c_X7_name_l hl o n p f t ht hn hp M _ p M (Nat.le_refl _) hp rfl hO hT Fr.rf (Nat.lt_succ_self _)

set_option maxHeartbeats 4000000 in
set_option maxRecDepth 100000 in
theorem c_X7_expect {l : Launch} (hl : l.stackTraces = false) {M : ev_M} (o n : Nat) (s : Nat × Bool) (f : Int32) (t : Nat → Nat) (hO : Ro M o n s f) (hT : Rr M o t) (ht : tOk t) (hn : n ≤ 80) (hp : s.1 ≤ n) (lo : Nat) (hlo : lo < 1000) : ev_Mt l m_X7_expect [.ref (o), .int (nI lo)] M (fun r M1 => r = .inl none ∧ Ro M1 o n (ps t n s lo 1) f ∧ Fr o (o + 1) M M1) := by
  refine ev_body hl rfl (by decide +kernel) (Nat.le_of_ble_eq_true rfl) ?_
  show ev_ l m_X7_expect 0 0 0 [some (.ref (o)), some (.int (nI lo))] [] M _
  refine ev_blk (B := [(.aload_n 0, 1), (.iload_n 1, 1), (.iconst 1, 1)]) (pe := 3) (ls' := [some (.ref (o)), some (.int (nI lo))]) (st' := [.int (nI 1), .int (nI lo), .ref (o)]) ⟨dX7_expect_0, dX7_expect_1, dX7_expect_2, rfl⟩ rfl ?_
  refine ev_cVw Y_X7_parseSymbol L_RX7_71 dX7_expect_3 ⟨Nat.le_of_ble_eq_true rfl, Nat.le_of_ble_eq_true rfl, Nat.le_of_ble_eq_true rfl, Nat.le_of_ble_eq_true rfl, Nat.le_of_ble_eq_true rfl⟩ hO (as := [.int (nI lo), .int (nI 1)]) rfl rfl (c_X7_sym hl o n s f t hO hT ht hn hp lo 1 hlo (by decide)) (fun M1 hL1 hB1 => ?_)
  refine ev_blk (B := [(.pop, 1)]) (pe := 7) (ls' := [some (.ref (o)), some (.int (nI lo))]) (st' := []) ⟨dX7_expect_6, rfl⟩ rfl ?_
  refine ev_vret dX7_expect_7 rfl ⟨Nat.le_of_ble_eq_true rfl, Nat.le_of_ble_eq_true rfl⟩ ?_
  exact ⟨rfl, hB1⟩

set_option maxHeartbeats 4000000 in
set_option maxRecDepth 100000 in
theorem c_X7_word_l {l : Launch} (hl : l.stackTraces = false)  (o n : Nat) (s : Nat × Bool) (f : Int32) (t : Nat → Nat) (ht : tOk t) (hn : n ≤ 80) (hp : s.1 ≤ n) (M0 : ev_M) : ∀ (n9 : Nat) (i : Nat) (p : Nat) (w : List Nat) (M : ev_M), i ≤ 10 → w.length = i → wk w → p ≤ n → (pwS t n s).1 = w ++ (pw t n s.2 (10 - i) p).1 → (pwS t n s).2 = ((pw t n s.2 (10 - i) p).2, s.2) → Ro M o n (p, s.2) f → Rr M o t → Fr o (o + 1) M0 M → 10 - i < n9 → ev_ l m_X7_parseWord 0 0 4 [some (.ref (o)), some (.long (e1 w)), none, some (.int (nI i))] [] M (fun r M1 => r = .inl (some (.long (e1 (pwS t n s).1))) ∧ Ro M1 o n (pwS t n s).2 f ∧ Fr o (o + 1) M0 M1) := by
  intro n9
  induction n9 with
  | zero => intro i p w M hi hw1 hw hpn hE1 hE2 hO hT hFr hm9; exact absurd hm9 (by omega)
  | succ n9 ih =>
    intro i p w M hi hw1 hw hpn hE1 hE2 hO hT hFr hm9
    refine ev_blk (B := [(.iload_n 3, 1), (.bipush 10, 2)]) (pe := 7) (ls' := [some (.ref (o)), some (.long (e1 w)), none, some (.int (nI i))]) (st' := [.int (nI 10), .int (nI i)]) ⟨dX7_parseWord_4, dX7_parseWord_5, rfl⟩ rfl ?_
    refine ev_iN_ge dX7_parseWord_7 (tgt := 38) (by decide) (by omega) (by omega) (fun q7 => ?_) (fun q7 => ?_)
    · refine ev_blk (B := [(.lload_n 1, 1)]) (pe := 39) (ls' := [some (.ref (o)), some (.long (e1 w)), none, some (.int (nI i))]) (st' := [.long (e1 w)]) ⟨dX7_parseWord_38, rfl⟩ rfl ?_
      refine ev_lret dX7_parseWord_39 rfl ⟨Nat.le_of_ble_eq_true rfl, Nat.le_of_ble_eq_true rfl⟩ ?_
      have e5 : pw t n s.2 (10 - i) p = ([], p) := by
        rw [show 10 - i = 0 by omega]; rfl
      rw [e5, List.append_nil] at hE1
      rw [e5] at hE2
      rw [hE1, hE2]
      exact ⟨rfl, hO, hFr⟩
    · refine ev_blk (B := [(.aload_n 0, 1), (.bipush 97, 2), (.iconst 3, 1)]) (pe := 14) (ls' := [some (.ref (o)), some (.long (e1 w)), none, some (.int (nI i))]) (st' := [.int (nI 3), .int (nI 97), .ref (o)]) ⟨dX7_parseWord_10, dX7_parseWord_11, dX7_parseWord_13, rfl⟩ rfl ?_
      refine ev_cVv Y_X7_isNext L_RX7_129 dX7_parseWord_14 ⟨Nat.le_of_ble_eq_true rfl, Nat.le_of_ble_eq_true rfl, Nat.le_of_ble_eq_true rfl, Nat.le_of_ble_eq_true rfl, Nat.le_of_ble_eq_true rfl⟩ hO (as := [.int (nI 97), .int (nI 3)]) rfl rfl (c_X7_isNext hl o n (p, s.2) f t hO hT ht hn 97 3 (by decide) (by decide)) ?_
      refine ev_ifB_eq dX7_parseWord_17 (tgt := 38) (by decide) (fun q17 => ?_) (fun q17 => ?_)
      · refine ev_blk (B := [(.lload_n 1, 1)]) (pe := 39) (ls' := [some (.ref (o)), some (.long (e1 w)), none, some (.int (nI i))]) (st' := [.long (e1 w)]) ⟨dX7_parseWord_38, rfl⟩ rfl ?_
        refine ev_lret dX7_parseWord_39 rfl ⟨Nat.le_of_ble_eq_true rfl, Nat.le_of_ble_eq_true rfl⟩ ?_
        have e5 : pw t n s.2 (10 - i) p = ([], p) := by
          rw [show 10 - i = (10 - (i + 1)) + 1 by omega]
          show (bif nx t n p s.2 97 3 then ((t p - 97) :: (pw t n s.2 (10 - (i + 1)) (p + 1)).1, (pw t n s.2 (10 - (i + 1)) (p + 1)).2) else ([], p)) = _
          exact if_neg_b q17
        rw [e5, List.append_nil] at hE1
        rw [e5] at hE2
        rw [hE1, hE2]
        exact ⟨rfl, hO, hFr⟩
      · refine ev_blk (B := [(.lload_n 1, 1), (.aload_n 0, 1), (.bipush 97, 2), (.iconst 3, 1)]) (pe := 25) (ls' := [some (.ref (o)), some (.long (e1 w)), none, some (.int (nI i))]) (st' := [.int (nI 3), .int (nI 97), .ref (o), .long (e1 w)]) ⟨dX7_parseWord_20, dX7_parseWord_21, dX7_parseWord_22, dX7_parseWord_24, rfl⟩ rfl ?_
        refine ev_cVw Y_X7_parseSymbol L_RX7_71 dX7_parseWord_25 ⟨Nat.le_of_ble_eq_true rfl, Nat.le_of_ble_eq_true rfl, Nat.le_of_ble_eq_true rfl, Nat.le_of_ble_eq_true rfl, Nat.le_of_ble_eq_true rfl⟩ hO (as := [.int (nI 97), .int (nI 3)]) rfl rfl (c_X7_sym hl o n (p, s.2) f t hO hT ht hn hpn 97 3 (by decide) (by decide)) (fun M1 hL1 hB1 => ?_)
        obtain ⟨hB1, hB2⟩ := hB1
        have e8 : ps t n (p, s.2) 97 3 = (p + 1, s.2) := if_pos q17
        have e6 : sv t n (p, s.2) 97 3 = t p - 97 := if_pos q17
        have y1 := nx_iff.mp q17
        have hT3 := hT.fr hB2 (by omega)
        rw [e8] at hB1
        rw [e6]
        refine ev_cSv Y_X9_extend L_RX7_133 dX7_parseWord_28 ⟨Nat.le_of_ble_eq_true rfl, Nat.le_of_ble_eq_true rfl, Nat.le_of_ble_eq_true rfl, Nat.le_of_ble_eq_true rfl, Nat.le_of_ble_eq_true rfl⟩ (as := [.long (e1 w), .int (nI (t p - 97))]) rfl rfl (c_X9_extend hl w hw (by omega) (t p - 97) (by omega)) ?_
        refine ev_blk (B := [(.lstore_n 1, 1), (.iinc 3 1, 3)]) (pe := 35) (ls' := [some (.ref (o)), some (.long (e1 (w ++ [t p - 97]))), none, some (.int (nI (i + 1)))]) (st' := []) ⟨dX7_parseWord_31, dX7_parseWord_32, rfl⟩ (by show some (([some (.ref (o)), some (.long (e1 (w ++ [t p - 97]))), none, some (.int ((nI i) + Int32.ofInt (1)))] : ev_L), ([] : List Value)) = _; rw [ev_inc1 i]) ?_
        refine ev_goto (tgt := 4) dX7_parseWord_35 (by decide) ?_
        have e5 : pw t n s.2 (10 - i) p = ((t p - 97) :: (pw t n s.2 (10 - (i + 1)) (p + 1)).1, (pw t n s.2 (10 - (i + 1)) (p + 1)).2) := by
          rw [show 10 - i = (10 - (i + 1)) + 1 by omega]
          show (bif nx t n p s.2 97 3 then ((t p - 97) :: (pw t n s.2 (10 - (i + 1)) (p + 1)).1, (pw t n s.2 (10 - (i + 1)) (p + 1)).2) else ([], p)) = _
          exact if_pos_b q17
        refine ih (i + 1) (p + 1) (w ++ [t p - 97]) _ (by omega) (by rw [List.length_append, List.length_singleton]; omega) (fun a ha => ?_) (by omega) (by rw [hE1, e5, List.append_assoc]; rfl) (by rw [hE2, e5]) hB1 hT3 (hFr.tr hB2) (by omega)
        rcases List.mem_append.mp ha with h | h
        · exact hw a h
        · rw [List.mem_singleton.mp h]; omega

set_option maxHeartbeats 4000000 in
set_option maxRecDepth 100000 in
theorem c_X7_parseWord {l : Launch} (hl : l.stackTraces = false) {M : ev_M} (o n : Nat) (s : Nat × Bool) (f : Int32) (t : Nat → Nat) (ht : tOk t) (hn : n ≤ 80) (hp : s.1 ≤ n) (hO : Ro M o n s f) (hT : Rr M o t) : ev_Mt l m_X7_parseWord [.ref (o)] M (fun r M1 => r = .inl (some (.long (e1 (pwS t n s).1))) ∧ Ro M1 o n (pwS t n s).2 f ∧ Fr o (o + 1) M M1) := by
  refine ev_body hl rfl (by decide +kernel) (Nat.le_of_ble_eq_true rfl) ?_
  show ev_ l m_X7_parseWord 0 0 0 [some (.ref (o)), none, none, none] [] M _
  refine ev_blk (B := [(.lconst 1, 1), (.lstore_n 1, 1), (.iconst 0, 1), (.istore_n 3, 1)]) (pe := 4) (ls' := [some (.ref (o)), some (.long (1)), none, some (.int (nI 0))]) (st' := []) ⟨dX7_parseWord_0, dX7_parseWord_1, dX7_parseWord_2, dX7_parseWord_3, rfl⟩ rfl ?_
  rw [show (1 : Int64) = e1 [] from by decide]
  exact c_X7_word_l hl o n s f t ht hn hp M _ 0 s.1 [] M (by omega) rfl (fun a ha => absurd ha List.not_mem_nil) hp rfl rfl hO hT Fr.rf (Nat.lt_succ_self _)

set_option maxHeartbeats 4000000 in
set_option maxRecDepth 100000 in
theorem c_X7_parseGoal {l : Launch} (hl : l.stackTraces = false) {M : ev_M} (o n : Nat) (s : Nat × Bool) (f : Int32) (t : Nat → Nat) (ht : tOk t) (hn : n ≤ 80) (hp : s.1 ≤ n) (hO : Ro M o n s f) (hT : Rr M o t) (T : List Tr) (G : List Cf) (hM : RM M (o + 2) T) (hQ : RQ M (o + 4) 8 G) (hG8 : G.length < 8) (hWk : RWk M (o + 8)) (st : Nat) (hst : st < 6) : ev_Mt l m_X7_parseGoal [.ref (o), .int (nI st)] M (fun r M1 => r = .inl none ∧ Ro M1 o n (gl t n s).2.2 f ∧ RQ M1 (o + 4) 8 (if (gl t n s).2.2.2 = true then G else G ++ [(st, (gl t n s).1, (gl t n s).2.1)]) ∧ RWk M1 (o + 8) ∧ Rr M1 o t ∧ RM M1 (o + 2) T ∧ Fr o (o + 9) M M1) := by
  obtain ⟨y, hW⟩ := hWk
  have hFr0 : Fd o (o + 8) M M := Fd.rf
  refine ev_body hl rfl (by decide +kernel) (Nat.le_of_ble_eq_true rfl) ?_
  show ev_ l m_X7_parseGoal 0 0 0 [some (.ref (o)), some (.int (nI st))] [] M _
  refine ev_blk (B := [(.aload_n 0, 1)]) (pe := 1) (ls' := [some (.ref (o)), some (.int (nI st))]) (st' := [.ref (o)]) ⟨dX7_parseGoal_0, rfl⟩ rfl ?_
  refine ev_getf (v := .ref (o + 8)) F_RX7_34 dX7_parseGoal_1 hO rfl ?_
  refine ev_blk (B := [(.iload_n 1, 1)]) (pe := 5) (ls' := [some (.ref (o)), some (.int (nI st))]) (st' := [.int (nI st), .ref (o + 8)]) ⟨dX7_parseGoal_4, rfl⟩ rfl ?_
  refine ev_put F_RX7_82 dX7_parseGoal_5 hW (Nat.le_of_ble_eq_true rfl) (fun _ _ => ⟨rfl, rfl⟩) ?_
  refine ev_nm (M0 := M.set (o + 8) (.inr (1, [.int (nI st), .long (e1 y.2.1), .long (e1 y.2.2)]))) (fun M1 eM1 => ?_)
  have f2 : M1[o]? = some (.inr (7, [.ref (o + 1), .ref (o + 2), .ref (o + 4), .ref (o + 8), .int (nI n), .int (nI (s.1)), .int (ev_b (s.2)), .int (f)])) := by rw [eM1, ev_sn (by omega)]; exact hO
  have f3 : M1[o + 1]? = some (.inl (2, 80, .inl (fun i => nI (t i)))) := by rw [eM1, ev_sn (by omega)]; exact hT
  have f4 : M1[o + 8]? = some (.inr (1, [.int (nI st), .long (e1 y.2.1), .long (e1 y.2.2)])) := by rw [eM1]; exact ev_sg hW
  have f5 : M1[o + 4]? = some (.inr (2, [.ref ((o + 4) + 1), .ref ((o + 4) + 2), .ref ((o + 4) + 3), .int (nI (G.length))])) := by rw [eM1, ev_sn (by omega)]; exact (hQ.fd hFr0 (by omega) (by omega)).obj
  refine ev_blk (B := [(.aload_n 0, 1)]) (pe := 9) (ls' := [some (.ref (o)), some (.int (nI st))]) (st' := [.ref (o)]) ⟨dX7_parseGoal_8, rfl⟩ rfl ?_
  refine ev_getf (v := .ref (o + 8)) F_RX7_34 dX7_parseGoal_9 f2 rfl ?_
  refine ev_blk (B := [(.aload_n 0, 1)]) (pe := 13) (ls' := [some (.ref (o)), some (.int (nI st))]) (st' := [.ref (o), .ref (o + 8)]) ⟨dX7_parseGoal_12, rfl⟩ rfl ?_
  have g6 : Fd o (o + 8) M M1 := hFr0.tr ⟨by rw [eM1]; simp only [List.length_set], fun j hj1 hj2 => by rw [eM1, ev_sn (by omega)]⟩
  refine ev_cVw Y_X7_parseWord L_RX7_85 dX7_parseGoal_13 ⟨Nat.le_of_ble_eq_true rfl, Nat.le_of_ble_eq_true rfl, Nat.le_of_ble_eq_true rfl, Nat.le_of_ble_eq_true rfl, Nat.le_of_ble_eq_true rfl⟩ f2 (as := []) rfl rfl (c_X7_parseWord hl o n s f t ht hn hp f2 f3) (fun M7 hL7 hB7 => ?_)
  obtain ⟨uO8, uF8⟩ := hB7
  obtain ⟨s8, es8⟩ : ∃ z : Nat × Bool, z = (pwS t n s).2 := ⟨_, rfl⟩
  rw [← es8] at uO8
  have hp8 : s8.1 ≤ n := by rw [es8]; exact (pw_ok 10 _ hp).2.2.1
  have fr8 : Fd o (o + 8) M M7 := g6.tr (Fd.of uF8 (Or.inl ⟨rfl, rfl⟩))
  have f9 : M7[o + 1]? = some (.inl (2, 80, .inl (fun i => nI (t i)))) := (uF8.2 (o + 1) (by omega)).trans f3
  have f10 : M7[o + 8]? = some (.inr (1, [.int (nI st), .long (e1 y.2.1), .long (e1 y.2.2)])) := (uF8.2 (o + 8) (by omega)).trans f4
  refine ev_put F_RX7_89 dX7_parseGoal_16 f10 (Nat.le_of_ble_eq_true rfl) (fun _ _ => ⟨rfl, rfl⟩) ?_
  refine ev_nm (M0 := M7.set (o + 8) (.inr (1, [.int (nI st), .long (e1 (pwS t n s).1), .long (e1 y.2.2)]))) (fun M11 eM11 => ?_)
  have f12 : M11[o]? = some (.inr (7, [.ref (o + 1), .ref (o + 2), .ref (o + 4), .ref (o + 8), .int (nI n), .int (nI (s8.1)), .int (ev_b (s8.2)), .int (f)])) := by rw [eM11, ev_sn (by omega)]; exact uO8
  have f13 : M11[o + 1]? = some (.inl (2, 80, .inl (fun i => nI (t i)))) := by rw [eM11, ev_sn (by omega)]; exact f9
  have f14 : M11[o + 8]? = some (.inr (1, [.int (nI st), .long (e1 (pwS t n s).1), .long (e1 y.2.2)])) := by rw [eM11]; exact ev_sg f10
  refine ev_blk (B := [(.aload_n 0, 1), (.bipush 44, 2)]) (pe := 22) (ls' := [some (.ref (o)), some (.int (nI st))]) (st' := [.int (nI 44), .ref (o)]) ⟨dX7_parseGoal_19, dX7_parseGoal_20, rfl⟩ rfl ?_
  have g15 : Fd o (o + 8) M M11 := fr8.tr ⟨by rw [eM11]; simp only [List.length_set], fun j hj1 hj2 => by rw [eM11, ev_sn (by omega)]⟩
  refine ev_cVn Y_X7_expect L_RX7_67 dX7_parseGoal_22 ⟨Nat.le_of_ble_eq_true rfl, Nat.le_of_ble_eq_true rfl, Nat.le_of_ble_eq_true rfl, Nat.le_of_ble_eq_true rfl, Nat.le_of_ble_eq_true rfl⟩ f12 (as := [.int (nI 44)]) rfl rfl (c_X7_expect hl o n s8 f t f12 f13 ht hn hp8 44 (by decide)) (fun M16 hL16 hB16 => ?_)
  obtain ⟨uO17, uF17⟩ := hB16
  obtain ⟨s17, es17⟩ : ∃ z : Nat × Bool, z = ps t n s8 44 1 := ⟨_, rfl⟩
  rw [← es17] at uO17
  have hp17 : s17.1 ≤ n := by rw [es17]; exact (ps_le hp8).1
  have fr17 : Fd o (o + 8) M M16 := g15.tr (Fd.of uF17 (Or.inl ⟨rfl, rfl⟩))
  have f18 : M16[o + 1]? = some (.inl (2, 80, .inl (fun i => nI (t i)))) := (uF17.2 (o + 1) (by omega)).trans f13
  have f19 : M16[o + 8]? = some (.inr (1, [.int (nI st), .long (e1 (pwS t n s).1), .long (e1 y.2.2)])) := (uF17.2 (o + 8) (by omega)).trans f14
  refine ev_blk (B := [(.aload_n 0, 1)]) (pe := 26) (ls' := [some (.ref (o)), some (.int (nI st))]) (st' := [.ref (o)]) ⟨dX7_parseGoal_25, rfl⟩ rfl ?_
  refine ev_getf (v := .ref (o + 8)) F_RX7_34 dX7_parseGoal_26 uO17 rfl ?_
  refine ev_blk (B := [(.aload_n 0, 1)]) (pe := 30) (ls' := [some (.ref (o)), some (.int (nI st))]) (st' := [.ref (o), .ref (o + 8)]) ⟨dX7_parseGoal_29, rfl⟩ rfl ?_
  refine ev_cVw Y_X7_parseWord L_RX7_85 dX7_parseGoal_30 ⟨Nat.le_of_ble_eq_true rfl, Nat.le_of_ble_eq_true rfl, Nat.le_of_ble_eq_true rfl, Nat.le_of_ble_eq_true rfl, Nat.le_of_ble_eq_true rfl⟩ uO17 (as := []) rfl rfl (c_X7_parseWord hl o n s17 f t ht hn hp17 uO17 f18) (fun M20 hL20 hB20 => ?_)
  obtain ⟨uO21, uF21⟩ := hB20
  obtain ⟨s21, es21⟩ : ∃ z : Nat × Bool, z = (pwS t n s17).2 := ⟨_, rfl⟩
  rw [← es21] at uO21
  have hp21 : s21.1 ≤ n := by rw [es21]; exact (pw_ok 10 _ hp17).2.2.1
  have fr21 : Fd o (o + 8) M M20 := fr17.tr (Fd.of uF21 (Or.inl ⟨rfl, rfl⟩))
  have f22 : M20[o + 1]? = some (.inl (2, 80, .inl (fun i => nI (t i)))) := (uF21.2 (o + 1) (by omega)).trans f18
  have f23 : M20[o + 8]? = some (.inr (1, [.int (nI st), .long (e1 (pwS t n s).1), .long (e1 y.2.2)])) := (uF21.2 (o + 8) (by omega)).trans f19
  refine ev_put F_RX7_93 dX7_parseGoal_33 f23 (Nat.le_of_ble_eq_true rfl) (fun _ _ => ⟨rfl, rfl⟩) ?_
  refine ev_nm (M0 := M20.set (o + 8) (.inr (1, [.int (nI st), .long (e1 (pwS t n s).1), .long (e1 (pwS t n s17).1)]))) (fun M24 eM24 => ?_)
  have f25 : M24[o]? = some (.inr (7, [.ref (o + 1), .ref (o + 2), .ref (o + 4), .ref (o + 8), .int (nI n), .int (nI (s21.1)), .int (ev_b (s21.2)), .int (f)])) := by rw [eM24, ev_sn (by omega)]; exact uO21
  have f26 : M24[o + 1]? = some (.inl (2, 80, .inl (fun i => nI (t i)))) := by rw [eM24, ev_sn (by omega)]; exact f22
  have f27 : M24[o + 8]? = some (.inr (1, [.int (nI st), .long (e1 (pwS t n s).1), .long (e1 (pwS t n s17).1)])) := by rw [eM24]; exact ev_sg f23
  refine ev_blk (B := [(.aload_n 0, 1), (.bipush 41, 2)]) (pe := 39) (ls' := [some (.ref (o)), some (.int (nI st))]) (st' := [.int (nI 41), .ref (o)]) ⟨dX7_parseGoal_36, dX7_parseGoal_37, rfl⟩ rfl ?_
  have g28 : Fd o (o + 8) M M24 := fr21.tr ⟨by rw [eM24]; simp only [List.length_set], fun j hj1 hj2 => by rw [eM24, ev_sn (by omega)]⟩
  refine ev_cVn Y_X7_expect L_RX7_67 dX7_parseGoal_39 ⟨Nat.le_of_ble_eq_true rfl, Nat.le_of_ble_eq_true rfl, Nat.le_of_ble_eq_true rfl, Nat.le_of_ble_eq_true rfl, Nat.le_of_ble_eq_true rfl⟩ f25 (as := [.int (nI 41)]) rfl rfl (c_X7_expect hl o n s21 f t f25 f26 ht hn hp21 41 (by decide)) (fun M29 hL29 hB29 => ?_)
  obtain ⟨uO30, uF30⟩ := hB29
  obtain ⟨s30, es30⟩ : ∃ z : Nat × Bool, z = ps t n s21 41 1 := ⟨_, rfl⟩
  rw [← es30] at uO30
  have hp30 : s30.1 ≤ n := by rw [es30]; exact (ps_le hp21).1
  have fr30 : Fd o (o + 8) M M29 := g28.tr (Fd.of uF30 (Or.inl ⟨rfl, rfl⟩))
  have f31 : M29[o + 1]? = some (.inl (2, 80, .inl (fun i => nI (t i)))) := (uF30.2 (o + 1) (by omega)).trans f26
  have f32 : M29[o + 8]? = some (.inr (1, [.int (nI st), .long (e1 (pwS t n s).1), .long (e1 (pwS t n s17).1)])) := (uF30.2 (o + 8) (by omega)).trans f27
  refine ev_blk (B := [(.aload_n 0, 1), (.bipush 59, 2)]) (pe := 45) (ls' := [some (.ref (o)), some (.int (nI st))]) (st' := [.int (nI 59), .ref (o)]) ⟨dX7_parseGoal_42, dX7_parseGoal_43, rfl⟩ rfl ?_
  refine ev_cVn Y_X7_expect L_RX7_67 dX7_parseGoal_45 ⟨Nat.le_of_ble_eq_true rfl, Nat.le_of_ble_eq_true rfl, Nat.le_of_ble_eq_true rfl, Nat.le_of_ble_eq_true rfl, Nat.le_of_ble_eq_true rfl⟩ uO30 (as := [.int (nI 59)]) rfl rfl (c_X7_expect hl o n s30 f t uO30 f31 ht hn hp30 59 (by decide)) (fun M33 hL33 hB33 => ?_)
  obtain ⟨uO34, uF34⟩ := hB33
  obtain ⟨s34, es34⟩ : ∃ z : Nat × Bool, z = ps t n s30 59 1 := ⟨_, rfl⟩
  rw [← es34] at uO34
  have hp34 : s34.1 ≤ n := by rw [es34]; exact (ps_le hp30).1
  have fr34 : Fd o (o + 8) M M33 := fr30.tr (Fd.of uF34 (Or.inl ⟨rfl, rfl⟩))
  have f35 : M33[o + 1]? = some (.inl (2, 80, .inl (fun i => nI (t i)))) := (uF34.2 (o + 1) (by omega)).trans f31
  have f36 : M33[o + 8]? = some (.inr (1, [.int (nI st), .long (e1 (pwS t n s).1), .long (e1 (pwS t n s17).1)])) := (uF34.2 (o + 8) (by omega)).trans f32
  refine ev_blk (B := [(.aload_n 0, 1)]) (pe := 49) (ls' := [some (.ref (o)), some (.int (nI st))]) (st' := [.ref (o)]) ⟨dX7_parseGoal_48, rfl⟩ rfl ?_
  refine ev_getf (v := .int (ev_b (s34.2))) F_RX7_45 dX7_parseGoal_49 uO34 rfl ?_
  refine ev_ifB_ne dX7_parseGoal_52 (tgt := 66) (by decide) (fun q52 => ?_) (fun q52 => ?_)
  · refine ev_vret dX7_parseGoal_66 rfl ⟨Nat.le_of_ble_eq_true rfl, Nat.le_of_ble_eq_true rfl⟩ ?_
    have e9 : (gl t n s).2.2 = s34 := by rw [es34, es30, es21, es17, es8]; rfl
    rw [e9, if_pos q52]
    exact ⟨rfl, uO34, hQ.fd fr34 (by omega) (by omega), ⟨(st, (pwS t n s).1, (pwS t n s17).1), f36⟩, f35, hM.fd fr34 (by omega) (by omega), fr34.fr (by omega) (by omega)⟩
  · refine ev_blk (B := [(.aload_n 0, 1)]) (pe := 56) (ls' := [some (.ref (o)), some (.int (nI st))]) (st' := [.ref (o)]) ⟨dX7_parseGoal_55, rfl⟩ rfl ?_
    refine ev_getf (v := .ref (o + 4)) F_RX7_27 dX7_parseGoal_56 uO34 rfl ?_
    refine ev_blk (B := [(.aload_n 0, 1)]) (pe := 60) (ls' := [some (.ref (o)), some (.int (nI st))]) (st' := [.ref (o), .ref (o + 4)]) ⟨dX7_parseGoal_59, rfl⟩ rfl ?_
    refine ev_getf (v := .ref (o + 8)) F_RX7_34 dX7_parseGoal_60 uO34 rfl ?_
    have hQ9 : RQ M33 (o + 4) 8 G := hQ.fd fr34 (by omega) (by omega)
    refine ev_cVn Y_X2_add L_RX7_96 dX7_parseGoal_63 ⟨Nat.le_of_ble_eq_true rfl, Nat.le_of_ble_eq_true rfl, Nat.le_of_ble_eq_true rfl, Nat.le_of_ble_eq_true rfl, Nat.le_of_ble_eq_true rfl⟩ hQ9.obj (as := [.ref (o + 8)]) rfl rfl (c_X2_add hl (o + 4) 8 G hQ9 (o + 8) (st, (pwS t n s).1, (pwS t n s17).1) f36 (by omega) hG8) (fun M37 hL37 hB37 => ?_)
    obtain ⟨hB1, hB2⟩ := hB37
    have hO9 := (hB2.2 o (by omega)).trans uO34
    have hT9 := (hB2.2 (o + 1) (by omega)).trans f35
    have hW9 := (hB2.2 (o + 8) (by omega)).trans f36
    have hM9 := (hM.fd fr34 (by omega) (by omega)).fr hB2 (by omega)
    refine ev_vret dX7_parseGoal_66 rfl ⟨Nat.le_of_ble_eq_true rfl, Nat.le_of_ble_eq_true rfl⟩ ?_
    have e9 : (gl t n s).2.2 = s34 := by rw [es34, es30, es21, es17, es8]; rfl
    rw [e9, if_neg (show ¬ s34.2 = true by rw [q52]; decide)]
    exact ⟨rfl, hO9, by rw [show (gl t n s).1 = (pwS t n s).1 from rfl, show (gl t n s).2.1 = (pwS t n s17).1 from by rw [es17, es8]; rfl]; exact hB1, ⟨_, hW9⟩, hT9, hM9, (fr34.fr (by omega) (by omega)).tr (hB2.to (by omega) (by omega))⟩

set_option maxHeartbeats 4000000 in
set_option maxRecDepth 100000 in
theorem c_X7_tra {l : Launch} (hl : l.stackTraces = false) {M : ev_M} (o n : Nat) (s : Nat × Bool) (f : Int32) (t : Nat → Nat) (ht : tOk t) (hn : n ≤ 80) (hp : s.1 ≤ n) (hO : Ro M o n s f) (hT : Rr M o t) (T : List Tr) (G : List Cf) (hM : RM M (o + 2) T) (hQ : RQ M (o + 4) 8 G) (hT10 : T.length < 10) (hWk : RWk M (o + 8)) (st : Nat) (hst : st < 6) (a : Nat) (ha : a < 3) : ev_Mt l m_X7_parseTransition [.ref (o), .int (nI a), .int (nI st)] M (fun r M1 => r = .inl none ∧ Ro M1 o n (tl t n (some a) s).2.2.2 f ∧ RM M1 (o + 2) (if (tl t n (some a) s).2.2.2.2 = true then T else T ++ [(st, (tl t n (some a) s).1, a, (tl t n (some a) s).2.1, (tl t n (some a) s).2.2.1)]) ∧ RQ M1 (o + 4) 8 G ∧ RWk M1 (o + 8) ∧ Rr M1 o t ∧ Fr o (o + 9) M M1) := by
  have hFr0 : Fd o o M M := Fd.rf
  refine ev_body hl rfl (by decide +kernel) (Nat.le_of_ble_eq_true rfl) ?_
  show ev_ l m_X7_parseTransition 0 0 0 [some (.ref (o)), some (.int (nI a)), some (.int (nI st)), none, none, none] [] M _
  refine ev_blk (B := [(.aload_n 0, 1), (.bipush 48, 2), (.bipush 6, 2)]) (pe := 5) (ls' := [some (.ref (o)), some (.int (nI a)), some (.int (nI st)), none, none, none]) (st' := [.int (nI 6), .int (nI 48), .ref (o)]) ⟨dX7_parseTransition_0, dX7_parseTransition_1, dX7_parseTransition_3, rfl⟩ rfl ?_
  refine ev_cVw Y_X7_parseSymbol L_RX7_71 dX7_parseTransition_5 ⟨Nat.le_of_ble_eq_true rfl, Nat.le_of_ble_eq_true rfl, Nat.le_of_ble_eq_true rfl, Nat.le_of_ble_eq_true rfl, Nat.le_of_ble_eq_true rfl⟩ hO (as := [.int (nI 48), .int (nI 6)]) rfl rfl (c_X7_sym hl o n s f t hO hT ht hn hp 48 6 (by decide) (by decide)) (fun M1 hL1 hB1 => ?_)
  obtain ⟨uO2, uF2⟩ := hB1
  obtain ⟨s2, es2⟩ : ∃ z : Nat × Bool, z = ps t n s 48 6 := ⟨_, rfl⟩
  rw [← es2] at uO2
  have hp2 : s2.1 ≤ n := by rw [es2]; exact (ps_le hp).1
  have fr2 : Fd o o M M1 := hFr0.tr (Fd.of uF2 (Or.inl ⟨rfl, rfl⟩))
  have f3 : M1[o + 1]? = some (.inl (2, 80, .inl (fun i => nI (t i)))) := (uF2.2 (o + 1) (by omega)).trans hT
  refine ev_blk (B := [(.istore_n 3, 1), (.iconst 0, 1), (.istore 4, 2), (.iconst 0, 1), (.istore 5, 2), (.iload_n 1, 1)]) (pe := 16) (ls' := [some (.ref (o)), some (.int (nI a)), some (.int (nI st)), some (.int (nI (sv t n s 48 6))), some (.int (nI 0)), some (.int (nI 0))]) (st' := [.int (nI a)]) ⟨dX7_parseTransition_8, dX7_parseTransition_9, dX7_parseTransition_10, dX7_parseTransition_12, dX7_parseTransition_13, dX7_parseTransition_15, rfl⟩ rfl ?_
  refine ev_fN_eq dX7_parseTransition_16 (tgt := 49) (by decide) (by omega) (fun q16 => ?_) (fun q16 => ?_)
  · refine ev_blk (B := [(.aload_n 0, 1), (.bipush 41, 2)]) (pe := 52) (ls' := [some (.ref (o)), some (.int (nI a)), some (.int (nI st)), some (.int (nI (sv t n s 48 6))), some (.int (nI 0)), some (.int (nI 0))]) (st' := [.int (nI 41), .ref (o)]) ⟨dX7_parseTransition_49, dX7_parseTransition_50, rfl⟩ rfl ?_
    refine ev_cVn Y_X7_expect L_RX7_67 dX7_parseTransition_52 ⟨Nat.le_of_ble_eq_true rfl, Nat.le_of_ble_eq_true rfl, Nat.le_of_ble_eq_true rfl, Nat.le_of_ble_eq_true rfl, Nat.le_of_ble_eq_true rfl⟩ uO2 (as := [.int (nI 41)]) rfl rfl (c_X7_expect hl o n s2 f t uO2 f3 ht hn hp2 41 (by decide)) (fun M4 hL4 hB4 => ?_)
    obtain ⟨uO5, uF5⟩ := hB4
    obtain ⟨s5, es5⟩ : ∃ z : Nat × Bool, z = ps t n s2 41 1 := ⟨_, rfl⟩
    rw [← es5] at uO5
    have hp5 : s5.1 ≤ n := by rw [es5]; exact (ps_le hp2).1
    have fr5 : Fd o o M M4 := fr2.tr (Fd.of uF5 (Or.inl ⟨rfl, rfl⟩))
    have f6 : M4[o + 1]? = some (.inl (2, 80, .inl (fun i => nI (t i)))) := (uF5.2 (o + 1) (by omega)).trans f3
    refine ev_blk (B := [(.aload_n 0, 1), (.bipush 59, 2)]) (pe := 58) (ls' := [some (.ref (o)), some (.int (nI a)), some (.int (nI st)), some (.int (nI (sv t n s 48 6))), some (.int (nI 0)), some (.int (nI 0))]) (st' := [.int (nI 59), .ref (o)]) ⟨dX7_parseTransition_55, dX7_parseTransition_56, rfl⟩ rfl ?_
    refine ev_cVn Y_X7_expect L_RX7_67 dX7_parseTransition_58 ⟨Nat.le_of_ble_eq_true rfl, Nat.le_of_ble_eq_true rfl, Nat.le_of_ble_eq_true rfl, Nat.le_of_ble_eq_true rfl, Nat.le_of_ble_eq_true rfl⟩ uO5 (as := [.int (nI 59)]) rfl rfl (c_X7_expect hl o n s5 f t uO5 f6 ht hn hp5 59 (by decide)) (fun M7 hL7 hB7 => ?_)
    obtain ⟨uO8, uF8⟩ := hB7
    obtain ⟨s8, es8⟩ : ∃ z : Nat × Bool, z = ps t n s5 59 1 := ⟨_, rfl⟩
    rw [← es8] at uO8
    have hp8 : s8.1 ≤ n := by rw [es8]; exact (ps_le hp5).1
    have fr8 : Fd o o M M7 := fr5.tr (Fd.of uF8 (Or.inl ⟨rfl, rfl⟩))
    have f9 : M7[o + 1]? = some (.inl (2, 80, .inl (fun i => nI (t i)))) := (uF8.2 (o + 1) (by omega)).trans f6
    refine ev_blk (B := [(.aload_n 0, 1)]) (pe := 62) (ls' := [some (.ref (o)), some (.int (nI a)), some (.int (nI st)), some (.int (nI (sv t n s 48 6))), some (.int (nI 0)), some (.int (nI 0))]) (st' := [.ref (o)]) ⟨dX7_parseTransition_61, rfl⟩ rfl ?_
    refine ev_getf (v := .int (ev_b (s8.2))) F_RX7_45 dX7_parseTransition_62 uO8 rfl ?_
    refine ev_ifB_ne dX7_parseTransition_65 (tgt := 82) (by decide) (fun q65 => ?_) (fun q65 => ?_)
    · refine ev_vret dX7_parseTransition_82 rfl ⟨Nat.le_of_ble_eq_true rfl, Nat.le_of_ble_eq_true rfl⟩ ?_
      have e8 : tl t n (some a) s = (sv t n s 48 6, 0, 0, s8) := by rw [es8, es5, es2]; exact if_pos (congrArg some q16)
      rw [e8]
      refine ⟨rfl, uO8, ?_, hQ.fd fr8 (by omega) (by omega), hWk.fd fr8 (by omega) (by omega), f9, fr8.fr (by omega) (by omega)⟩
      rw [if_pos q65]
      exact hM.fd fr8 (by omega) (by omega)
    · refine ev_blk (B := [(.aload_n 0, 1)]) (pe := 69) (ls' := [some (.ref (o)), some (.int (nI a)), some (.int (nI st)), some (.int (nI (sv t n s 48 6))), some (.int (nI 0)), some (.int (nI 0))]) (st' := [.ref (o)]) ⟨dX7_parseTransition_68, rfl⟩ rfl ?_
      refine ev_getf (v := .ref (o + 2)) F_RX7_18 dX7_parseTransition_69 uO8 rfl ?_
      refine ev_blk (B := [(.iload_n 2, 1), (.iload_n 3, 1), (.iload_n 1, 1), (.iload 4, 2), (.iload 5, 2)]) (pe := 79) (ls' := [some (.ref (o)), some (.int (nI a)), some (.int (nI st)), some (.int (nI (sv t n s 48 6))), some (.int (nI 0)), some (.int (nI 0))]) (st' := [.int (nI 0), .int (nI 0), .int (nI a), .int (nI (sv t n s 48 6)), .int (nI st), .ref (o + 2)]) ⟨dX7_parseTransition_72, dX7_parseTransition_73, dX7_parseTransition_74, dX7_parseTransition_75, dX7_parseTransition_77, rfl⟩ rfl ?_
      have hM9 : RM M7 (o + 2) T := hM.fd fr8 (by omega) (by omega)
      have hto : trO ((st, sv t n s 48 6, a, 0, 0) : Tr) := ⟨hst, sv_lt (by decide), ha, by decide, by decide⟩
      refine ev_cVn Y_X4_add L_RX7_100 dX7_parseTransition_79 ⟨Nat.le_of_ble_eq_true rfl, Nat.le_of_ble_eq_true rfl, Nat.le_of_ble_eq_true rfl, Nat.le_of_ble_eq_true rfl, Nat.le_of_ble_eq_true rfl⟩ hM9.obj (as := [.int (nI st), .int (nI (sv t n s 48 6)), .int (nI a), .int (nI 0), .int (nI 0)]) rfl rfl (c_X4_add hl (o + 2) T hM9 hT10 ((st, sv t n s 48 6, a, 0, 0) : Tr) (nI 0) (nI 0) (fun z => (tp3 z).symm) (fun z => (tp4 z).symm) hto) (fun M10 hL10 hB10 => ?_)
      obtain ⟨hB1, hB2⟩ := hB10
      have hO9 := (hB2.2 o (by omega)).trans uO8
      have hT9 := (hB2.2 (o + 1) (by omega)).trans f9
      have hQ9 := (hQ.fd fr8 (by omega) (by omega)).fr hB2 (by omega)
      have hW9 := (hWk.fd fr8 (by omega) (by omega)).fr hB2 (by omega)
      refine ev_vret dX7_parseTransition_82 rfl ⟨Nat.le_of_ble_eq_true rfl, Nat.le_of_ble_eq_true rfl⟩ ?_
      have e8 : tl t n (some a) s = (sv t n s 48 6, 0, 0, s8) := by rw [es8, es5, es2]; exact if_pos (congrArg some q16)
      rw [e8]
      refine ⟨rfl, hO9, ?_, hQ9, hW9, hT9, (fr8.fr (by omega) (by omega)).tr (hB2.to (by omega) (by omega))⟩
      rw [if_neg (show ¬ s8.2 = true by rw [q65]; decide)]
      exact hB1
  · refine ev_blk (B := [(.aload_n 0, 1), (.bipush 44, 2)]) (pe := 22) (ls' := [some (.ref (o)), some (.int (nI a)), some (.int (nI st)), some (.int (nI (sv t n s 48 6))), some (.int (nI 0)), some (.int (nI 0))]) (st' := [.int (nI 44), .ref (o)]) ⟨dX7_parseTransition_19, dX7_parseTransition_20, rfl⟩ rfl ?_
    refine ev_cVn Y_X7_expect L_RX7_67 dX7_parseTransition_22 ⟨Nat.le_of_ble_eq_true rfl, Nat.le_of_ble_eq_true rfl, Nat.le_of_ble_eq_true rfl, Nat.le_of_ble_eq_true rfl, Nat.le_of_ble_eq_true rfl⟩ uO2 (as := [.int (nI 44)]) rfl rfl (c_X7_expect hl o n s2 f t uO2 f3 ht hn hp2 44 (by decide)) (fun M11 hL11 hB11 => ?_)
    obtain ⟨uO12, uF12⟩ := hB11
    obtain ⟨s12, es12⟩ : ∃ z : Nat × Bool, z = ps t n s2 44 1 := ⟨_, rfl⟩
    rw [← es12] at uO12
    have hp12 : s12.1 ≤ n := by rw [es12]; exact (ps_le hp2).1
    have fr12 : Fd o o M M11 := fr2.tr (Fd.of uF12 (Or.inl ⟨rfl, rfl⟩))
    have f13 : M11[o + 1]? = some (.inl (2, 80, .inl (fun i => nI (t i)))) := (uF12.2 (o + 1) (by omega)).trans f3
    refine ev_blk (B := [(.aload_n 0, 1), (.bipush 48, 2), (.iconst 2, 1)]) (pe := 29) (ls' := [some (.ref (o)), some (.int (nI a)), some (.int (nI st)), some (.int (nI (sv t n s 48 6))), some (.int (nI 0)), some (.int (nI 0))]) (st' := [.int (nI 2), .int (nI 48), .ref (o)]) ⟨dX7_parseTransition_25, dX7_parseTransition_26, dX7_parseTransition_28, rfl⟩ rfl ?_
    refine ev_cVw Y_X7_parseSymbol L_RX7_71 dX7_parseTransition_29 ⟨Nat.le_of_ble_eq_true rfl, Nat.le_of_ble_eq_true rfl, Nat.le_of_ble_eq_true rfl, Nat.le_of_ble_eq_true rfl, Nat.le_of_ble_eq_true rfl⟩ uO12 (as := [.int (nI 48), .int (nI 2)]) rfl rfl (c_X7_sym hl o n s12 f t uO12 f13 ht hn hp12 48 2 (by decide) (by decide)) (fun M14 hL14 hB14 => ?_)
    obtain ⟨uO15, uF15⟩ := hB14
    obtain ⟨s15, es15⟩ : ∃ z : Nat × Bool, z = ps t n s12 48 2 := ⟨_, rfl⟩
    rw [← es15] at uO15
    have hp15 : s15.1 ≤ n := by rw [es15]; exact (ps_le hp12).1
    have fr15 : Fd o o M M14 := fr12.tr (Fd.of uF15 (Or.inl ⟨rfl, rfl⟩))
    have f16 : M14[o + 1]? = some (.inl (2, 80, .inl (fun i => nI (t i)))) := (uF15.2 (o + 1) (by omega)).trans f13
    refine ev_blk (B := [(.istore 4, 2), (.aload_n 0, 1), (.bipush 44, 2)]) (pe := 37) (ls' := [some (.ref (o)), some (.int (nI a)), some (.int (nI st)), some (.int (nI (sv t n s 48 6))), some (.int (nI (sv t n s12 48 2))), some (.int (nI 0))]) (st' := [.int (nI 44), .ref (o)]) ⟨dX7_parseTransition_32, dX7_parseTransition_34, dX7_parseTransition_35, rfl⟩ rfl ?_
    refine ev_cVn Y_X7_expect L_RX7_67 dX7_parseTransition_37 ⟨Nat.le_of_ble_eq_true rfl, Nat.le_of_ble_eq_true rfl, Nat.le_of_ble_eq_true rfl, Nat.le_of_ble_eq_true rfl, Nat.le_of_ble_eq_true rfl⟩ uO15 (as := [.int (nI 44)]) rfl rfl (c_X7_expect hl o n s15 f t uO15 f16 ht hn hp15 44 (by decide)) (fun M17 hL17 hB17 => ?_)
    obtain ⟨uO18, uF18⟩ := hB17
    obtain ⟨s18, es18⟩ : ∃ z : Nat × Bool, z = ps t n s15 44 1 := ⟨_, rfl⟩
    rw [← es18] at uO18
    have hp18 : s18.1 ≤ n := by rw [es18]; exact (ps_le hp15).1
    have fr18 : Fd o o M M17 := fr15.tr (Fd.of uF18 (Or.inl ⟨rfl, rfl⟩))
    have f19 : M17[o + 1]? = some (.inl (2, 80, .inl (fun i => nI (t i)))) := (uF18.2 (o + 1) (by omega)).trans f16
    refine ev_blk (B := [(.aload_n 0, 1), (.bipush 97, 2), (.iconst 3, 1)]) (pe := 44) (ls' := [some (.ref (o)), some (.int (nI a)), some (.int (nI st)), some (.int (nI (sv t n s 48 6))), some (.int (nI (sv t n s12 48 2))), some (.int (nI 0))]) (st' := [.int (nI 3), .int (nI 97), .ref (o)]) ⟨dX7_parseTransition_40, dX7_parseTransition_41, dX7_parseTransition_43, rfl⟩ rfl ?_
    refine ev_cVw Y_X7_parseSymbol L_RX7_71 dX7_parseTransition_44 ⟨Nat.le_of_ble_eq_true rfl, Nat.le_of_ble_eq_true rfl, Nat.le_of_ble_eq_true rfl, Nat.le_of_ble_eq_true rfl, Nat.le_of_ble_eq_true rfl⟩ uO18 (as := [.int (nI 97), .int (nI 3)]) rfl rfl (c_X7_sym hl o n s18 f t uO18 f19 ht hn hp18 97 3 (by decide) (by decide)) (fun M20 hL20 hB20 => ?_)
    obtain ⟨uO21, uF21⟩ := hB20
    obtain ⟨s21, es21⟩ : ∃ z : Nat × Bool, z = ps t n s18 97 3 := ⟨_, rfl⟩
    rw [← es21] at uO21
    have hp21 : s21.1 ≤ n := by rw [es21]; exact (ps_le hp18).1
    have fr21 : Fd o o M M20 := fr18.tr (Fd.of uF21 (Or.inl ⟨rfl, rfl⟩))
    have f22 : M20[o + 1]? = some (.inl (2, 80, .inl (fun i => nI (t i)))) := (uF21.2 (o + 1) (by omega)).trans f19
    refine ev_blk (B := [(.istore 5, 2), (.aload_n 0, 1), (.bipush 41, 2)]) (pe := 52) (ls' := [some (.ref (o)), some (.int (nI a)), some (.int (nI st)), some (.int (nI (sv t n s 48 6))), some (.int (nI (sv t n s12 48 2))), some (.int (nI (sv t n s18 97 3)))]) (st' := [.int (nI 41), .ref (o)]) ⟨dX7_parseTransition_47, dX7_parseTransition_49, dX7_parseTransition_50, rfl⟩ rfl ?_
    refine ev_cVn Y_X7_expect L_RX7_67 dX7_parseTransition_52 ⟨Nat.le_of_ble_eq_true rfl, Nat.le_of_ble_eq_true rfl, Nat.le_of_ble_eq_true rfl, Nat.le_of_ble_eq_true rfl, Nat.le_of_ble_eq_true rfl⟩ uO21 (as := [.int (nI 41)]) rfl rfl (c_X7_expect hl o n s21 f t uO21 f22 ht hn hp21 41 (by decide)) (fun M23 hL23 hB23 => ?_)
    obtain ⟨uO24, uF24⟩ := hB23
    obtain ⟨s24, es24⟩ : ∃ z : Nat × Bool, z = ps t n s21 41 1 := ⟨_, rfl⟩
    rw [← es24] at uO24
    have hp24 : s24.1 ≤ n := by rw [es24]; exact (ps_le hp21).1
    have fr24 : Fd o o M M23 := fr21.tr (Fd.of uF24 (Or.inl ⟨rfl, rfl⟩))
    have f25 : M23[o + 1]? = some (.inl (2, 80, .inl (fun i => nI (t i)))) := (uF24.2 (o + 1) (by omega)).trans f22
    refine ev_blk (B := [(.aload_n 0, 1), (.bipush 59, 2)]) (pe := 58) (ls' := [some (.ref (o)), some (.int (nI a)), some (.int (nI st)), some (.int (nI (sv t n s 48 6))), some (.int (nI (sv t n s12 48 2))), some (.int (nI (sv t n s18 97 3)))]) (st' := [.int (nI 59), .ref (o)]) ⟨dX7_parseTransition_55, dX7_parseTransition_56, rfl⟩ rfl ?_
    refine ev_cVn Y_X7_expect L_RX7_67 dX7_parseTransition_58 ⟨Nat.le_of_ble_eq_true rfl, Nat.le_of_ble_eq_true rfl, Nat.le_of_ble_eq_true rfl, Nat.le_of_ble_eq_true rfl, Nat.le_of_ble_eq_true rfl⟩ uO24 (as := [.int (nI 59)]) rfl rfl (c_X7_expect hl o n s24 f t uO24 f25 ht hn hp24 59 (by decide)) (fun M26 hL26 hB26 => ?_)
    obtain ⟨uO27, uF27⟩ := hB26
    obtain ⟨s27, es27⟩ : ∃ z : Nat × Bool, z = ps t n s24 59 1 := ⟨_, rfl⟩
    rw [← es27] at uO27
    have hp27 : s27.1 ≤ n := by rw [es27]; exact (ps_le hp24).1
    have fr27 : Fd o o M M26 := fr24.tr (Fd.of uF27 (Or.inl ⟨rfl, rfl⟩))
    have f28 : M26[o + 1]? = some (.inl (2, 80, .inl (fun i => nI (t i)))) := (uF27.2 (o + 1) (by omega)).trans f25
    refine ev_blk (B := [(.aload_n 0, 1)]) (pe := 62) (ls' := [some (.ref (o)), some (.int (nI a)), some (.int (nI st)), some (.int (nI (sv t n s 48 6))), some (.int (nI (sv t n s12 48 2))), some (.int (nI (sv t n s18 97 3)))]) (st' := [.ref (o)]) ⟨dX7_parseTransition_61, rfl⟩ rfl ?_
    refine ev_getf (v := .int (ev_b (s27.2))) F_RX7_45 dX7_parseTransition_62 uO27 rfl ?_
    refine ev_ifB_ne dX7_parseTransition_65 (tgt := 82) (by decide) (fun q65 => ?_) (fun q65 => ?_)
    · refine ev_vret dX7_parseTransition_82 rfl ⟨Nat.le_of_ble_eq_true rfl, Nat.le_of_ble_eq_true rfl⟩ ?_
      have e8 : tl t n (some a) s = (sv t n s 48 6, sv t n s12 48 2, sv t n s18 97 3, s27) := by rw [es27, es24, es21, es18, es15, es12, es2]; exact if_neg (fun z => q16 (Option.some.inj z))
      rw [e8]
      refine ⟨rfl, uO27, ?_, hQ.fd fr27 (by omega) (by omega), hWk.fd fr27 (by omega) (by omega), f28, fr27.fr (by omega) (by omega)⟩
      rw [if_pos q65]
      exact hM.fd fr27 (by omega) (by omega)
    · refine ev_blk (B := [(.aload_n 0, 1)]) (pe := 69) (ls' := [some (.ref (o)), some (.int (nI a)), some (.int (nI st)), some (.int (nI (sv t n s 48 6))), some (.int (nI (sv t n s12 48 2))), some (.int (nI (sv t n s18 97 3)))]) (st' := [.ref (o)]) ⟨dX7_parseTransition_68, rfl⟩ rfl ?_
      refine ev_getf (v := .ref (o + 2)) F_RX7_18 dX7_parseTransition_69 uO27 rfl ?_
      refine ev_blk (B := [(.iload_n 2, 1), (.iload_n 3, 1), (.iload_n 1, 1), (.iload 4, 2), (.iload 5, 2)]) (pe := 79) (ls' := [some (.ref (o)), some (.int (nI a)), some (.int (nI st)), some (.int (nI (sv t n s 48 6))), some (.int (nI (sv t n s12 48 2))), some (.int (nI (sv t n s18 97 3)))]) (st' := [.int (nI (sv t n s18 97 3)), .int (nI (sv t n s12 48 2)), .int (nI a), .int (nI (sv t n s 48 6)), .int (nI st), .ref (o + 2)]) ⟨dX7_parseTransition_72, dX7_parseTransition_73, dX7_parseTransition_74, dX7_parseTransition_75, dX7_parseTransition_77, rfl⟩ rfl ?_
      have hM9 : RM M26 (o + 2) T := hM.fd fr27 (by omega) (by omega)
      have hto : trO ((st, sv t n s 48 6, a, sv t n s12 48 2, sv t n s18 97 3) : Tr) := ⟨hst, sv_lt (by decide), ha, sv_lt (by decide), sv_lt (by decide)⟩
      refine ev_cVn Y_X4_add L_RX7_100 dX7_parseTransition_79 ⟨Nat.le_of_ble_eq_true rfl, Nat.le_of_ble_eq_true rfl, Nat.le_of_ble_eq_true rfl, Nat.le_of_ble_eq_true rfl, Nat.le_of_ble_eq_true rfl⟩ hM9.obj (as := [.int (nI st), .int (nI (sv t n s 48 6)), .int (nI a), .int (nI (sv t n s12 48 2)), .int (nI (sv t n s18 97 3))]) rfl rfl (c_X4_add hl (o + 2) T hM9 hT10 ((st, sv t n s 48 6, a, sv t n s12 48 2, sv t n s18 97 3) : Tr) (nI (sv t n s12 48 2)) (nI (sv t n s18 97 3)) (fun z => (tp3 z).symm) (fun z => (tp4 z).symm) hto) (fun M29 hL29 hB29 => ?_)
      obtain ⟨hB1, hB2⟩ := hB29
      have hO9 := (hB2.2 o (by omega)).trans uO27
      have hT9 := (hB2.2 (o + 1) (by omega)).trans f28
      have hQ9 := (hQ.fd fr27 (by omega) (by omega)).fr hB2 (by omega)
      have hW9 := (hWk.fd fr27 (by omega) (by omega)).fr hB2 (by omega)
      refine ev_vret dX7_parseTransition_82 rfl ⟨Nat.le_of_ble_eq_true rfl, Nat.le_of_ble_eq_true rfl⟩ ?_
      have e8 : tl t n (some a) s = (sv t n s 48 6, sv t n s12 48 2, sv t n s18 97 3, s27) := by rw [es27, es24, es21, es18, es15, es12, es2]; exact if_neg (fun z => q16 (Option.some.inj z))
      rw [e8]
      refine ⟨rfl, hO9, ?_, hQ9, hW9, hT9, (fr27.fr (by omega) (by omega)).tr (hB2.to (by omega) (by omega))⟩
      rw [if_neg (show ¬ s27.2 = true by rw [q65]; decide)]
      exact hB1

set_option maxHeartbeats 4000000 in
set_option maxRecDepth 100000 in
theorem c_X7_trn {l : Launch} (hl : l.stackTraces = false) {M : ev_M} (o n : Nat) (s : Nat × Bool) (f : Int32) (t : Nat → Nat) (ht : tOk t) (hn : n ≤ 80) (hp : s.1 ≤ n) (hO : Ro M o n s f) (hT : Rr M o t) (T : List Tr) (G : List Cf) (hM : RM M (o + 2) T) (hQ : RQ M (o + 4) 8 G) (hT10 : T.length < 10) (hWk : RWk M (o + 8)) (st : Nat) (hst : st < 6) (hs2 : s.2 = true) : ev_Mt l m_X7_parseTransition [.ref (o), .int (oI (none)), .int (nI st)] M (fun r M1 => r = .inl none ∧ Ro M1 o n (tl t n (none) s).2.2.2 f ∧ (tl t n none s).2.2.2.2 = true ∧ RM M1 (o + 2) T ∧ RQ M1 (o + 4) 8 G ∧ RWk M1 (o + 8) ∧ Rr M1 o t ∧ Fr o (o + 9) M M1) := by
  have hFr0 : Fd o o M M := Fd.rf
  refine ev_body hl rfl (by decide +kernel) (Nat.le_of_ble_eq_true rfl) ?_
  show ev_ l m_X7_parseTransition 0 0 0 [some (.ref (o)), some (.int (oI (none))), some (.int (nI st)), none, none, none] [] M _
  refine ev_blk (B := [(.aload_n 0, 1), (.bipush 48, 2), (.bipush 6, 2)]) (pe := 5) (ls' := [some (.ref (o)), some (.int (oI (none))), some (.int (nI st)), none, none, none]) (st' := [.int (nI 6), .int (nI 48), .ref (o)]) ⟨dX7_parseTransition_0, dX7_parseTransition_1, dX7_parseTransition_3, rfl⟩ rfl ?_
  refine ev_cVw Y_X7_parseSymbol L_RX7_71 dX7_parseTransition_5 ⟨Nat.le_of_ble_eq_true rfl, Nat.le_of_ble_eq_true rfl, Nat.le_of_ble_eq_true rfl, Nat.le_of_ble_eq_true rfl, Nat.le_of_ble_eq_true rfl⟩ hO (as := [.int (nI 48), .int (nI 6)]) rfl rfl (c_X7_sym hl o n s f t hO hT ht hn hp 48 6 (by decide) (by decide)) (fun M1 hL1 hB1 => ?_)
  obtain ⟨uO2, uF2⟩ := hB1
  obtain ⟨s2, es2⟩ : ∃ z : Nat × Bool, z = ps t n s 48 6 := ⟨_, rfl⟩
  rw [← es2] at uO2
  have hp2 : s2.1 ≤ n := by rw [es2]; exact (ps_le hp).1
  have fr2 : Fd o o M M1 := hFr0.tr (Fd.of uF2 (Or.inl ⟨rfl, rfl⟩))
  have f3 : M1[o + 1]? = some (.inl (2, 80, .inl (fun i => nI (t i)))) := (uF2.2 (o + 1) (by omega)).trans hT
  refine ev_blk (B := [(.istore_n 3, 1), (.iconst 0, 1), (.istore 4, 2), (.iconst 0, 1), (.istore 5, 2), (.iload_n 1, 1)]) (pe := 16) (ls' := [some (.ref (o)), some (.int (oI (none))), some (.int (nI st)), some (.int (nI (sv t n s 48 6))), some (.int (nI 0)), some (.int (nI 0))]) (st' := [.int (oI (none))]) ⟨dX7_parseTransition_8, dX7_parseTransition_9, dX7_parseTransition_10, dX7_parseTransition_12, dX7_parseTransition_13, dX7_parseTransition_15, rfl⟩ rfl ?_
  refine ev_if_eq dX7_parseTransition_16 (tgt := 49) (by decide) (fun q16 => ?_) (fun q16 => ?_)
  · exact absurd q16 (by decide)
  · refine ev_blk (B := [(.aload_n 0, 1), (.bipush 44, 2)]) (pe := 22) (ls' := [some (.ref (o)), some (.int (oI (none))), some (.int (nI st)), some (.int (nI (sv t n s 48 6))), some (.int (nI 0)), some (.int (nI 0))]) (st' := [.int (nI 44), .ref (o)]) ⟨dX7_parseTransition_19, dX7_parseTransition_20, rfl⟩ rfl ?_
    refine ev_cVn Y_X7_expect L_RX7_67 dX7_parseTransition_22 ⟨Nat.le_of_ble_eq_true rfl, Nat.le_of_ble_eq_true rfl, Nat.le_of_ble_eq_true rfl, Nat.le_of_ble_eq_true rfl, Nat.le_of_ble_eq_true rfl⟩ uO2 (as := [.int (nI 44)]) rfl rfl (c_X7_expect hl o n s2 f t uO2 f3 ht hn hp2 44 (by decide)) (fun M4 hL4 hB4 => ?_)
    obtain ⟨uO5, uF5⟩ := hB4
    obtain ⟨s5, es5⟩ : ∃ z : Nat × Bool, z = ps t n s2 44 1 := ⟨_, rfl⟩
    rw [← es5] at uO5
    have hp5 : s5.1 ≤ n := by rw [es5]; exact (ps_le hp2).1
    have fr5 : Fd o o M M4 := fr2.tr (Fd.of uF5 (Or.inl ⟨rfl, rfl⟩))
    have f6 : M4[o + 1]? = some (.inl (2, 80, .inl (fun i => nI (t i)))) := (uF5.2 (o + 1) (by omega)).trans f3
    refine ev_blk (B := [(.aload_n 0, 1), (.bipush 48, 2), (.iconst 2, 1)]) (pe := 29) (ls' := [some (.ref (o)), some (.int (oI (none))), some (.int (nI st)), some (.int (nI (sv t n s 48 6))), some (.int (nI 0)), some (.int (nI 0))]) (st' := [.int (nI 2), .int (nI 48), .ref (o)]) ⟨dX7_parseTransition_25, dX7_parseTransition_26, dX7_parseTransition_28, rfl⟩ rfl ?_
    refine ev_cVw Y_X7_parseSymbol L_RX7_71 dX7_parseTransition_29 ⟨Nat.le_of_ble_eq_true rfl, Nat.le_of_ble_eq_true rfl, Nat.le_of_ble_eq_true rfl, Nat.le_of_ble_eq_true rfl, Nat.le_of_ble_eq_true rfl⟩ uO5 (as := [.int (nI 48), .int (nI 2)]) rfl rfl (c_X7_sym hl o n s5 f t uO5 f6 ht hn hp5 48 2 (by decide) (by decide)) (fun M7 hL7 hB7 => ?_)
    obtain ⟨uO8, uF8⟩ := hB7
    obtain ⟨s8, es8⟩ : ∃ z : Nat × Bool, z = ps t n s5 48 2 := ⟨_, rfl⟩
    rw [← es8] at uO8
    have hp8 : s8.1 ≤ n := by rw [es8]; exact (ps_le hp5).1
    have fr8 : Fd o o M M7 := fr5.tr (Fd.of uF8 (Or.inl ⟨rfl, rfl⟩))
    have f9 : M7[o + 1]? = some (.inl (2, 80, .inl (fun i => nI (t i)))) := (uF8.2 (o + 1) (by omega)).trans f6
    refine ev_blk (B := [(.istore 4, 2), (.aload_n 0, 1), (.bipush 44, 2)]) (pe := 37) (ls' := [some (.ref (o)), some (.int (oI (none))), some (.int (nI st)), some (.int (nI (sv t n s 48 6))), some (.int (nI (sv t n s5 48 2))), some (.int (nI 0))]) (st' := [.int (nI 44), .ref (o)]) ⟨dX7_parseTransition_32, dX7_parseTransition_34, dX7_parseTransition_35, rfl⟩ rfl ?_
    refine ev_cVn Y_X7_expect L_RX7_67 dX7_parseTransition_37 ⟨Nat.le_of_ble_eq_true rfl, Nat.le_of_ble_eq_true rfl, Nat.le_of_ble_eq_true rfl, Nat.le_of_ble_eq_true rfl, Nat.le_of_ble_eq_true rfl⟩ uO8 (as := [.int (nI 44)]) rfl rfl (c_X7_expect hl o n s8 f t uO8 f9 ht hn hp8 44 (by decide)) (fun M10 hL10 hB10 => ?_)
    obtain ⟨uO11, uF11⟩ := hB10
    obtain ⟨s11, es11⟩ : ∃ z : Nat × Bool, z = ps t n s8 44 1 := ⟨_, rfl⟩
    rw [← es11] at uO11
    have hp11 : s11.1 ≤ n := by rw [es11]; exact (ps_le hp8).1
    have fr11 : Fd o o M M10 := fr8.tr (Fd.of uF11 (Or.inl ⟨rfl, rfl⟩))
    have f12 : M10[o + 1]? = some (.inl (2, 80, .inl (fun i => nI (t i)))) := (uF11.2 (o + 1) (by omega)).trans f9
    refine ev_blk (B := [(.aload_n 0, 1), (.bipush 97, 2), (.iconst 3, 1)]) (pe := 44) (ls' := [some (.ref (o)), some (.int (oI (none))), some (.int (nI st)), some (.int (nI (sv t n s 48 6))), some (.int (nI (sv t n s5 48 2))), some (.int (nI 0))]) (st' := [.int (nI 3), .int (nI 97), .ref (o)]) ⟨dX7_parseTransition_40, dX7_parseTransition_41, dX7_parseTransition_43, rfl⟩ rfl ?_
    refine ev_cVw Y_X7_parseSymbol L_RX7_71 dX7_parseTransition_44 ⟨Nat.le_of_ble_eq_true rfl, Nat.le_of_ble_eq_true rfl, Nat.le_of_ble_eq_true rfl, Nat.le_of_ble_eq_true rfl, Nat.le_of_ble_eq_true rfl⟩ uO11 (as := [.int (nI 97), .int (nI 3)]) rfl rfl (c_X7_sym hl o n s11 f t uO11 f12 ht hn hp11 97 3 (by decide) (by decide)) (fun M13 hL13 hB13 => ?_)
    obtain ⟨uO14, uF14⟩ := hB13
    obtain ⟨s14, es14⟩ : ∃ z : Nat × Bool, z = ps t n s11 97 3 := ⟨_, rfl⟩
    rw [← es14] at uO14
    have hp14 : s14.1 ≤ n := by rw [es14]; exact (ps_le hp11).1
    have fr14 : Fd o o M M13 := fr11.tr (Fd.of uF14 (Or.inl ⟨rfl, rfl⟩))
    have f15 : M13[o + 1]? = some (.inl (2, 80, .inl (fun i => nI (t i)))) := (uF14.2 (o + 1) (by omega)).trans f12
    refine ev_blk (B := [(.istore 5, 2), (.aload_n 0, 1), (.bipush 41, 2)]) (pe := 52) (ls' := [some (.ref (o)), some (.int (oI (none))), some (.int (nI st)), some (.int (nI (sv t n s 48 6))), some (.int (nI (sv t n s5 48 2))), some (.int (nI (sv t n s11 97 3)))]) (st' := [.int (nI 41), .ref (o)]) ⟨dX7_parseTransition_47, dX7_parseTransition_49, dX7_parseTransition_50, rfl⟩ rfl ?_
    refine ev_cVn Y_X7_expect L_RX7_67 dX7_parseTransition_52 ⟨Nat.le_of_ble_eq_true rfl, Nat.le_of_ble_eq_true rfl, Nat.le_of_ble_eq_true rfl, Nat.le_of_ble_eq_true rfl, Nat.le_of_ble_eq_true rfl⟩ uO14 (as := [.int (nI 41)]) rfl rfl (c_X7_expect hl o n s14 f t uO14 f15 ht hn hp14 41 (by decide)) (fun M16 hL16 hB16 => ?_)
    obtain ⟨uO17, uF17⟩ := hB16
    obtain ⟨s17, es17⟩ : ∃ z : Nat × Bool, z = ps t n s14 41 1 := ⟨_, rfl⟩
    rw [← es17] at uO17
    have hp17 : s17.1 ≤ n := by rw [es17]; exact (ps_le hp14).1
    have fr17 : Fd o o M M16 := fr14.tr (Fd.of uF17 (Or.inl ⟨rfl, rfl⟩))
    have f18 : M16[o + 1]? = some (.inl (2, 80, .inl (fun i => nI (t i)))) := (uF17.2 (o + 1) (by omega)).trans f15
    refine ev_blk (B := [(.aload_n 0, 1), (.bipush 59, 2)]) (pe := 58) (ls' := [some (.ref (o)), some (.int (oI (none))), some (.int (nI st)), some (.int (nI (sv t n s 48 6))), some (.int (nI (sv t n s5 48 2))), some (.int (nI (sv t n s11 97 3)))]) (st' := [.int (nI 59), .ref (o)]) ⟨dX7_parseTransition_55, dX7_parseTransition_56, rfl⟩ rfl ?_
    refine ev_cVn Y_X7_expect L_RX7_67 dX7_parseTransition_58 ⟨Nat.le_of_ble_eq_true rfl, Nat.le_of_ble_eq_true rfl, Nat.le_of_ble_eq_true rfl, Nat.le_of_ble_eq_true rfl, Nat.le_of_ble_eq_true rfl⟩ uO17 (as := [.int (nI 59)]) rfl rfl (c_X7_expect hl o n s17 f t uO17 f18 ht hn hp17 59 (by decide)) (fun M19 hL19 hB19 => ?_)
    obtain ⟨uO20, uF20⟩ := hB19
    obtain ⟨s20, es20⟩ : ∃ z : Nat × Bool, z = ps t n s17 59 1 := ⟨_, rfl⟩
    rw [← es20] at uO20
    have hp20 : s20.1 ≤ n := by rw [es20]; exact (ps_le hp17).1
    have fr20 : Fd o o M M19 := fr17.tr (Fd.of uF20 (Or.inl ⟨rfl, rfl⟩))
    have f21 : M19[o + 1]? = some (.inl (2, 80, .inl (fun i => nI (t i)))) := (uF20.2 (o + 1) (by omega)).trans f18
    refine ev_blk (B := [(.aload_n 0, 1)]) (pe := 62) (ls' := [some (.ref (o)), some (.int (oI (none))), some (.int (nI st)), some (.int (nI (sv t n s 48 6))), some (.int (nI (sv t n s5 48 2))), some (.int (nI (sv t n s11 97 3)))]) (st' := [.ref (o)]) ⟨dX7_parseTransition_61, rfl⟩ rfl ?_
    refine ev_getf (v := .int (ev_b (s20.2))) F_RX7_45 dX7_parseTransition_62 uO20 rfl ?_
    refine ev_ifB_ne dX7_parseTransition_65 (tgt := 82) (by decide) (fun q65 => ?_) (fun q65 => ?_)
    · refine ev_vret dX7_parseTransition_82 rfl ⟨Nat.le_of_ble_eq_true rfl, Nat.le_of_ble_eq_true rfl⟩ ?_
      have e8 : tl t n (none) s = (sv t n s 48 6, sv t n s5 48 2, sv t n s11 97 3, s20) := by rw [es20, es17, es14, es11, es8, es5, es2]; exact if_neg (fun z => nomatch z)
      rw [e8]
      refine ⟨rfl, uO20, q65, hM.fd fr20 (by omega) (by omega), hQ.fd fr20 (by omega) (by omega), hWk.fd fr20 (by omega) (by omega), f21, fr20.fr (by omega) (by omega)⟩
    · have z9 : s.2 = false := (ps_ok (by rw [← es2]; exact (ps_ok (by rw [← es5]; exact (ps_ok (by rw [← es8]; exact (ps_ok (by rw [← es11]; exact (ps_ok (by rw [← es14]; exact (ps_ok (by rw [← es17]; exact (ps_ok (by rw [← es20]; exact q65)).1)).1)).1)).1)).1)).1)).1
      rw [hs2] at z9
      cases z9


set_option maxHeartbeats 4000000 in
set_option maxRecDepth 100000 in
theorem c_X7_command {l : Launch} (hl : l.stackTraces = false) {M : ev_M} (o n p : Nat) (f : Int32) (t : Nat → Nat) (ht : tOk t) (hn : n ≤ 80) (hp : p ≤ n) (hO : Ro M o n (p, false) f) (hT : Rr M o t) (T : List Tr) (G : List Cf) (hM : RM M (o + 2) T) (hQ : RQ M (o + 4) 8 G) (hc8 : T.length + G.length < 8) (hWk : RWk M (o + 8)) : ev_Mt l m_X7_parseCommand [.ref (o)] M (fun r M1 => r = .inl none ∧ Ro M1 o n (cm t n p).1 f ∧ RM M1 (o + 2) (cT (cm t n p).2 T) ∧ RQ M1 (o + 4) 8 (cG (cm t n p).2 G) ∧ RWk M1 (o + 8) ∧ Rr M1 o t ∧ Fr o (o + 9) M M1) := by
  have hFr0 : Fd o o M M := Fd.rf
  refine ev_body hl rfl (by decide +kernel) (Nat.le_of_ble_eq_true rfl) ?_
  show ev_ l m_X7_parseCommand 0 0 0 [some (.ref (o)), none, none] [] M _
  refine ev_blk (B := [(.aload_n 0, 1)]) (pe := 1) (ls' := [some (.ref (o)), none, none]) (st' := [.ref (o)]) ⟨dX7_parseCommand_0, rfl⟩ rfl ?_
  refine ev_cVw Y_X7_parseName L_RX7_63 dX7_parseCommand_1 ⟨Nat.le_of_ble_eq_true rfl, Nat.le_of_ble_eq_true rfl, Nat.le_of_ble_eq_true rfl, Nat.le_of_ble_eq_true rfl, Nat.le_of_ble_eq_true rfl⟩ hO (as := []) rfl rfl (c_X7_parseName hl o n p f t ht hn hp hO hT) (fun M1 hL1 hB1 => ?_)
  obtain ⟨uO2, uF2⟩ := hB1
  obtain ⟨s2, es2⟩ : ∃ z : Nat × Bool, z = ns t n p := ⟨_, rfl⟩
  rw [← es2] at uO2
  have hp2 : s2.1 ≤ n := by rw [es2]; exact (ns_le hp)
  have fr2 : Fd o o M M1 := hFr0.tr (Fd.of uF2 (Or.inl ⟨rfl, rfl⟩))
  have f3 : M1[o + 1]? = some (.inl (2, 80, .inl (fun i => nI (t i)))) := (uF2.2 (o + 1) (by omega)).trans hT
  rcases hk9 : nk t p (nd t n (n - p) p) with _ | a
  · have y6 : True := trivial
    refine ev_blk (B := [(.istore_n 1, 1), (.aload_n 0, 1), (.bipush 40, 2)]) (pe := 8) (ls' := [some (.ref (o)), some (.int (oI (none))), none]) (st' := [.int (nI 40), .ref (o)]) ⟨dX7_parseCommand_4, dX7_parseCommand_5, dX7_parseCommand_6, rfl⟩ rfl ?_
    refine ev_cVn Y_X7_expect L_RX7_67 dX7_parseCommand_8 ⟨Nat.le_of_ble_eq_true rfl, Nat.le_of_ble_eq_true rfl, Nat.le_of_ble_eq_true rfl, Nat.le_of_ble_eq_true rfl, Nat.le_of_ble_eq_true rfl⟩ uO2 (as := [.int (nI 40)]) rfl rfl (c_X7_expect hl o n s2 f t uO2 f3 ht hn hp2 40 (by decide)) (fun M4 hL4 hB4 => ?_)
    obtain ⟨uO5, uF5⟩ := hB4
    obtain ⟨s5, es5⟩ : ∃ z : Nat × Bool, z = ps t n s2 40 1 := ⟨_, rfl⟩
    rw [← es5] at uO5
    have hp5 : s5.1 ≤ n := by rw [es5]; exact (ps_le hp2).1
    have fr5 : Fd o o M M4 := fr2.tr (Fd.of uF5 (Or.inl ⟨rfl, rfl⟩))
    have f6 : M4[o + 1]? = some (.inl (2, 80, .inl (fun i => nI (t i)))) := (uF5.2 (o + 1) (by omega)).trans f3
    refine ev_blk (B := [(.aload_n 0, 1), (.bipush 48, 2), (.bipush 6, 2)]) (pe := 16) (ls' := [some (.ref (o)), some (.int (oI (none))), none]) (st' := [.int (nI 6), .int (nI 48), .ref (o)]) ⟨dX7_parseCommand_11, dX7_parseCommand_12, dX7_parseCommand_14, rfl⟩ rfl ?_
    refine ev_cVw Y_X7_parseSymbol L_RX7_71 dX7_parseCommand_16 ⟨Nat.le_of_ble_eq_true rfl, Nat.le_of_ble_eq_true rfl, Nat.le_of_ble_eq_true rfl, Nat.le_of_ble_eq_true rfl, Nat.le_of_ble_eq_true rfl⟩ uO5 (as := [.int (nI 48), .int (nI 6)]) rfl rfl (c_X7_sym hl o n s5 f t uO5 f6 ht hn hp5 48 6 (by decide) (by decide)) (fun M7 hL7 hB7 => ?_)
    obtain ⟨uO8, uF8⟩ := hB7
    obtain ⟨s8, es8⟩ : ∃ z : Nat × Bool, z = ps t n s5 48 6 := ⟨_, rfl⟩
    rw [← es8] at uO8
    have hp8 : s8.1 ≤ n := by rw [es8]; exact (ps_le hp5).1
    have fr8 : Fd o o M M7 := fr5.tr (Fd.of uF8 (Or.inl ⟨rfl, rfl⟩))
    have f9 : M7[o + 1]? = some (.inl (2, 80, .inl (fun i => nI (t i)))) := (uF8.2 (o + 1) (by omega)).trans f6
    refine ev_blk (B := [(.istore_n 2, 1), (.aload_n 0, 1), (.bipush 44, 2)]) (pe := 23) (ls' := [some (.ref (o)), some (.int (oI (none))), some (.int (nI (sv t n s5 48 6)))]) (st' := [.int (nI 44), .ref (o)]) ⟨dX7_parseCommand_19, dX7_parseCommand_20, dX7_parseCommand_21, rfl⟩ rfl ?_
    refine ev_cVn Y_X7_expect L_RX7_67 dX7_parseCommand_23 ⟨Nat.le_of_ble_eq_true rfl, Nat.le_of_ble_eq_true rfl, Nat.le_of_ble_eq_true rfl, Nat.le_of_ble_eq_true rfl, Nat.le_of_ble_eq_true rfl⟩ uO8 (as := [.int (nI 44)]) rfl rfl (c_X7_expect hl o n s8 f t uO8 f9 ht hn hp8 44 (by decide)) (fun M10 hL10 hB10 => ?_)
    obtain ⟨uO11, uF11⟩ := hB10
    obtain ⟨s11, es11⟩ : ∃ z : Nat × Bool, z = ps t n s8 44 1 := ⟨_, rfl⟩
    rw [← es11] at uO11
    have hp11 : s11.1 ≤ n := by rw [es11]; exact (ps_le hp8).1
    have fr11 : Fd o o M M10 := fr8.tr (Fd.of uF11 (Or.inl ⟨rfl, rfl⟩))
    have f12 : M10[o + 1]? = some (.inl (2, 80, .inl (fun i => nI (t i)))) := (uF11.2 (o + 1) (by omega)).trans f9
    refine ev_blk (B := [(.iload_n 1, 1), (.iconst 3, 1)]) (pe := 28) (ls' := [some (.ref (o)), some (.int (oI (none))), some (.int (nI (sv t n s5 48 6)))]) (st' := [.int (nI 3), .int (oI (none))]) ⟨dX7_parseCommand_26, dX7_parseCommand_27, rfl⟩ rfl ?_
    refine ev_ic_ne dX7_parseCommand_28 (tgt := 39) (by decide) (fun q28 => ?_) (fun q28 => ?_)
    · refine ev_blk (B := [(.aload_n 0, 1), (.iload_n 1, 1), (.iload_n 2, 1)]) (pe := 42) (ls' := [some (.ref (o)), some (.int (oI (none))), some (.int (nI (sv t n s5 48 6)))]) (st' := [.int (nI (sv t n s5 48 6)), .int (oI (none)), .ref (o)]) ⟨dX7_parseCommand_39, dX7_parseCommand_40, dX7_parseCommand_41, rfl⟩ rfl ?_
      have hM9 := hM.fd fr11 (by omega) (by omega)
      have hQ9 := hQ.fd fr11 (by omega) (by omega)
      have hW9 := hWk.fd fr11 (by omega) (by omega)
      have hs2 : s11.2 = true := by
        cases z8 : s11.2 with
        | true => rfl
        | false =>
          obtain ⟨k9, hk8, -⟩ := ns_ok (t := t) (n := n) (p := p) (by rw [← es2]; exact (ps_ok (by rw [← es5]; exact (ps_ok (by rw [← es8]; exact (ps_ok (by rw [← es11]; exact z8)).1)).1)).1)
          rw [hk9] at hk8; cases hk8
      refine ev_cVn Y_X7_parseTransition L_RX7_78 dX7_parseCommand_42 ⟨Nat.le_of_ble_eq_true rfl, Nat.le_of_ble_eq_true rfl, Nat.le_of_ble_eq_true rfl, Nat.le_of_ble_eq_true rfl, Nat.le_of_ble_eq_true rfl⟩ uO11 (as := [.int (oI (none)), .int (nI (sv t n s5 48 6))]) rfl rfl (c_X7_trn hl o n s11 f t ht hn hp11 uO11 f12 T G hM9 hQ9 (by omega) hW9 (sv t n s5 48 6) (sv_lt (by decide)) hs2) (fun M13 hL13 hB13 => ?_)
      obtain ⟨hO9, hz9, hM8, hQ8, hW8, hT8, hF8⟩ := hB13
      refine ev_vret dX7_parseCommand_45 rfl ⟨Nat.le_of_ble_eq_true rfl, Nat.le_of_ble_eq_true rfl⟩ ?_
      have e9 : cm t n p = ((cmT t n p).2.2.2, if (cmT t n p).2.2.2.2 = true then none else some (.inl (cmA t n p, (cmT t n p).1, (nk t p (nd t n (n - p) p)).getD 0, (cmT t n p).2.1, (cmT t n p).2.2.1))) := if_neg (show ¬ nk t p (nd t n (n - p) p) = some 3 by rw [hk9]; exact fun z => nomatch z)
      have e8 : cmT t n p = tl t n (none) s11 := by rw [es11, es8, es5, es2, ← hk9]; rfl
      have e7 : cmA t n p = sv t n s5 48 6 := by rw [es5, es2]; rfl
      rw [e9, e8, e7]
      exact ⟨rfl, hO9, by rw [if_pos hz9]; exact hM8, by rw [cG_inl]; exact hQ8, hW8, hT8, (fr11.fr (by omega) (by omega)).tr hF8⟩
    · exact absurd q28 (by decide)
  · have ha9 := (nk_lt hk9).1
    refine ev_blk (B := [(.istore_n 1, 1), (.aload_n 0, 1), (.bipush 40, 2)]) (pe := 8) (ls' := [some (.ref (o)), some (.int (oI (some a))), none]) (st' := [.int (nI 40), .ref (o)]) ⟨dX7_parseCommand_4, dX7_parseCommand_5, dX7_parseCommand_6, rfl⟩ rfl ?_
    refine ev_cVn Y_X7_expect L_RX7_67 dX7_parseCommand_8 ⟨Nat.le_of_ble_eq_true rfl, Nat.le_of_ble_eq_true rfl, Nat.le_of_ble_eq_true rfl, Nat.le_of_ble_eq_true rfl, Nat.le_of_ble_eq_true rfl⟩ uO2 (as := [.int (nI 40)]) rfl rfl (c_X7_expect hl o n s2 f t uO2 f3 ht hn hp2 40 (by decide)) (fun M14 hL14 hB14 => ?_)
    obtain ⟨uO15, uF15⟩ := hB14
    obtain ⟨s15, es15⟩ : ∃ z : Nat × Bool, z = ps t n s2 40 1 := ⟨_, rfl⟩
    rw [← es15] at uO15
    have hp15 : s15.1 ≤ n := by rw [es15]; exact (ps_le hp2).1
    have fr15 : Fd o o M M14 := fr2.tr (Fd.of uF15 (Or.inl ⟨rfl, rfl⟩))
    have f16 : M14[o + 1]? = some (.inl (2, 80, .inl (fun i => nI (t i)))) := (uF15.2 (o + 1) (by omega)).trans f3
    refine ev_blk (B := [(.aload_n 0, 1), (.bipush 48, 2), (.bipush 6, 2)]) (pe := 16) (ls' := [some (.ref (o)), some (.int (oI (some a))), none]) (st' := [.int (nI 6), .int (nI 48), .ref (o)]) ⟨dX7_parseCommand_11, dX7_parseCommand_12, dX7_parseCommand_14, rfl⟩ rfl ?_
    refine ev_cVw Y_X7_parseSymbol L_RX7_71 dX7_parseCommand_16 ⟨Nat.le_of_ble_eq_true rfl, Nat.le_of_ble_eq_true rfl, Nat.le_of_ble_eq_true rfl, Nat.le_of_ble_eq_true rfl, Nat.le_of_ble_eq_true rfl⟩ uO15 (as := [.int (nI 48), .int (nI 6)]) rfl rfl (c_X7_sym hl o n s15 f t uO15 f16 ht hn hp15 48 6 (by decide) (by decide)) (fun M17 hL17 hB17 => ?_)
    obtain ⟨uO18, uF18⟩ := hB17
    obtain ⟨s18, es18⟩ : ∃ z : Nat × Bool, z = ps t n s15 48 6 := ⟨_, rfl⟩
    rw [← es18] at uO18
    have hp18 : s18.1 ≤ n := by rw [es18]; exact (ps_le hp15).1
    have fr18 : Fd o o M M17 := fr15.tr (Fd.of uF18 (Or.inl ⟨rfl, rfl⟩))
    have f19 : M17[o + 1]? = some (.inl (2, 80, .inl (fun i => nI (t i)))) := (uF18.2 (o + 1) (by omega)).trans f16
    refine ev_blk (B := [(.istore_n 2, 1), (.aload_n 0, 1), (.bipush 44, 2)]) (pe := 23) (ls' := [some (.ref (o)), some (.int (oI (some a))), some (.int (nI (sv t n s15 48 6)))]) (st' := [.int (nI 44), .ref (o)]) ⟨dX7_parseCommand_19, dX7_parseCommand_20, dX7_parseCommand_21, rfl⟩ rfl ?_
    refine ev_cVn Y_X7_expect L_RX7_67 dX7_parseCommand_23 ⟨Nat.le_of_ble_eq_true rfl, Nat.le_of_ble_eq_true rfl, Nat.le_of_ble_eq_true rfl, Nat.le_of_ble_eq_true rfl, Nat.le_of_ble_eq_true rfl⟩ uO18 (as := [.int (nI 44)]) rfl rfl (c_X7_expect hl o n s18 f t uO18 f19 ht hn hp18 44 (by decide)) (fun M20 hL20 hB20 => ?_)
    obtain ⟨uO21, uF21⟩ := hB20
    obtain ⟨s21, es21⟩ : ∃ z : Nat × Bool, z = ps t n s18 44 1 := ⟨_, rfl⟩
    rw [← es21] at uO21
    have hp21 : s21.1 ≤ n := by rw [es21]; exact (ps_le hp18).1
    have fr21 : Fd o o M M20 := fr18.tr (Fd.of uF21 (Or.inl ⟨rfl, rfl⟩))
    have f22 : M20[o + 1]? = some (.inl (2, 80, .inl (fun i => nI (t i)))) := (uF21.2 (o + 1) (by omega)).trans f19
    refine ev_blk (B := [(.iload_n 1, 1), (.iconst 3, 1)]) (pe := 28) (ls' := [some (.ref (o)), some (.int (oI (some a))), some (.int (nI (sv t n s15 48 6)))]) (st' := [.int (nI 3), .int (oI (some a))]) ⟨dX7_parseCommand_26, dX7_parseCommand_27, rfl⟩ rfl ?_
    refine ev_ic_ne dX7_parseCommand_28 (tgt := 39) (by decide) (fun q28 => ?_) (fun q28 => ?_)
    · have q28n : ¬ a = 3 := fun z => q28 (by rw [z]; rfl)
      refine ev_blk (B := [(.aload_n 0, 1), (.iload_n 1, 1), (.iload_n 2, 1)]) (pe := 42) (ls' := [some (.ref (o)), some (.int (oI (some a))), some (.int (nI (sv t n s15 48 6)))]) (st' := [.int (nI (sv t n s15 48 6)), .int (oI (some a)), .ref (o)]) ⟨dX7_parseCommand_39, dX7_parseCommand_40, dX7_parseCommand_41, rfl⟩ rfl ?_
      have hM9 := hM.fd fr21 (by omega) (by omega)
      have hQ9 := hQ.fd fr21 (by omega) (by omega)
      have hW9 := hWk.fd fr21 (by omega) (by omega)
      refine ev_cVn Y_X7_parseTransition L_RX7_78 dX7_parseCommand_42 ⟨Nat.le_of_ble_eq_true rfl, Nat.le_of_ble_eq_true rfl, Nat.le_of_ble_eq_true rfl, Nat.le_of_ble_eq_true rfl, Nat.le_of_ble_eq_true rfl⟩ uO21 (as := [.int (oI (some a)), .int (nI (sv t n s15 48 6))]) rfl rfl (c_X7_tra hl o n s21 f t ht hn hp21 uO21 f22 T G hM9 hQ9 (by omega) hW9 (sv t n s15 48 6) (sv_lt (by decide)) a (by omega)) (fun M23 hL23 hB23 => ?_)
      obtain ⟨hO9, hM8, hQ8, hW8, hT8, hF8⟩ := hB23
      refine ev_vret dX7_parseCommand_45 rfl ⟨Nat.le_of_ble_eq_true rfl, Nat.le_of_ble_eq_true rfl⟩ ?_
      have e9 : cm t n p = ((cmT t n p).2.2.2, if (cmT t n p).2.2.2.2 = true then none else some (.inl (cmA t n p, (cmT t n p).1, (nk t p (nd t n (n - p) p)).getD 0, (cmT t n p).2.1, (cmT t n p).2.2.1))) := if_neg (show ¬ nk t p (nd t n (n - p) p) = some 3 by rw [hk9]; exact fun z => q28n (Option.some.inj z))
      have e8 : cmT t n p = tl t n (some a) s21 := by rw [es21, es18, es15, es2, ← hk9]; rfl
      have e7 : cmA t n p = sv t n s15 48 6 := by rw [es15, es2]; rfl
      rw [e9, e8, e7]
      exact ⟨rfl, hO9, by rw [cT_inl, hk9]; exact hM8, by rw [cG_inl]; exact hQ8, hW8, hT8, (fr21.fr (by omega) (by omega)).tr hF8⟩
    · have q28e : a = 3 := (nI_eq (by omega) (by decide)).mp q28
      refine ev_blk (B := [(.aload_n 0, 1), (.iload_n 2, 1)]) (pe := 33) (ls' := [some (.ref (o)), some (.int (oI (some a))), some (.int (nI (sv t n s15 48 6)))]) (st' := [.int (nI (sv t n s15 48 6)), .ref (o)]) ⟨dX7_parseCommand_31, dX7_parseCommand_32, rfl⟩ rfl ?_
      have hM9 := hM.fd fr21 (by omega) (by omega)
      have hQ9 := hQ.fd fr21 (by omega) (by omega)
      have hW9 := hWk.fd fr21 (by omega) (by omega)
      refine ev_cVn Y_X7_parseGoal L_RX7_75 dX7_parseCommand_33 ⟨Nat.le_of_ble_eq_true rfl, Nat.le_of_ble_eq_true rfl, Nat.le_of_ble_eq_true rfl, Nat.le_of_ble_eq_true rfl, Nat.le_of_ble_eq_true rfl⟩ uO21 (as := [.int (nI (sv t n s15 48 6))]) rfl rfl (c_X7_parseGoal hl o n s21 f t ht hn hp21 uO21 f22 T G hM9 hQ9 (by omega) hW9 (sv t n s15 48 6) (sv_lt (by decide))) (fun M24 hL24 hB24 => ?_)
      obtain ⟨hO9, hQ8, hW8, hT8, hM8, hF8⟩ := hB24
      refine ev_goto (tgt := 45) dX7_parseCommand_36 (by decide) ?_
      refine ev_vret dX7_parseCommand_45 rfl ⟨Nat.le_of_ble_eq_true rfl, Nat.le_of_ble_eq_true rfl⟩ ?_
      have e9 : cm t n p = ((cmG t n p).2.2, if (cmG t n p).2.2.2 = true then none else some (.inr (cmA t n p, (cmG t n p).1, (cmG t n p).2.1))) := if_pos (show nk t p (nd t n (n - p) p) = some 3 by rw [hk9, q28e])
      have e8 : cmG t n p = gl t n s21 := by rw [es21, es18, es15, es2]; rfl
      have e7 : cmA t n p = sv t n s15 48 6 := by rw [es15, es2]; rfl
      rw [e9, e8, e7]
      exact ⟨rfl, hO9, by rw [cT_inr]; exact hM8, by rw [cG_inr]; exact hQ8, hW8, hT8, (fr21.fr (by omega) (by omega)).tr hF8⟩

set_option maxHeartbeats 4000000 in
set_option maxRecDepth 100000 in
theorem c_X7_parse_l {l : Launch} (hl : l.stackTraces = false)  (o n : Nat) (f : Int32) (t : Nat → Nat) (ht : tOk t) (hn : n ≤ 80) (M0 : ev_M) : ∀ (n9 : Nat) (k0 : Nat) (p : Nat) (c : Nat) (T : List Tr) (G : List Cf) (M : ev_M), p ≤ n → n - p < k0 → (p < n ∨ p = 0) → 10 * (T.length + G.length) ≤ p → 10 * c ≤ p → pl t n k0 p T G c = (pl t n 81 0 [] [] 0) → Ro M o n (p, false) f → Rr M o t → RM M (o + 2) T → RQ M (o + 4) 8 G → RWk M (o + 8) → Fr o (o + 9) M0 M → n - p < n9 → ev_ l m_X7_parse 0 0 26 [some (.ref (o)), some (.int (nI c))] [] M (fun r M1 => r = .inl (some (.int (nI (pl t n 81 0 [] [] 0).2.2.1))) ∧ Ro M1 o 0 (pl t n 81 0 [] [] 0).2.2.2 (if (pl t n 81 0 [] [] 0).2.2.2.2 = true then nI (pl t n 81 0 [] [] 0).2.2.2.1 else -1) ∧ RM M1 (o + 2) (pl t n 81 0 [] [] 0).1 ∧ RQ M1 (o + 4) 8 (pl t n 81 0 [] [] 0).2.1 ∧ RWk M1 (o + 8) ∧ Rr M1 o t ∧ Fr o (o + 9) M0 M1) := by
  intro n9
  induction n9 with
  | zero => intro k0 p c T G M hp hk hpp hTG hcp hpl hO hT hM hQ hWk hFr hm9; exact absurd hm9 (by omega)
  | succ n9 ih =>
    intro k0 p c T G M hp hk hpp hTG hcp hpl hO hT hM hQ hWk hFr hm9
    have hc8 : T.length + G.length < 8 := by omega
    obtain ⟨k, rfl⟩ : ∃ k1, k0 = k1 + 1 := ⟨k0 - 1, by omega⟩
    refine ev_blk (B := [(.aload_n 0, 1)]) (pe := 27) (ls' := [some (.ref (o)), some (.int (nI c))]) (st' := [.ref (o)]) ⟨dX7_parse_26, rfl⟩ rfl ?_
    refine ev_cVn Y_X7_parseCommand L_RX7_60 dX7_parse_27 ⟨Nat.le_of_ble_eq_true rfl, Nat.le_of_ble_eq_true rfl, Nat.le_of_ble_eq_true rfl, Nat.le_of_ble_eq_true rfl, Nat.le_of_ble_eq_true rfl⟩ hO (as := []) rfl rfl (c_X7_command hl o n p f t ht hn hp hO hT T G hM hQ hc8 hWk) (fun M1 hL1 hB1 => ?_)
    obtain ⟨hO1, hM1, hQ1, hW1, hT1, hF1⟩ := hB1
    obtain ⟨⟨p1, b1⟩, ec⟩ : ∃ z : Nat × Bool, z = (cm t n p).1 := ⟨_, rfl⟩
    rw [← ec] at hO1
    have hadv := cm_adv (t := t) hp
    have hle := cm_le (t := t) hp
    rw [← ec] at hadv hle
    have hlen := cT_len (r := (cm t n p).2) (T := T) (G := G)
    have hadv2 : b1 = false → p + 10 ≤ p1 := hadv
    have hle2 : p1 ≤ n := hle
    refine ev_blk (B := [(.iinc 1 1, 3), (.aload_n 0, 1)]) (pe := 34) (ls' := [some (.ref (o)), some (.int (nI (c + 1)))]) (st' := [.ref (o)]) ⟨dX7_parse_30, dX7_parse_33, rfl⟩ (by show some (([some (.ref (o)), some (.int ((nI c) + Int32.ofInt (1)))] : ev_L), ([.ref (o)] : List Value)) = _; rw [ev_inc1 c]) ?_
    refine ev_getf (v := .int (ev_b (b1))) F_RX7_45 dX7_parse_34 hO1 rfl ?_
    refine ev_ifB_ne dX7_parse_37 (tgt := 57) (by decide) (fun q37 => ?_) (fun q37 => ?_)
    · have e5 : pl t n (k + 1) p T G c = (cT (cm t n p).2 T, cG (cm t n p).2 G, c + 1, p1, b1) := by
        show (bif (!(cm t n p).1.2 && decide ((cm t n p).1.1 < n)) then pl t n k (cm t n p).1.1 (cT (cm t n p).2 T) (cG (cm t n p).2 G) (c + 1) else (cT (cm t n p).2 T, cG (cm t n p).2 G, c + 1, (cm t n p).1.1, (cm t n p).1.2)) = _
        rw [← ec]
        exact if_neg_b (by rw [q37]; rfl)
      rw [e5] at hpl
      refine ev_blk (B := [(.aload_n 0, 1), (.aload_n 0, 1)]) (pe := 59) (ls' := [some (.ref (o)), some (.int (nI (c + 1)))]) (st' := [.ref (o), .ref (o)]) ⟨dX7_parse_57, dX7_parse_58, rfl⟩ rfl ?_
      refine ev_getf (v := .int (ev_b (b1))) F_RX7_45 dX7_parse_59 hO1 rfl ?_
      refine ev_ifB_eq dX7_parse_62 (tgt := 72) (by decide) (fun q62 => ?_) (fun q62 => ?_)
      · refine ev_blk (B := [(.iconst (-1), 1)]) (pe := 73) (ls' := [some (.ref (o)), some (.int (nI (c + 1)))]) (st' := [.int ((-1)), .ref (o)]) ⟨dX7_parse_72, rfl⟩ rfl ?_
        refine ev_put F_RX7_49 dX7_parse_73 hO1 (Nat.le_of_ble_eq_true rfl) (fun _ _ => ⟨rfl, rfl⟩) ?_
        refine ev_nm (M0 := M1.set (o) (.inr (7, [.ref (o + 1), .ref (o + 2), .ref (o + 4), .ref (o + 8), .int (nI n), .int (nI p1), .int (ev_b (b1)), .int ((-1))]))) (fun M2 eM2 => ?_)
        have f3 : M2[o]? = some (.inr (7, [.ref (o + 1), .ref (o + 2), .ref (o + 4), .ref (o + 8), .int (nI n), .int (nI p1), .int (ev_b (b1)), .int ((-1))])) := by rw [eM2]; exact ev_sg hO1
        refine ev_blk (B := [(.aload_n 0, 1), (.iconst 0, 1)]) (pe := 78) (ls' := [some (.ref (o)), some (.int (nI (c + 1)))]) (st' := [.int (nI 0), .ref (o)]) ⟨dX7_parse_76, dX7_parse_77, rfl⟩ rfl ?_
        refine ev_put F_RX7_38 dX7_parse_78 f3 (Nat.le_of_ble_eq_true rfl) (fun _ _ => ⟨rfl, rfl⟩) ?_
        refine ev_nm (M0 := M2.set (o) (.inr (7, [.ref (o + 1), .ref (o + 2), .ref (o + 4), .ref (o + 8), .int (nI 0), .int (nI p1), .int (ev_b (b1)), .int ((-1))]))) (fun M4 eM4 => ?_)
        have f5 : M4[o]? = some (.inr (7, [.ref (o + 1), .ref (o + 2), .ref (o + 4), .ref (o + 8), .int (nI 0), .int (nI p1), .int (ev_b (b1)), .int ((-1))])) := by rw [eM4]; exact ev_sg f3
        refine ev_blk (B := [(.iload_n 1, 1)]) (pe := 82) (ls' := [some (.ref (o)), some (.int (nI (c + 1)))]) (st' := [.int (nI (c + 1))]) ⟨dX7_parse_81, rfl⟩ rfl ?_
        refine ev_iret dX7_parse_82 rfl (rfl) ⟨Nat.le_of_ble_eq_true rfl, Nat.le_of_ble_eq_true rfl⟩ ?_
        have hE1 : Fr o (o + 1) M1 M4 := ⟨by rw [eM4, eM2]; simp only [List.length_set], fun j hj => by rw [eM4, ev_sn (by omega), eM2, ev_sn (by omega)]⟩
        rw [← hpl]
        refine ⟨rfl, ?_, hM1.fr hE1 (by omega), hQ1.fr hE1 (by omega), RWk.fr hW1 hE1 (by omega), hT1.fr hE1 (by omega), (hFr.tr hF1).tr (hE1.to (by omega) (by omega))⟩
        show Ro _ o 0 (p1, b1) (if b1 = true then nI p1 else -1)
        rw [if_neg (show ¬ b1 = true by rw [q62]; decide)]
        exact f5
      · refine ev_blk (B := [(.aload_n 0, 1)]) (pe := 66) (ls' := [some (.ref (o)), some (.int (nI (c + 1)))]) (st' := [.ref (o), .ref (o)]) ⟨dX7_parse_65, rfl⟩ rfl ?_
        refine ev_getf (v := .int (nI p1)) F_RX7_42 dX7_parse_66 hO1 rfl ?_
        refine ev_goto (tgt := 73) dX7_parse_69 (by decide) ?_
        refine ev_put F_RX7_49 dX7_parse_73 hO1 (Nat.le_of_ble_eq_true rfl) (fun _ _ => ⟨rfl, rfl⟩) ?_
        refine ev_nm (M0 := M1.set (o) (.inr (7, [.ref (o + 1), .ref (o + 2), .ref (o + 4), .ref (o + 8), .int (nI n), .int (nI p1), .int (ev_b (b1)), .int (nI p1)]))) (fun M6 eM6 => ?_)
        have f7 : M6[o]? = some (.inr (7, [.ref (o + 1), .ref (o + 2), .ref (o + 4), .ref (o + 8), .int (nI n), .int (nI p1), .int (ev_b (b1)), .int (nI p1)])) := by rw [eM6]; exact ev_sg hO1
        refine ev_blk (B := [(.aload_n 0, 1), (.iconst 0, 1)]) (pe := 78) (ls' := [some (.ref (o)), some (.int (nI (c + 1)))]) (st' := [.int (nI 0), .ref (o)]) ⟨dX7_parse_76, dX7_parse_77, rfl⟩ rfl ?_
        refine ev_put F_RX7_38 dX7_parse_78 f7 (Nat.le_of_ble_eq_true rfl) (fun _ _ => ⟨rfl, rfl⟩) ?_
        refine ev_nm (M0 := M6.set (o) (.inr (7, [.ref (o + 1), .ref (o + 2), .ref (o + 4), .ref (o + 8), .int (nI 0), .int (nI p1), .int (ev_b (b1)), .int (nI p1)]))) (fun M8 eM8 => ?_)
        have f9 : M8[o]? = some (.inr (7, [.ref (o + 1), .ref (o + 2), .ref (o + 4), .ref (o + 8), .int (nI 0), .int (nI p1), .int (ev_b (b1)), .int (nI p1)])) := by rw [eM8]; exact ev_sg f7
        refine ev_blk (B := [(.iload_n 1, 1)]) (pe := 82) (ls' := [some (.ref (o)), some (.int (nI (c + 1)))]) (st' := [.int (nI (c + 1))]) ⟨dX7_parse_81, rfl⟩ rfl ?_
        refine ev_iret dX7_parse_82 rfl (rfl) ⟨Nat.le_of_ble_eq_true rfl, Nat.le_of_ble_eq_true rfl⟩ ?_
        have hE1 : Fr o (o + 1) M1 M8 := ⟨by rw [eM8, eM6]; simp only [List.length_set], fun j hj => by rw [eM8, ev_sn (by omega), eM6, ev_sn (by omega)]⟩
        rw [← hpl]
        refine ⟨rfl, ?_, hM1.fr hE1 (by omega), hQ1.fr hE1 (by omega), RWk.fr hW1 hE1 (by omega), hT1.fr hE1 (by omega), (hFr.tr hF1).tr (hE1.to (by omega) (by omega))⟩
        show Ro _ o 0 (p1, b1) (if b1 = true then nI p1 else -1)
        rw [if_pos q62]
        exact f9
    · refine ev_blk (B := [(.aload_n 0, 1)]) (pe := 41) (ls' := [some (.ref (o)), some (.int (nI (c + 1)))]) (st' := [.ref (o)]) ⟨dX7_parse_40, rfl⟩ rfl ?_
      refine ev_getf (v := .int (nI p1)) F_RX7_42 dX7_parse_41 hO1 rfl ?_
      refine ev_blk (B := [(.aload_n 0, 1)]) (pe := 45) (ls' := [some (.ref (o)), some (.int (nI (c + 1)))]) (st' := [.ref (o), .int (nI p1)]) ⟨dX7_parse_44, rfl⟩ rfl ?_
      refine ev_getf (v := .int (nI n)) F_RX7_38 dX7_parse_45 hO1 rfl ?_
      refine ev_iN_ge dX7_parse_48 (tgt := 57) (by decide) (by omega) (by omega) (fun q48 => ?_) (fun q48 => ?_)
      · have e5 : pl t n (k + 1) p T G c = (cT (cm t n p).2 T, cG (cm t n p).2 G, c + 1, p1, b1) := by
          show (bif (!(cm t n p).1.2 && decide ((cm t n p).1.1 < n)) then pl t n k (cm t n p).1.1 (cT (cm t n p).2 T) (cG (cm t n p).2 G) (c + 1) else (cT (cm t n p).2 T, cG (cm t n p).2 G, c + 1, (cm t n p).1.1, (cm t n p).1.2)) = _
          rw [← ec]
          exact if_neg_b (by rw [q37, decide_eq_false (show ¬ p1 < n by omega)]; rfl)
        rw [e5] at hpl
        refine ev_blk (B := [(.aload_n 0, 1), (.aload_n 0, 1)]) (pe := 59) (ls' := [some (.ref (o)), some (.int (nI (c + 1)))]) (st' := [.ref (o), .ref (o)]) ⟨dX7_parse_57, dX7_parse_58, rfl⟩ rfl ?_
        refine ev_getf (v := .int (ev_b (b1))) F_RX7_45 dX7_parse_59 hO1 rfl ?_
        refine ev_ifB_eq dX7_parse_62 (tgt := 72) (by decide) (fun q62 => ?_) (fun q62 => ?_)
        · refine ev_blk (B := [(.iconst (-1), 1)]) (pe := 73) (ls' := [some (.ref (o)), some (.int (nI (c + 1)))]) (st' := [.int ((-1)), .ref (o)]) ⟨dX7_parse_72, rfl⟩ rfl ?_
          refine ev_put F_RX7_49 dX7_parse_73 hO1 (Nat.le_of_ble_eq_true rfl) (fun _ _ => ⟨rfl, rfl⟩) ?_
          refine ev_nm (M0 := M1.set (o) (.inr (7, [.ref (o + 1), .ref (o + 2), .ref (o + 4), .ref (o + 8), .int (nI n), .int (nI p1), .int (ev_b (b1)), .int ((-1))]))) (fun M10 eM10 => ?_)
          have f11 : M10[o]? = some (.inr (7, [.ref (o + 1), .ref (o + 2), .ref (o + 4), .ref (o + 8), .int (nI n), .int (nI p1), .int (ev_b (b1)), .int ((-1))])) := by rw [eM10]; exact ev_sg hO1
          refine ev_blk (B := [(.aload_n 0, 1), (.iconst 0, 1)]) (pe := 78) (ls' := [some (.ref (o)), some (.int (nI (c + 1)))]) (st' := [.int (nI 0), .ref (o)]) ⟨dX7_parse_76, dX7_parse_77, rfl⟩ rfl ?_
          refine ev_put F_RX7_38 dX7_parse_78 f11 (Nat.le_of_ble_eq_true rfl) (fun _ _ => ⟨rfl, rfl⟩) ?_
          refine ev_nm (M0 := M10.set (o) (.inr (7, [.ref (o + 1), .ref (o + 2), .ref (o + 4), .ref (o + 8), .int (nI 0), .int (nI p1), .int (ev_b (b1)), .int ((-1))]))) (fun M12 eM12 => ?_)
          have f13 : M12[o]? = some (.inr (7, [.ref (o + 1), .ref (o + 2), .ref (o + 4), .ref (o + 8), .int (nI 0), .int (nI p1), .int (ev_b (b1)), .int ((-1))])) := by rw [eM12]; exact ev_sg f11
          refine ev_blk (B := [(.iload_n 1, 1)]) (pe := 82) (ls' := [some (.ref (o)), some (.int (nI (c + 1)))]) (st' := [.int (nI (c + 1))]) ⟨dX7_parse_81, rfl⟩ rfl ?_
          refine ev_iret dX7_parse_82 rfl (rfl) ⟨Nat.le_of_ble_eq_true rfl, Nat.le_of_ble_eq_true rfl⟩ ?_
          have hE1 : Fr o (o + 1) M1 M12 := ⟨by rw [eM12, eM10]; simp only [List.length_set], fun j hj => by rw [eM12, ev_sn (by omega), eM10, ev_sn (by omega)]⟩
          rw [← hpl]
          refine ⟨rfl, ?_, hM1.fr hE1 (by omega), hQ1.fr hE1 (by omega), RWk.fr hW1 hE1 (by omega), hT1.fr hE1 (by omega), (hFr.tr hF1).tr (hE1.to (by omega) (by omega))⟩
          show Ro _ o 0 (p1, b1) (if b1 = true then nI p1 else -1)
          rw [if_neg (show ¬ b1 = true by rw [q62]; decide)]
          exact f13
        · refine ev_blk (B := [(.aload_n 0, 1)]) (pe := 66) (ls' := [some (.ref (o)), some (.int (nI (c + 1)))]) (st' := [.ref (o), .ref (o)]) ⟨dX7_parse_65, rfl⟩ rfl ?_
          refine ev_getf (v := .int (nI p1)) F_RX7_42 dX7_parse_66 hO1 rfl ?_
          refine ev_goto (tgt := 73) dX7_parse_69 (by decide) ?_
          refine ev_put F_RX7_49 dX7_parse_73 hO1 (Nat.le_of_ble_eq_true rfl) (fun _ _ => ⟨rfl, rfl⟩) ?_
          refine ev_nm (M0 := M1.set (o) (.inr (7, [.ref (o + 1), .ref (o + 2), .ref (o + 4), .ref (o + 8), .int (nI n), .int (nI p1), .int (ev_b (b1)), .int (nI p1)]))) (fun M14 eM14 => ?_)
          have f15 : M14[o]? = some (.inr (7, [.ref (o + 1), .ref (o + 2), .ref (o + 4), .ref (o + 8), .int (nI n), .int (nI p1), .int (ev_b (b1)), .int (nI p1)])) := by rw [eM14]; exact ev_sg hO1
          refine ev_blk (B := [(.aload_n 0, 1), (.iconst 0, 1)]) (pe := 78) (ls' := [some (.ref (o)), some (.int (nI (c + 1)))]) (st' := [.int (nI 0), .ref (o)]) ⟨dX7_parse_76, dX7_parse_77, rfl⟩ rfl ?_
          refine ev_put F_RX7_38 dX7_parse_78 f15 (Nat.le_of_ble_eq_true rfl) (fun _ _ => ⟨rfl, rfl⟩) ?_
          refine ev_nm (M0 := M14.set (o) (.inr (7, [.ref (o + 1), .ref (o + 2), .ref (o + 4), .ref (o + 8), .int (nI 0), .int (nI p1), .int (ev_b (b1)), .int (nI p1)]))) (fun M16 eM16 => ?_)
          have f17 : M16[o]? = some (.inr (7, [.ref (o + 1), .ref (o + 2), .ref (o + 4), .ref (o + 8), .int (nI 0), .int (nI p1), .int (ev_b (b1)), .int (nI p1)])) := by rw [eM16]; exact ev_sg f15
          refine ev_blk (B := [(.iload_n 1, 1)]) (pe := 82) (ls' := [some (.ref (o)), some (.int (nI (c + 1)))]) (st' := [.int (nI (c + 1))]) ⟨dX7_parse_81, rfl⟩ rfl ?_
          refine ev_iret dX7_parse_82 rfl (rfl) ⟨Nat.le_of_ble_eq_true rfl, Nat.le_of_ble_eq_true rfl⟩ ?_
          have hE1 : Fr o (o + 1) M1 M16 := ⟨by rw [eM16, eM14]; simp only [List.length_set], fun j hj => by rw [eM16, ev_sn (by omega), eM14, ev_sn (by omega)]⟩
          rw [← hpl]
          refine ⟨rfl, ?_, hM1.fr hE1 (by omega), hQ1.fr hE1 (by omega), RWk.fr hW1 hE1 (by omega), hT1.fr hE1 (by omega), (hFr.tr hF1).tr (hE1.to (by omega) (by omega))⟩
          show Ro _ o 0 (p1, b1) (if b1 = true then nI p1 else -1)
          rw [if_pos q62]
          exact f17
      · refine ev_blk (B := [(.iload_n 1, 1), (.bipush 80, 2)]) (pe := 54) (ls' := [some (.ref (o)), some (.int (nI (c + 1)))]) (st' := [.int (nI 80), .int (nI (c + 1))]) ⟨dX7_parse_51, dX7_parse_52, rfl⟩ rfl ?_
        refine ev_iN_lt dX7_parse_54 (tgt := 26) (by decide) (by omega) (by omega) (fun q54 => ?_) (fun q54 => ?_)
        · have e5 : pl t n (k + 1) p T G c = pl t n k p1 (cT (cm t n p).2 T) (cG (cm t n p).2 G) (c + 1) := by
            show (bif (!(cm t n p).1.2 && decide ((cm t n p).1.1 < n)) then pl t n k (cm t n p).1.1 (cT (cm t n p).2 T) (cG (cm t n p).2 G) (c + 1) else (cT (cm t n p).2 T, cG (cm t n p).2 G, c + 1, (cm t n p).1.1, (cm t n p).1.2)) = _
            rw [← ec]
            exact if_pos_b (by rw [q37, decide_eq_true (show p1 < n by omega)]; rfl)
          rw [q37] at hO1
          have hadv3 := hadv2 q37
          exact ih k p1 (c + 1) _ _ _ hle2 (by omega) (by omega) (by omega) (by omega) (by rw [← e5]; exact hpl) hO1 hT1 hM1 hQ1 hW1 (hFr.tr hF1) (by omega)
        · exact absurd (show c + 1 < 80 by omega) q54

set_option maxHeartbeats 4000000 in
set_option maxRecDepth 100000 in
theorem c_X7_parse {l : Launch} (hl : l.stackTraces = false) {M : ev_M} (o n : Nat) (s : Nat × Bool) (f : Int32) (t : Nat → Nat) (ht : tOk t) (hn : n ≤ 80) (hO : Ro M o n s f) (hT : Rr M o t) (T : List Tr) (G : List Cf) (hM : RM M (o + 2) T) (hQ : RQ M (o + 4) 8 G) (hWk : RWk M (o + 8)) : ev_Mt l m_X7_parse [.ref (o)] M (fun r M1 => r = .inl (some (.int (nI (pl t n 81 0 [] [] 0).2.2.1))) ∧ Ro M1 o 0 (pl t n 81 0 [] [] 0).2.2.2 (if (pl t n 81 0 [] [] 0).2.2.2.2 = true then nI (pl t n 81 0 [] [] 0).2.2.2.1 else -1) ∧ RM M1 (o + 2) (pl t n 81 0 [] [] 0).1 ∧ RQ M1 (o + 4) 8 (pl t n 81 0 [] [] 0).2.1 ∧ RWk M1 (o + 8) ∧ Rr M1 o t ∧ Fr o (o + 9) M M1) := by
  refine ev_body hl rfl (by decide +kernel) (Nat.le_of_ble_eq_true rfl) ?_
  show ev_ l m_X7_parse 0 0 0 [some (.ref (o)), none] [] M _
  refine ev_blk (B := [(.aload_n 0, 1)]) (pe := 1) (ls' := [some (.ref (o)), none]) (st' := [.ref (o)]) ⟨dX7_parse_0, rfl⟩ rfl ?_
  refine ev_getf (v := .ref (o + 2)) F_RX7_18 dX7_parse_1 hO rfl ?_
  refine ev_cVn Y_X4_removeAll L_RX7_56 dX7_parse_4 ⟨Nat.le_of_ble_eq_true rfl, Nat.le_of_ble_eq_true rfl, Nat.le_of_ble_eq_true rfl, Nat.le_of_ble_eq_true rfl, Nat.le_of_ble_eq_true rfl⟩ hM.obj (as := []) rfl rfl (c_X4_removeAll hl (o + 2) T hM) (fun M1 hL1 hB1 => ?_)
  obtain ⟨hA1, hA2⟩ := hB1
  have hO1 := (hA2.2 o (by omega)).trans hO
  have hT1 := hT.fr hA2 (by omega)
  have hQ1 := hQ.fr hA2 (by omega)
  have hW1 := RWk.fr hWk hA2 (by omega)
  refine ev_blk (B := [(.aload_n 0, 1)]) (pe := 8) (ls' := [some (.ref (o)), none]) (st' := [.ref (o)]) ⟨dX7_parse_7, rfl⟩ rfl ?_
  refine ev_getf (v := .ref (o + 4)) F_RX7_27 dX7_parse_8 hO1 rfl ?_
  refine ev_cVn Y_X2_removeAll L_RX7_59 dX7_parse_11 ⟨Nat.le_of_ble_eq_true rfl, Nat.le_of_ble_eq_true rfl, Nat.le_of_ble_eq_true rfl, Nat.le_of_ble_eq_true rfl, Nat.le_of_ble_eq_true rfl⟩ hQ1.obj (as := []) rfl rfl (c_X2_removeAll hl (o + 4) 8 G hQ1) (fun M2 hL2 hB2 => ?_)
  obtain ⟨hC1, hC2⟩ := hB2
  have hO2 := (hC2.2 o (by omega)).trans hO1
  have hT2 := hT1.fr hC2 (by omega)
  have hM2 := hA1.fr hC2 (by omega)
  have hW2 := RWk.fr hW1 hC2 (by omega)
  refine ev_blk (B := [(.aload_n 0, 1), (.iconst 0, 1)]) (pe := 16) (ls' := [some (.ref (o)), none]) (st' := [.int (nI 0), .ref (o)]) ⟨dX7_parse_14, dX7_parse_15, rfl⟩ rfl ?_
  refine ev_put F_RX7_42 dX7_parse_16 hO2 (Nat.le_of_ble_eq_true rfl) (fun _ _ => ⟨rfl, rfl⟩) ?_
  refine ev_nm (M0 := M2.set (o) (.inr (7, [.ref (o + 1), .ref (o + 2), .ref (o + 4), .ref (o + 8), .int (nI n), .int (nI 0), .int (ev_b (s.2)), .int (f)]))) (fun M3 eM3 => ?_)
  have f4 : M3[o]? = some (.inr (7, [.ref (o + 1), .ref (o + 2), .ref (o + 4), .ref (o + 8), .int (nI n), .int (nI 0), .int (ev_b (s.2)), .int (f)])) := by rw [eM3]; exact ev_sg hO2
  refine ev_blk (B := [(.aload_n 0, 1), (.iconst 0, 1)]) (pe := 21) (ls' := [some (.ref (o)), none]) (st' := [.int (nI 0), .ref (o)]) ⟨dX7_parse_19, dX7_parse_20, rfl⟩ rfl ?_
  refine ev_put F_RX7_45 dX7_parse_21 f4 (Nat.le_of_ble_eq_true rfl) (fun _ _ => ⟨rfl, rfl⟩) ?_
  refine ev_nm (M0 := M3.set (o) (.inr (7, [.ref (o + 1), .ref (o + 2), .ref (o + 4), .ref (o + 8), .int (nI n), .int (nI 0), .int (nI 0), .int (f)]))) (fun M5 eM5 => ?_)
  have f6 : M5[o]? = some (.inr (7, [.ref (o + 1), .ref (o + 2), .ref (o + 4), .ref (o + 8), .int (nI n), .int (nI 0), .int (nI 0), .int (f)])) := by rw [eM5]; exact ev_sg f4
  refine ev_blk (B := [(.iconst 0, 1), (.istore_n 1, 1)]) (pe := 26) (ls' := [some (.ref (o)), some (.int (nI 0))]) (st' := []) ⟨dX7_parse_24, dX7_parse_25, rfl⟩ rfl ?_
  have hE1 : Fr o (o + 1) M2 M5 := ⟨by rw [eM5, eM3]; simp only [List.length_set], fun j hj => by rw [eM5, ev_sn (by omega), eM3, ev_sn (by omega)]⟩
  exact c_X7_parse_l hl o n f t ht hn _ _ 81 0 0 [] [] _ (Nat.zero_le _) (by omega) (Or.inr rfl) (Nat.le_refl _) (Nat.le_refl _) rfl f6 (hT2.fr hE1 (by omega)) (hM2.fr hE1 (by omega)) (hC1.fr hE1 (by omega)) (RWk.fr hW2 hE1 (by omega)) (((hA2.to (by omega) (by omega)).tr (hC2.to (by omega) (by omega))).tr (hE1.to (by omega) (by omega))) (Nat.lt_succ_self _)

set_option maxHeartbeats 4000000 in
set_option maxRecDepth 100000 in
theorem c_X7_isFull {l : Launch} (hl : l.stackTraces = false) {M : ev_M} (o n : Nat) (s : Nat × Bool) (f : Int32) (hO : Ro M o n s f) (hn : n ≤ 80) : ev_Mt l m_X7_isFull [.ref (o)] M (ev_q (.inl (some (.int (ev_b (decide (80 ≤ n)))))) M) := by
  refine ev_body hl rfl (by decide +kernel) (Nat.le_of_ble_eq_true rfl) ?_
  show ev_ l m_X7_isFull 0 0 0 [some (.ref (o))] [] M _
  refine ev_blk (B := [(.aload_n 0, 1)]) (pe := 1) (ls' := [some (.ref (o))]) (st' := [.ref (o)]) ⟨dX7_isFull_0, rfl⟩ rfl ?_
  refine ev_getf (v := .int (nI n)) F_RX7_38 dX7_isFull_1 hO rfl ?_
  refine ev_blk (B := [(.bipush 80, 2)]) (pe := 6) (ls' := [some (.ref (o))]) (st' := [.int (nI 80), .int (nI n)]) ⟨dX7_isFull_4, rfl⟩ rfl ?_
  refine ev_iN_lt dX7_isFull_6 (tgt := 13) (by decide) (by omega) (by omega) (fun q6 => ?_) (fun q6 => ?_)
  · refine ev_blk (B := [(.iconst 0, 1)]) (pe := 14) (ls' := [some (.ref (o))]) (st' := [.int (nI 0)]) ⟨dX7_isFull_13, rfl⟩ rfl ?_
    refine ev_iret dX7_isFull_14 rfl (rfl) ⟨Nat.le_of_ble_eq_true rfl, Nat.le_of_ble_eq_true rfl⟩ ?_
    have e9 : decide (80 ≤ n) = false := decide_eq_false (by omega)
    rw [e9]
    exact ⟨rfl, rfl⟩
  · refine ev_blk (B := [(.iconst 1, 1)]) (pe := 10) (ls' := [some (.ref (o))]) (st' := [.int (nI 1)]) ⟨dX7_isFull_9, rfl⟩ rfl ?_
    refine ev_goto (tgt := 14) dX7_isFull_10 (by decide) ?_
    refine ev_iret dX7_isFull_14 rfl (rfl) ⟨Nat.le_of_ble_eq_true rfl, Nat.le_of_ble_eq_true rfl⟩ ?_
    have e9 : decide (80 ≤ n) = true := decide_eq_true (by omega)
    rw [e9]
    exact ⟨rfl, rfl⟩

set_option maxHeartbeats 4000000 in
set_option maxRecDepth 100000 in
theorem c_X7_fault {l : Launch} (hl : l.stackTraces = false) {M : ev_M} (o n : Nat) (s : Nat × Bool) (f : Int32) (hO : Ro M o n s f) : ev_Mt l m_X7_fault [.ref (o)] M (ev_q (.inl (some (.int f))) M) := by
  refine ev_body hl rfl (by decide +kernel) (Nat.le_of_ble_eq_true rfl) ?_
  show ev_ l m_X7_fault 0 0 0 [some (.ref (o))] [] M _
  refine ev_blk (B := [(.aload_n 0, 1)]) (pe := 1) (ls' := [some (.ref (o))]) (st' := [.ref (o)]) ⟨dX7_fault_0, rfl⟩ rfl ?_
  refine ev_getf (v := .int (f)) F_RX7_49 dX7_fault_1 hO rfl ?_
  refine ev_iret dX7_fault_4 rfl (rfl) ⟨Nat.le_of_ble_eq_true rfl, Nat.le_of_ble_eq_true rfl⟩ ?_
  exact ⟨rfl, rfl⟩

set_option maxHeartbeats 4000000 in
set_option maxRecDepth 100000 in
theorem c_X7_transitions {l : Launch} (hl : l.stackTraces = false) {M : ev_M} (o n : Nat) (s : Nat × Bool) (f : Int32) (hO : Ro M o n s f) : ev_Mt l m_X7_transitions [.ref (o)] M (ev_q (.inl (some (.ref (o + 2)))) M) := by
  refine ev_body hl rfl (by decide +kernel) (Nat.le_of_ble_eq_true rfl) ?_
  show ev_ l m_X7_transitions 0 0 0 [some (.ref (o))] [] M _
  refine ev_blk (B := [(.aload_n 0, 1)]) (pe := 1) (ls' := [some (.ref (o))]) (st' := [.ref (o)]) ⟨dX7_transitions_0, rfl⟩ rfl ?_
  refine ev_getf (v := .ref (o + 2)) F_RX7_18 dX7_transitions_1 hO rfl ?_
  refine ev_aret dX7_transitions_4 rfl (by first | exact Or.inl ⟨_, rfl⟩ | exact Or.inr ⟨_, rfl⟩) ⟨Nat.le_of_ble_eq_true rfl, Nat.le_of_ble_eq_true rfl⟩ ?_
  exact ⟨rfl, rfl⟩

set_option maxHeartbeats 4000000 in
set_option maxRecDepth 100000 in
theorem c_X7_goals {l : Launch} (hl : l.stackTraces = false) {M : ev_M} (o n : Nat) (s : Nat × Bool) (f : Int32) (hO : Ro M o n s f) : ev_Mt l m_X7_goals [.ref (o)] M (ev_q (.inl (some (.ref (o + 4)))) M) := by
  refine ev_body hl rfl (by decide +kernel) (Nat.le_of_ble_eq_true rfl) ?_
  show ev_ l m_X7_goals 0 0 0 [some (.ref (o))] [] M _
  refine ev_blk (B := [(.aload_n 0, 1)]) (pe := 1) (ls' := [some (.ref (o))]) (st' := [.ref (o)]) ⟨dX7_goals_0, rfl⟩ rfl ?_
  refine ev_getf (v := .ref (o + 4)) F_RX7_27 dX7_goals_1 hO rfl ?_
  refine ev_aret dX7_goals_4 rfl (by first | exact Or.inl ⟨_, rfl⟩ | exact Or.inr ⟨_, rfl⟩) ⟨Nat.le_of_ble_eq_true rfl, Nat.le_of_ble_eq_true rfl⟩ ?_
  exact ⟨rfl, rfl⟩

theorem c_nar {c : Nat} (hc : c < 65536) : narrow .char (.int (nI c)) = .int (nI c) ∧ vp_nar .char (nI c) = nI c := by
  have h : (nI c).toUInt32 % 65536 = UInt32.ofNat c := by
    have h1 : (nI c).toUInt32 = UInt32.ofNat c := by
      apply UInt32.toNat_inj.mp
      show ((Int32.ofNat c).toUInt32).toNat = (UInt32.ofNat c).toNat
      rfl
    rw [h1]
    apply UInt32.toNat_inj.mp
    rw [UInt32.toNat_mod]
    have : (UInt32.ofNat c).toNat = c := by rw [UInt32.toNat_ofNat']; omega
    rw [this]
    exact Nat.mod_eq_of_lt hc
  have h2 : ((nI c).toUInt32 % 65536).toInt32 = nI c := by
    rw [h]; rfl
  exact ⟨congrArg Value.int h2, h2⟩
set_option maxHeartbeats 4000000 in
set_option maxRecDepth 100000 in
theorem c_X7_add {l : Launch} (hl : l.stackTraces = false) {M : ev_M} (o n : Nat) (s : Nat × Bool) (f : Int32) (hO : Ro M o n s f) (t : Nat → Nat) (hT : Rr M o t) (hn : n < 80) (c : Nat) (hc : c < 65536) : ev_Mt l m_X7_add [.ref (o), .int (nI c)] M (fun r M1 => r = .inl none ∧ Ro M1 o (n + 1) s f ∧ Rr M1 o (fun i => if i = n then c else t i) ∧ Fr o (o + 2) M M1) := by
  refine ev_body hl rfl (by decide +kernel) (Nat.le_of_ble_eq_true rfl) ?_
  show ev_ l m_X7_add 0 0 0 [some (.ref (o)), some (.int (nI c))] [] M _
  refine ev_blk (B := [(.aload_n 0, 1)]) (pe := 1) (ls' := [some (.ref (o)), some (.int (nI c))]) (st' := [.ref (o)]) ⟨dX7_add_0, rfl⟩ rfl ?_
  refine ev_cVv Y_X7_isFull L_RX7_52 dX7_add_1 ⟨Nat.le_of_ble_eq_true rfl, Nat.le_of_ble_eq_true rfl, Nat.le_of_ble_eq_true rfl, Nat.le_of_ble_eq_true rfl, Nat.le_of_ble_eq_true rfl⟩ hO (as := []) rfl rfl (c_X7_isFull hl o n s f hO (by omega)) ?_
  refine ev_ifB_ne dX7_add_4 (tgt := 27) (by decide) (fun q4 => ?_) (fun q4 => ?_)
  · exact absurd (of_decide_eq_true q4) (by omega)
  · refine ev_blk (B := [(.aload_n 0, 1)]) (pe := 8) (ls' := [some (.ref (o)), some (.int (nI c))]) (st' := [.ref (o)]) ⟨dX7_add_7, rfl⟩ rfl ?_
    refine ev_getf (v := .ref (o + 1)) F_RX7_9 dX7_add_8 hO rfl ?_
    refine ev_blk (B := [(.aload_n 0, 1)]) (pe := 12) (ls' := [some (.ref (o)), some (.int (nI c))]) (st' := [.ref (o), .ref (o + 1)]) ⟨dX7_add_11, rfl⟩ rfl ?_
    refine ev_getf (v := .int (nI n)) F_RX7_38 dX7_add_12 hO rfl ?_
    refine ev_blk (B := [(.iload_n 1, 1)]) (pe := 16) (ls' := [some (.ref (o)), some (.int (nI c))]) (st' := [.int (nI c), .int (nI n), .ref (o + 1)]) ⟨dX7_add_15, rfl⟩ rfl ?_
    refine ev_cast dX7_add_16 hT (vp_in_nI (show n < 80 by omega) (by omega)) ?_
    rw [nI_clamp (show n < 2 ^ 31 by omega)]
    refine ev_nm (M0 := M.set (o + 1) (.inl (2, 80, .inl (upd (fun i => nI (t i)) n (vp_nar .char (nI c)))))) (fun M1 eM1 => ?_)
    have f2 : M1[o]? = some (.inr (7, [.ref (o + 1), .ref (o + 2), .ref (o + 4), .ref (o + 8), .int (nI n), .int (nI (s.1)), .int (ev_b (s.2)), .int (f)])) := by rw [eM1, ev_sn (by omega)]; exact hO
    have f3 : M1[o + 1]? = some (.inl (2, 80, .inl (upd (fun i => nI (t i)) n (vp_nar .char (nI c))))) := by rw [eM1]; exact ev_sg hT
    refine ev_blk (B := [(.aload_n 0, 1), (.dup, 1)]) (pe := 19) (ls' := [some (.ref (o)), some (.int (nI c))]) (st' := [.ref (o), .ref (o)]) ⟨dX7_add_17, dX7_add_18, rfl⟩ rfl ?_
    refine ev_getf (v := .int (nI n)) F_RX7_38 dX7_add_19 f2 rfl ?_
    refine ev_blk (B := [(.iconst 1, 1), (.iadd, 1)]) (pe := 24) (ls' := [some (.ref (o)), some (.int (nI c))]) (st' := [.int (nI (n + 1)), .ref (o)]) ⟨dX7_add_22, dX7_add_23, rfl⟩ (by show some (([some (.ref (o)), some (.int (nI c))] : ev_L), ([.int ((nI n) + (nI 1)), .ref (o)] : List Value)) = _; rw [nI_add n 1]) ?_
    refine ev_put F_RX7_38 dX7_add_24 f2 (Nat.le_of_ble_eq_true rfl) (fun _ _ => ⟨rfl, rfl⟩) ?_
    refine ev_nm (M0 := M1.set (o) (.inr (7, [.ref (o + 1), .ref (o + 2), .ref (o + 4), .ref (o + 8), .int (nI (n + 1)), .int (nI (s.1)), .int (ev_b (s.2)), .int (f)]))) (fun M4 eM4 => ?_)
    have f5 : M4[o]? = some (.inr (7, [.ref (o + 1), .ref (o + 2), .ref (o + 4), .ref (o + 8), .int (nI (n + 1)), .int (nI (s.1)), .int (ev_b (s.2)), .int (f)])) := by rw [eM4]; exact ev_sg f2
    have f6 : M4[o + 1]? = some (.inl (2, 80, .inl (upd (fun i => nI (t i)) n (vp_nar .char (nI c))))) := by rw [eM4, ev_sn (by omega)]; exact f3
    refine ev_vret dX7_add_27 rfl ⟨Nat.le_of_ble_eq_true rfl, Nat.le_of_ble_eq_true rfl⟩ ?_
    refine ⟨rfl, f5, ?_, ⟨by rw [eM4, eM1]; simp only [List.length_set], fun j hj => by rw [eM4, ev_sn (by omega), eM1, ev_sn (by omega)]⟩⟩
    have e9 : (fun i => nI ((fun i => if i = n then c else t i) i)) = upd (fun i => nI (t i)) n (vp_nar .char (nI c)) := by
      funext i
      rw [(c_nar hc).2]
      show nI (if i = n then c else t i) = if i = n then nI c else nI (t i)
      split <;> rfl
    show M4[o + 1]? = some (.inl (2, 80, .inl (fun i => nI ((fun i => if i = n then c else t i) i))))
    rw [e9]
    exact f6

