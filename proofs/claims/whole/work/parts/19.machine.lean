/-! ===== Machine ===== -/
/-- a transition: old state, new state, action, channel, letter -/
abbrev Tr : Type := Nat × Nat × Nat × Nat × Nat
def tr0 : Tr := (0, 0, 0, 0, 0)
def tg (T : List Tr) (i : Nat) : Tr := T.getD i tr0
def trO (t : Tr) : Prop := t.1 < 6 ∧ t.2.1 < 6 ∧ t.2.2.1 < 3 ∧ t.2.2.2.1 < 2 ∧ t.2.2.2.2 < 3
def trs (T : List Tr) : Prop := ∀ t ∈ T, trO t
def tp (t : Tr) (k : Nat) : Int32 := match k with
  | 0 => nI t.1
  | 1 => nI t.2.1
  | 2 => nI t.2.2.1
  | 3 => if t.2.2.1 = 0 then -1 else nI t.2.2.2.1
  | _ => if t.2.2.1 = 0 then -1 else nI t.2.2.2.2
theorem tg_get {T : List Tr} {i : Nat} (h : i < T.length) : tg T i = T[i] := by simp [tg, h]
theorem tg_mem {T : List Tr} {i : Nat} (h : i < T.length) : tg T i ∈ T := by rw [tg_get h]; exact List.getElem_mem h
theorem trs_tg {T : List Tr} (hT : trs T) {i : Nat} (h : i < T.length) : trO (tg T i) := hT _ (tg_mem h)
theorem tg_app_l {T R : List Tr} {i : Nat} (h : i < T.length) : tg (T ++ R) i = tg T i := by
  rw [tg_get h, tg_get (by rw [List.length_append]; omega), List.getElem_append_left h]
theorem tg_app_r {T R : List Tr} {i : Nat} : tg (T ++ R) (T.length + i) = tg R i := by
  unfold tg
  rw [List.getD_eq_getElem?_getD, List.getD_eq_getElem?_getD, List.getElem?_append_right (Nat.le_add_right _ _), Nat.add_sub_cancel_left]
theorem tg_erase {T : List Tr} {j i : Nat} (hj : j < T.length) (hi : i < T.length - 1) : tg (T.eraseIdx j) i = if i < j then tg T i else tg T (i + 1) := by
  unfold tg
  rw [List.getD_eq_getElem?_getD, List.getElem?_eraseIdx]
  split
  · rw [← List.getD_eq_getElem?_getD]
  · rw [← List.getD_eq_getElem?_getD]
def RP5 (n : Nat) (f : Nat → Int32) (T : List Tr) : Prop := ∀ i, i < n → ∀ k, k < 5 → f (5 * i + k) = tp (tg T i) k
def RN (M : ev_M) (o n : Nat) (f : Nat → Int32) : Prop := M[o]? = some (.inr (4, [.ref (o + 1), .int (nI n)])) ∧ M[o + 1]? = some (.inl (0, 50, .inl f))
/-- a Machine at o -/
def RM (M : ev_M) (o : Nat) (T : List Tr) : Prop := T.length ≤ 10 ∧ ∃ f, RN M o T.length f ∧ RP5 T.length f T
theorem RM.kept {M M1 : ev_M} {o : Nat} {T : List Tr} (hR : RM M o T) (hk : ∀ j, o ≤ j → j < o + 2 → M1[j]? = M[j]?) : RM M1 o T := by
  obtain ⟨h1, f, ⟨h2, h3⟩, h4⟩ := hR
  exact ⟨h1, f, ⟨(hk _ (by omega) (by omega)).trans h2, (hk _ (by omega) (by omega)).trans h3⟩, h4⟩
theorem RM.fr {lo hi : Nat} {M M1 : ev_M} {o : Nat} {T : List Tr} (hR : RM M o T) (hf : Fr lo hi M M1) (hd : o + 2 ≤ lo ∨ hi ≤ o) : RM M1 o T := hR.kept fun j h1 h2 => hf.2 j (by omega)
theorem RM.obj {M : ev_M} {o : Nat} {T : List Tr} (hR : RM M o T) : M[o]? = some (.inr (4, [.ref (o + 1), .int (nI T.length)])) := by
  obtain ⟨_, f, h, _⟩ := hR
  exact h.1
theorem tp3 {t : Tr} (h : t.2.2.1 ≠ 0) : tp t 3 = nI t.2.2.2.1 := if_neg h
theorem tp4 {t : Tr} (h : t.2.2.1 ≠ 0) : tp t 4 = nI t.2.2.2.2 := if_neg h
/-- whether t can fire at x, with losses ahead or without -/
def mf (x : Cf) (t : Tr) (wl : Bool) : Bool := t.1 == x.1 && (t.2.2.1 != 2 || (match ix (cw x t.2.2.2.1) t.2.2.2.2 with
  | none => false
  | some i => wl || i == 0))
/-- firing with the losses that are necessary: how many, and what then -/
def ap (t : Tr) (x : Cf) : Nat × Cf :=
  if t.2.2.1 = 1 then (0, (t.2.1, (cset x t.2.2.2.1 (cw x t.2.2.2.1 ++ [t.2.2.2.2])).2))
  else if t.2.2.1 = 2 then ((ix (cw x t.2.2.2.1) t.2.2.2.2).getD 0, (t.2.1, (cset x t.2.2.2.1 ((cw x t.2.2.2.1).drop ((ix (cw x t.2.2.2.1) t.2.2.2.2).getD 0 + 1))).2))
  else (0, (t.2.1, x.2))
/-- the predecessor -/
def bp (t : Tr) (x : Cf) : Cf :=
  if t.2.2.1 = 2 then (t.1, (cset x t.2.2.2.1 (t.2.2.2.2 :: cw x t.2.2.2.1)).2)
  else if t.2.2.1 = 1 then (if (cw x t.2.2.2.1).getLast? = some t.2.2.2.2 then (t.1, (cset x t.2.2.2.1 (cw x t.2.2.2.1).dropLast).2) else (t.1, x.2))
  else (t.1, x.2)
/-- a set of numbers below n, in one int -/
def mk (p : Nat → Bool) : Nat → Int32
  | 0 => 0
  | n + 1 => if p n then mk p n ||| (1 <<< (nI n &&& 31)) else mk p n
/-- the new states of a set of transitions -/
def nst (T : List Tr) (z : Int32) : Nat → Int32
  | 0 => 0
  | n + 1 => if (z >>> (nI n &&& 31)) &&& 1 = 1 then nst T z n ||| (1 <<< (nI (tg T n).2.1 &&& 31)) else nst T z n
theorem cw_ok {k : Nat} {x : Cf} (hx : cfW k x) (ch : Nat) : wk (cw x ch) ∧ (cw x ch).length ≤ k := by
  unfold cw
  split
  · exact ⟨hx.2.1, hx.2.2.1⟩
  · exact ⟨hx.2.2.2.1, hx.2.2.2.2⟩
set_option maxHeartbeats 4000000 in
set_option maxRecDepth 100000 in
theorem c_X4_count {l : Launch} (hl : l.stackTraces = false) {M : ev_M} (o : Nat) (T : List Tr) (hR : RM M o T) : ev_Mt l m_X4_count [.ref (o)] M (ev_q (.inl (some (.int (nI T.length)))) M) := by
  obtain ⟨hten, f, ⟨hA0, hA1⟩, hP⟩ := hR
  refine ev_body hl rfl (by decide +kernel) (Nat.le_of_ble_eq_true rfl) ?_
  show ev_ l m_X4_count 0 0 0 [some (.ref (o))] [] M _
  refine ev_blk (B := [(.aload_n 0, 1)]) (pe := 1) (ls' := [some (.ref (o))]) (st' := [.ref (o)]) ⟨dX4_count_0, rfl⟩ rfl ?_
  refine ev_getf (v := .int (nI (T.length))) F_RX4_15 dX4_count_1 hA0 rfl ?_
  refine ev_iret dX4_count_4 rfl (rfl) ⟨Nat.le_of_ble_eq_true rfl, Nat.le_of_ble_eq_true rfl⟩ ?_
  exact ⟨rfl, rfl⟩

set_option maxHeartbeats 4000000 in
set_option maxRecDepth 100000 in
theorem c_X4_hasN {l : Launch} (hl : l.stackTraces = false) {M : ev_M} (o n : Nat) (h0 : M[o]? = some (.inr (4, [.ref (o + 1), .int (nI n)]))) (hn : n < 2 ^ 31) (i : Nat) (hi : i < 2 ^ 31) : ev_Mt l m_X4_has [.ref (o), .int (nI i)] M (ev_q (.inl (some (.int (ev_b (decide (i < n)))))) M) := by
  refine ev_body hl rfl (by decide +kernel) (Nat.le_of_ble_eq_true rfl) ?_
  show ev_ l m_X4_has 0 0 0 [some (.ref (o)), some (.int (nI i))] [] M _
  refine ev_blk (B := [(.iload_n 1, 1)]) (pe := 1) (ls' := [some (.ref (o)), some (.int (nI i))]) (st' := [.int (nI i)]) ⟨dX4_has_0, rfl⟩ rfl ?_
  refine ev_fN_lt dX4_has_1 (tgt := 16) (by decide) (by omega) ?_
  refine ev_blk (B := [(.iload_n 1, 1), (.aload_n 0, 1)]) (pe := 6) (ls' := [some (.ref (o)), some (.int (nI i))]) (st' := [.ref (o), .int (nI i)]) ⟨dX4_has_4, dX4_has_5, rfl⟩ rfl ?_
  refine ev_getf (v := .int (nI n)) F_RX4_15 dX4_has_6 h0 rfl ?_
  refine ev_iN_ge dX4_has_9 (tgt := 16) (by decide) (by omega) (by omega) (fun q9 => ?_) (fun q9 => ?_)
  · refine ev_blk (B := [(.iconst 0, 1)]) (pe := 17) (ls' := [some (.ref (o)), some (.int (nI i))]) (st' := [.int (nI 0)]) ⟨dX4_has_16, rfl⟩ rfl ?_
    refine ev_iret dX4_has_17 rfl (rfl) ⟨Nat.le_of_ble_eq_true rfl, Nat.le_of_ble_eq_true rfl⟩ ?_
    exact ev_q_e (by rw [decide_eq_false (by omega)]; rfl)
  · refine ev_blk (B := [(.iconst 1, 1)]) (pe := 13) (ls' := [some (.ref (o)), some (.int (nI i))]) (st' := [.int (nI 1)]) ⟨dX4_has_12, rfl⟩ rfl ?_
    refine ev_goto (tgt := 17) dX4_has_13 (by decide) ?_
    refine ev_iret dX4_has_17 rfl (rfl) ⟨Nat.le_of_ble_eq_true rfl, Nat.le_of_ble_eq_true rfl⟩ ?_
    exact ev_q_e (by rw [decide_eq_true (by omega)]; rfl)

set_option maxHeartbeats 4000000 in
set_option maxRecDepth 100000 in
theorem c_X4_hasI {l : Launch} (hl : l.stackTraces = false) {M : ev_M} (o n : Nat) (h0 : M[o]? = some (.inr (4, [.ref (o + 1), .int (nI n)]))) (i : Int32) : ev_Mt l m_X4_has [.ref (o), .int (i)] M (ev_q (.inl (some (.int (ev_b (decide (0 ≤ i ∧ i < nI n)))))) M) := by
  refine ev_body hl rfl (by decide +kernel) (Nat.le_of_ble_eq_true rfl) ?_
  show ev_ l m_X4_has 0 0 0 [some (.ref (o)), some (.int (i))] [] M _
  refine ev_blk (B := [(.iload_n 1, 1)]) (pe := 1) (ls' := [some (.ref (o)), some (.int (i))]) (st' := [.int (i)]) ⟨dX4_has_0, rfl⟩ rfl ?_
  refine ev_if_lt dX4_has_1 (tgt := 16) (by decide) (fun q1 => ?_) (fun q1 => ?_)
  · refine ev_blk (B := [(.iconst 0, 1)]) (pe := 17) (ls' := [some (.ref (o)), some (.int (i))]) (st' := [.int (nI 0)]) ⟨dX4_has_16, rfl⟩ rfl ?_
    refine ev_iret dX4_has_17 rfl (rfl) ⟨Nat.le_of_ble_eq_true rfl, Nat.le_of_ble_eq_true rfl⟩ ?_
    exact ev_q_e (by rw [decide_eq_false (fun q => Int32.not_le.mpr q1 q.1)]; rfl)
  · refine ev_blk (B := [(.iload_n 1, 1), (.aload_n 0, 1)]) (pe := 6) (ls' := [some (.ref (o)), some (.int (i))]) (st' := [.ref (o), .int (i)]) ⟨dX4_has_4, dX4_has_5, rfl⟩ rfl ?_
    refine ev_getf (v := .int (nI n)) F_RX4_15 dX4_has_6 h0 rfl ?_
    refine ev_ic_ge dX4_has_9 (tgt := 16) (by decide) (fun q9 => ?_) (fun q9 => ?_)
    · refine ev_blk (B := [(.iconst 0, 1)]) (pe := 17) (ls' := [some (.ref (o)), some (.int (i))]) (st' := [.int (nI 0)]) ⟨dX4_has_16, rfl⟩ rfl ?_
      refine ev_iret dX4_has_17 rfl (rfl) ⟨Nat.le_of_ble_eq_true rfl, Nat.le_of_ble_eq_true rfl⟩ ?_
      exact ev_q_e (by rw [decide_eq_false (fun q => Int32.not_le.mpr q.2 q9)]; rfl)
    · refine ev_blk (B := [(.iconst 1, 1)]) (pe := 13) (ls' := [some (.ref (o)), some (.int (i))]) (st' := [.int (nI 1)]) ⟨dX4_has_12, rfl⟩ rfl ?_
      refine ev_goto (tgt := 17) dX4_has_13 (by decide) ?_
      refine ev_iret dX4_has_17 rfl (rfl) ⟨Nat.le_of_ble_eq_true rfl, Nat.le_of_ble_eq_true rfl⟩ ?_
      exact ev_q_e (by rw [decide_eq_true ⟨Int32.not_lt.mp q1, Int32.not_le.mp q9⟩]; rfl)

set_option maxHeartbeats 4000000 in
set_option maxRecDepth 100000 in
theorem c_X4_part {l : Launch} (hl : l.stackTraces = false) {M : ev_M} (o : Nat) (T : List Tr) (hR : RM M o T) (i : Nat) (hi : i < T.length) (k : Nat) (hk : k < 5) : ev_Mt l m_X4_part [.ref (o), .int (nI i), .int (nI k)] M (ev_q (.inl (some (.int (tp (tg T i) k)))) M) := by
  obtain ⟨hten, f, ⟨hA0, hA1⟩, hP⟩ := hR
  refine ev_body hl rfl (by decide +kernel) (Nat.le_of_ble_eq_true rfl) ?_
  show ev_ l m_X4_part 0 0 0 [some (.ref (o)), some (.int (nI i)), some (.int (nI k))] [] M _
  refine ev_blk (B := [(.aload_n 0, 1), (.iload_n 1, 1)]) (pe := 2) (ls' := [some (.ref (o)), some (.int (nI i)), some (.int (nI k))]) (st' := [.int (nI i), .ref (o)]) ⟨dX4_part_0, dX4_part_1, rfl⟩ rfl ?_
  refine ev_cVv Y_X4_has L_RX4_19 dX4_part_2 ⟨Nat.le_of_ble_eq_true rfl, Nat.le_of_ble_eq_true rfl, Nat.le_of_ble_eq_true rfl, Nat.le_of_ble_eq_true rfl, Nat.le_of_ble_eq_true rfl⟩ hA0 (as := [.int (nI i)]) rfl rfl (c_X4_hasN hl _ _ hA0 (by omega) (i) (by omega)) ?_
  refine ev_ifB_eq dX4_part_5 (tgt := 30) (by decide) (fun q5 => ?_) (fun q5 => ?_)
  · exact absurd q5 (by rw [decide_eq_true hi]; decide)
  · refine ev_blk (B := [(.iload_n 2, 1)]) (pe := 9) (ls' := [some (.ref (o)), some (.int (nI i)), some (.int (nI k))]) (st' := [.int (nI k)]) ⟨dX4_part_8, rfl⟩ rfl ?_
    refine ev_fN_lt dX4_part_9 (tgt := 30) (by decide) (by omega) ?_
    refine ev_blk (B := [(.iload_n 2, 1), (.iconst 5, 1)]) (pe := 14) (ls' := [some (.ref (o)), some (.int (nI i)), some (.int (nI k))]) (st' := [.int (nI 5), .int (nI k)]) ⟨dX4_part_12, dX4_part_13, rfl⟩ rfl ?_
    refine ev_iN_ge dX4_part_14 (tgt := 30) (by decide) (by omega) (by omega) (fun q14 => ?_) (fun q14 => ?_)
    · exfalso; omega
    · refine ev_blk (B := [(.aload_n 0, 1)]) (pe := 18) (ls' := [some (.ref (o)), some (.int (nI i)), some (.int (nI k))]) (st' := [.ref (o)]) ⟨dX4_part_17, rfl⟩ rfl ?_
      refine ev_getf (v := .ref (o + 1)) F_RX4_9 dX4_part_18 hA0 rfl ?_
      refine ev_blk (B := [(.iconst 5, 1), (.iload_n 1, 1), (.imul, 1), (.iload_n 2, 1), (.iadd, 1)]) (pe := 26) (ls' := [some (.ref (o)), some (.int (nI i)), some (.int (nI k))]) (st' := [.int (nI ((5 * i) + k)), .ref (o + 1)]) ⟨dX4_part_21, dX4_part_22, dX4_part_23, dX4_part_24, dX4_part_25, rfl⟩ (by show some (([some (.ref (o)), some (.int (nI i)), some (.int (nI k))] : ev_L), ([.int (((nI 5) * (nI i)) + (nI k)), .ref (o + 1)] : List Value)) = _; rw [pk_mul 5 i, nI_add (5 * i) k]) ?_
      refine ev_iald dX4_part_26 hA1 (vp_in_nI (show (5 * i) + k < 50 by omega) (by omega)) ?_
      rw [nI_clamp (show (5 * i) + k < 2 ^ 31 by omega)]
      rw [show f ((5 * i) + k) = tp (tg T i) k from hP i hi k hk]
      refine ev_goto (tgt := 31) dX4_part_27 (by decide) ?_
      refine ev_iret dX4_part_31 rfl (rfl) ⟨Nat.le_of_ble_eq_true rfl, Nat.le_of_ble_eq_true rfl⟩ ?_
      exact ⟨rfl, rfl⟩

theorem c_X4_part3N {l : Launch} (hl : l.stackTraces = false) {M : ev_M} (o : Nat) (T : List Tr) (hR : RM M o T) (i : Nat) (hi : i < T.length) (hz : (tg T i).2.2.1 ≠ 0) : ev_Mt l m_X4_part [.ref o, .int (nI i), .int (nI 3)] M (ev_q (.inl (some (.int (nI (tg T i).2.2.2.1)))) M) := by
  rw [← tp3 hz]
  exact c_X4_part hl o T hR i hi 3 (by omega)
theorem c_X4_part4N {l : Launch} (hl : l.stackTraces = false) {M : ev_M} (o : Nat) (T : List Tr) (hR : RM M o T) (i : Nat) (hi : i < T.length) (hz : (tg T i).2.2.1 ≠ 0) : ev_Mt l m_X4_part [.ref o, .int (nI i), .int (nI 4)] M (ev_q (.inl (some (.int (nI (tg T i).2.2.2.2)))) M) := by
  rw [← tp4 hz]
  exact c_X4_part hl o T hR i hi 4 (by omega)
set_option maxHeartbeats 4000000 in
set_option maxRecDepth 100000 in
theorem c_X4_leadsTo {l : Launch} (hl : l.stackTraces = false) {M : ev_M} (o : Nat) (T : List Tr) (hR : RM M o T) (hT : trs T) (i : Nat) (hi : i < T.length) (s : Nat) (hs : s < 6) : ev_Mt l m_X4_leadsTo [.ref (o), .int (nI i), .int (nI s)] M (ev_q (.inl (some (.int (ev_b ((tg T i).2.1 == s))))) M) := by
  have b1 := (trs_tg hT hi).2.1
  refine ev_body hl rfl (by decide +kernel) (Nat.le_of_ble_eq_true rfl) ?_
  show ev_ l m_X4_leadsTo 0 0 0 [some (.ref (o)), some (.int (nI i)), some (.int (nI s))] [] M _
  refine ev_blk (B := [(.aload_n 0, 1), (.iload_n 1, 1), (.iconst 1, 1)]) (pe := 3) (ls' := [some (.ref (o)), some (.int (nI i)), some (.int (nI s))]) (st' := [.int (nI 1), .int (nI i), .ref (o)]) ⟨dX4_leadsTo_0, dX4_leadsTo_1, dX4_leadsTo_2, rfl⟩ rfl ?_
  refine ev_cVv Y_X4_part L_RX4_23 dX4_leadsTo_3 ⟨Nat.le_of_ble_eq_true rfl, Nat.le_of_ble_eq_true rfl, Nat.le_of_ble_eq_true rfl, Nat.le_of_ble_eq_true rfl, Nat.le_of_ble_eq_true rfl⟩ hR.obj (as := [.int (nI i), .int (nI 1)]) rfl rfl (c_X4_part hl _ _ hR (i) (by omega) 1 (by omega)) ?_
  refine ev_blk (B := [(.iload_n 2, 1)]) (pe := 7) (ls' := [some (.ref (o)), some (.int (nI i)), some (.int (nI s))]) (st' := [.int (nI s), .int (nI ((tg T i).2.1))]) ⟨dX4_leadsTo_6, rfl⟩ rfl ?_
  refine ev_iN_ne dX4_leadsTo_7 (tgt := 14) (by decide) (by omega) (by omega) (fun q7 => ?_) (fun q7 => ?_)
  · refine ev_blk (B := [(.iconst 0, 1)]) (pe := 15) (ls' := [some (.ref (o)), some (.int (nI i)), some (.int (nI s))]) (st' := [.int (nI 0)]) ⟨dX4_leadsTo_14, rfl⟩ rfl ?_
    refine ev_iret dX4_leadsTo_15 rfl (rfl) ⟨Nat.le_of_ble_eq_true rfl, Nat.le_of_ble_eq_true rfl⟩ ?_
    exact ev_q_e (by rw [beq_eq_false_iff_ne.mpr q7]; rfl)
  · refine ev_blk (B := [(.iconst 1, 1)]) (pe := 11) (ls' := [some (.ref (o)), some (.int (nI i)), some (.int (nI s))]) (st' := [.int (nI 1)]) ⟨dX4_leadsTo_10, rfl⟩ rfl ?_
    refine ev_goto (tgt := 15) dX4_leadsTo_11 (by decide) ?_
    refine ev_iret dX4_leadsTo_15 rfl (rfl) ⟨Nat.le_of_ble_eq_true rfl, Nat.le_of_ble_eq_true rfl⟩ ?_
    exact ev_q_e (by rw [beq_iff_eq.mpr q7]; rfl)

set_option maxHeartbeats 4000000 in
set_option maxRecDepth 100000 in
theorem c_X4_canFire {l : Launch} (hl : l.stackTraces = false) {M : ev_M} (o : Nat) (T : List Tr) (hR : RM M o T) (hT : trs T) (i : Nat) (hi : i < T.length) (c : Nat) (x : Cf) (hF : RF M c x) (hx : cfW 24 x) (wl : Bool) : ev_Mt l m_X4_canFire [.ref (o), .int (nI i), .ref (c), .int (ev_b (wl))] M (ev_q (.inl (some (.int (ev_b (mf x (tg T i) wl))))) M) := by
  obtain ⟨b0, b1, b2, b3, b4⟩ := trs_tg hT hi
  have b5 : x.1 < 6 := hx.1
  refine ev_body hl rfl (by decide +kernel) (Nat.le_of_ble_eq_true rfl) ?_
  show ev_ l m_X4_canFire 0 0 0 [some (.ref (o)), some (.int (nI i)), some (.ref (c)), some (.int (ev_b (wl))), none, none, none] [] M _
  refine ev_blk (B := [(.aload_n 0, 1), (.iload_n 1, 1), (.iconst 0, 1)]) (pe := 3) (ls' := [some (.ref (o)), some (.int (nI i)), some (.ref (c)), some (.int (ev_b (wl))), none, none, none]) (st' := [.int (nI 0), .int (nI i), .ref (o)]) ⟨dX4_canFire_0, dX4_canFire_1, dX4_canFire_2, rfl⟩ rfl ?_
  refine ev_cVv Y_X4_part L_RX4_23 dX4_canFire_3 ⟨Nat.le_of_ble_eq_true rfl, Nat.le_of_ble_eq_true rfl, Nat.le_of_ble_eq_true rfl, Nat.le_of_ble_eq_true rfl, Nat.le_of_ble_eq_true rfl⟩ hR.obj (as := [.int (nI i), .int (nI 0)]) rfl rfl (c_X4_part hl _ _ hR (i) (by omega) 0 (by omega)) ?_
  refine ev_blk (B := [(.aload_n 2, 1)]) (pe := 7) (ls' := [some (.ref (o)), some (.int (nI i)), some (.ref (c)), some (.int (ev_b (wl))), none, none, none]) (st' := [.ref (c), .int (nI ((tg T i).1))]) ⟨dX4_canFire_6, rfl⟩ rfl ?_
  refine ev_getf (v := .int (nI (x.1))) F_RX4_38 dX4_canFire_7 hF rfl ?_
  refine ev_iN_eq dX4_canFire_10 (tgt := 15) (by decide) (by omega) (by omega) (fun q10 => ?_) (fun q10 => ?_)
  · refine ev_blk (B := [(.aload_n 0, 1), (.iload_n 1, 1), (.iconst 2, 1)]) (pe := 18) (ls' := [some (.ref (o)), some (.int (nI i)), some (.ref (c)), some (.int (ev_b (wl))), none, none, none]) (st' := [.int (nI 2), .int (nI i), .ref (o)]) ⟨dX4_canFire_15, dX4_canFire_16, dX4_canFire_17, rfl⟩ rfl ?_
    refine ev_cVv Y_X4_part L_RX4_23 dX4_canFire_18 ⟨Nat.le_of_ble_eq_true rfl, Nat.le_of_ble_eq_true rfl, Nat.le_of_ble_eq_true rfl, Nat.le_of_ble_eq_true rfl, Nat.le_of_ble_eq_true rfl⟩ hR.obj (as := [.int (nI i), .int (nI 2)]) rfl rfl (c_X4_part hl _ _ hR (i) (by omega) 2 (by omega)) ?_
    refine ev_blk (B := [(.iconst 2, 1)]) (pe := 22) (ls' := [some (.ref (o)), some (.int (nI i)), some (.ref (c)), some (.int (ev_b (wl))), none, none, none]) (st' := [.int (nI 2), .int (nI ((tg T i).2.2.1))]) ⟨dX4_canFire_21, rfl⟩ rfl ?_
    refine ev_iN_eq dX4_canFire_22 (tgt := 27) (by decide) (by omega) (by omega) (fun q22 => ?_) (fun q22 => ?_)
    · refine ev_blk (B := [(.aload_n 2, 1), (.aload_n 0, 1), (.iload_n 1, 1), (.iconst 3, 1)]) (pe := 31) (ls' := [some (.ref (o)), some (.int (nI i)), some (.ref (c)), some (.int (ev_b (wl))), none, none, none]) (st' := [.int (nI 3), .int (nI i), .ref (o), .ref (c)]) ⟨dX4_canFire_27, dX4_canFire_28, dX4_canFire_29, dX4_canFire_30, rfl⟩ rfl ?_
      refine ev_cVv Y_X4_part L_RX4_23 dX4_canFire_31 ⟨Nat.le_of_ble_eq_true rfl, Nat.le_of_ble_eq_true rfl, Nat.le_of_ble_eq_true rfl, Nat.le_of_ble_eq_true rfl, Nat.le_of_ble_eq_true rfl⟩ hR.obj (as := [.int (nI i), .int (nI 3)]) rfl rfl (c_X4_part3N hl _ _ hR (i) (by omega) (by omega)) ?_
      refine ev_cVv Y_X1_word L_RX4_43 dX4_canFire_34 ⟨Nat.le_of_ble_eq_true rfl, Nat.le_of_ble_eq_true rfl, Nat.le_of_ble_eq_true rfl, Nat.le_of_ble_eq_true rfl, Nat.le_of_ble_eq_true rfl⟩ hF (as := [.int (nI ((tg T i).2.2.2.1))]) rfl rfl (c_X1_word hl _ _ hF ((tg T i).2.2.2.1) (by omega)) ?_
      refine ev_blk (B := [(.lstore 4, 2), (.lload 4, 2), (.aload_n 0, 1), (.iload_n 1, 1), (.iconst 4, 1)]) (pe := 44) (ls' := [some (.ref (o)), some (.int (nI i)), some (.ref (c)), some (.int (ev_b (wl))), some (.long (e1 (cw x ((tg T i).2.2.2.1)))), none, none]) (st' := [.int (nI 4), .int (nI i), .ref (o), .long (e1 (cw x ((tg T i).2.2.2.1)))]) ⟨dX4_canFire_37, dX4_canFire_39, dX4_canFire_41, dX4_canFire_42, dX4_canFire_43, rfl⟩ rfl ?_
      refine ev_cVv Y_X4_part L_RX4_23 dX4_canFire_44 ⟨Nat.le_of_ble_eq_true rfl, Nat.le_of_ble_eq_true rfl, Nat.le_of_ble_eq_true rfl, Nat.le_of_ble_eq_true rfl, Nat.le_of_ble_eq_true rfl⟩ hR.obj (as := [.int (nI i), .int (nI 4)]) rfl rfl (c_X4_part4N hl _ _ hR (i) (by omega) (by omega)) ?_
      refine ev_cSv Y_X9_indexOf L_RX4_47 dX4_canFire_47 ⟨Nat.le_of_ble_eq_true rfl, Nat.le_of_ble_eq_true rfl, Nat.le_of_ble_eq_true rfl, Nat.le_of_ble_eq_true rfl, Nat.le_of_ble_eq_true rfl⟩ (as := [.long (e1 (cw x ((tg T i).2.2.2.1))), .int (nI ((tg T i).2.2.2.2))]) rfl rfl (c_X9_indexOf hl ((cw x ((tg T i).2.2.2.1))) (cw_ok hx _).1 (Nat.le_trans (cw_ok hx _).2 (by omega)) ((tg T i).2.2.2.2) (by omega)) ?_
      refine ev_blk (B := [(.istore 6, 2), (.iload_n 3, 1)]) (pe := 53) (ls' := [some (.ref (o)), some (.int (nI i)), some (.ref (c)), some (.int (ev_b (wl))), some (.long (e1 (cw x ((tg T i).2.2.2.1)))), none, some (.int (oI (ix ((cw x ((tg T i).2.2.2.1))) ((tg T i).2.2.2.2))))]) (st' := [.int (ev_b (wl))]) ⟨dX4_canFire_50, dX4_canFire_52, rfl⟩ rfl ?_
      refine ev_ifB_eq dX4_canFire_53 (tgt := 69) (by decide) (fun q53 => ?_) (fun q53 => ?_)
      · refine ev_blk (B := [(.iload 6, 2)]) (pe := 71) (ls' := [some (.ref (o)), some (.int (nI i)), some (.ref (c)), some (.int (ev_b (wl))), some (.long (e1 (cw x ((tg T i).2.2.2.1)))), none, some (.int (oI (ix ((cw x ((tg T i).2.2.2.1))) ((tg T i).2.2.2.2))))]) (st' := [.int (oI (ix ((cw x ((tg T i).2.2.2.1))) ((tg T i).2.2.2.2)))]) ⟨dX4_canFire_69, rfl⟩ rfl ?_
        refine ev_if_ne dX4_canFire_71 (tgt := 78) (by decide) (fun q71 => ?_) (fun q71 => ?_)
        · refine ev_blk (B := [(.iconst 0, 1)]) (pe := 79) (ls' := [some (.ref (o)), some (.int (nI i)), some (.ref (c)), some (.int (ev_b (wl))), some (.long (e1 (cw x ((tg T i).2.2.2.1)))), none, some (.int (oI (ix ((cw x ((tg T i).2.2.2.1))) ((tg T i).2.2.2.2))))]) (st' := [.int (nI 0)]) ⟨dX4_canFire_78, rfl⟩ rfl ?_
          refine ev_iret dX4_canFire_79 rfl (rfl) ⟨Nat.le_of_ble_eq_true rfl, Nat.le_of_ble_eq_true rfl⟩ ?_
          refine ev_q_e ?_
          unfold mf
          rw [beq_iff_eq.mpr q10, q22, q53]
          cases hz : ix (cw x (tg T i).2.2.2.1) (tg T i).2.2.2.2 with
          | none =>
            rw [hz] at q71
            first
              | rfl
              | exact absurd q71 (by decide)
          | some z =>
            rw [hz] at q71
            have hz2 := (ix_lt hz).1
            have hz3 := (cw_ok hx (tg T i).2.2.2.1).2
            first
              | (have e := (ev_nI0 (by omega)).mp q71; subst e; rfl)
              | (have e : z ≠ 0 := fun e => q71 (by rw [e]; rfl); have e2 : (z == 0) = false := beq_eq_false_iff_ne.mpr e; show _ = Sum.inl (some (Value.int (ev_b (true && ((2 != 2) || (false || (z == 0))))))); rw [e2]; rfl)
              | exact absurd q71 (show ¬ nI z < 0 from nI_pos (by omega))
              | rfl
        · refine ev_blk (B := [(.iconst 1, 1)]) (pe := 75) (ls' := [some (.ref (o)), some (.int (nI i)), some (.ref (c)), some (.int (ev_b (wl))), some (.long (e1 (cw x ((tg T i).2.2.2.1)))), none, some (.int (oI (ix ((cw x ((tg T i).2.2.2.1))) ((tg T i).2.2.2.2))))]) (st' := [.int (nI 1)]) ⟨dX4_canFire_74, rfl⟩ rfl ?_
          refine ev_goto (tgt := 79) dX4_canFire_75 (by decide) ?_
          refine ev_iret dX4_canFire_79 rfl (rfl) ⟨Nat.le_of_ble_eq_true rfl, Nat.le_of_ble_eq_true rfl⟩ ?_
          refine ev_q_e ?_
          unfold mf
          rw [beq_iff_eq.mpr q10, q22, q53]
          cases hz : ix (cw x (tg T i).2.2.2.1) (tg T i).2.2.2.2 with
          | none =>
            rw [hz] at q71
            first
              | rfl
              | exact absurd q71 (by decide)
          | some z =>
            rw [hz] at q71
            have hz2 := (ix_lt hz).1
            have hz3 := (cw_ok hx (tg T i).2.2.2.1).2
            first
              | (have e := (ev_nI0 (by omega)).mp q71; subst e; rfl)
              | (have e : z ≠ 0 := fun e => q71 (by rw [e]; rfl); have e2 : (z == 0) = false := beq_eq_false_iff_ne.mpr e; show _ = Sum.inl (some (Value.int (ev_b (true && ((2 != 2) || (false || (z == 0))))))); rw [e2]; rfl)
              | exact absurd q71 (show ¬ nI z < 0 from nI_pos (by omega))
              | rfl
      · refine ev_blk (B := [(.iload 6, 2)]) (pe := 58) (ls' := [some (.ref (o)), some (.int (nI i)), some (.ref (c)), some (.int (ev_b (wl))), some (.long (e1 (cw x ((tg T i).2.2.2.1)))), none, some (.int (oI (ix ((cw x ((tg T i).2.2.2.1))) ((tg T i).2.2.2.2))))]) (st' := [.int (oI (ix ((cw x ((tg T i).2.2.2.1))) ((tg T i).2.2.2.2)))]) ⟨dX4_canFire_56, rfl⟩ rfl ?_
        refine ev_if_lt dX4_canFire_58 (tgt := 65) (by decide) (fun q58 => ?_) (fun q58 => ?_)
        · refine ev_blk (B := [(.iconst 0, 1)]) (pe := 66) (ls' := [some (.ref (o)), some (.int (nI i)), some (.ref (c)), some (.int (ev_b (wl))), some (.long (e1 (cw x ((tg T i).2.2.2.1)))), none, some (.int (oI (ix ((cw x ((tg T i).2.2.2.1))) ((tg T i).2.2.2.2))))]) (st' := [.int (nI 0)]) ⟨dX4_canFire_65, rfl⟩ rfl ?_
          refine ev_goto (tgt := 79) dX4_canFire_66 (by decide) ?_
          refine ev_iret dX4_canFire_79 rfl (rfl) ⟨Nat.le_of_ble_eq_true rfl, Nat.le_of_ble_eq_true rfl⟩ ?_
          refine ev_q_e ?_
          unfold mf
          rw [beq_iff_eq.mpr q10, q22, q53]
          cases hz : ix (cw x (tg T i).2.2.2.1) (tg T i).2.2.2.2 with
          | none =>
            rw [hz] at q58
            first
              | rfl
              | exact absurd q58 (by decide)
          | some z =>
            rw [hz] at q58
            have hz2 := (ix_lt hz).1
            have hz3 := (cw_ok hx (tg T i).2.2.2.1).2
            first
              | (have e := (ev_nI0 (by omega)).mp q58; subst e; rfl)
              | (have e : z ≠ 0 := fun e => q58 (by rw [e]; rfl); have e2 : (z == 0) = false := beq_eq_false_iff_ne.mpr e; show _ = Sum.inl (some (Value.int (ev_b (true && ((2 != 2) || (false || (z == 0))))))); rw [e2]; rfl)
              | exact absurd q58 (show ¬ nI z < 0 from nI_pos (by omega))
              | rfl
        · refine ev_blk (B := [(.iconst 1, 1)]) (pe := 62) (ls' := [some (.ref (o)), some (.int (nI i)), some (.ref (c)), some (.int (ev_b (wl))), some (.long (e1 (cw x ((tg T i).2.2.2.1)))), none, some (.int (oI (ix ((cw x ((tg T i).2.2.2.1))) ((tg T i).2.2.2.2))))]) (st' := [.int (nI 1)]) ⟨dX4_canFire_61, rfl⟩ rfl ?_
          refine ev_goto (tgt := 79) dX4_canFire_62 (by decide) ?_
          refine ev_iret dX4_canFire_79 rfl (rfl) ⟨Nat.le_of_ble_eq_true rfl, Nat.le_of_ble_eq_true rfl⟩ ?_
          refine ev_q_e ?_
          unfold mf
          rw [beq_iff_eq.mpr q10, q22, q53]
          cases hz : ix (cw x (tg T i).2.2.2.1) (tg T i).2.2.2.2 with
          | none =>
            rw [hz] at q58
            first
              | rfl
              | exact absurd q58 (by decide)
          | some z =>
            rw [hz] at q58
            have hz2 := (ix_lt hz).1
            have hz3 := (cw_ok hx (tg T i).2.2.2.1).2
            first
              | (have e := (ev_nI0 (by omega)).mp q58; subst e; rfl)
              | (have e : z ≠ 0 := fun e => q58 (by rw [e]; rfl); have e2 : (z == 0) = false := beq_eq_false_iff_ne.mpr e; show _ = Sum.inl (some (Value.int (ev_b (true && ((2 != 2) || (false || (z == 0))))))); rw [e2]; rfl)
              | exact absurd q58 (show ¬ nI z < 0 from nI_pos (by omega))
              | rfl
    · refine ev_blk (B := [(.iconst 1, 1)]) (pe := 26) (ls' := [some (.ref (o)), some (.int (nI i)), some (.ref (c)), some (.int (ev_b (wl))), none, none, none]) (st' := [.int (nI 1)]) ⟨dX4_canFire_25, rfl⟩ rfl ?_
      refine ev_iret dX4_canFire_26 rfl (rfl) ⟨Nat.le_of_ble_eq_true rfl, Nat.le_of_ble_eq_true rfl⟩ ?_
      exact ev_q_e (by unfold mf; rw [beq_iff_eq.mpr q10, bne_iff_ne.mpr q22]; rfl)
  · refine ev_blk (B := [(.iconst 0, 1)]) (pe := 14) (ls' := [some (.ref (o)), some (.int (nI i)), some (.ref (c)), some (.int (ev_b (wl))), none, none, none]) (st' := [.int (nI 0)]) ⟨dX4_canFire_13, rfl⟩ rfl ?_
    refine ev_iret dX4_canFire_14 rfl (rfl) ⟨Nat.le_of_ble_eq_true rfl, Nat.le_of_ble_eq_true rfl⟩ ?_
    exact ev_q_e (by unfold mf; rw [beq_eq_false_iff_ne.mpr q10]; rfl)

set_option maxHeartbeats 4000000 in
set_option maxRecDepth 100000 in
theorem c_X4_firable_l {l : Launch} (hl : l.stackTraces = false) {M : ev_M} (o : Nat) (T : List Tr) (hR : RM M o T) (hT : trs T) (c : Nat) (x : Cf) (hF : RF M c x) (hx : cfW 24 x) (wl : Bool) : ∀ (n9 : Nat) (i : Nat), i ≤ T.length → T.length - i < n9 → ev_ l m_X4_firable 0 0 5 [some (.ref (o)), some (.ref (c)), some (.int (ev_b (wl))), some (.int (mk (fun t => mf x (tg T t) wl) i)), some (.int (nI i))] [] M (ev_q (.inl (some (.int (mk (fun t => mf x (tg T t) wl) T.length)))) M) := by
  intro n9
  induction n9 with
  | zero => intro i hi hm9; exact absurd hm9 (by omega)
  | succ n9 ih =>
    intro i hi hm9
    have hten := hR.1
    refine ev_blk (B := [(.iload 4, 2), (.aload_n 0, 1)]) (pe := 8) (ls' := [some (.ref (o)), some (.ref (c)), some (.int (ev_b (wl))), some (.int (mk (fun t => mf x (tg T t) wl) i)), some (.int (nI i))]) (st' := [.ref (o), .int (nI i)]) ⟨dX4_firable_5, dX4_firable_7, rfl⟩ rfl ?_
    refine ev_getf (v := .int (nI (T.length))) F_RX4_15 dX4_firable_8 hR.obj rfl ?_
    refine ev_iN_ge dX4_firable_11 (tgt := 38) (by decide) (by omega) (by omega) (fun q11 => ?_) (fun q11 => ?_)
    · refine ev_blk (B := [(.iload_n 3, 1)]) (pe := 39) (ls' := [some (.ref (o)), some (.ref (c)), some (.int (ev_b (wl))), some (.int (mk (fun t => mf x (tg T t) wl) i)), some (.int (nI i))]) (st' := [.int (mk (fun t => mf x (tg T t) wl) i)]) ⟨dX4_firable_38, rfl⟩ rfl ?_
      refine ev_iret dX4_firable_39 rfl (rfl) ⟨Nat.le_of_ble_eq_true rfl, Nat.le_of_ble_eq_true rfl⟩ ?_
      have e7 : i = T.length := by omega
      exact ev_q_e (by rw [e7])
    · refine ev_blk (B := [(.aload_n 0, 1), (.iload 4, 2), (.aload_n 1, 1), (.iload_n 2, 1)]) (pe := 19) (ls' := [some (.ref (o)), some (.ref (c)), some (.int (ev_b (wl))), some (.int (mk (fun t => mf x (tg T t) wl) i)), some (.int (nI i))]) (st' := [.int (ev_b (wl)), .ref (c), .int (nI i), .ref (o)]) ⟨dX4_firable_14, dX4_firable_15, dX4_firable_17, dX4_firable_18, rfl⟩ rfl ?_
      refine ev_cVv Y_X4_canFire L_RX4_53 dX4_firable_19 ⟨Nat.le_of_ble_eq_true rfl, Nat.le_of_ble_eq_true rfl, Nat.le_of_ble_eq_true rfl, Nat.le_of_ble_eq_true rfl, Nat.le_of_ble_eq_true rfl⟩ hR.obj (as := [.int (nI i), .ref (c), .int (ev_b (wl))]) rfl rfl (c_X4_canFire hl _ _ hR hT (i) (by omega) _ _ hF hx wl) ?_
      refine ev_ifB_eq dX4_firable_22 (tgt := 32) (by decide) (fun q22 => ?_) (fun q22 => ?_)
      · refine ev_blk (B := [(.iinc 4 1, 3)]) (pe := 35) (ls' := [some (.ref (o)), some (.ref (c)), some (.int (ev_b (wl))), some (.int (mk (fun t => mf x (tg T t) wl) i)), some (.int (nI (i + 1)))]) (st' := []) ⟨dX4_firable_32, rfl⟩ (by show some (([some (.ref (o)), some (.ref (c)), some (.int (ev_b (wl))), some (.int (mk (fun t => mf x (tg T t) wl) i)), some (.int ((nI i) + Int32.ofInt (1)))] : ev_L), ([] : List Value)) = _; rw [ev_inc1 i]) ?_
        refine ev_goto (tgt := 5) dX4_firable_35 (by decide) ?_
        have e9 : mk (fun t => mf x (tg T t) wl) (i + 1) = mk (fun t => mf x (tg T t) wl) i := if_neg (Bool.eq_false_iff.mp q22)
        have e8 := ih (i + 1) (by omega) (by omega)
        rw [e9] at e8
        exact e8
      · refine ev_blk (B := [(.iload_n 3, 1), (.iconst 1, 1), (.iload 4, 2), (.ishl, 1), (.ior, 1), (.istore_n 3, 1), (.iinc 4 1, 3)]) (pe := 35) (ls' := [some (.ref (o)), some (.ref (c)), some (.int (ev_b (wl))), some (.int ((mk (fun t => mf x (tg T t) wl) i) ||| ((nI 1) <<< ((nI i) &&& 31)))), some (.int (nI (i + 1)))]) (st' := []) ⟨dX4_firable_25, dX4_firable_26, dX4_firable_27, dX4_firable_29, dX4_firable_30, dX4_firable_31, dX4_firable_32, rfl⟩ (by show some (([some (.ref (o)), some (.ref (c)), some (.int (ev_b (wl))), some (.int ((mk (fun t => mf x (tg T t) wl) i) ||| ((nI 1) <<< ((nI i) &&& 31)))), some (.int ((nI i) + Int32.ofInt (1)))] : ev_L), ([] : List Value)) = _; rw [ev_inc1 i]) ?_
        refine ev_goto (tgt := 5) dX4_firable_35 (by decide) ?_
        have e9 : mk (fun t => mf x (tg T t) wl) (i + 1) = (mk (fun t => mf x (tg T t) wl) i) ||| ((nI 1) <<< ((nI i) &&& 31)) := if_pos q22
        have e8 := ih (i + 1) (by omega) (by omega)
        rw [e9] at e8
        exact e8

set_option maxHeartbeats 4000000 in
set_option maxRecDepth 100000 in
theorem c_X4_firable {l : Launch} (hl : l.stackTraces = false) {M : ev_M} (o : Nat) (T : List Tr) (hR : RM M o T) (hT : trs T) (c : Nat) (x : Cf) (hF : RF M c x) (hx : cfW 24 x) (wl : Bool) : ev_Mt l m_X4_firable [.ref (o), .ref (c), .int (ev_b (wl))] M (ev_q (.inl (some (.int (mk (fun t => mf x (tg T t) wl) T.length)))) M) := by
  refine ev_body hl rfl (by decide +kernel) (Nat.le_of_ble_eq_true rfl) ?_
  show ev_ l m_X4_firable 0 0 0 [some (.ref (o)), some (.ref (c)), some (.int (ev_b (wl))), none, none] [] M _
  refine ev_blk (B := [(.iconst 0, 1), (.istore_n 3, 1), (.iconst 0, 1), (.istore 4, 2)]) (pe := 5) (ls' := [some (.ref (o)), some (.ref (c)), some (.int (ev_b (wl))), some (.int (nI 0)), some (.int (nI 0))]) (st' := []) ⟨dX4_firable_0, dX4_firable_1, dX4_firable_2, dX4_firable_3, rfl⟩ rfl ?_
  exact c_X4_firable_l hl o T hR hT c x hF hx wl _ 0 (Nat.zero_le _) (Nat.lt_succ_self _)

set_option maxHeartbeats 4000000 in
set_option maxRecDepth 100000 in
theorem c_X4_newStates_l {l : Launch} (hl : l.stackTraces = false) {M : ev_M} (o : Nat) (T : List Tr) (hR : RM M o T) (hT : trs T) (z : Int32) : ∀ (n9 : Nat) (i : Nat), i ≤ T.length → T.length - i < n9 → ev_ l m_X4_newStates 0 0 4 [some (.ref (o)), some (.int (z)), some (.int (nst T z i)), some (.int (nI i))] [] M (ev_q (.inl (some (.int (nst T z T.length)))) M) := by
  intro n9
  induction n9 with
  | zero => intro i hi hm9; exact absurd hm9 (by omega)
  | succ n9 ih =>
    intro i hi hm9
    have hten := hR.1
    refine ev_blk (B := [(.iload_n 3, 1), (.aload_n 0, 1)]) (pe := 6) (ls' := [some (.ref (o)), some (.int (z)), some (.int (nst T z i)), some (.int (nI i))]) (st' := [.ref (o), .int (nI i)]) ⟨dX4_newStates_4, dX4_newStates_5, rfl⟩ rfl ?_
    refine ev_getf (v := .int (nI (T.length))) F_RX4_15 dX4_newStates_6 hR.obj rfl ?_
    refine ev_iN_ge dX4_newStates_9 (tgt := 38) (by decide) (by omega) (by omega) (fun q9 => ?_) (fun q9 => ?_)
    · refine ev_blk (B := [(.iload_n 2, 1)]) (pe := 39) (ls' := [some (.ref (o)), some (.int (z)), some (.int (nst T z i)), some (.int (nI i))]) (st' := [.int (nst T z i)]) ⟨dX4_newStates_38, rfl⟩ rfl ?_
      refine ev_iret dX4_newStates_39 rfl (rfl) ⟨Nat.le_of_ble_eq_true rfl, Nat.le_of_ble_eq_true rfl⟩ ?_
      have e7 : i = T.length := by omega
      exact ev_q_e (by rw [e7])
    · refine ev_blk (B := [(.iload_n 1, 1), (.iload_n 3, 1), (.ishr, 1), (.iconst 1, 1), (.iand, 1), (.iconst 1, 1)]) (pe := 18) (ls' := [some (.ref (o)), some (.int (z)), some (.int (nst T z i)), some (.int (nI i))]) (st' := [.int (nI 1), .int (((z) >>> ((nI i) &&& 31)) &&& (nI 1))]) ⟨dX4_newStates_12, dX4_newStates_13, dX4_newStates_14, dX4_newStates_15, dX4_newStates_16, dX4_newStates_17, rfl⟩ rfl ?_
      refine ev_ic_ne dX4_newStates_18 (tgt := 32) (by decide) (fun q18 => ?_) (fun q18 => ?_)
      · refine ev_blk (B := [(.iinc 3 1, 3)]) (pe := 35) (ls' := [some (.ref (o)), some (.int (z)), some (.int (nst T z i)), some (.int (nI (i + 1)))]) (st' := []) ⟨dX4_newStates_32, rfl⟩ (by show some (([some (.ref (o)), some (.int (z)), some (.int (nst T z i)), some (.int ((nI i) + Int32.ofInt (1)))] : ev_L), ([] : List Value)) = _; rw [ev_inc1 i]) ?_
        refine ev_goto (tgt := 4) dX4_newStates_35 (by decide) ?_
        have e9 : nst T z (i + 1) = nst T z i := if_neg q18
        have e8 := ih (i + 1) (by omega) (by omega)
        rw [e9] at e8
        exact e8
      · refine ev_blk (B := [(.iload_n 2, 1), (.iconst 1, 1), (.aload_n 0, 1), (.iload_n 3, 1), (.iconst 1, 1)]) (pe := 26) (ls' := [some (.ref (o)), some (.int (z)), some (.int (nst T z i)), some (.int (nI i))]) (st' := [.int (nI 1), .int (nI i), .ref (o), .int (nI 1), .int (nst T z i)]) ⟨dX4_newStates_21, dX4_newStates_22, dX4_newStates_23, dX4_newStates_24, dX4_newStates_25, rfl⟩ rfl ?_
        refine ev_cVv Y_X4_part L_RX4_23 dX4_newStates_26 ⟨Nat.le_of_ble_eq_true rfl, Nat.le_of_ble_eq_true rfl, Nat.le_of_ble_eq_true rfl, Nat.le_of_ble_eq_true rfl, Nat.le_of_ble_eq_true rfl⟩ hR.obj (as := [.int (nI i), .int (nI 1)]) rfl rfl (c_X4_part hl _ _ hR (i) (by omega) 1 (by omega)) ?_
        refine ev_blk (B := [(.ishl, 1), (.ior, 1), (.istore_n 2, 1), (.iinc 3 1, 3)]) (pe := 35) (ls' := [some (.ref (o)), some (.int (z)), some (.int ((nst T z i) ||| ((nI 1) <<< ((nI ((tg T i).2.1)) &&& 31)))), some (.int (nI (i + 1)))]) (st' := []) ⟨dX4_newStates_29, dX4_newStates_30, dX4_newStates_31, dX4_newStates_32, rfl⟩ (by show some (([some (.ref (o)), some (.int (z)), some (.int ((nst T z i) ||| ((nI 1) <<< ((nI ((tg T i).2.1)) &&& 31)))), some (.int ((nI i) + Int32.ofInt (1)))] : ev_L), ([] : List Value)) = _; rw [ev_inc1 i]) ?_
        refine ev_goto (tgt := 4) dX4_newStates_35 (by decide) ?_
        have e9 : nst T z (i + 1) = (nst T z i) ||| ((nI 1) <<< ((nI ((tg T i).2.1)) &&& 31)) := if_pos q18
        have e8 := ih (i + 1) (by omega) (by omega)
        rw [e9] at e8
        exact e8

set_option maxHeartbeats 4000000 in
set_option maxRecDepth 100000 in
theorem c_X4_newStates {l : Launch} (hl : l.stackTraces = false) {M : ev_M} (o : Nat) (T : List Tr) (hR : RM M o T) (hT : trs T) (z : Int32) : ev_Mt l m_X4_newStates [.ref (o), .int (z)] M (ev_q (.inl (some (.int (nst T z T.length)))) M) := by
  refine ev_body hl rfl (by decide +kernel) (Nat.le_of_ble_eq_true rfl) ?_
  show ev_ l m_X4_newStates 0 0 0 [some (.ref (o)), some (.int (z)), none, none] [] M _
  refine ev_blk (B := [(.iconst 0, 1), (.istore_n 2, 1), (.iconst 0, 1), (.istore_n 3, 1)]) (pe := 4) (ls' := [some (.ref (o)), some (.int (z)), some (.int (nI 0)), some (.int (nI 0))]) (st' := []) ⟨dX4_newStates_0, dX4_newStates_1, dX4_newStates_2, dX4_newStates_3, rfl⟩ rfl ?_
  exact c_X4_newStates_l hl o T hR hT z _ 0 (Nat.zero_le _) (Nat.lt_succ_self _)

