/-! ===== Analysis ===== -/
theorem ev_b_or (a b : Bool) : ev_b a ||| ev_b b = ev_b (a || b) := by cases a <;> cases b <;> decide
theorem insR_len {c : Cf} {L : List Cf} : (insR c L).length = L.length + 1 := by
  induction L with
  | nil => rfl
  | cons x r ih =>
    unfold insR
    split
    · rw [List.length_cons, ih, List.length_cons]
    · rfl
theorem ins_len {c : Cf} {L : List Cf} : (ins c L).length = L.length + 1 := by
  unfold ins
  rw [List.length_reverse, insR_len, List.length_reverse]
theorem insR_mem {c y : Cf} {L : List Cf} : y ∈ insR c L ↔ y = c ∨ y ∈ L := by
  induction L with
  | nil => unfold insR; simp
  | cons x r ih =>
    unfold insR
    split
    · rw [List.mem_cons, ih, List.mem_cons]
      constructor
      · rintro (h | h | h)
        · exact Or.inr (Or.inl h)
        · exact Or.inl h
        · exact Or.inr (Or.inr h)
      · rintro (h | h | h)
        · exact Or.inr (Or.inl h)
        · exact Or.inl h
        · exact Or.inr (Or.inr h)
    · rw [List.mem_cons]
theorem ins_mem {c y : Cf} {L : List Cf} : y ∈ ins c L ↔ y = c ∨ y ∈ L := by
  unfold ins
  rw [List.mem_reverse, insR_mem, List.mem_reverse]
theorem im_len {L : List Cf} {c : Cf} : (im L c).2.length ≤ L.length + 1 := by
  unfold im
  split
  · exact Nat.le_succ _
  · show (ins c _).length ≤ _
    rw [ins_len]
    exact Nat.succ_le_succ (List.length_filter_le _ _)
theorem im_sub {L : List Cf} {c y : Cf} (h : y ∈ (im L c).2) : y ∈ L ∨ y = c := by
  unfold im at h
  split at h
  · exact Or.inl h
  · rcases ins_mem.mp h with q | q
    · exact Or.inr q
    · exact Or.inl (List.mem_filter.mp q).1
theorem im_ok {k : Nat} {L : List Cf} {c : Cf} (hL : cfs k L) (hc : cfW k c) : cfs k (im L c).2 := by
  intro y hy
  rcases im_sub hy with q | q
  · exact hL y q
  · rw [q]; exact hc
theorem cset_ok {k : Nat} {x : Cf} (hx : cfW k x) (ch : Nat) {w : List Nat} (hw : wk w) (hl : w.length ≤ k) {s : Nat} (hs : s < 6) : cfW k (s, (cset x ch w).2) := by
  unfold cset
  split
  · exact ⟨hs, hw, hl, hx.2.2.2.1, hx.2.2.2.2⟩
  · exact ⟨hs, hx.2.1, hx.2.2.1, hw, hl⟩
theorem bp_ok {k : Nat} {x : Cf} {t : Tr} (hx : cfW k x) (ht : trO t) : cfW (k + 1) (bp t x) := by
  have hx1 : cfW (k + 1) x := hx.le (Nat.le_succ k)
  have hc := cw_ok hx t.2.2.2.1
  unfold bp
  split
  · refine cset_ok hx1 _ (fun a ha => ?_) (by rw [List.length_cons]; omega) ht.1
    rcases List.mem_cons.mp ha with q | q
    · rw [q]; exact ht.2.2.2.2
    · exact hc.1 a q
  · split
    · split
      · exact cset_ok hx1 _ (fun a ha => hc.1 a ((List.dropLast_sublist _).subset ha)) (by rw [List.length_dropLast]; omega) ht.1
      · exact ⟨ht.1, hx1.2⟩
    · exact ⟨ht.1, hx1.2⟩
/-- the goals' basis -/
def gsn (G : List Cf) : Nat → List Cf
  | 0 => []
  | i + 1 => (im (gsn G i) (cg G i)).2
def gs (G : List Cf) : List Cf := gsn G G.length
/-- the predecessors of one are put in -/
def ist (T : List Tr) (x : Cf) : Nat → Bool × List Cf → Bool × List Cf
  | 0, p => p
  | t + 1, p => if (tg T t).2.1 == x.1 then ((ist T x t p).1 || (im (ist T x t p).2 (bp (tg T t) x)).1, (im (ist T x t p).2 (bp (tg T t) x)).2) else ist T x t p
/-- the predecessors of all that are not old -/
def sto (T : List Tr) (P L : List Cf) : Nat → Bool × List Cf → Bool × List Cf
  | 0, p => p
  | i + 1, p => if decide (cg L i ∈ P) then sto T P L i p else ist T (cg L i) T.length (sto T P L i p)
/-- the basis of the round before, whether it changed, the basis of the round -/
def nx (T : List Tr) (G : List Cf) : Nat → List Cf × Bool × List Cf
  | 0 => ([], true, gs G)
  | k + 1 => ((nx T G k).2.2, sto T (nx T G k).1 (nx T G k).2.2 (nx T G k).2.2.length (false, (nx T G k).2.2))
def bl (T : List Tr) (G : List Cf) (k : Nat) : List Cf := (nx T G k).2.2
def chg (T : List Tr) (G : List Cf) (k : Nat) : Bool := (nx T G k).2.1
def pv (T : List Tr) (G : List Cf) (k : Nat) : List Cf := (nx T G k).1
theorem pv_s (T : List Tr) (G : List Cf) (k : Nat) : pv T G (k + 1) = bl T G k := rfl
theorem nx_s (T : List Tr) (G : List Cf) (k : Nat) : (chg T G (k + 1), bl T G (k + 1)) = sto T (pv T G k) (bl T G k) (bl T G k).length (false, bl T G k) := rfl
/-- the rounds from k on: whether the analysis is complete, and the last round -/
def rl (T : List Tr) (G : List Cf) : Nat → Nat → Nat → Bool × Nat
  | 0, _, la => (false, la)
  | n + 1, k, la => if (bl T G k).length ≤ 30 then (if chg T G (k + 1) then rl T G n (k + 1) k else (true, k)) else (false, la)
def rn (T : List Tr) (G : List Cf) : Bool × Nat := rl T G 13 0 0
theorem gsn_len {G : List Cf} (i : Nat) : (gsn G i).length ≤ i := by
  induction i with
  | zero => exact Nat.le_refl _
  | succ i ih => exact Nat.le_trans im_len (by omega)
theorem gsn_ok {k : Nat} {G : List Cf} (hG : cfs k G) (i : Nat) (hi : i ≤ G.length) : cfs k (gsn G i) := by
  induction i with
  | zero => exact cfs_nil
  | succ i ih => exact im_ok (ih (by omega)) (cfs_cg hG (by omega))
theorem ist_len {T : List Tr} {x : Cf} {p : Bool × List Cf} (t : Nat) : (ist T x t p).2.length ≤ p.2.length + t := by
  induction t with
  | zero => exact Nat.le_refl _
  | succ t ih =>
    unfold ist
    split
    · exact Nat.le_trans im_len (by omega)
    · omega
theorem ist_ok {k : Nat} {T : List Tr} {x : Cf} {p : Bool × List Cf} (hT : trs T) (hx : cfW k x) (hp : cfs (k + 1) p.2) (t : Nat) (ht : t ≤ T.length) : cfs (k + 1) (ist T x t p).2 := by
  induction t with
  | zero => exact hp
  | succ t ih =>
    unfold ist
    split
    · exact im_ok (ih (by omega)) (bp_ok hx (trs_tg hT (by omega)))
    · exact ih (by omega)
theorem sto_len {T : List Tr} {P L : List Cf} {p : Bool × List Cf} (i : Nat) : (sto T P L i p).2.length ≤ p.2.length + i * T.length := by
  induction i with
  | zero => rw [Nat.zero_mul]; exact Nat.le_refl _
  | succ i ih =>
    have h : (i + 1) * T.length = i * T.length + T.length := Nat.succ_mul i T.length
    unfold sto
    split
    · omega
    · have := ist_len (T := T) (x := cg L i) (p := sto T P L i p) T.length
      omega
theorem sto_ok {k : Nat} {T : List Tr} {P L : List Cf} {p : Bool × List Cf} (hT : trs T) (hL : cfs k L) (hp : cfs (k + 1) p.2) (i : Nat) (hi : i ≤ L.length) : cfs (k + 1) (sto T P L i p).2 := by
  induction i with
  | zero => exact hp
  | succ i ih =>
    unfold sto
    split
    · exact ih (by omega)
    · exact ist_ok hT (cfs_cg hL (by omega)) (ih (by omega)) _ (Nat.le_refl _)
theorem bl_ok {k : Nat} {T : List Tr} {G : List Cf} (hT : trs T) (hG : cfs k G) (n : Nat) : cfs (k + n) (bl T G n) := by
  induction n with
  | zero => exact gsn_ok hG _ (Nat.le_refl _)
  | succ n ih =>
    have h := sto_ok (P := pv T G n) hT ih (p := (false, bl T G n)) (ih.le (Nat.le_succ _)) (bl T G n).length (Nat.le_refl _)
    rw [← nx_s] at h
    exact h
/-- an Analysis at o: its row at o + 1, the bases of the rounds behind it, the next at o + 54, its work at o + 58, its walker at o + 59 -/
def RAo (M : ev_M) (o : Nat) (cu co : Bool) (la tr lo : Nat) : Prop := M[o]? = some (.inr (0, [.ref (o + 1), .ref (o + 54), .ref (o + 58), .ref (o + 59), .int (ev_b cu), .int (ev_b co), .int (nI la), .int (nI tr), .int (nI lo)])) ∧ ∃ fr : Nat → Option Nat, M[o + 1]? = some (.inl (3, 13, .inr (.inr (.inr (.inr fr))))) ∧ ∀ k, k < 13 → fr k = some (o + 2 + 4 * k)
def RBs (M : ev_M) (o : Nat) (B : Nat → List Cf) : Prop := ∀ k, k < 13 → RQ M (o + 2 + 4 * k) 30 (B k)
def RWk (M : ev_M) (c : Nat) : Prop := ∃ y, RF M c y
theorem RAo.fr {lo hi : Nat} {M M1 : ev_M} {o : Nat} {cu co : Bool} {la tr ls : Nat} (hR : RAo M o cu co la tr ls) (hf : Fr lo hi M M1) (hd : o + 2 ≤ lo ∨ hi ≤ o) : RAo M1 o cu co la tr ls := by
  obtain ⟨h1, fr, h2, h3⟩ := hR
  exact ⟨(hf.2 o (by omega)).trans h1, fr, (hf.2 _ (by omega)).trans h2, h3⟩
theorem RBs.fr {lo hi : Nat} {M M1 : ev_M} {o : Nat} {B : Nat → List Cf} (hR : RBs M o B) (hf : Fr lo hi M M1) (hd : o + 54 ≤ lo ∨ hi ≤ o + 2) : RBs M1 o B := fun k hk => (hR k hk).fr hf (by omega)
theorem RWk.fr {lo hi : Nat} {M M1 : ev_M} {c : Nat} (hR : RWk M c) (hf : Fr lo hi M M1) (hd : c < lo ∨ hi ≤ c) : RWk M1 c := by
  obtain ⟨y, h⟩ := hR
  exact ⟨y, h.fr hf hd⟩
theorem RF.wk {M : ev_M} {c : Nat} {y : Cf} (h : RF M c y) : RWk M c := ⟨y, h⟩
set_option maxHeartbeats 4000000 in
set_option maxRecDepth 100000 in
theorem c_X0_discard {l : Launch} (hl : l.stackTraces = false) {M : ev_M} (o : Nat) (cu co : Bool) (la tr lo : Nat) (hO : RAo M o cu co la tr lo) : ev_Mt l m_X0_discard [.ref (o)] M (fun r M1 => r = .inl none ∧ RAo M1 o false co la tr lo ∧ Fr o (o + 1) M M1) := by
  have hO9 := hO
  obtain ⟨hO0, fr, hO1, hO2⟩ := hO9
  refine ev_body hl rfl (by decide +kernel) (Nat.le_of_ble_eq_true rfl) ?_
  show ev_ l m_X0_discard 0 0 0 [some (.ref (o))] [] M _
  refine ev_blk (B := [(.aload_n 0, 1), (.iconst 0, 1)]) (pe := 2) (ls' := [some (.ref (o))]) (st' := [.int (nI 0), .ref (o)]) ⟨dX0_discard_0, dX0_discard_1, rfl⟩ rfl ?_
  refine ev_put F_RX0_34 dX0_discard_2 hO0 (Nat.le_of_ble_eq_true rfl) (fun _ _ => ⟨rfl, rfl⟩) ?_
  refine ev_nm (M0 := M.set (o) (.inr (0, [.ref (o + 1), .ref (o + 54), .ref (o + 58), .ref (o + 59), .int (nI 0), .int (ev_b (co)), .int (nI la), .int (nI tr), .int (nI lo)]))) (fun M1 eM1 => ?_)
  have f2 : M1[o]? = some (.inr (0, [.ref (o + 1), .ref (o + 54), .ref (o + 58), .ref (o + 59), .int (nI 0), .int (ev_b (co)), .int (nI la), .int (nI tr), .int (nI lo)])) := by rw [eM1]; exact ev_sg hO0
  have f3 : M1[o + 1]? = some (.inl (3, 13, .inr (.inr (.inr (.inr (fr)))))) := by rw [eM1, ev_sn (by omega)]; exact hO1
  refine ev_vret dX0_discard_5 rfl ⟨Nat.le_of_ble_eq_true rfl, Nat.le_of_ble_eq_true rfl⟩ ?_
  exact ⟨rfl, ⟨f2, fr, f3, hO2⟩, ⟨by rw [eM1]; simp only [List.length_set], fun j hj => by rw [eM1, ev_sn (by omega)]⟩⟩

set_option maxHeartbeats 4000000 in
set_option maxRecDepth 100000 in
theorem c_X0_last {l : Launch} (hl : l.stackTraces = false) {M : ev_M} (o : Nat) (cu co : Bool) (la tr lo : Nat) (hO : RAo M o cu co la tr lo) : ev_Mt l m_X0_last [.ref (o)] M (ev_q (.inl (some (.int (nI la)))) M) := by
  have hO9 := hO
  obtain ⟨hO0, fr, hO1, hO2⟩ := hO9
  refine ev_body hl rfl (by decide +kernel) (Nat.le_of_ble_eq_true rfl) ?_
  show ev_ l m_X0_last 0 0 0 [some (.ref (o))] [] M _
  refine ev_blk (B := [(.aload_n 0, 1)]) (pe := 1) (ls' := [some (.ref (o))]) (st' := [.ref (o)]) ⟨dX0_last_0, rfl⟩ rfl ?_
  refine ev_getf (v := .int (nI la)) F_RX0_41 dX0_last_1 hO0 rfl ?_
  refine ev_iret dX0_last_4 rfl (rfl) ⟨Nat.le_of_ble_eq_true rfl, Nat.le_of_ble_eq_true rfl⟩ ?_
  exact ⟨rfl, rfl⟩

set_option maxHeartbeats 4000000 in
set_option maxRecDepth 100000 in
theorem c_X0_walkedTransition {l : Launch} (hl : l.stackTraces = false) {M : ev_M} (o : Nat) (cu co : Bool) (la tr lo : Nat) (hO : RAo M o cu co la tr lo) : ev_Mt l m_X0_walkedTransition [.ref (o)] M (ev_q (.inl (some (.int (nI tr)))) M) := by
  have hO9 := hO
  obtain ⟨hO0, fr, hO1, hO2⟩ := hO9
  refine ev_body hl rfl (by decide +kernel) (Nat.le_of_ble_eq_true rfl) ?_
  show ev_ l m_X0_walkedTransition 0 0 0 [some (.ref (o))] [] M _
  refine ev_blk (B := [(.aload_n 0, 1)]) (pe := 1) (ls' := [some (.ref (o))]) (st' := [.ref (o)]) ⟨dX0_walkedTransition_0, rfl⟩ rfl ?_
  refine ev_getf (v := .int (nI tr)) F_RX0_45 dX0_walkedTransition_1 hO0 rfl ?_
  refine ev_iret dX0_walkedTransition_4 rfl (rfl) ⟨Nat.le_of_ble_eq_true rfl, Nat.le_of_ble_eq_true rfl⟩ ?_
  exact ⟨rfl, rfl⟩

set_option maxHeartbeats 4000000 in
set_option maxRecDepth 100000 in
theorem c_X0_walkedLosses {l : Launch} (hl : l.stackTraces = false) {M : ev_M} (o : Nat) (cu co : Bool) (la tr lo : Nat) (hO : RAo M o cu co la tr lo) : ev_Mt l m_X0_walkedLosses [.ref (o)] M (ev_q (.inl (some (.int (nI lo)))) M) := by
  have hO9 := hO
  obtain ⟨hO0, fr, hO1, hO2⟩ := hO9
  refine ev_body hl rfl (by decide +kernel) (Nat.le_of_ble_eq_true rfl) ?_
  show ev_ l m_X0_walkedLosses 0 0 0 [some (.ref (o))] [] M _
  refine ev_blk (B := [(.aload_n 0, 1)]) (pe := 1) (ls' := [some (.ref (o))]) (st' := [.ref (o)]) ⟨dX0_walkedLosses_0, rfl⟩ rfl ?_
  refine ev_getf (v := .int (nI lo)) F_RX0_48 dX0_walkedLosses_1 hO0 rfl ?_
  refine ev_iret dX0_walkedLosses_4 rfl (rfl) ⟨Nat.le_of_ble_eq_true rfl, Nat.le_of_ble_eq_true rfl⟩ ?_
  exact ⟨rfl, rfl⟩

set_option maxHeartbeats 4000000 in
set_option maxRecDepth 100000 in
theorem c_X0_basisOf {l : Launch} (hl : l.stackTraces = false) {M : ev_M} (o : Nat) (cu co : Bool) (la tr lo : Nat) (hO : RAo M o cu co la tr lo) (k : Nat) (hk : k < 13) : ev_Mt l m_X0_basisOf [.ref (o), .int (nI k)] M (ev_q (.inl (some (.ref (o + 2 + 4 * k)))) M) := by
  have hO9 := hO
  obtain ⟨hO0, fr, hO1, hO2⟩ := hO9
  refine ev_body hl rfl (by decide +kernel) (Nat.le_of_ble_eq_true rfl) ?_
  show ev_ l m_X0_basisOf 0 0 0 [some (.ref (o)), some (.int (nI k))] [] M _
  refine ev_blk (B := [(.iload_n 1, 1)]) (pe := 1) (ls' := [some (.ref (o)), some (.int (nI k))]) (st' := [.int (nI k)]) ⟨dX0_basisOf_0, rfl⟩ rfl ?_
  refine ev_fN_lt dX0_basisOf_1 (tgt := 22) (by decide) (by omega) ?_
  refine ev_blk (B := [(.iload_n 1, 1), (.aload_n 0, 1)]) (pe := 6) (ls' := [some (.ref (o)), some (.int (nI k))]) (st' := [.ref (o), .int (nI k)]) ⟨dX0_basisOf_4, dX0_basisOf_5, rfl⟩ rfl ?_
  refine ev_getf (v := .ref (o + 1)) F_RX0_11 dX0_basisOf_6 hO0 rfl ?_
  refine ev_alen (v := nI (13)) dX0_basisOf_9 hO1 (by decide) rfl ?_
  refine ev_iN_ge dX0_basisOf_10 (tgt := 22) (by decide) (by omega) (by omega) (fun q10 => ?_) (fun q10 => ?_)
  · exfalso; omega
  · refine ev_blk (B := [(.aload_n 0, 1)]) (pe := 14) (ls' := [some (.ref (o)), some (.int (nI k))]) (st' := [.ref (o)]) ⟨dX0_basisOf_13, rfl⟩ rfl ?_
    refine ev_getf (v := .ref (o + 1)) F_RX0_11 dX0_basisOf_14 hO0 rfl ?_
    refine ev_blk (B := [(.iload_n 1, 1)]) (pe := 18) (ls' := [some (.ref (o)), some (.int (nI k))]) (st' := [.int (nI k), .ref (o + 1)]) ⟨dX0_basisOf_17, rfl⟩ rfl ?_
    refine ev_aald (v := o + 2 + 4 * k) dX0_basisOf_18 hO1 (vp_in_nI (show k < 13 by omega) (by omega)) (by rw [nI_clamp (show k < 2 ^ 31 by omega)]; exact hO2 k hk) ?_
    refine ev_goto (tgt := 26) dX0_basisOf_19 (by decide) ?_
    refine ev_aret dX0_basisOf_26 rfl (by first | exact Or.inl ⟨_, rfl⟩ | exact Or.inr ⟨_, rfl⟩) ⟨Nat.le_of_ble_eq_true rfl, Nat.le_of_ble_eq_true rfl⟩ ?_
    exact ⟨rfl, rfl⟩

set_option maxHeartbeats 4000000 in
set_option maxRecDepth 100000 in
theorem c_X0_isOld {l : Launch} (hl : l.stackTraces = false) {M : ev_M} (o : Nat) (cu co : Bool) (la tr lo : Nat) (hO : RAo M o cu co la tr lo) (B : Nat → List Cf) (hBs : RBs M o B) (k : Nat) (hk : k < 13) (hc25 : ∀ j, j ≤ k → cfs 25 (B j)) (i : Nat) (hi : i < (B k).length) (y : Cf) (hW : RF M (o + 58) y) : ev_Mt l m_X0_isOld [.ref (o), .ref (o + 2 + 4 * k), .int (nI i), .int (nI k)] M (fun r M1 => r = .inl (some (.int (ev_b (decide (0 < k) && decide (cg (B k) i ∈ B (k - 1)))))) ∧ RWk M1 (o + 58) ∧ Fr (o + 58) (o + 59) M M1) := by
  have hO9 := hO
  obtain ⟨hO0, fr, hO1, hO2⟩ := hO9
  have h30 := (hBs k hk).2.1
  refine ev_body hl rfl (by decide +kernel) (Nat.le_of_ble_eq_true rfl) ?_
  show ev_ l m_X0_isOld 0 0 0 [some (.ref (o)), some (.ref (o + 2 + 4 * k)), some (.int (nI i)), some (.int (nI k))] [] M _
  refine ev_blk (B := [(.aload_n 1, 1), (.iload_n 2, 1), (.aload_n 0, 1)]) (pe := 3) (ls' := [some (.ref (o)), some (.ref (o + 2 + 4 * k)), some (.int (nI i)), some (.int (nI k))]) (st' := [.ref (o), .int (nI i), .ref (o + 2 + 4 * k)]) ⟨dX0_isOld_0, dX0_isOld_1, dX0_isOld_2, rfl⟩ rfl ?_
  refine ev_getf (v := .ref (o + 58)) F_RX0_27 dX0_isOld_3 hO0 rfl ?_
  refine ev_cVn Y_X2_load L_RX0_101 dX0_isOld_6 ⟨Nat.le_of_ble_eq_true rfl, Nat.le_of_ble_eq_true rfl, Nat.le_of_ble_eq_true rfl, Nat.le_of_ble_eq_true rfl, Nat.le_of_ble_eq_true rfl⟩ (hBs k (by omega)).obj (as := [.int (nI i), .ref (o + 58)]) rfl rfl (c_X2_load hl _ _ _ (hBs k hk) (i) (by omega) _ _ hW (by omega) hi) (fun M1 hL1 hB1 => ?_)
  obtain ⟨hB1, hB2⟩ := hB1
  have hO3 := hO.fr hB2 (by omega)
  have hO4 := hO3
  obtain ⟨hO5, fr1, hO6, hO7⟩ := hO4
  refine ev_blk (B := [(.iload_n 3, 1)]) (pe := 10) (ls' := [some (.ref (o)), some (.ref (o + 2 + 4 * k)), some (.int (nI i)), some (.int (nI k))]) (st' := [.int (nI k)]) ⟨dX0_isOld_9, rfl⟩ rfl ?_
  refine ev_fN_le dX0_isOld_10 (tgt := 34) (by decide) (by omega) (fun q10 => ?_) (fun q10 => ?_)
  · refine ev_blk (B := [(.iconst 0, 1)]) (pe := 35) (ls' := [some (.ref (o)), some (.ref (o + 2 + 4 * k)), some (.int (nI i)), some (.int (nI k))]) (st' := [.int (nI 0)]) ⟨dX0_isOld_34, rfl⟩ rfl ?_
    refine ev_iret dX0_isOld_35 rfl (rfl) ⟨Nat.le_of_ble_eq_true rfl, Nat.le_of_ble_eq_true rfl⟩ ?_
    exact ⟨by rw [decide_eq_false (show ¬ 0 < k by omega)]; rfl, hB1.wk, hB2⟩
  · refine ev_blk (B := [(.aload_n 0, 1), (.iload_n 3, 1), (.iconst 1, 1), (.isub, 1)]) (pe := 17) (ls' := [some (.ref (o)), some (.ref (o + 2 + 4 * k)), some (.int (nI i)), some (.int (nI k))]) (st' := [.int (nI (k - 1)), .ref (o)]) ⟨dX0_isOld_13, dX0_isOld_14, dX0_isOld_15, dX0_isOld_16, rfl⟩ (by show some (([some (.ref (o)), some (.ref (o + 2 + 4 * k)), some (.int (nI i)), some (.int (nI k))] : ev_L), ([.int ((nI k) - (nI 1)), .ref (o)] : List Value)) = _; rw [pk_sub (show 1 ≤ k by omega)]) ?_
    refine ev_cVv Y_X0_basisOf L_RX0_59 dX0_isOld_17 ⟨Nat.le_of_ble_eq_true rfl, Nat.le_of_ble_eq_true rfl, Nat.le_of_ble_eq_true rfl, Nat.le_of_ble_eq_true rfl, Nat.le_of_ble_eq_true rfl⟩ hO5 (as := [.int (nI (k - 1))]) rfl rfl (c_X0_basisOf hl o _ _ _ _ _ hO3 (k - 1) (by omega)) ?_
    refine ev_blk (B := [(.aload_n 0, 1)]) (pe := 21) (ls' := [some (.ref (o)), some (.ref (o + 2 + 4 * k)), some (.int (nI i)), some (.int (nI k))]) (st' := [.ref (o), .ref (o + 2 + 4 * (k - 1))]) ⟨dX0_isOld_20, rfl⟩ rfl ?_
    refine ev_getf (v := .ref (o + 58)) F_RX0_27 dX0_isOld_21 hO5 rfl ?_
    refine ev_cVv Y_X2_contains L_RX0_125 dX0_isOld_24 ⟨Nat.le_of_ble_eq_true rfl, Nat.le_of_ble_eq_true rfl, Nat.le_of_ble_eq_true rfl, Nat.le_of_ble_eq_true rfl, Nat.le_of_ble_eq_true rfl⟩ ((hBs (k - 1) (by omega)).fr hB2 (by omega)).obj (as := [.ref (o + 58)]) rfl rfl (c_X2_contains hl _ _ _ ((hBs (k - 1) (by omega)).fr hB2 (by omega)) (hc25 (k - 1) (by omega)) _ _ hB1 (cfs_cg (hc25 k (Nat.le_refl k)) hi)) ?_
    refine ev_ifB_eq dX0_isOld_27 (tgt := 34) (by decide) (fun q27 => ?_) (fun q27 => ?_)
    · refine ev_blk (B := [(.iconst 0, 1)]) (pe := 35) (ls' := [some (.ref (o)), some (.ref (o + 2 + 4 * k)), some (.int (nI i)), some (.int (nI k))]) (st' := [.int (nI 0)]) ⟨dX0_isOld_34, rfl⟩ rfl ?_
      refine ev_iret dX0_isOld_35 rfl (rfl) ⟨Nat.le_of_ble_eq_true rfl, Nat.le_of_ble_eq_true rfl⟩ ?_
      exact ⟨by rw [decide_eq_true (show 0 < k by omega), q27]; rfl, hB1.wk, hB2⟩
    · refine ev_blk (B := [(.iconst 1, 1)]) (pe := 31) (ls' := [some (.ref (o)), some (.ref (o + 2 + 4 * k)), some (.int (nI i)), some (.int (nI k))]) (st' := [.int (nI 1)]) ⟨dX0_isOld_30, rfl⟩ rfl ?_
      refine ev_goto (tgt := 35) dX0_isOld_31 (by decide) ?_
      refine ev_iret dX0_isOld_35 rfl (rfl) ⟨Nat.le_of_ble_eq_true rfl, Nat.le_of_ble_eq_true rfl⟩ ?_
      exact ⟨by rw [decide_eq_true (show 0 < k by omega), q27]; rfl, hB1.wk, hB2⟩

