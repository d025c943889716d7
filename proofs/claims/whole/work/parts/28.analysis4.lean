theorem rl_0 {T : List Tr} {G : List Cf} (h : G.length ≤ 3) (la : Nat) : rl T G 13 0 la = rn T G := by
  have h2 : (bl T G 0).length ≤ 30 := Nat.le_trans (gsn_len (G := G) G.length) (by omega)
  show (if _ then _ else _) = (if _ then _ else _)
  rw [if_pos h2, if_pos h2]
set_option maxHeartbeats 4000000 in
set_option maxRecDepth 100000 in
theorem c_X0_runN {l : Launch} (hl : l.stackTraces = false) {M : ev_M} (o : Nat) (co : Bool) (la tr lo : Nat) (m : Nat) (T : List Tr) (hmo : m + 2 ≤ o ∨ o + 60 ≤ m) (hT : trs T) (g gcap : Nat) (G : List Cf) (hgo : g + 4 ≤ o ∨ o + 60 ≤ g) (hG10 : cfs 10 G) (hG3 : G.length ≤ 3) (hO : RAo M o false co la tr lo) (B : Nat → List Cf) (hBs : RBs M o B) (hm : RM M m T) (hg : RQ M g gcap G) (N : List Cf) (hN : RQ M (o + 54) 330 N) (hWk : RWk M (o + 58)) : ev_Mt l m_X0_run [.ref (o), .ref (m), .ref (g)] M (fun r M1 => r = .inl (some (.int (ev_b (rn T G).1))) ∧ (∃ B N, RAo M1 o true (rn T G).1 (rn T G).2 tr lo ∧ RBs M1 o B ∧ (∀ j, j ≤ (rn T G).2 → B j = bl T G j) ∧ RQ M1 (o + 54) 330 N) ∧ (rn T G).2 < 13 ∧ RWk M1 (o + 58) ∧ Fr o (o + 59) M M1) := by
  have hO9 := hO
  obtain ⟨hO0, fr, hO1, hO2⟩ := hO9
  refine ev_body hl rfl (by decide +kernel) (Nat.le_of_ble_eq_true rfl) ?_
  show ev_ l m_X0_run 0 0 0 [some (.ref (o)), some (.ref (m)), some (.ref (g)), none] [] M _
  refine ev_blk (B := [(.aload_n 0, 1)]) (pe := 1) (ls' := [some (.ref (o)), some (.ref (m)), some (.ref (g)), none]) (st' := [.ref (o)]) ⟨dX0_run_0, rfl⟩ rfl ?_
  refine ev_getf (v := .int (ev_b (false))) F_RX0_34 dX0_run_1 hO0 rfl ?_
  refine ev_ifB_eq dX0_run_4 (tgt := 12) (by decide) (fun q4 => ?_) (fun q4 => ?_)
  · refine ev_blk (B := [(.aload_n 0, 1), (.iconst 1, 1)]) (pe := 14) (ls' := [some (.ref (o)), some (.ref (m)), some (.ref (g)), none]) (st' := [.int (nI 1), .ref (o)]) ⟨dX0_run_12, dX0_run_13, rfl⟩ rfl ?_
    refine ev_put F_RX0_34 dX0_run_14 hO0 (Nat.le_of_ble_eq_true rfl) (fun _ _ => ⟨rfl, rfl⟩) ?_
    refine ev_nm (M0 := M.set (o) (.inr (0, [.ref (o + 1), .ref (o + 54), .ref (o + 58), .ref (o + 59), .int (nI 1), .int (ev_b (co)), .int (nI la), .int (nI tr), .int (nI lo)]))) (fun M1 eM1 => ?_)
    have f2 : M1[o]? = some (.inr (0, [.ref (o + 1), .ref (o + 54), .ref (o + 58), .ref (o + 59), .int (nI 1), .int (ev_b (co)), .int (nI la), .int (nI tr), .int (nI lo)])) := by rw [eM1]; exact ev_sg hO0
    have f3 : M1[o + 1]? = some (.inl (3, 13, .inr (.inr (.inr (.inr (fr)))))) := by rw [eM1, ev_sn (by omega)]; exact hO1
    refine ev_blk (B := [(.aload_n 0, 1), (.iconst 0, 1)]) (pe := 19) (ls' := [some (.ref (o)), some (.ref (m)), some (.ref (g)), none]) (st' := [.int (nI 0), .ref (o)]) ⟨dX0_run_17, dX0_run_18, rfl⟩ rfl ?_
    refine ev_put F_RX0_38 dX0_run_19 f2 (Nat.le_of_ble_eq_true rfl) (fun _ _ => ⟨rfl, rfl⟩) ?_
    refine ev_nm (M0 := M1.set (o) (.inr (0, [.ref (o + 1), .ref (o + 54), .ref (o + 58), .ref (o + 59), .int (nI 1), .int (nI 0), .int (nI la), .int (nI tr), .int (nI lo)]))) (fun M4 eM4 => ?_)
    have f5 : M4[o]? = some (.inr (0, [.ref (o + 1), .ref (o + 54), .ref (o + 58), .ref (o + 59), .int (nI 1), .int (nI 0), .int (nI la), .int (nI tr), .int (nI lo)])) := by rw [eM4]; exact ev_sg f2
    have f6 : M4[o + 1]? = some (.inl (3, 13, .inr (.inr (.inr (.inr (fr)))))) := by rw [eM4, ev_sn (by omega)]; exact f3
    refine ev_blk (B := [(.aload_n 0, 1), (.aload_n 2, 1)]) (pe := 24) (ls' := [some (.ref (o)), some (.ref (m)), some (.ref (g)), none]) (st' := [.ref (g), .ref (o)]) ⟨dX0_run_22, dX0_run_23, rfl⟩ rfl ?_
    have hFa : Fr o (o + 1) M M4 := ⟨by rw [eM4, eM1]; simp only [List.length_set], fun j hj => by rw [eM4, ev_sn (by omega), eM1, ev_sn (by omega)]⟩
    have hO3 : RAo M4 o true false la tr lo := ⟨f5, fr, f6, hO2⟩
    have hg3 := hg.fr hFa (by omega)
    have hm3 := hm.fr hFa (by omega)
    have hBs3 := hBs.fr hFa (by omega)
    have hN3 := hN.fr hFa (by omega)
    have hW3 := hWk.fr hFa (by omega)
    refine ev_cVn Y_X0_collectGoals L_RX0_51 dX0_run_24 ⟨Nat.le_of_ble_eq_true rfl, Nat.le_of_ble_eq_true rfl, Nat.le_of_ble_eq_true rfl, Nat.le_of_ble_eq_true rfl, Nat.le_of_ble_eq_true rfl⟩ f5 (as := [.ref (g)]) rfl rfl (c_X0_collectGoals hl o _ _ _ _ _ hO3 g gcap G hgo (hG10.le (by omega)) (by omega) hg3 N hN3 hW3) (fun M7 hL7 hB7 => ?_)
    obtain ⟨hC1, hC2, hC3⟩ := hB7
    refine ev_blk (B := [(.iconst 0, 1), (.istore_n 3, 1)]) (pe := 29) (ls' := [some (.ref (o)), some (.ref (m)), some (.ref (g)), some (.int (nI 0))]) (st' := []) ⟨dX0_run_27, dX0_run_28, rfl⟩ rfl ?_
    exact c_X0_run_l hl o tr lo m T hmo hT g gcap G hgo hG10 hG3 (rn T G) M _ 0 _ B false la (by omega) (by rw [if_neg (by decide)]; exact rl_0 hG3 la) (hO3.fr hC3 (by omega)) (hBs3.fr hC3 (by omega)) (fun j hj => absurd hj (Nat.not_lt_zero _)) hC1 hC2 (hm3.fr hC3 (by omega)) ((hFa.to (by omega) (by omega)).tr (hC3.to (by omega) (by omega))) (Or.inl ⟨rfl, rfl⟩) (Nat.lt_succ_self _)
  · exact absurd q4 (by decide)

set_option maxHeartbeats 4000000 in
set_option maxRecDepth 100000 in
theorem c_X0_runC {l : Launch} (hl : l.stackTraces = false) {M : ev_M} (o : Nat) (co : Bool) (la tr lo : Nat) (hO : RAo M o true co la tr lo) (m g : Nat) : ev_Mt l m_X0_run [.ref (o), .ref (m), .ref (g)] M (ev_q (.inl (some (.int (ev_b co)))) M) := by
  have hO9 := hO
  obtain ⟨hO0, fr, hO1, hO2⟩ := hO9
  refine ev_body hl rfl (by decide +kernel) (Nat.le_of_ble_eq_true rfl) ?_
  show ev_ l m_X0_run 0 0 0 [some (.ref (o)), some (.ref (m)), some (.ref (g)), none] [] M _
  refine ev_blk (B := [(.aload_n 0, 1)]) (pe := 1) (ls' := [some (.ref (o)), some (.ref (m)), some (.ref (g)), none]) (st' := [.ref (o)]) ⟨dX0_run_0, rfl⟩ rfl ?_
  refine ev_getf (v := .int (ev_b (true))) F_RX0_34 dX0_run_1 hO0 rfl ?_
  refine ev_ifB_eq dX0_run_4 (tgt := 12) (by decide) (fun q4 => ?_) (fun q4 => ?_)
  · exact absurd q4 (by decide)
  · refine ev_blk (B := [(.aload_n 0, 1)]) (pe := 8) (ls' := [some (.ref (o)), some (.ref (m)), some (.ref (g)), none]) (st' := [.ref (o)]) ⟨dX0_run_7, rfl⟩ rfl ?_
    refine ev_getf (v := .int (ev_b (co))) F_RX0_38 dX0_run_8 hO0 rfl ?_
    refine ev_iret dX0_run_11 rfl (ev_b_nar _) ⟨Nat.le_of_ble_eq_true rfl, Nat.le_of_ble_eq_true rfl⟩ ?_
    exact ⟨rfl, rfl⟩

/-- a configuration is above one of a list -/
def cv (L : List Cf) (x : Cf) : Bool := L.any (fun y => cb y x)
/-- the first round whose basis is below -/
def ds (B : Nat → List Cf) (la : Nat) (x : Cf) : Option Nat := (List.range (la + 1)).find? (fun k => cv (B k) x)
theorem ds_some {B : Nat → List Cf} {la k : Nat} {x : Cf} (hk : k ≤ la) (h1 : cv (B k) x = true) (h2 : ∀ j, j < k → cv (B j) x = false) : ds B la x = some k := by
  unfold ds
  rw [List.find?_range_eq_some]
  exact ⟨h1, List.mem_range.mpr (by omega), fun j hj => by rw [h2 j hj]; rfl⟩
theorem ds_none {B : Nat → List Cf} {la : Nat} {x : Cf} (h2 : ∀ j, j ≤ la → cv (B j) x = false) : ds B la x = none := by
  unfold ds
  rw [List.find?_eq_none]
  intro j hj
  have := List.mem_range.mp hj
  rw [h2 j (by omega)]
  decide
theorem ds_lt {B : Nat → List Cf} {la k : Nat} {x : Cf} (h : ds B la x = some k) : k ≤ la ∧ cv (B k) x = true ∧ ∀ j, j < k → cv (B j) x = false := by
  unfold ds at h
  rw [List.find?_range_eq_some] at h
  have := List.mem_range.mp h.2.1
  exact ⟨by omega, h.1, fun j hj => by have := h.2.2 j hj; simpa using this⟩
set_option maxHeartbeats 4000000 in
set_option maxRecDepth 100000 in
theorem c_X0_isCovering {l : Launch} (hl : l.stackTraces = false) {M : ev_M} (o : Nat) (cu co : Bool) (la tr lo : Nat) (hO : RAo M o cu co la tr lo) (B : Nat → List Cf) (hBs : RBs M o B) (k : Nat) (hk : k < 13) (hB25 : cfs 25 (B k)) (c : Nat) (x : Cf) (hF : RF M c x) (hx : cfO x) : ev_Mt l m_X0_isCovering [.ref (o), .int (nI k), .ref (c)] M (ev_q (.inl (some (.int (ev_b (cv (B k) x))))) M) := by
  have hO9 := hO
  obtain ⟨hO0, fr, hO1, hO2⟩ := hO9
  have h30 := (hBs k hk).2.1
  refine ev_body hl rfl (by decide +kernel) (Nat.le_of_ble_eq_true rfl) ?_
  show ev_ l m_X0_isCovering 0 0 0 [some (.ref (o)), some (.int (nI k)), some (.ref (c)), none] [] M _
  refine ev_blk (B := [(.aload_n 0, 1), (.iload_n 1, 1)]) (pe := 2) (ls' := [some (.ref (o)), some (.int (nI k)), some (.ref (c)), none]) (st' := [.int (nI k), .ref (o)]) ⟨dX0_isCovering_0, dX0_isCovering_1, rfl⟩ rfl ?_
  refine ev_cVv Y_X0_basisOf L_RX0_59 dX0_isCovering_2 ⟨Nat.le_of_ble_eq_true rfl, Nat.le_of_ble_eq_true rfl, Nat.le_of_ble_eq_true rfl, Nat.le_of_ble_eq_true rfl, Nat.le_of_ble_eq_true rfl⟩ hO0 (as := [.int (nI k)]) rfl rfl (c_X0_basisOf hl o _ _ _ _ _ hO (k) (by omega)) ?_
  refine ev_blk (B := [(.astore_n 3, 1), (.aload_n 3, 1), (.aload_n 2, 1), (.aload_n 3, 1)]) (pe := 9) (ls' := [some (.ref (o)), some (.int (nI k)), some (.ref (c)), some (.ref (o + 2 + 4 * k))]) (st' := [.ref (o + 2 + 4 * k), .ref (c), .ref (o + 2 + 4 * k)]) ⟨dX0_isCovering_5, dX0_isCovering_6, dX0_isCovering_7, dX0_isCovering_8, rfl⟩ rfl ?_
  refine ev_cVv Y_X2_size L_RX0_55 dX0_isCovering_9 ⟨Nat.le_of_ble_eq_true rfl, Nat.le_of_ble_eq_true rfl, Nat.le_of_ble_eq_true rfl, Nat.le_of_ble_eq_true rfl, Nat.le_of_ble_eq_true rfl⟩ (hBs k (by omega)).obj (as := []) rfl rfl (c_X2_size hl _ _ _ (hBs k hk)) ?_
  refine ev_cVv Y_X2_firstBelow L_RX0_128 dX0_isCovering_12 ⟨Nat.le_of_ble_eq_true rfl, Nat.le_of_ble_eq_true rfl, Nat.le_of_ble_eq_true rfl, Nat.le_of_ble_eq_true rfl, Nat.le_of_ble_eq_true rfl⟩ (hBs k (by omega)).obj (as := [.ref (c), .int (nI ((B k).length))]) rfl rfl (c_X2_firstBelow hl _ _ _ (hBs k hk) hB25 _ _ hF hx _ (by omega)) ?_
  refine ev_if_lt dX0_isCovering_15 (tgt := 22) (by decide) (fun q15 => ?_) (fun q15 => ?_)
  · refine ev_blk (B := [(.iconst 0, 1)]) (pe := 23) (ls' := [some (.ref (o)), some (.int (nI k)), some (.ref (c)), some (.ref (o + 2 + 4 * k))]) (st' := [.int (nI 0)]) ⟨dX0_isCovering_22, rfl⟩ rfl ?_
    refine ev_iret dX0_isCovering_23 rfl (rfl) ⟨Nat.le_of_ble_eq_true rfl, Nat.le_of_ble_eq_true rfl⟩ ?_
    have hz := oI_ge (r := fb (B k) x (B k).length) (fun i h => by have := (fb_lt h).2.1; omega)
    have hy := fb_iff (L := B k) (c := x)
    exact ev_q_e (by rw [show cv (B k) x = false from hy.symm.trans (Bool.eq_false_iff.mpr (fun h => Int32.not_le.mpr q15 (hz.mpr h)))]; rfl)
  · refine ev_blk (B := [(.iconst 1, 1)]) (pe := 19) (ls' := [some (.ref (o)), some (.int (nI k)), some (.ref (c)), some (.ref (o + 2 + 4 * k))]) (st' := [.int (nI 1)]) ⟨dX0_isCovering_18, rfl⟩ rfl ?_
    refine ev_goto (tgt := 23) dX0_isCovering_19 (by decide) ?_
    refine ev_iret dX0_isCovering_23 rfl (rfl) ⟨Nat.le_of_ble_eq_true rfl, Nat.le_of_ble_eq_true rfl⟩ ?_
    have hz := oI_ge (r := fb (B k) x (B k).length) (fun i h => by have := (fb_lt h).2.1; omega)
    have hy := fb_iff (L := B k) (c := x)
    exact ev_q_e (by rw [show cv (B k) x = true from hy.symm.trans (hz.mp (Int32.not_lt.mp q15))]; rfl)

set_option maxHeartbeats 4000000 in
set_option maxRecDepth 100000 in
theorem c_X0_distanceFrom_l {l : Launch} (hl : l.stackTraces = false) {M : ev_M} (o : Nat) (cu co : Bool) (la tr lo : Nat) (hO : RAo M o cu co la tr lo) (hla : la < 13) (B : Nat → List Cf) (hBs : RBs M o B) (hB25 : ∀ k, k ≤ la → cfs 25 (B k)) (c : Nat) (x : Cf) (hF : RF M c x) (hx : cfO x) : ∀ (n9 : Nat) (k : Nat), k ≤ la + 1 → (∀ j, j < k → cv (B j) x = false) → la + 1 - k < n9 → ev_ l m_X0_distanceFrom 0 0 2 [some (.ref (o)), some (.ref (c)), some (.int (nI k))] [] M (ev_q (.inl (some (.int (oI (ds B la x))))) M) := by
  intro n9
  induction n9 with
  | zero => intro k hk hn hm9; exact absurd hm9 (by omega)
  | succ n9 ih =>
    intro k hk hn hm9
    have hO9 := hO
    obtain ⟨hO0, fr, hO1, hO2⟩ := hO9
    refine ev_blk (B := [(.iload_n 2, 1), (.aload_n 0, 1)]) (pe := 4) (ls' := [some (.ref (o)), some (.ref (c)), some (.int (nI k))]) (st' := [.ref (o), .int (nI k)]) ⟨dX0_distanceFrom_2, dX0_distanceFrom_3, rfl⟩ rfl ?_
    refine ev_getf (v := .int (nI la)) F_RX0_41 dX0_distanceFrom_4 hO0 rfl ?_
    refine ev_iN_gt dX0_distanceFrom_7 (tgt := 27) (by decide) (by omega) (by omega) (fun q7 => ?_) (fun q7 => ?_)
    · refine ev_blk (B := [(.iconst (-1), 1)]) (pe := 28) (ls' := [some (.ref (o)), some (.ref (c)), some (.int (nI k))]) (st' := [.int ((-1))]) ⟨dX0_distanceFrom_27, rfl⟩ rfl ?_
      refine ev_iret dX0_distanceFrom_28 rfl (rfl) ⟨Nat.le_of_ble_eq_true rfl, Nat.le_of_ble_eq_true rfl⟩ ?_
      exact ev_q_e (by rw [ds_none (fun j hj => hn j (by omega))]; rfl)
    · refine ev_blk (B := [(.aload_n 0, 1), (.iload_n 2, 1), (.aload_n 1, 1)]) (pe := 13) (ls' := [some (.ref (o)), some (.ref (c)), some (.int (nI k))]) (st' := [.ref (c), .int (nI k), .ref (o)]) ⟨dX0_distanceFrom_10, dX0_distanceFrom_11, dX0_distanceFrom_12, rfl⟩ rfl ?_
      refine ev_cVv Y_X0_isCovering L_RX0_83 dX0_distanceFrom_13 ⟨Nat.le_of_ble_eq_true rfl, Nat.le_of_ble_eq_true rfl, Nat.le_of_ble_eq_true rfl, Nat.le_of_ble_eq_true rfl, Nat.le_of_ble_eq_true rfl⟩ hO0 (as := [.int (nI k), .ref (c)]) rfl rfl (c_X0_isCovering hl o _ _ _ _ _ hO B hBs (k) (by omega) (hB25 _ (by omega)) _ _ hF hx) ?_
      refine ev_ifB_eq dX0_distanceFrom_16 (tgt := 21) (by decide) (fun q16 => ?_) (fun q16 => ?_)
      · refine ev_blk (B := [(.iinc 2 1, 3)]) (pe := 24) (ls' := [some (.ref (o)), some (.ref (c)), some (.int (nI (k + 1)))]) (st' := []) ⟨dX0_distanceFrom_21, rfl⟩ (by show some (([some (.ref (o)), some (.ref (c)), some (.int ((nI k) + Int32.ofInt (1)))] : ev_L), ([] : List Value)) = _; rw [ev_inc1 k]) ?_
        refine ev_goto (tgt := 2) dX0_distanceFrom_24 (by decide) ?_
        refine ih (k + 1) (by omega) (fun j hj => ?_) (by omega)
        by_cases e : j = k
        · rw [e]; exact q16
        · exact hn j (by omega)
      · refine ev_blk (B := [(.iload_n 2, 1)]) (pe := 20) (ls' := [some (.ref (o)), some (.ref (c)), some (.int (nI k))]) (st' := [.int (nI k)]) ⟨dX0_distanceFrom_19, rfl⟩ rfl ?_
        refine ev_iret dX0_distanceFrom_20 rfl (rfl) ⟨Nat.le_of_ble_eq_true rfl, Nat.le_of_ble_eq_true rfl⟩ ?_
        exact ev_q_e (by rw [ds_some (k := k) (by omega) q16 hn]; rfl)

set_option maxHeartbeats 4000000 in
set_option maxRecDepth 100000 in
theorem c_X0_distanceFrom {l : Launch} (hl : l.stackTraces = false) {M : ev_M} (o : Nat) (cu co : Bool) (la tr lo : Nat) (hO : RAo M o cu co la tr lo) (hla : la < 13) (B : Nat → List Cf) (hBs : RBs M o B) (hB25 : ∀ k, k ≤ la → cfs 25 (B k)) (c : Nat) (x : Cf) (hF : RF M c x) (hx : cfO x) : ev_Mt l m_X0_distanceFrom [.ref (o), .ref (c)] M (ev_q (.inl (some (.int (oI (ds B la x))))) M) := by
  refine ev_body hl rfl (by decide +kernel) (Nat.le_of_ble_eq_true rfl) ?_
  show ev_ l m_X0_distanceFrom 0 0 0 [some (.ref (o)), some (.ref (c)), none] [] M _
  refine ev_blk (B := [(.iconst 0, 1), (.istore_n 2, 1)]) (pe := 2) (ls' := [some (.ref (o)), some (.ref (c)), some (.int (nI 0))]) (st' := []) ⟨dX0_distanceFrom_0, dX0_distanceFrom_1, rfl⟩ rfl ?_
  exact c_X0_distanceFrom_l hl o cu co la tr lo hO hla B hBs hB25 c x hF hx _ 0 (by omega) (fun j hj => absurd hj (Nat.not_lt_zero _)) (Nat.lt_succ_self _)

/-- the least letters of a state in a list -/
def lst (L : List Cf) (s : Nat) : Nat → Option Nat
  | 0 => none
  | i + 1 => if (cg L i).1 = s ∧ (match lst L s i with | none => true | some v => decide ((cg L i).2.1.length + (cg L i).2.2.length < v)) = true then some ((cg L i).2.1.length + (cg L i).2.2.length) else lst L s i
theorem ite_or {α : Type} {c : Prop} [Decidable c] {a b v : α} (h : (if c then a else b) = v) : a = v ∨ b = v := by
  split at h
  · exact Or.inl h
  · exact Or.inr h
theorem lst_lt {L : List Cf} {s : Nat} (hL : cfs 25 L) (n : Nat) (hn : n ≤ L.length) : ∀ v, lst L s n = some v → v ≤ 50 := by
  induction n with
  | zero => intro v h; cases h
  | succ n ih =>
    intro v h
    rcases ite_or (show (if _ then _ else _) = some v from h) with h | h
    · have := cfs_cg hL (i := n) (by omega)
      cases h
      have h1 := this.2.2.1
      have h2 := this.2.2.2.2
      omega
    · exact ih (by omega) v h
set_option maxHeartbeats 4000000 in
set_option maxRecDepth 100000 in
theorem c_X0_leastLetters_l {l : Launch} (hl : l.stackTraces = false) {M : ev_M} (o : Nat) (cu co : Bool) (la tr lo : Nat) (hO : RAo M o cu co la tr lo) (hla : la < 13) (B : Nat → List Cf) (hBs : RBs M o B) (hB25 : cfs 25 (B la)) (z : Nat) (hz : z < 6) : ∀ (n9 : Nat) (i : Nat), i ≤ (B la).length → (B la).length - i < n9 → ev_ l m_X0_leastLetters 0 0 14 [some (.ref (o)), some (.int (nI z)), some (.ref (o + 2 + 4 * la)), some (.int (oI (lst (B la) z i))), some (.int (nI i)), none] [] M (ev_q (.inl (some (.int (oI (lst (B la) z (B la).length))))) M) := by
  intro n9
  induction n9 with
  | zero => intro i hi hm9; exact absurd hm9 (by omega)
  | succ n9 ih =>
    intro i hi hm9
    have hO9 := hO
    obtain ⟨hO0, fr, hO1, hO2⟩ := hO9
    have h30 := (hBs la hla).2.1
    have z50 := lst_lt (s := z) hB25 i hi
    refine ev_blk (B := [(.iload 4, 2), (.aload_n 2, 1)]) (pe := 17) (ls' := [some (.ref (o)), some (.int (nI z)), some (.ref (o + 2 + 4 * la)), some (.int (oI (lst (B la) z i))), some (.int (nI i)), none]) (st' := [.ref (o + 2 + 4 * la), .int (nI i)]) ⟨dX0_leastLetters_14, dX0_leastLetters_16, rfl⟩ rfl ?_
    refine ev_cVv Y_X2_size L_RX0_55 dX0_leastLetters_17 ⟨Nat.le_of_ble_eq_true rfl, Nat.le_of_ble_eq_true rfl, Nat.le_of_ble_eq_true rfl, Nat.le_of_ble_eq_true rfl, Nat.le_of_ble_eq_true rfl⟩ (hBs la (by omega)).obj (as := []) rfl rfl (c_X2_size hl _ _ _ (hBs la hla)) ?_
    refine ev_iN_ge dX0_leastLetters_20 (tgt := 75) (by decide) (by omega) (by omega) (fun q20 => ?_) (fun q20 => ?_)
    · refine ev_blk (B := [(.iload_n 3, 1)]) (pe := 76) (ls' := [some (.ref (o)), some (.int (nI z)), some (.ref (o + 2 + 4 * la)), some (.int (oI (lst (B la) z i))), some (.int (nI i)), none]) (st' := [.int (oI (lst (B la) z i))]) ⟨dX0_leastLetters_75, rfl⟩ rfl ?_
      refine ev_iret dX0_leastLetters_76 rfl (rfl) ⟨Nat.le_of_ble_eq_true rfl, Nat.le_of_ble_eq_true rfl⟩ ?_
      have e7 : i = (B la).length := by omega
      exact ev_q_e (by rw [e7])
    · have hci := cfs_cg hB25 (i := i) (by omega)
      have hw1 : wk (cg (B la) i).2.1 := hci.2.1
      have hw2 : wk (cg (B la) i).2.2 := hci.2.2.2.1
      have hl1 := hci.2.2.1
      have hl2 := hci.2.2.2.2
      have hl0 := hci.1
      refine ev_blk (B := [(.aload_n 2, 1), (.iload 4, 2), (.iconst 0, 1)]) (pe := 27) (ls' := [some (.ref (o)), some (.int (nI z)), some (.ref (o + 2 + 4 * la)), some (.int (oI (lst (B la) z i))), some (.int (nI i)), none]) (st' := [.int (nI 0), .int (nI i), .ref (o + 2 + 4 * la)]) ⟨dX0_leastLetters_23, dX0_leastLetters_24, dX0_leastLetters_26, rfl⟩ rfl ?_
      refine ev_cVv Y_X2_wordAt L_RX0_70 dX0_leastLetters_27 ⟨Nat.le_of_ble_eq_true rfl, Nat.le_of_ble_eq_true rfl, Nat.le_of_ble_eq_true rfl, Nat.le_of_ble_eq_true rfl, Nat.le_of_ble_eq_true rfl⟩ (hBs la (by omega)).obj (as := [.int (nI i), .int (nI 0)]) rfl rfl (c_X2_wordAt0 hl _ _ _ (hBs la hla) (i) (by omega)) ?_
      refine ev_cSv Y_X9_size L_RX0_74 dX0_leastLetters_30 ⟨Nat.le_of_ble_eq_true rfl, Nat.le_of_ble_eq_true rfl, Nat.le_of_ble_eq_true rfl, Nat.le_of_ble_eq_true rfl, Nat.le_of_ble_eq_true rfl⟩ (as := [.long (e1 (cg (B la) i).2.1)]) rfl rfl (c_X9_size hl (cg (B la) i).2.1 hw1 (by omega)) ?_
      refine ev_blk (B := [(.aload_n 2, 1), (.iload 4, 2), (.iconst 1, 1)]) (pe := 37) (ls' := [some (.ref (o)), some (.int (nI z)), some (.ref (o + 2 + 4 * la)), some (.int (oI (lst (B la) z i))), some (.int (nI i)), none]) (st' := [.int (nI 1), .int (nI i), .ref (o + 2 + 4 * la), .int (nI ((cg (B la) i).2.1.length))]) ⟨dX0_leastLetters_33, dX0_leastLetters_34, dX0_leastLetters_36, rfl⟩ rfl ?_
      refine ev_cVv Y_X2_wordAt L_RX0_70 dX0_leastLetters_37 ⟨Nat.le_of_ble_eq_true rfl, Nat.le_of_ble_eq_true rfl, Nat.le_of_ble_eq_true rfl, Nat.le_of_ble_eq_true rfl, Nat.le_of_ble_eq_true rfl⟩ (hBs la (by omega)).obj (as := [.int (nI i), .int (nI 1)]) rfl rfl (c_X2_wordAt1 hl _ _ _ (hBs la hla) (i) (by omega)) ?_
      refine ev_cSv Y_X9_size L_RX0_74 dX0_leastLetters_40 ⟨Nat.le_of_ble_eq_true rfl, Nat.le_of_ble_eq_true rfl, Nat.le_of_ble_eq_true rfl, Nat.le_of_ble_eq_true rfl, Nat.le_of_ble_eq_true rfl⟩ (as := [.long (e1 (cg (B la) i).2.2)]) rfl rfl (c_X9_size hl (cg (B la) i).2.2 hw2 (by omega)) ?_
      refine ev_blk (B := [(.iadd, 1), (.istore 5, 2), (.aload_n 2, 1), (.iload 4, 2)]) (pe := 49) (ls' := [some (.ref (o)), some (.int (nI z)), some (.ref (o + 2 + 4 * la)), some (.int (oI (lst (B la) z i))), some (.int (nI i)), some (.int (nI (((cg (B la) i).2.1.length) + ((cg (B la) i).2.2.length))))]) (st' := [.int (nI i), .ref (o + 2 + 4 * la)]) ⟨dX0_leastLetters_43, dX0_leastLetters_44, dX0_leastLetters_46, dX0_leastLetters_47, rfl⟩ (by show some (([some (.ref (o)), some (.int (nI z)), some (.ref (o + 2 + 4 * la)), some (.int (oI (lst (B la) z i))), some (.int (nI i)), some (.int ((nI ((cg (B la) i).2.1.length)) + (nI ((cg (B la) i).2.2.length))))] : ev_L), ([.int (nI i), .ref (o + 2 + 4 * la)] : List Value)) = _; rw [nI_add ((cg (B la) i).2.1.length) ((cg (B la) i).2.2.length)]) ?_
      refine ev_cVv Y_X2_stateAt L_RX0_79 dX0_leastLetters_49 ⟨Nat.le_of_ble_eq_true rfl, Nat.le_of_ble_eq_true rfl, Nat.le_of_ble_eq_true rfl, Nat.le_of_ble_eq_true rfl, Nat.le_of_ble_eq_true rfl⟩ (hBs la (by omega)).obj (as := [.int (nI i)]) rfl rfl (c_X2_stateAt hl _ _ _ (hBs la hla) (i) (by omega)) ?_
      refine ev_blk (B := [(.iload_n 1, 1)]) (pe := 53) (ls' := [some (.ref (o)), some (.int (nI z)), some (.ref (o + 2 + 4 * la)), some (.int (oI (lst (B la) z i))), some (.int (nI i)), some (.int (nI (((cg (B la) i).2.1.length) + ((cg (B la) i).2.2.length))))]) (st' := [.int (nI z), .int (nI ((cg (B la) i).1))]) ⟨dX0_leastLetters_52, rfl⟩ rfl ?_
      refine ev_iN_ne dX0_leastLetters_53 (tgt := 69) (by decide) (by omega) (by omega) (fun q53 => ?_) (fun q53 => ?_)
      · refine ev_blk (B := [(.iinc 4 1, 3)]) (pe := 72) (ls' := [some (.ref (o)), some (.int (nI z)), some (.ref (o + 2 + 4 * la)), some (.int (oI (lst (B la) z i))), some (.int (nI (i + 1))), some (.int (nI (((cg (B la) i).2.1.length) + ((cg (B la) i).2.2.length))))]) (st' := []) ⟨dX0_leastLetters_69, rfl⟩ (by show some (([some (.ref (o)), some (.int (nI z)), some (.ref (o + 2 + 4 * la)), some (.int (oI (lst (B la) z i))), some (.int ((nI i) + Int32.ofInt (1))), some (.int (nI (((cg (B la) i).2.1.length) + ((cg (B la) i).2.2.length))))] : ev_L), ([] : List Value)) = _; rw [ev_inc1 i]) ?_
        refine ev_goto (tgt := 14) dX0_leastLetters_72 (by decide) ?_
        refine ev_fgt (ls' := [some (.ref (o)), some (.int (nI z)), some (.ref (o + 2 + 4 * la)), some (.int (oI (lst (B la) z i))), some (.int (nI (i + 1))), none]) ⟨Or.inr rfl, Or.inr rfl, Or.inr rfl, Or.inr rfl, Or.inr rfl, Or.inl rfl, trivial⟩ ?_
        have e9 : lst (B la) z (i + 1) = lst (B la) z i := if_neg (fun q => q53 q.1)
        have e8 := ih (i + 1) (by omega) (by omega)
        rw [e9] at e8
        exact e8
      · refine ev_blk (B := [(.iload_n 3, 1)]) (pe := 57) (ls' := [some (.ref (o)), some (.int (nI z)), some (.ref (o + 2 + 4 * la)), some (.int (oI (lst (B la) z i))), some (.int (nI i)), some (.int (nI (((cg (B la) i).2.1.length) + ((cg (B la) i).2.2.length))))]) (st' := [.int (oI (lst (B la) z i))]) ⟨dX0_leastLetters_56, rfl⟩ rfl ?_
        refine ev_if_lt dX0_leastLetters_57 (tgt := 66) (by decide) (fun q57 => ?_) (fun q57 => ?_)
        · refine ev_blk (B := [(.iload 5, 2), (.istore_n 3, 1), (.iinc 4 1, 3)]) (pe := 72) (ls' := [some (.ref (o)), some (.int (nI z)), some (.ref (o + 2 + 4 * la)), some (.int (nI (((cg (B la) i).2.1.length) + ((cg (B la) i).2.2.length)))), some (.int (nI (i + 1))), some (.int (nI (((cg (B la) i).2.1.length) + ((cg (B la) i).2.2.length))))]) (st' := []) ⟨dX0_leastLetters_66, dX0_leastLetters_68, dX0_leastLetters_69, rfl⟩ (by show some (([some (.ref (o)), some (.int (nI z)), some (.ref (o + 2 + 4 * la)), some (.int (nI (((cg (B la) i).2.1.length) + ((cg (B la) i).2.2.length)))), some (.int ((nI i) + Int32.ofInt (1))), some (.int (nI (((cg (B la) i).2.1.length) + ((cg (B la) i).2.2.length))))] : ev_L), ([] : List Value)) = _; rw [ev_inc1 i]) ?_
          refine ev_goto (tgt := 14) dX0_leastLetters_72 (by decide) ?_
          refine ev_fgt (ls' := [some (.ref (o)), some (.int (nI z)), some (.ref (o + 2 + 4 * la)), some (.int (nI (((cg (B la) i).2.1.length) + ((cg (B la) i).2.2.length)))), some (.int (nI (i + 1))), none]) ⟨Or.inr rfl, Or.inr rfl, Or.inr rfl, Or.inr rfl, Or.inr rfl, Or.inl rfl, trivial⟩ ?_
          have e9 : lst (B la) z (i + 1) = some ((cg (B la) i).2.1.length + (cg (B la) i).2.2.length) := if_pos ⟨q53, by
            cases hv9 : lst (B la) z i with
            | none => rfl
            | some v => (rw [hv9] at q57; exact absurd q57 (show ¬ nI v < 0 from nI_pos (by have := z50 v hv9; omega)))⟩
          have e8 := ih (i + 1) (by omega) (by omega)
          rw [e9] at e8
          exact e8
        · refine ev_blk (B := [(.iload 5, 2), (.iload_n 3, 1)]) (pe := 63) (ls' := [some (.ref (o)), some (.int (nI z)), some (.ref (o + 2 + 4 * la)), some (.int (oI (lst (B la) z i))), some (.int (nI i)), some (.int (nI (((cg (B la) i).2.1.length) + ((cg (B la) i).2.2.length))))]) (st' := [.int (oI (lst (B la) z i)), .int (nI (((cg (B la) i).2.1.length) + ((cg (B la) i).2.2.length)))]) ⟨dX0_leastLetters_60, dX0_leastLetters_62, rfl⟩ rfl ?_
          refine ev_ic_ge dX0_leastLetters_63 (tgt := 69) (by decide) (fun q63 => ?_) (fun q63 => ?_)
          · refine ev_blk (B := [(.iinc 4 1, 3)]) (pe := 72) (ls' := [some (.ref (o)), some (.int (nI z)), some (.ref (o + 2 + 4 * la)), some (.int (oI (lst (B la) z i))), some (.int (nI (i + 1))), some (.int (nI (((cg (B la) i).2.1.length) + ((cg (B la) i).2.2.length))))]) (st' := []) ⟨dX0_leastLetters_69, rfl⟩ (by show some (([some (.ref (o)), some (.int (nI z)), some (.ref (o + 2 + 4 * la)), some (.int (oI (lst (B la) z i))), some (.int ((nI i) + Int32.ofInt (1))), some (.int (nI (((cg (B la) i).2.1.length) + ((cg (B la) i).2.2.length))))] : ev_L), ([] : List Value)) = _; rw [ev_inc1 i]) ?_
            refine ev_goto (tgt := 14) dX0_leastLetters_72 (by decide) ?_
            refine ev_fgt (ls' := [some (.ref (o)), some (.int (nI z)), some (.ref (o + 2 + 4 * la)), some (.int (oI (lst (B la) z i))), some (.int (nI (i + 1))), none]) ⟨Or.inr rfl, Or.inr rfl, Or.inr rfl, Or.inr rfl, Or.inr rfl, Or.inl rfl, trivial⟩ ?_
            have e9 : lst (B la) z (i + 1) = lst (B la) z i := if_neg (fun q => by
              cases hv9 : lst (B la) z i with
              | none => rw [hv9] at q57; exact q57 (by decide)
              | some v =>
                rw [hv9] at q63
                have q2 := q.2
                rw [hv9] at q2
                exact absurd ((nI_ltI (by omega) (by have := z50 v hv9; omega)).mpr (of_decide_eq_true q2)) (Int32.not_lt.mpr (by first | exact q63 | exact Int32.not_lt.mp q63)))
            have e8 := ih (i + 1) (by omega) (by omega)
            rw [e9] at e8
            exact e8
          · refine ev_blk (B := [(.iload 5, 2), (.istore_n 3, 1), (.iinc 4 1, 3)]) (pe := 72) (ls' := [some (.ref (o)), some (.int (nI z)), some (.ref (o + 2 + 4 * la)), some (.int (nI (((cg (B la) i).2.1.length) + ((cg (B la) i).2.2.length)))), some (.int (nI (i + 1))), some (.int (nI (((cg (B la) i).2.1.length) + ((cg (B la) i).2.2.length))))]) (st' := []) ⟨dX0_leastLetters_66, dX0_leastLetters_68, dX0_leastLetters_69, rfl⟩ (by show some (([some (.ref (o)), some (.int (nI z)), some (.ref (o + 2 + 4 * la)), some (.int (nI (((cg (B la) i).2.1.length) + ((cg (B la) i).2.2.length)))), some (.int ((nI i) + Int32.ofInt (1))), some (.int (nI (((cg (B la) i).2.1.length) + ((cg (B la) i).2.2.length))))] : ev_L), ([] : List Value)) = _; rw [ev_inc1 i]) ?_
            refine ev_goto (tgt := 14) dX0_leastLetters_72 (by decide) ?_
            refine ev_fgt (ls' := [some (.ref (o)), some (.int (nI z)), some (.ref (o + 2 + 4 * la)), some (.int (nI (((cg (B la) i).2.1.length) + ((cg (B la) i).2.2.length)))), some (.int (nI (i + 1))), none]) ⟨Or.inr rfl, Or.inr rfl, Or.inr rfl, Or.inr rfl, Or.inr rfl, Or.inl rfl, trivial⟩ ?_
            have e9 : lst (B la) z (i + 1) = some ((cg (B la) i).2.1.length + (cg (B la) i).2.2.length) := if_pos ⟨q53, by
              cases hv9 : lst (B la) z i with
              | none => rfl
              | some v => (rw [hv9] at q63; exact decide_eq_true ((nI_ltI (by omega) (by have := z50 v hv9; omega)).mp (by first | exact q63 | exact Int32.not_le.mp q63)))⟩
            have e8 := ih (i + 1) (by omega) (by omega)
            rw [e9] at e8
            exact e8

set_option maxHeartbeats 4000000 in
set_option maxRecDepth 100000 in
theorem c_X0_leastLetters {l : Launch} (hl : l.stackTraces = false) {M : ev_M} (o : Nat) (cu co : Bool) (la tr lo : Nat) (hO : RAo M o cu co la tr lo) (hla : la < 13) (B : Nat → List Cf) (hBs : RBs M o B) (hB25 : cfs 25 (B la)) (z : Nat) (hz : z < 6) : ev_Mt l m_X0_leastLetters [.ref (o), .int (nI z)] M (ev_q (.inl (some (.int (oI (lst (B la) z (B la).length))))) M) := by
  have hO9 := hO
  obtain ⟨hO0, fr, hO1, hO2⟩ := hO9
  refine ev_body hl rfl (by decide +kernel) (Nat.le_of_ble_eq_true rfl) ?_
  show ev_ l m_X0_leastLetters 0 0 0 [some (.ref (o)), some (.int (nI z)), none, none, none, none] [] M _
  refine ev_blk (B := [(.aload_n 0, 1), (.aload_n 0, 1)]) (pe := 2) (ls' := [some (.ref (o)), some (.int (nI z)), none, none, none, none]) (st' := [.ref (o), .ref (o)]) ⟨dX0_leastLetters_0, dX0_leastLetters_1, rfl⟩ rfl ?_
  refine ev_getf (v := .int (nI la)) F_RX0_41 dX0_leastLetters_2 hO0 rfl ?_
  refine ev_cVv Y_X0_basisOf L_RX0_59 dX0_leastLetters_5 ⟨Nat.le_of_ble_eq_true rfl, Nat.le_of_ble_eq_true rfl, Nat.le_of_ble_eq_true rfl, Nat.le_of_ble_eq_true rfl, Nat.le_of_ble_eq_true rfl⟩ hO0 (as := [.int (nI la)]) rfl rfl (c_X0_basisOf hl o _ _ _ _ _ hO la hla) ?_
  refine ev_blk (B := [(.astore_n 2, 1), (.iconst (-1), 1), (.istore_n 3, 1), (.iconst 0, 1), (.istore 4, 2)]) (pe := 14) (ls' := [some (.ref (o)), some (.int (nI z)), some (.ref (o + 2 + 4 * la)), some (.int ((-1))), some (.int (nI 0)), none]) (st' := []) ⟨dX0_leastLetters_8, dX0_leastLetters_9, dX0_leastLetters_10, dX0_leastLetters_11, dX0_leastLetters_12, rfl⟩ rfl ?_
  exact c_X0_leastLetters_l hl o cu co la tr lo hO hla B hBs hB25 z hz _ 0 (Nat.zero_le _) (Nat.lt_succ_self _)

