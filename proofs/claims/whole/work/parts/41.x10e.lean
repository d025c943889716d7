/-! ===== the calls that ask the analysis ===== -/
def La (S : St) : Nat := (rn S.T S.G).2
def gate (S : St) : Nat := if S.G.length = 0 then 1 else if (rn S.T S.G).1 = true then 0 else 2
def gt (S : St) (p : Nat × Int32) : Nat × Int32 := match gate S with
  | 0 => p
  | k + 1 => (k + 1, 0)
theorem gt_1 {S : St} {p : Nat × Int32} (h : S.G.length = 0) : gt S p = (1, 0) := by
  have : gate S = 1 := if_pos h
  unfold gt; rw [this]
theorem gt_2 {S : St} {p : Nat × Int32} (h : 0 < S.G.length) (c : (rn S.T S.G).1 = false) : gt S p = (2, 0) := by
  have : gate S = 2 := (if_neg (by omega)).trans (if_neg (by rw [c]; decide))
  unfold gt; rw [this]
theorem gt_0 {S : St} {p : Nat × Int32} (h : 0 < S.G.length) (c : (rn S.T S.G).1 = true) : gt S p = p := by
  have : gate S = 0 := (if_neg (by omega)).trans (if_pos c)
  unfold gt; rw [this]
def sAna (S : St) : Nat × Int32 := if S.G.length = 0 then (1, 0) else (0, ev_b (rn S.T S.G).1)
def sLR (S : St) : Nat × Int32 := gt S (0, nI (La S))
def sBS (S : St) (a : Int32) : Nat × Int32 := gt S (if inR a (La S + 1) = false then (3, 0) else (0, nI (bl S.T S.G (tN a)).length))
def sBa (S : St) (a b c : Int32) : Nat × Int32 := gt S (if inR a (La S + 1) = false then (3, 0) else if inR b (bl S.T S.G (tN a)).length = false then (3, 0) else if inR c 3 = false then (3, 0)
  else (0, if tN c = 0 then nI (cg (bl S.T S.G (tN a)) (tN b)).1 else nI (cw (cg (bl S.T S.G (tN a)) (tN b)) (tN c - 1)).length))
def sBL (S : St) (a b c : Int32) : Nat × Int32 := gt S (if inR a (bl S.T S.G (La S)).length = false then (3, 0) else if inR b 2 = false then (3, 0) else if inR c (cw (cg (bl S.T S.G (La S)) (tN a)) (tN b)).length = false then (3, 0)
  else (0, nI ((cw (cg (bl S.T S.G (La S)) (tN a)) (tN b)).getD (tN c) 0)))
def cvS (B : List Cf) : Nat → Int32
  | 0 => 0
  | s + 1 => if oI (lst B s B.length) = 0 then cvS B s ||| ((1 : Int32) <<< (nI s &&& 31)) else cvS B s
def sCo (S : St) : Nat × Int32 := gt S (0, cvS (bl S.T S.G (La S)) 6)
def sLe (S : St) (a : Int32) : Nat × Int32 := gt S (if inR a 6 = false then (3, 0) else (0, oI (lst (bl S.T S.G (La S)) (tN a) (bl S.T S.G (La S)).length)))
def dN (S : St) : Option Nat := ds (bl S.T S.G) (La S) S.x
def sDi (S : St) : Nat × Int32 := gt S (0, oI (dN S))
theorem ds_congr {B B' : Nat → List Cf} {la : Nat} {x : Cf} (h : ∀ j, j ≤ la → B j = B' j) : ds B la x = ds B' la x := by
  unfold ds
  have key : ∀ l : List Nat, (∀ j ∈ l, j ≤ la) → l.find? (fun k => cv (B k) x) = l.find? (fun k => cv (B' k) x) := by
    intro l
    induction l with
    | nil => intro _; rfl
    | cons a r ih =>
      intro hl
      rw [List.find?_cons, List.find?_cons, h a (hl a List.mem_cons_self), ih (fun j hj => hl j (List.mem_cons_of_mem _ hj))]
  exact key _ (fun j hj => by have := List.mem_range.mp hj; omega)
theorem wsq_congr {T : List Tr} {B B' : Nat → List Cf} {d : Nat} {s : Cf × Nat × Nat} (h : ∀ j, j ≤ d → B j = B' j) (i : Nat) : wsq T B d s i = wsq T B' d s i := by
  induction i with
  | zero => rfl
  | succ i ih =>
    show wst T (B (d - 1 - i)) (wsq T B d s i) = wst T (B' (d - 1 - i)) (wsq T B' d s i)
    rw [ih, h _ (by omega)]
/-- the analysis as it stands when it is complete or given up -/
def RAt (M : ev_M) (S : St) : Prop := ∃ tr lo B, RAn M 17 S.T S.G true tr lo B
theorem c_run {l : Launch} (hl : l.stackTraces = false) {M : ev_M} (S : St) (hS : okS S) (hm : RM M 1 S.T) (hg : RQ M 4 3 S.G) (ha : RAx M S.T S.G) : ev_Mt l m_X0_run [.ref 17, .ref 1, .ref 4] M (fun r M1 => r = .inl (some (.int (ev_b (rn S.T S.G).1))) ∧ RAt M1 S ∧ Fr 17 77 M M1) := by
  obtain ⟨cu, tr, lo, B, co, la, N, hA, hBs, hAN, hA8, hA9, hAf⟩ := ha
  cases cu with
  | true =>
    refine ev_Mt_mono ?_ (c_X0_runC hl 17 co la tr lo hA 1 4)
    rintro r M1 ⟨h1, rfl⟩
    refine ⟨?_, ⟨tr, lo, B, co, la, N, hA, hBs, hAN, hA8, hA9, hAf⟩, Fr.rf⟩
    rw [h1, (hAf rfl).1]
  | false =>
    refine ev_Mt_mono ?_ (c_X0_runN hl 17 co la tr lo 1 S.T (by omega) hS.T 4 3 S.G (by omega) hS.G hg.2.1 hA B hBs hm hg N hAN hA8)
    rintro r M1 ⟨h1, ⟨B1, N1, k1, k2, k3, k4⟩, k5, k6, k7⟩
    refine ⟨h1, ⟨tr, lo, B1, (rn S.T S.G).1, (rn S.T S.G).2, N1, k1, k2, k4, k6, RWk.fr hA9 k7 (by omega), fun _ => ⟨rfl, rfl, k5, k3⟩⟩, k7.to (by omega) (by omega)⟩
set_option maxHeartbeats 4000000 in
set_option maxRecDepth 100000 in
theorem c_X10_reqGT {l : Launch} (hl : l.stackTraces = false) {M : ev_M} (S : St) (hR : RCl M S) (g1 : 0 < S.G.length) : ev_Mt l m_X10_requireGoal [.ref (0)] M (ev_q (.inl none) M) := by
  have hGl : S.G.length ≤ 3 := hR.g.2.1
  refine ev_body hl rfl (by decide +kernel) (Nat.le_of_ble_eq_true rfl) ?_
  show ev_ l m_X10_requireGoal 0 0 0 [some (.ref (0))] [] M _
  refine ev_blk (B := [(.aload_n 0, 1)]) (pe := 1) (ls' := [some (.ref (0))]) (st' := [.ref (0)]) ⟨dX10_requireGoal_0, rfl⟩ rfl ?_
  refine ev_getf (v := .ref (4)) F_RX10_28 dX10_requireGoal_1 hR.o rfl ?_
  refine ev_cVv Y_X2_size L_RX10_225 dX10_requireGoal_4 ⟨Nat.le_of_ble_eq_true rfl, Nat.le_of_ble_eq_true rfl, Nat.le_of_ble_eq_true rfl, Nat.le_of_ble_eq_true rfl, Nat.le_of_ble_eq_true rfl⟩ (hR.g).obj (as := []) rfl rfl (c_X2_size hl 4 3 S.G hR.g) ?_
  refine ev_fN_ne dX10_requireGoal_7 (tgt := 21) (by decide) (by omega) (fun q7 => ?_) (fun q7 => ?_)
  · refine ev_vret dX10_requireGoal_21 rfl ⟨Nat.le_of_ble_eq_true rfl, Nat.le_of_ble_eq_true rfl⟩ ?_
    exact ⟨rfl, rfl⟩
  · exact absurd q7 (by omega)

set_option maxHeartbeats 4000000 in
set_option maxRecDepth 100000 in
theorem c_X10_reqGF {l : Launch} (hl : l.stackTraces = false) {M : ev_M} (S : St) (hR : RCl M S) (g0 : S.G.length = 0) : ev_Mt l m_X10_requireGoal [.ref (0)] M (ev_q (.inr eUO) M) := by
  have hGl : S.G.length ≤ 3 := hR.g.2.1
  refine ev_body hl rfl (by decide +kernel) (Nat.le_of_ble_eq_true rfl) ?_
  show ev_ l m_X10_requireGoal 0 0 0 [some (.ref (0))] [] M _
  refine ev_blk (B := [(.aload_n 0, 1)]) (pe := 1) (ls' := [some (.ref (0))]) (st' := [.ref (0)]) ⟨dX10_requireGoal_0, rfl⟩ rfl ?_
  refine ev_getf (v := .ref (4)) F_RX10_28 dX10_requireGoal_1 hR.o rfl ?_
  refine ev_cVv Y_X2_size L_RX10_225 dX10_requireGoal_4 ⟨Nat.le_of_ble_eq_true rfl, Nat.le_of_ble_eq_true rfl, Nat.le_of_ble_eq_true rfl, Nat.le_of_ble_eq_true rfl, Nat.le_of_ble_eq_true rfl⟩ (hR.g).obj (as := []) rfl rfl (c_X2_size hl 4 3 S.G hR.g) ?_
  refine ev_fN_ne dX10_requireGoal_7 (tgt := 21) (by decide) (by omega) (fun q7 => ?_) (fun q7 => ?_)
  · exact absurd g0 q7
  · refine ev_throwW (cls := "java/lang/UnsupportedOperationException") (text := "there is no goal") (names := ev_nmR) (ic := 356) (ik := 352) rfl (by decide +kernel) (by decide +kernel) T_UnsupportedOperationException (by decide +kernel) dX10_requireGoal_10 dX10_requireGoal_13 dX10_requireGoal_14 dX10_requireGoal_17 dX10_requireGoal_20 ⟨Nat.le_of_ble_eq_true rfl, Nat.le_of_ble_eq_true rfl, Nat.le_of_ble_eq_true rfl, Nat.le_of_ble_eq_true rfl⟩ ?_
    exact ⟨rfl, rfl⟩

set_option maxHeartbeats 4000000 in
set_option maxRecDepth 100000 in
theorem c_X10_analyze {l : Launch} (hl : l.stackTraces = false) {M : ev_M} (S : St) (hS : okS S) (hR : RCl M S) : ev_Mt l m_X10_analyze [.ref (0)] M (fun r M1 => r = cA [eUO] (sAna S) ∧ RCl M1 S ∧ Fr 0 104 M M1) := by
  have hTl : S.T.length ≤ 10 := hR.m.1
  have hGl : S.G.length ≤ 3 := hR.g.2.1
  rcases Nat.eq_zero_or_pos S.G.length with g0 | g1
  · have y9 : True := trivial
    refine ev_body hl rfl (by decide +kernel) (Nat.le_of_ble_eq_true rfl) ?_
    show ev_ l m_X10_analyze 0 0 0 [some (.ref (0))] [] M _
    refine ev_blk (B := [(.aload_n 0, 1)]) (pe := 1) (ls' := [some (.ref (0))]) (st' := [.ref (0)]) ⟨dX10_analyze_0, rfl⟩ rfl ?_
    refine ev_cVx Y_X10_requireGoal L_RX10_235 dX10_analyze_1 ⟨Nat.le_of_ble_eq_true rfl, Nat.le_of_ble_eq_true rfl, Nat.le_of_ble_eq_true rfl, Nat.le_of_ble_eq_true rfl, Nat.le_of_ble_eq_true rfl⟩ hR.o (as := []) rfl rfl (c_X10_reqGF hl S hR g0) ?_
    refine ev_Th_out rfl ⟨Nat.le_of_ble_eq_true rfl, Nat.le_of_ble_eq_true rfl⟩ ?_
    have e9 : sAna S = (1, 0) := if_pos g0
    rw [e9]
    exact ⟨rfl, ⟨hR.o, hR.m, hR.x, hR.g, hR.h, hR.k, hR.a, hR.l, hR.r, hR.w, hR.s⟩, Fr.rf⟩
  · have y9 : True := trivial
    refine ev_body hl rfl (by decide +kernel) (Nat.le_of_ble_eq_true rfl) ?_
    show ev_ l m_X10_analyze 0 0 0 [some (.ref (0))] [] M _
    refine ev_blk (B := [(.aload_n 0, 1)]) (pe := 1) (ls' := [some (.ref (0))]) (st' := [.ref (0)]) ⟨dX10_analyze_0, rfl⟩ rfl ?_
    refine ev_cV0 Y_X10_requireGoal L_RX10_235 dX10_analyze_1 ⟨Nat.le_of_ble_eq_true rfl, Nat.le_of_ble_eq_true rfl, Nat.le_of_ble_eq_true rfl, Nat.le_of_ble_eq_true rfl, Nat.le_of_ble_eq_true rfl⟩ hR.o (as := []) rfl rfl (c_X10_reqGT hl S hR g1) ?_
    refine ev_blk (B := [(.aload_n 0, 1)]) (pe := 5) (ls' := [some (.ref (0))]) (st' := [.ref (0)]) ⟨dX10_analyze_4, rfl⟩ rfl ?_
    refine ev_getf (v := .ref (17)) F_RX10_49 dX10_analyze_5 hR.o rfl ?_
    refine ev_blk (B := [(.aload_n 0, 1)]) (pe := 9) (ls' := [some (.ref (0))]) (st' := [.ref (0), .ref (17)]) ⟨dX10_analyze_8, rfl⟩ rfl ?_
    refine ev_getf (v := .ref (1)) F_RX10_10 dX10_analyze_9 hR.o rfl ?_
    refine ev_blk (B := [(.aload_n 0, 1)]) (pe := 13) (ls' := [some (.ref (0))]) (st' := [.ref (0), .ref (1), .ref (17)]) ⟨dX10_analyze_12, rfl⟩ rfl ?_
    refine ev_getf (v := .ref (4)) F_RX10_28 dX10_analyze_13 hR.o rfl ?_
    obtain ⟨cu, tr9, lo9, B9, co, la, N9, hA, hBs, hAN, hA8, hA9, hAf⟩ := hR.a
    refine ev_cVw Y_X0_run L_RX10_238 dX10_analyze_16 ⟨Nat.le_of_ble_eq_true rfl, Nat.le_of_ble_eq_true rfl, Nat.le_of_ble_eq_true rfl, Nat.le_of_ble_eq_true rfl, Nat.le_of_ble_eq_true rfl⟩ hA.1 (as := [.ref (1), .ref (4)]) rfl rfl (c_run hl S hS hR.m hR.g hR.a) (fun M1 hL1 hB1 => ?_)
    obtain ⟨Da, Df⟩ := hB1
    have Dx : RAx M1 S.T S.G := by
      obtain ⟨t1, t2, t3, t4⟩ := Da
      exact ⟨true, t1, t2, t3, t4⟩
    refine ev_ifB_eq dX10_analyze_19 (tgt := 26) (by decide) (fun q19 => ?_) (fun q19 => ?_)
    · refine ev_blk (B := [(.iconst 0, 1)]) (pe := 27) (ls' := [some (.ref (0))]) (st' := [.int (nI 0)]) ⟨dX10_analyze_26, rfl⟩ rfl ?_
      refine ev_iret dX10_analyze_27 rfl (rfl) ⟨Nat.le_of_ble_eq_true rfl, Nat.le_of_ble_eq_true rfl⟩ ?_
      have e9 : sAna S = (0, ev_b (rn S.T S.G).1) := if_neg (by omega)
      rw [e9, q19]
      exact ⟨rfl, ⟨(hR.o.fr Df (by omega)), (hR.m.fr Df (by omega)), (hR.x.fr Df (by omega)), (hR.g.fr Df (by omega)), (hR.h.fr Df (by omega)), (hR.k.fr Df (by omega)), Dx, (hR.l.fr Df (by omega)), (hR.r.fr Df (by omega)), (hR.w.fr Df (by omega)), (hR.s.fr Df (by omega))⟩, (Df.to (by omega) (by omega))⟩
    · refine ev_blk (B := [(.iconst 1, 1)]) (pe := 23) (ls' := [some (.ref (0))]) (st' := [.int (nI 1)]) ⟨dX10_analyze_22, rfl⟩ rfl ?_
      refine ev_goto (tgt := 27) dX10_analyze_23 (by decide) ?_
      refine ev_iret dX10_analyze_27 rfl (rfl) ⟨Nat.le_of_ble_eq_true rfl, Nat.le_of_ble_eq_true rfl⟩ ?_
      have e9 : sAna S = (0, ev_b (rn S.T S.G).1) := if_neg (by omega)
      rw [e9, q19]
      exact ⟨rfl, ⟨(hR.o.fr Df (by omega)), (hR.m.fr Df (by omega)), (hR.x.fr Df (by omega)), (hR.g.fr Df (by omega)), (hR.h.fr Df (by omega)), (hR.k.fr Df (by omega)), Dx, (hR.l.fr Df (by omega)), (hR.r.fr Df (by omega)), (hR.w.fr Df (by omega)), (hR.s.fr Df (by omega))⟩, (Df.to (by omega) (by omega))⟩

set_option maxHeartbeats 4000000 in
set_option maxRecDepth 100000 in
theorem c_X10_reqC0 {l : Launch} (hl : l.stackTraces = false) {M : ev_M} (S : St) (hS : okS S) (hR : RCl M S) (g1 : 0 < S.G.length) (c1 : (rn S.T S.G).1 = true) : ev_Mt l m_X10_requireCompleteAnalysis [.ref 0] M (fun r M1 => r = .inl none ∧ RAt M1 S ∧ Fr 17 77 M M1) := by
  have hTl : S.T.length ≤ 10 := hR.m.1
  have hGl : S.G.length ≤ 3 := hR.g.2.1
  refine ev_body hl rfl (by decide +kernel) (Nat.le_of_ble_eq_true rfl) ?_
  show ev_ l m_X10_requireCompleteAnalysis 0 0 0 [some (.ref (0))] [] M _
  refine ev_blk (B := [(.aload_n 0, 1)]) (pe := 1) (ls' := [some (.ref (0))]) (st' := [.ref (0)]) ⟨dX10_requireCompleteAnalysis_0, rfl⟩ rfl ?_
  refine ev_cV0 Y_X10_requireGoal L_RX10_235 dX10_requireCompleteAnalysis_1 ⟨Nat.le_of_ble_eq_true rfl, Nat.le_of_ble_eq_true rfl, Nat.le_of_ble_eq_true rfl, Nat.le_of_ble_eq_true rfl, Nat.le_of_ble_eq_true rfl⟩ hR.o (as := []) rfl rfl (c_X10_reqGT hl S hR g1) ?_
  refine ev_blk (B := [(.aload_n 0, 1)]) (pe := 5) (ls' := [some (.ref (0))]) (st' := [.ref (0)]) ⟨dX10_requireCompleteAnalysis_4, rfl⟩ rfl ?_
  refine ev_getf (v := .ref (17)) F_RX10_49 dX10_requireCompleteAnalysis_5 hR.o rfl ?_
  refine ev_blk (B := [(.aload_n 0, 1)]) (pe := 9) (ls' := [some (.ref (0))]) (st' := [.ref (0), .ref (17)]) ⟨dX10_requireCompleteAnalysis_8, rfl⟩ rfl ?_
  refine ev_getf (v := .ref (1)) F_RX10_10 dX10_requireCompleteAnalysis_9 hR.o rfl ?_
  refine ev_blk (B := [(.aload_n 0, 1)]) (pe := 13) (ls' := [some (.ref (0))]) (st' := [.ref (0), .ref (1), .ref (17)]) ⟨dX10_requireCompleteAnalysis_12, rfl⟩ rfl ?_
  refine ev_getf (v := .ref (4)) F_RX10_28 dX10_requireCompleteAnalysis_13 hR.o rfl ?_
  obtain ⟨cu, tr9, lo9, B9, co, la, N9, hA, hBs, hAN, hA8, hA9, hAf⟩ := hR.a
  refine ev_cVw Y_X0_run L_RX10_238 dX10_requireCompleteAnalysis_16 ⟨Nat.le_of_ble_eq_true rfl, Nat.le_of_ble_eq_true rfl, Nat.le_of_ble_eq_true rfl, Nat.le_of_ble_eq_true rfl, Nat.le_of_ble_eq_true rfl⟩ hA.1 (as := [.ref (1), .ref (4)]) rfl rfl (c_run hl S hS hR.m hR.g hR.a) (fun M1 hL1 hB1 => ?_)
  obtain ⟨Da, Df⟩ := hB1
  have Dx : RAx M1 S.T S.G := by
    obtain ⟨t1, t2, t3, t4⟩ := Da
    exact ⟨true, t1, t2, t3, t4⟩
  refine ev_ifB_ne dX10_requireCompleteAnalysis_19 (tgt := 33) (by decide) (fun q19 => ?_) (fun q19 => ?_)
  · refine ev_vret dX10_requireCompleteAnalysis_33 rfl ⟨Nat.le_of_ble_eq_true rfl, Nat.le_of_ble_eq_true rfl⟩ ?_
    exact ⟨rfl, Da, Df⟩
  · exact absurd (c1.symm.trans q19) (by decide)

set_option maxHeartbeats 4000000 in
set_option maxRecDepth 100000 in
theorem c_X10_reqC1 {l : Launch} (hl : l.stackTraces = false) {M : ev_M} (S : St) (hS : okS S) (hR : RCl M S) (g0 : S.G.length = 0) : ev_Mt l m_X10_requireCompleteAnalysis [.ref 0] M (ev_q (.inr eUO) M) := by
  have hTl : S.T.length ≤ 10 := hR.m.1
  have hGl : S.G.length ≤ 3 := hR.g.2.1
  refine ev_body hl rfl (by decide +kernel) (Nat.le_of_ble_eq_true rfl) ?_
  show ev_ l m_X10_requireCompleteAnalysis 0 0 0 [some (.ref (0))] [] M _
  refine ev_blk (B := [(.aload_n 0, 1)]) (pe := 1) (ls' := [some (.ref (0))]) (st' := [.ref (0)]) ⟨dX10_requireCompleteAnalysis_0, rfl⟩ rfl ?_
  refine ev_cVx Y_X10_requireGoal L_RX10_235 dX10_requireCompleteAnalysis_1 ⟨Nat.le_of_ble_eq_true rfl, Nat.le_of_ble_eq_true rfl, Nat.le_of_ble_eq_true rfl, Nat.le_of_ble_eq_true rfl, Nat.le_of_ble_eq_true rfl⟩ hR.o (as := []) rfl rfl (c_X10_reqGF hl S hR g0) ?_
  refine ev_Th_out rfl ⟨Nat.le_of_ble_eq_true rfl, Nat.le_of_ble_eq_true rfl⟩ ?_
  exact ⟨rfl, rfl⟩

set_option maxHeartbeats 4000000 in
set_option maxRecDepth 100000 in
theorem c_X10_reqC2 {l : Launch} (hl : l.stackTraces = false) {M : ev_M} (S : St) (hS : okS S) (hR : RCl M S) (g1 : 0 < S.G.length) (c0 : (rn S.T S.G).1 = false) : ev_Mt l m_X10_requireCompleteAnalysis [.ref 0] M (fun r M1 => r = .inr eIS ∧ RAt M1 S ∧ Fr 17 77 M M1) := by
  have hTl : S.T.length ≤ 10 := hR.m.1
  have hGl : S.G.length ≤ 3 := hR.g.2.1
  refine ev_body hl rfl (by decide +kernel) (Nat.le_of_ble_eq_true rfl) ?_
  show ev_ l m_X10_requireCompleteAnalysis 0 0 0 [some (.ref (0))] [] M _
  refine ev_blk (B := [(.aload_n 0, 1)]) (pe := 1) (ls' := [some (.ref (0))]) (st' := [.ref (0)]) ⟨dX10_requireCompleteAnalysis_0, rfl⟩ rfl ?_
  refine ev_cV0 Y_X10_requireGoal L_RX10_235 dX10_requireCompleteAnalysis_1 ⟨Nat.le_of_ble_eq_true rfl, Nat.le_of_ble_eq_true rfl, Nat.le_of_ble_eq_true rfl, Nat.le_of_ble_eq_true rfl, Nat.le_of_ble_eq_true rfl⟩ hR.o (as := []) rfl rfl (c_X10_reqGT hl S hR g1) ?_
  refine ev_blk (B := [(.aload_n 0, 1)]) (pe := 5) (ls' := [some (.ref (0))]) (st' := [.ref (0)]) ⟨dX10_requireCompleteAnalysis_4, rfl⟩ rfl ?_
  refine ev_getf (v := .ref (17)) F_RX10_49 dX10_requireCompleteAnalysis_5 hR.o rfl ?_
  refine ev_blk (B := [(.aload_n 0, 1)]) (pe := 9) (ls' := [some (.ref (0))]) (st' := [.ref (0), .ref (17)]) ⟨dX10_requireCompleteAnalysis_8, rfl⟩ rfl ?_
  refine ev_getf (v := .ref (1)) F_RX10_10 dX10_requireCompleteAnalysis_9 hR.o rfl ?_
  refine ev_blk (B := [(.aload_n 0, 1)]) (pe := 13) (ls' := [some (.ref (0))]) (st' := [.ref (0), .ref (1), .ref (17)]) ⟨dX10_requireCompleteAnalysis_12, rfl⟩ rfl ?_
  refine ev_getf (v := .ref (4)) F_RX10_28 dX10_requireCompleteAnalysis_13 hR.o rfl ?_
  obtain ⟨cu, tr9, lo9, B9, co, la, N9, hA, hBs, hAN, hA8, hA9, hAf⟩ := hR.a
  refine ev_cVw Y_X0_run L_RX10_238 dX10_requireCompleteAnalysis_16 ⟨Nat.le_of_ble_eq_true rfl, Nat.le_of_ble_eq_true rfl, Nat.le_of_ble_eq_true rfl, Nat.le_of_ble_eq_true rfl, Nat.le_of_ble_eq_true rfl⟩ hA.1 (as := [.ref (1), .ref (4)]) rfl rfl (c_run hl S hS hR.m hR.g hR.a) (fun M1 hL1 hB1 => ?_)
  obtain ⟨Da, Df⟩ := hB1
  have Dx : RAx M1 S.T S.G := by
    obtain ⟨t1, t2, t3, t4⟩ := Da
    exact ⟨true, t1, t2, t3, t4⟩
  refine ev_ifB_ne dX10_requireCompleteAnalysis_19 (tgt := 33) (by decide) (fun q19 => ?_) (fun q19 => ?_)
  · exact absurd (c0.symm.trans q19) (by decide)
  · refine ev_throwW (cls := "java/lang/IllegalStateException") (text := "the analysis is given up") (names := ev_nmR) (ic := 101) (ik := 97) rfl (by decide +kernel) (by decide +kernel) T_IllegalStateException (by decide +kernel) dX10_requireCompleteAnalysis_22 dX10_requireCompleteAnalysis_25 dX10_requireCompleteAnalysis_26 dX10_requireCompleteAnalysis_29 dX10_requireCompleteAnalysis_32 ⟨Nat.le_of_ble_eq_true rfl, Nat.le_of_ble_eq_true rfl, Nat.le_of_ble_eq_true rfl, Nat.le_of_ble_eq_true rfl⟩ ?_
    exact ⟨rfl, Da, Df⟩

set_option maxHeartbeats 4000000 in
set_option maxRecDepth 100000 in
theorem c_X10_lastRound {l : Launch} (hl : l.stackTraces = false) {M : ev_M} (S : St) (hS : okS S) (hR : RCl M S) : ev_Mt l m_X10_lastRound [.ref (0)] M (fun r M1 => r = cA [eUO, eIS] (sLR S) ∧ RCl M1 S ∧ Fr 0 104 M M1) := by
  have hTl : S.T.length ≤ 10 := hR.m.1
  have hGl : S.G.length ≤ 3 := hR.g.2.1
  rcases Nat.eq_zero_or_pos S.G.length with g0 | g1
  · have y9 : True := trivial
    refine ev_body hl rfl (by decide +kernel) (Nat.le_of_ble_eq_true rfl) ?_
    show ev_ l m_X10_lastRound 0 0 0 [some (.ref (0))] [] M _
    refine ev_blk (B := [(.aload_n 0, 1)]) (pe := 1) (ls' := [some (.ref (0))]) (st' := [.ref (0)]) ⟨dX10_lastRound_0, rfl⟩ rfl ?_
    refine ev_cVx Y_X10_requireCompleteAnalysis L_RX10_242 dX10_lastRound_1 ⟨Nat.le_of_ble_eq_true rfl, Nat.le_of_ble_eq_true rfl, Nat.le_of_ble_eq_true rfl, Nat.le_of_ble_eq_true rfl, Nat.le_of_ble_eq_true rfl⟩ hR.o (as := []) rfl rfl (c_X10_reqC1 hl S hS hR g0) ?_
    refine ev_Th_out rfl ⟨Nat.le_of_ble_eq_true rfl, Nat.le_of_ble_eq_true rfl⟩ ?_
    have e9 : sLR S = (1, 0) := gt_1 g0
    rw [e9]
    exact ⟨rfl, ⟨hR.o, hR.m, hR.x, hR.g, hR.h, hR.k, hR.a, hR.l, hR.r, hR.w, hR.s⟩, Fr.rf⟩
  · have y9 : True := trivial
    rcases Bool.eq_false_or_eq_true (rn S.T S.G).1 with c1 | c0
    · have y9 : True := trivial
      refine ev_body hl rfl (by decide +kernel) (Nat.le_of_ble_eq_true rfl) ?_
      show ev_ l m_X10_lastRound 0 0 0 [some (.ref (0))] [] M _
      refine ev_blk (B := [(.aload_n 0, 1)]) (pe := 1) (ls' := [some (.ref (0))]) (st' := [.ref (0)]) ⟨dX10_lastRound_0, rfl⟩ rfl ?_
      refine ev_cVn Y_X10_requireCompleteAnalysis L_RX10_242 dX10_lastRound_1 ⟨Nat.le_of_ble_eq_true rfl, Nat.le_of_ble_eq_true rfl, Nat.le_of_ble_eq_true rfl, Nat.le_of_ble_eq_true rfl, Nat.le_of_ble_eq_true rfl⟩ hR.o (as := []) rfl rfl (c_X10_reqC0 hl S hS hR g1 c1) (fun M1 hL1 hB1 => ?_)
      obtain ⟨Da, Df⟩ := hB1
      have Dx : RAx M1 S.T S.G := by
        obtain ⟨t1, t2, t3, t4⟩ := Da
        exact ⟨true, t1, t2, t3, t4⟩
      obtain ⟨tr9, lo9, B9, co, la, N9, hA, hBs, hAN, hA8, hA9, hAf⟩ := Da
      obtain ⟨rfl, rfl, h13, hBe⟩ := hAf rfl
      refine ev_blk (B := [(.aload_n 0, 1)]) (pe := 5) (ls' := [some (.ref (0))]) (st' := [.ref (0)]) ⟨dX10_lastRound_4, rfl⟩ rfl ?_
      refine ev_getf (v := .ref (17)) F_RX10_49 dX10_lastRound_5 (hR.o.fr Df (by omega)) rfl ?_
      refine ev_cVv Y_X0_last L_RX10_245 dX10_lastRound_8 ⟨Nat.le_of_ble_eq_true rfl, Nat.le_of_ble_eq_true rfl, Nat.le_of_ble_eq_true rfl, Nat.le_of_ble_eq_true rfl, Nat.le_of_ble_eq_true rfl⟩ hA.1 (as := []) rfl rfl (c_X0_last hl 17 true _ _ tr9 lo9 hA) ?_
      refine ev_iret dX10_lastRound_11 rfl (rfl) ⟨Nat.le_of_ble_eq_true rfl, Nat.le_of_ble_eq_true rfl⟩ ?_
      have e9 : sLR S = (0, nI (La S)) := (gt_0 g1 c1).trans (rfl)
      rw [e9]
      exact ⟨rfl, ⟨(hR.o.fr Df (by omega)), (hR.m.fr Df (by omega)), (hR.x.fr Df (by omega)), (hR.g.fr Df (by omega)), (hR.h.fr Df (by omega)), (hR.k.fr Df (by omega)), Dx, (hR.l.fr Df (by omega)), (hR.r.fr Df (by omega)), (hR.w.fr Df (by omega)), (hR.s.fr Df (by omega))⟩, (Df.to (by omega) (by omega))⟩
    · have y9 : True := trivial
      refine ev_body hl rfl (by decide +kernel) (Nat.le_of_ble_eq_true rfl) ?_
      show ev_ l m_X10_lastRound 0 0 0 [some (.ref (0))] [] M _
      refine ev_blk (B := [(.aload_n 0, 1)]) (pe := 1) (ls' := [some (.ref (0))]) (st' := [.ref (0)]) ⟨dX10_lastRound_0, rfl⟩ rfl ?_
      refine ev_cVX Y_X10_requireCompleteAnalysis L_RX10_242 dX10_lastRound_1 ⟨Nat.le_of_ble_eq_true rfl, Nat.le_of_ble_eq_true rfl, Nat.le_of_ble_eq_true rfl, Nat.le_of_ble_eq_true rfl, Nat.le_of_ble_eq_true rfl⟩ hR.o (as := []) rfl rfl (c_X10_reqC2 hl S hS hR g1 c0) (fun M2 hL2 hB2 => ?_)
      obtain ⟨Da, Df⟩ := hB2
      have Dx : RAx M2 S.T S.G := by
        obtain ⟨t1, t2, t3, t4⟩ := Da
        exact ⟨true, t1, t2, t3, t4⟩
      refine ev_Th_out rfl ⟨Nat.le_of_ble_eq_true rfl, Nat.le_of_ble_eq_true rfl⟩ ?_
      have e9 : sLR S = (2, 0) := gt_2 g1 c0
      rw [e9]
      exact ⟨rfl, ⟨(hR.o.fr Df (by omega)), (hR.m.fr Df (by omega)), (hR.x.fr Df (by omega)), (hR.g.fr Df (by omega)), (hR.h.fr Df (by omega)), (hR.k.fr Df (by omega)), Dx, (hR.l.fr Df (by omega)), (hR.r.fr Df (by omega)), (hR.w.fr Df (by omega)), (hR.s.fr Df (by omega))⟩, (Df.to (by omega) (by omega))⟩

