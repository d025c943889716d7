/-! ===== the law's calls of the class ===== -/
/-- what such a call leaves -/
def HQ (M : ev_M) (q : Nat) (w : Int32 → Int64) (p : Nat × Int32) (S1 : St) (r : ev_R) (M1 : ev_M) : Prop := r = .inl (some (.int (nI p.1))) ∧ RCl M1 S1 ∧ (∃ g, M1[q]? = some (.inl (1, 1, .inr (.inl g))) ∧ (nI p.1 = 0 → g 0 = w p.2)) ∧ M1.length = M.length ∧ ∀ j, 104 ≤ j → j ≠ q → M1[j]? = M[j]?
def HV (M : ev_M) (p : Nat) (S1 : St) (r : ev_R) (M1 : ev_M) : Prop := r = .inl (some (.int (nI p))) ∧ RCl M1 S1 ∧ Fr 0 104 M M1
def wL (x : Int32) : Int64 := x.toInt64
def wZ (x : Int32) : Int64 := if x = 0 then 0 else 1
theorem gate_le (S : St) : gate S ≤ 2 := by
  unfold gate
  split
  · omega
  · split <;> omega
theorem gt_le {S : St} {p : Nat × Int32} {n : Nat} (h : p.1 ≤ n) (hn : 2 ≤ n) : (gt S p).1 ≤ n := by
  have := gate_le S
  unfold gt
  cases e : gate S with
  | zero => exact h
  | succ k => rw [e] at this; show k + 1 ≤ n; omega
theorem RCl.fr {lo hi : Nat} {M M1 : ev_M} {S : St} (h : RCl M S) (hf : Fr lo hi M M1) (hd : 104 ≤ lo) : RCl M1 S := ⟨h.o.fr hf (by omega), h.m.fr hf (by omega), h.x.fr hf (by omega), h.g.fr hf (by omega), h.h.fr hf (by omega), h.k.fr hf (by omega), h.a.fr hf (by omega), h.l.fr hf (by omega), h.r.fr hf (by omega), h.w.fr hf (by omega), h.s.fr hf (by omega)⟩
theorem HQ.x {M M1 : ev_M} {q : Nat} {w : Int32 → Int64} {p : Nat × Int32} {S1 : St} {g : Nat → Int64} (hq : 104 ≤ q) (hg : M[q]? = some (.inl (1, 1, .inr (.inl g)))) (hR : RCl M1 S1) (hF : Fr 0 104 M M1) (hp : ¬ nI p.1 = 0) : HQ M q w p S1 (.inl (some (.int (nI p.1)))) M1 :=
  ⟨rfl, hR, ⟨g, (hF.2 q (Or.inr hq)).trans hg, fun z => absurd z hp⟩, hF.1, fun j h1 h2 => hF.2 j (Or.inr h1)⟩
theorem HQ.v {M M1 : ev_M} {q : Nat} {w : Int32 → Int64} {p : Nat × Int32} {S1 : St} {g : Nat → Int64} (hq : 104 ≤ q) (hg : M[q]? = some (.inl (1, 1, .inr (.inl g)))) (hR : RCl M1 S1) (hF : Fr 0 104 M M1) (hp : p.1 = 0) {v : Int64} (hv : v = w p.2) : HQ M q w p S1 (.inl (some (.int (nI 0)))) (M1.set q (.inl (1, 1, .inr (.inl (vp_updL g 0 v))))) := by
  have h1 : M1[q]? = some (.inl (1, 1, .inr (.inl g))) := (hF.2 q (Or.inr hq)).trans hg
  refine ⟨by rw [hp], ?_, ⟨_, ev_sg h1, fun _ => ?_⟩, by rw [List.length_set]; exact hF.1, fun j h1 h2 => by rw [ev_sn (fun e => h2 e.symm)]; exact hF.2 j (Or.inr h1)⟩
  · exact hR.fr (lo := q) (hi := q + 1) ⟨by rw [List.length_set], fun j hj => ev_sn (by omega)⟩ hq
  · rw [updL_at, if_pos rfl]; exact hv
set_option maxHeartbeats 4000000 in
set_option maxRecDepth 100000 in
theorem h_addTransition {l : Launch} (hl : l.stackTraces = false) {M : ev_M} (S : St) (hS : okS S) (hR : RCl M S) (a : Int32) (b : Int32) (c : Int32) (d : Int32) (e : Int32) (q : Nat) (hq : 104 ≤ q) (g : Nat → Int64) (hg : M[q]? = some (.inl (1, 1, .inr (.inl g)))) : ev_Mt l m_L_addTransition [.ref (0), .int (a), .int (b), .int (c), .int (d), .int (e), .ref (q)] M (HQ M q wL (sAdd S a b c d e).1 (sAdd S a b c d e).2) := by
  have hb : (sAdd S a b c d e).1.1 ≤ 2 := by
    unfold sAdd
    (repeat' split) <;> (first | exact Nat.zero_le _ | exact Nat.le_of_ble_eq_true rfl)
  refine ev_bodyH hl ⟨_, _, rfl⟩ (by decide +kernel) (Nat.le_of_ble_eq_true rfl) ?_
  show ev_ l m_L_addTransition 0 0 0 [some (.ref (0)), some (.int (a)), some (.int (b)), some (.int (c)), some (.int (d)), some (.int (e)), some (.ref (q)), none] [] M _
  refine ev_blk (B := [(.aload 6, 2), (.iconst 0, 1), (.aload_n 0, 1), (.iload_n 1, 1), (.iload_n 2, 1), (.iload_n 3, 1), (.iload 4, 2), (.iload 5, 2)]) (pe := 11) (ls' := [some (.ref (0)), some (.int (a)), some (.int (b)), some (.int (c)), some (.int (d)), some (.int (e)), some (.ref (q)), none]) (st' := [.int (e), .int (d), .int (c), .int (b), .int (a), .ref (0), .int (nI 0), .ref (q)]) ⟨dL_addTransition_0, dL_addTransition_2, dL_addTransition_3, dL_addTransition_4, dL_addTransition_5, dL_addTransition_6, dL_addTransition_7, dL_addTransition_9, rfl⟩ rfl ?_
  refine ev_cVA (p := (sAdd S a b c d e).1) Y_X10_addTransition L_RL_7 dL_addTransition_11 ⟨Nat.le_of_ble_eq_true rfl, Nat.le_of_ble_eq_true rfl, Nat.le_of_ble_eq_true rfl, Nat.le_of_ble_eq_true rfl, Nat.le_of_ble_eq_true rfl⟩ hR.1 (as := [.int (a), .int (b), .int (c), .int (d), .int (e)]) rfl rfl (c_X10_addTransition hl S hS hR a b c d e) (fun M1 hB hp => ?_) (fun M1 i hB hp => ?_)
  · obtain ⟨hR1, hF⟩ := hB
    have hq1 := (hF.2 q (Or.inr hq)).trans hg
    refine ev_blk (B := [(.i2l, 1)]) (pe := 15) (ls' := [some (.ref (0)), some (.int (a)), some (.int (b)), some (.int (c)), some (.int (d)), some (.int (e)), some (.ref (q)), none]) (st' := [.long ((sAdd S a b c d e).1.2.toInt64), .int (nI 0), .ref (q)]) ⟨dL_addTransition_14, rfl⟩ rfl ?_
    refine ev_last dL_addTransition_15 hq1 (vp_in_nI (show 0 < 1 by omega) (by omega)) ?_
    rw [nI_clamp (show 0 < 2 ^ 31 by omega)]
    refine ev_goto (tgt := 27) dL_addTransition_16 (by decide) ?_
    refine ev_blk (B := [(.iconst 0, 1)]) (pe := 28) (ls' := [some (.ref (0)), some (.int (a)), some (.int (b)), some (.int (c)), some (.int (d)), some (.int (e)), some (.ref (q)), none]) (st' := [.int (nI 0)]) ⟨dL_addTransition_27, rfl⟩ rfl ?_
    refine ev_iret dL_addTransition_28 rfl rfl ⟨Nat.le_of_ble_eq_true rfl, Nat.le_of_ble_eq_true rfl⟩ ?_
    exact HQ.v hq hg hR1 hF hp rfl
  · obtain ⟨hR1, hF⟩ := hB
    match i, hp with
    | 0, hp =>
      refine ev_catch (E := eIA) (k := 7) (len := 2) (pre := []) (x := (0, 16, 19, 13)) (suf := [(0, 16, 23, 15)]) rfl (fun z hz => nomatch hz) rfl (by decide) CL_RL_13 (Or.inl ⟨dL_addTransition_19, rfl⟩) rfl (fun j v e1 e2 => ?_) ?_
      · obtain rfl : j = 6 := by omega
        cases e2; rfl
      · refine ev_blk (B := [(.iconst 1, 1)]) (pe := 22) (ls' := [some (.ref (0)), some (.int (a)), some (.int (b)), some (.int (c)), some (.int (d)), some (.int (e)), some (.ref (q)), none]) (st' := [.int (nI 1)]) ⟨dL_addTransition_21, rfl⟩ rfl ?_
        refine ev_iret dL_addTransition_22 rfl rfl ⟨Nat.le_of_ble_eq_true rfl, Nat.le_of_ble_eq_true rfl⟩ ?_
        rw [← show (sAdd S a b c d e).1.1 = 1 from hp]
        exact HQ.x hq hg hR1 hF (by rw [hp]; decide)
    | 1, hp =>
      refine ev_catch (E := eIS) (k := 7) (len := 2) (pre := [(0, 16, 19, 13)]) (x := (0, 16, 23, 15)) (suf := []) rfl (fun z hz => by
            rcases List.mem_cons.mp hz with rfl | hz
            · exact ⟨eIA, by decide, CL_RL_13, by decide⟩
            cases hz) rfl (by decide) CL_RL_15 (Or.inl ⟨dL_addTransition_23, rfl⟩) rfl (fun j v e1 e2 => ?_) ?_
      · obtain rfl : j = 6 := by omega
        cases e2; rfl
      · refine ev_blk (B := [(.iconst 2, 1)]) (pe := 26) (ls' := [some (.ref (0)), some (.int (a)), some (.int (b)), some (.int (c)), some (.int (d)), some (.int (e)), some (.ref (q)), none]) (st' := [.int (nI 2)]) ⟨dL_addTransition_25, rfl⟩ rfl ?_
        refine ev_iret dL_addTransition_26 rfl rfl ⟨Nat.le_of_ble_eq_true rfl, Nat.le_of_ble_eq_true rfl⟩ ?_
        rw [← show (sAdd S a b c d e).1.1 = 2 from hp]
        exact HQ.x hq hg hR1 hF (by rw [hp]; decide)
    | i + 2, hp => omega

set_option maxHeartbeats 4000000 in
set_option maxRecDepth 100000 in
theorem h_removeTransition {l : Launch} (hl : l.stackTraces = false) {M : ev_M} (S : St) (hS : okS S) (hR : RCl M S) (a : Int32) (q : Nat) (hq : 104 ≤ q) (g : Nat → Int64) (hg : M[q]? = some (.inl (1, 1, .inr (.inl g)))) : ev_Mt l m_L_removeTransition [.ref (0), .int (a), .ref (q)] M (HQ M q wL (sRem S a).1 (sRem S a).2) := by
  have hb : (sRem S a).1.1 ≤ 1 := by
    unfold sRem
    (repeat' split) <;> (first | exact Nat.zero_le _ | exact Nat.le_of_ble_eq_true rfl)
  refine ev_bodyH hl ⟨_, _, rfl⟩ (by decide +kernel) (Nat.le_of_ble_eq_true rfl) ?_
  show ev_ l m_L_removeTransition 0 0 0 [some (.ref (0)), some (.int (a)), some (.ref (q)), none] [] M _
  refine ev_blk (B := [(.aload_n 2, 1), (.iconst 0, 1), (.aload_n 0, 1), (.iload_n 1, 1)]) (pe := 4) (ls' := [some (.ref (0)), some (.int (a)), some (.ref (q)), none]) (st' := [.int (a), .ref (0), .int (nI 0), .ref (q)]) ⟨dL_removeTransition_0, dL_removeTransition_1, dL_removeTransition_2, dL_removeTransition_3, rfl⟩ rfl ?_
  refine ev_cVA (p := (sRem S a).1) Y_X10_removeTransition L_RL_17 dL_removeTransition_4 ⟨Nat.le_of_ble_eq_true rfl, Nat.le_of_ble_eq_true rfl, Nat.le_of_ble_eq_true rfl, Nat.le_of_ble_eq_true rfl, Nat.le_of_ble_eq_true rfl⟩ hR.1 (as := [.int (a)]) rfl rfl (c_X10_removeTransition hl S hS hR a) (fun M1 hB hp => ?_) (fun M1 i hB hp => ?_)
  · obtain ⟨hR1, hF⟩ := hB
    have hq1 := (hF.2 q (Or.inr hq)).trans hg
    refine ev_blk (B := [(.i2l, 1)]) (pe := 8) (ls' := [some (.ref (0)), some (.int (a)), some (.ref (q)), none]) (st' := [.long ((sRem S a).1.2.toInt64), .int (nI 0), .ref (q)]) ⟨dL_removeTransition_7, rfl⟩ rfl ?_
    refine ev_last dL_removeTransition_8 hq1 (vp_in_nI (show 0 < 1 by omega) (by omega)) ?_
    rw [nI_clamp (show 0 < 2 ^ 31 by omega)]
    refine ev_goto (tgt := 15) dL_removeTransition_9 (by decide) ?_
    refine ev_blk (B := [(.iconst 0, 1)]) (pe := 16) (ls' := [some (.ref (0)), some (.int (a)), some (.ref (q)), none]) (st' := [.int (nI 0)]) ⟨dL_removeTransition_15, rfl⟩ rfl ?_
    refine ev_iret dL_removeTransition_16 rfl rfl ⟨Nat.le_of_ble_eq_true rfl, Nat.le_of_ble_eq_true rfl⟩ ?_
    exact HQ.v hq hg hR1 hF hp rfl
  · obtain ⟨hR1, hF⟩ := hB
    match i, hp with
    | 0, hp =>
      refine ev_catch (E := eIB) (k := 3) (len := 1) (pre := []) (x := (0, 9, 12, 21)) (suf := []) rfl (fun z hz => nomatch hz) rfl (by decide) CL_RL_21 (Or.inr ⟨3, rfl, dL_removeTransition_12, rfl⟩) rfl (fun j v e1 e2 => ?_) ?_
      · obtain rfl : j = 2 := by omega
        cases e2; rfl
      · refine ev_blk (B := [(.iconst 1, 1)]) (pe := 14) (ls' := [some (.ref (0)), some (.int (a)), some (.ref (q)), none]) (st' := [.int (nI 1)]) ⟨dL_removeTransition_13, rfl⟩ rfl ?_
        refine ev_iret dL_removeTransition_14 rfl rfl ⟨Nat.le_of_ble_eq_true rfl, Nat.le_of_ble_eq_true rfl⟩ ?_
        rw [← show (sRem S a).1.1 = 1 from hp]
        exact HQ.x hq hg hR1 hF (by rw [hp]; decide)
    | i + 1, hp => omega

set_option maxHeartbeats 4000000 in
set_option maxRecDepth 100000 in
theorem h_transition {l : Launch} (hl : l.stackTraces = false) {M : ev_M} (S : St) (hS : okS S) (hR : RCl M S) (a : Int32) (b : Int32) (q : Nat) (hq : 104 ≤ q) (g : Nat → Int64) (hg : M[q]? = some (.inl (1, 1, .inr (.inl g)))) : ev_Mt l m_L_transition [.ref (0), .int (a), .int (b), .ref (q)] M (HQ M q wL (sTra S a b) S) := by
  have hb : (sTra S a b).1 ≤ 2 := by
    unfold sTra
    (repeat' split) <;> (first | exact Nat.zero_le _ | exact Nat.le_of_ble_eq_true rfl)
  refine ev_bodyH hl ⟨_, _, rfl⟩ (by decide +kernel) (Nat.le_of_ble_eq_true rfl) ?_
  show ev_ l m_L_transition 0 0 0 [some (.ref (0)), some (.int (a)), some (.int (b)), some (.ref (q)), none] [] M _
  refine ev_blk (B := [(.aload_n 3, 1), (.iconst 0, 1), (.aload_n 0, 1), (.iload_n 1, 1), (.iload_n 2, 1)]) (pe := 5) (ls' := [some (.ref (0)), some (.int (a)), some (.int (b)), some (.ref (q)), none]) (st' := [.int (b), .int (a), .ref (0), .int (nI 0), .ref (q)]) ⟨dL_transition_0, dL_transition_1, dL_transition_2, dL_transition_3, dL_transition_4, rfl⟩ rfl ?_
  refine ev_cVA (p := (sTra S a b)) Y_X10_transition L_RL_23 dL_transition_5 ⟨Nat.le_of_ble_eq_true rfl, Nat.le_of_ble_eq_true rfl, Nat.le_of_ble_eq_true rfl, Nat.le_of_ble_eq_true rfl, Nat.le_of_ble_eq_true rfl⟩ hR.1 (as := [.int (a), .int (b)]) rfl rfl (c_X10_transition hl S hS hR a b) (fun M1 hB hp => ?_) (fun M1 i hB hp => ?_)
  · obtain ⟨hR1, hF⟩ := hB
    have hq1 := (hF.2 q (Or.inr hq)).trans hg
    refine ev_blk (B := [(.i2l, 1)]) (pe := 9) (ls' := [some (.ref (0)), some (.int (a)), some (.int (b)), some (.ref (q)), none]) (st' := [.long ((sTra S a b).2.toInt64), .int (nI 0), .ref (q)]) ⟨dL_transition_8, rfl⟩ rfl ?_
    refine ev_last dL_transition_9 hq1 (vp_in_nI (show 0 < 1 by omega) (by omega)) ?_
    rw [nI_clamp (show 0 < 2 ^ 31 by omega)]
    refine ev_goto (tgt := 21) dL_transition_10 (by decide) ?_
    refine ev_blk (B := [(.iconst 0, 1)]) (pe := 22) (ls' := [some (.ref (0)), some (.int (a)), some (.int (b)), some (.ref (q)), none]) (st' := [.int (nI 0)]) ⟨dL_transition_21, rfl⟩ rfl ?_
    refine ev_iret dL_transition_22 rfl rfl ⟨Nat.le_of_ble_eq_true rfl, Nat.le_of_ble_eq_true rfl⟩ ?_
    exact HQ.v hq hg hR1 hF hp rfl
  · obtain ⟨hR1, hF⟩ := hB
    match i, hp with
    | 0, hp =>
      refine ev_catch (E := eIB) (k := 4) (len := 2) (pre := []) (x := (0, 10, 13, 21)) (suf := [(0, 10, 17, 13)]) rfl (fun z hz => nomatch hz) rfl (by decide) CL_RL_21 (Or.inl ⟨dL_transition_13, rfl⟩) rfl (fun j v e1 e2 => ?_) ?_
      · obtain rfl : j = 3 := by omega
        cases e2; rfl
      · refine ev_blk (B := [(.iconst 1, 1)]) (pe := 16) (ls' := [some (.ref (0)), some (.int (a)), some (.int (b)), some (.ref (q)), none]) (st' := [.int (nI 1)]) ⟨dL_transition_15, rfl⟩ rfl ?_
        refine ev_iret dL_transition_16 rfl rfl ⟨Nat.le_of_ble_eq_true rfl, Nat.le_of_ble_eq_true rfl⟩ ?_
        rw [← show (sTra S a b).1 = 1 from hp]
        exact HQ.x hq hg hR1 hF (by rw [hp]; decide)
    | 1, hp =>
      refine ev_catch (E := eIA) (k := 4) (len := 2) (pre := [(0, 10, 13, 21)]) (x := (0, 10, 17, 13)) (suf := []) rfl (fun z hz => by
            rcases List.mem_cons.mp hz with rfl | hz
            · exact ⟨eIB, by decide, CL_RL_21, by decide⟩
            cases hz) rfl (by decide) CL_RL_13 (Or.inl ⟨dL_transition_17, rfl⟩) rfl (fun j v e1 e2 => ?_) ?_
      · obtain rfl : j = 3 := by omega
        cases e2; rfl
      · refine ev_blk (B := [(.iconst 2, 1)]) (pe := 20) (ls' := [some (.ref (0)), some (.int (a)), some (.int (b)), some (.ref (q)), none]) (st' := [.int (nI 2)]) ⟨dL_transition_19, rfl⟩ rfl ?_
        refine ev_iret dL_transition_20 rfl rfl ⟨Nat.le_of_ble_eq_true rfl, Nat.le_of_ble_eq_true rfl⟩ ?_
        rw [← show (sTra S a b).1 = 2 from hp]
        exact HQ.x hq hg hR1 hF (by rw [hp]; decide)
    | i + 2, hp => omega

set_option maxHeartbeats 4000000 in
set_option maxRecDepth 100000 in
theorem h_setState {l : Launch} (hl : l.stackTraces = false) {M : ev_M} (S : St) (hS : okS S) (hR : RCl M S) (a : Int32) (q : Nat) (hq : 104 ≤ q) (g : Nat → Int64) (hg : M[q]? = some (.inl (1, 1, .inr (.inl g)))) : ev_Mt l m_L_setState [.ref (0), .int (a), .ref (q)] M (HQ M q wL (sSet S a).1 (sSet S a).2) := by
  have hb : (sSet S a).1.1 ≤ 1 := by
    unfold sSet
    (repeat' split) <;> (first | exact Nat.zero_le _ | exact Nat.le_of_ble_eq_true rfl)
  refine ev_bodyH hl ⟨_, _, rfl⟩ (by decide +kernel) (Nat.le_of_ble_eq_true rfl) ?_
  show ev_ l m_L_setState 0 0 0 [some (.ref (0)), some (.int (a)), some (.ref (q)), none] [] M _
  refine ev_blk (B := [(.aload_n 2, 1), (.iconst 0, 1), (.aload_n 0, 1), (.iload_n 1, 1)]) (pe := 4) (ls' := [some (.ref (0)), some (.int (a)), some (.ref (q)), none]) (st' := [.int (a), .ref (0), .int (nI 0), .ref (q)]) ⟨dL_setState_0, dL_setState_1, dL_setState_2, dL_setState_3, rfl⟩ rfl ?_
  refine ev_cVA (p := (sSet S a).1) Y_X10_setState L_RL_27 dL_setState_4 ⟨Nat.le_of_ble_eq_true rfl, Nat.le_of_ble_eq_true rfl, Nat.le_of_ble_eq_true rfl, Nat.le_of_ble_eq_true rfl, Nat.le_of_ble_eq_true rfl⟩ hR.1 (as := [.int (a)]) rfl rfl (c_X10_setState hl S hS hR a) (fun M1 hB hp => ?_) (fun M1 i hB hp => ?_)
  · obtain ⟨hR1, hF⟩ := hB
    have hq1 := (hF.2 q (Or.inr hq)).trans hg
    refine ev_blk (B := [(.i2l, 1)]) (pe := 8) (ls' := [some (.ref (0)), some (.int (a)), some (.ref (q)), none]) (st' := [.long ((sSet S a).1.2.toInt64), .int (nI 0), .ref (q)]) ⟨dL_setState_7, rfl⟩ rfl ?_
    refine ev_last dL_setState_8 hq1 (vp_in_nI (show 0 < 1 by omega) (by omega)) ?_
    rw [nI_clamp (show 0 < 2 ^ 31 by omega)]
    refine ev_goto (tgt := 15) dL_setState_9 (by decide) ?_
    refine ev_blk (B := [(.iconst 0, 1)]) (pe := 16) (ls' := [some (.ref (0)), some (.int (a)), some (.ref (q)), none]) (st' := [.int (nI 0)]) ⟨dL_setState_15, rfl⟩ rfl ?_
    refine ev_iret dL_setState_16 rfl rfl ⟨Nat.le_of_ble_eq_true rfl, Nat.le_of_ble_eq_true rfl⟩ ?_
    exact HQ.v hq hg hR1 hF hp rfl
  · obtain ⟨hR1, hF⟩ := hB
    match i, hp with
    | 0, hp =>
      refine ev_catch (E := eIA) (k := 3) (len := 1) (pre := []) (x := (0, 9, 12, 13)) (suf := []) rfl (fun z hz => nomatch hz) rfl (by decide) CL_RL_13 (Or.inr ⟨3, rfl, dL_setState_12, rfl⟩) rfl (fun j v e1 e2 => ?_) ?_
      · obtain rfl : j = 2 := by omega
        cases e2; rfl
      · refine ev_blk (B := [(.iconst 1, 1)]) (pe := 14) (ls' := [some (.ref (0)), some (.int (a)), some (.ref (q)), none]) (st' := [.int (nI 1)]) ⟨dL_setState_13, rfl⟩ rfl ?_
        refine ev_iret dL_setState_14 rfl rfl ⟨Nat.le_of_ble_eq_true rfl, Nat.le_of_ble_eq_true rfl⟩ ?_
        rw [← show (sSet S a).1.1 = 1 from hp]
        exact HQ.x hq hg hR1 hF (by rw [hp]; decide)
    | i + 1, hp => omega

set_option maxHeartbeats 4000000 in
set_option maxRecDepth 100000 in
theorem h_put {l : Launch} (hl : l.stackTraces = false) {M : ev_M} (S : St) (hS : okS S) (hR : RCl M S) (a : Int32) (b : Int32) (q : Nat) (hq : 104 ≤ q) (g : Nat → Int64) (hg : M[q]? = some (.inl (1, 1, .inr (.inl g)))) : ev_Mt l m_L_put [.ref (0), .int (a), .int (b), .ref (q)] M (HQ M q wL (sPut S a b).1 (sPut S a b).2) := by
  have hb : (sPut S a b).1.1 ≤ 3 := by
    unfold sPut
    (repeat' split) <;> (first | exact Nat.zero_le _ | exact Nat.le_of_ble_eq_true rfl)
  refine ev_bodyH hl ⟨_, _, rfl⟩ (by decide +kernel) (Nat.le_of_ble_eq_true rfl) ?_
  show ev_ l m_L_put 0 0 0 [some (.ref (0)), some (.int (a)), some (.int (b)), some (.ref (q)), none] [] M _
  refine ev_blk (B := [(.aload_n 3, 1), (.iconst 0, 1), (.aload_n 0, 1), (.iload_n 1, 1), (.iload_n 2, 1)]) (pe := 5) (ls' := [some (.ref (0)), some (.int (a)), some (.int (b)), some (.ref (q)), none]) (st' := [.int (b), .int (a), .ref (0), .int (nI 0), .ref (q)]) ⟨dL_put_0, dL_put_1, dL_put_2, dL_put_3, dL_put_4, rfl⟩ rfl ?_
  refine ev_cVA (p := (sPut S a b).1) Y_X10_put L_RL_30 dL_put_5 ⟨Nat.le_of_ble_eq_true rfl, Nat.le_of_ble_eq_true rfl, Nat.le_of_ble_eq_true rfl, Nat.le_of_ble_eq_true rfl, Nat.le_of_ble_eq_true rfl⟩ hR.1 (as := [.int (a), .int (b)]) rfl rfl (c_X10_put hl S hS hR a b) (fun M1 hB hp => ?_) (fun M1 i hB hp => ?_)
  · obtain ⟨hR1, hF⟩ := hB
    have hq1 := (hF.2 q (Or.inr hq)).trans hg
    refine ev_blk (B := [(.i2l, 1)]) (pe := 9) (ls' := [some (.ref (0)), some (.int (a)), some (.int (b)), some (.ref (q)), none]) (st' := [.long ((sPut S a b).1.2.toInt64), .int (nI 0), .ref (q)]) ⟨dL_put_8, rfl⟩ rfl ?_
    refine ev_last dL_put_9 hq1 (vp_in_nI (show 0 < 1 by omega) (by omega)) ?_
    rw [nI_clamp (show 0 < 2 ^ 31 by omega)]
    refine ev_goto (tgt := 25) dL_put_10 (by decide) ?_
    refine ev_blk (B := [(.iconst 0, 1)]) (pe := 26) (ls' := [some (.ref (0)), some (.int (a)), some (.int (b)), some (.ref (q)), none]) (st' := [.int (nI 0)]) ⟨dL_put_25, rfl⟩ rfl ?_
    refine ev_iret dL_put_26 rfl rfl ⟨Nat.le_of_ble_eq_true rfl, Nat.le_of_ble_eq_true rfl⟩ ?_
    exact HQ.v hq hg hR1 hF hp rfl
  · obtain ⟨hR1, hF⟩ := hB
    match i, hp with
    | 0, hp =>
      refine ev_catch (E := eIB) (k := 4) (len := 2) (pre := []) (x := (0, 10, 13, 21)) (suf := [(0, 10, 17, 13), (0, 10, 21, 15)]) rfl (fun z hz => nomatch hz) rfl (by decide) CL_RL_21 (Or.inl ⟨dL_put_13, rfl⟩) rfl (fun j v e1 e2 => ?_) ?_
      · obtain rfl : j = 3 := by omega
        cases e2; rfl
      · refine ev_blk (B := [(.iconst 1, 1)]) (pe := 16) (ls' := [some (.ref (0)), some (.int (a)), some (.int (b)), some (.ref (q)), none]) (st' := [.int (nI 1)]) ⟨dL_put_15, rfl⟩ rfl ?_
        refine ev_iret dL_put_16 rfl rfl ⟨Nat.le_of_ble_eq_true rfl, Nat.le_of_ble_eq_true rfl⟩ ?_
        rw [← show (sPut S a b).1.1 = 1 from hp]
        exact HQ.x hq hg hR1 hF (by rw [hp]; decide)
    | 1, hp =>
      refine ev_catch (E := eIA) (k := 4) (len := 2) (pre := [(0, 10, 13, 21)]) (x := (0, 10, 17, 13)) (suf := [(0, 10, 21, 15)]) rfl (fun z hz => by
            rcases List.mem_cons.mp hz with rfl | hz
            · exact ⟨eIB, by decide, CL_RL_21, by decide⟩
            cases hz) rfl (by decide) CL_RL_13 (Or.inl ⟨dL_put_17, rfl⟩) rfl (fun j v e1 e2 => ?_) ?_
      · obtain rfl : j = 3 := by omega
        cases e2; rfl
      · refine ev_blk (B := [(.iconst 2, 1)]) (pe := 20) (ls' := [some (.ref (0)), some (.int (a)), some (.int (b)), some (.ref (q)), none]) (st' := [.int (nI 2)]) ⟨dL_put_19, rfl⟩ rfl ?_
        refine ev_iret dL_put_20 rfl rfl ⟨Nat.le_of_ble_eq_true rfl, Nat.le_of_ble_eq_true rfl⟩ ?_
        rw [← show (sPut S a b).1.1 = 2 from hp]
        exact HQ.x hq hg hR1 hF (by rw [hp]; decide)
    | 2, hp =>
      refine ev_catch (E := eIS) (k := 4) (len := 2) (pre := [(0, 10, 13, 21), (0, 10, 17, 13)]) (x := (0, 10, 21, 15)) (suf := []) rfl (fun z hz => by
            rcases List.mem_cons.mp hz with rfl | hz
            · exact ⟨eIB, by decide, CL_RL_21, by decide⟩
            rcases List.mem_cons.mp hz with rfl | hz
            · exact ⟨eIA, by decide, CL_RL_13, by decide⟩
            cases hz) rfl (by decide) CL_RL_15 (Or.inl ⟨dL_put_21, rfl⟩) rfl (fun j v e1 e2 => ?_) ?_
      · obtain rfl : j = 3 := by omega
        cases e2; rfl
      · refine ev_blk (B := [(.iconst 3, 1)]) (pe := 24) (ls' := [some (.ref (0)), some (.int (a)), some (.int (b)), some (.ref (q)), none]) (st' := [.int (nI 3)]) ⟨dL_put_23, rfl⟩ rfl ?_
        refine ev_iret dL_put_24 rfl rfl ⟨Nat.le_of_ble_eq_true rfl, Nat.le_of_ble_eq_true rfl⟩ ?_
        rw [← show (sPut S a b).1.1 = 3 from hp]
        exact HQ.x hq hg hR1 hF (by rw [hp]; decide)
    | i + 3, hp => omega

set_option maxHeartbeats 4000000 in
set_option maxRecDepth 100000 in
theorem h_clear {l : Launch} (hl : l.stackTraces = false) {M : ev_M} (S : St) (hS : okS S) (hR : RCl M S) (a : Int32) (q : Nat) (hq : 104 ≤ q) (g : Nat → Int64) (hg : M[q]? = some (.inl (1, 1, .inr (.inl g)))) : ev_Mt l m_L_clear [.ref (0), .int (a), .ref (q)] M (HQ M q wL (sClr S a).1 (sClr S a).2) := by
  have hb : (sClr S a).1.1 ≤ 1 := by
    unfold sClr
    (repeat' split) <;> (first | exact Nat.zero_le _ | exact Nat.le_of_ble_eq_true rfl)
  refine ev_bodyH hl ⟨_, _, rfl⟩ (by decide +kernel) (Nat.le_of_ble_eq_true rfl) ?_
  show ev_ l m_L_clear 0 0 0 [some (.ref (0)), some (.int (a)), some (.ref (q)), none] [] M _
  refine ev_blk (B := [(.aload_n 2, 1), (.iconst 0, 1), (.aload_n 0, 1), (.iload_n 1, 1)]) (pe := 4) (ls' := [some (.ref (0)), some (.int (a)), some (.ref (q)), none]) (st' := [.int (a), .ref (0), .int (nI 0), .ref (q)]) ⟨dL_clear_0, dL_clear_1, dL_clear_2, dL_clear_3, rfl⟩ rfl ?_
  refine ev_cVA (p := (sClr S a).1) Y_X10_clear L_RL_33 dL_clear_4 ⟨Nat.le_of_ble_eq_true rfl, Nat.le_of_ble_eq_true rfl, Nat.le_of_ble_eq_true rfl, Nat.le_of_ble_eq_true rfl, Nat.le_of_ble_eq_true rfl⟩ hR.1 (as := [.int (a)]) rfl rfl (c_X10_clear hl S hS hR a) (fun M1 hB hp => ?_) (fun M1 i hB hp => ?_)
  · obtain ⟨hR1, hF⟩ := hB
    have hq1 := (hF.2 q (Or.inr hq)).trans hg
    refine ev_blk (B := [(.i2l, 1)]) (pe := 8) (ls' := [some (.ref (0)), some (.int (a)), some (.ref (q)), none]) (st' := [.long ((sClr S a).1.2.toInt64), .int (nI 0), .ref (q)]) ⟨dL_clear_7, rfl⟩ rfl ?_
    refine ev_last dL_clear_8 hq1 (vp_in_nI (show 0 < 1 by omega) (by omega)) ?_
    rw [nI_clamp (show 0 < 2 ^ 31 by omega)]
    refine ev_goto (tgt := 15) dL_clear_9 (by decide) ?_
    refine ev_blk (B := [(.iconst 0, 1)]) (pe := 16) (ls' := [some (.ref (0)), some (.int (a)), some (.ref (q)), none]) (st' := [.int (nI 0)]) ⟨dL_clear_15, rfl⟩ rfl ?_
    refine ev_iret dL_clear_16 rfl rfl ⟨Nat.le_of_ble_eq_true rfl, Nat.le_of_ble_eq_true rfl⟩ ?_
    exact HQ.v hq hg hR1 hF hp rfl
  · obtain ⟨hR1, hF⟩ := hB
    match i, hp with
    | 0, hp =>
      refine ev_catch (E := eIB) (k := 3) (len := 1) (pre := []) (x := (0, 9, 12, 21)) (suf := []) rfl (fun z hz => nomatch hz) rfl (by decide) CL_RL_21 (Or.inr ⟨3, rfl, dL_clear_12, rfl⟩) rfl (fun j v e1 e2 => ?_) ?_
      · obtain rfl : j = 2 := by omega
        cases e2; rfl
      · refine ev_blk (B := [(.iconst 1, 1)]) (pe := 14) (ls' := [some (.ref (0)), some (.int (a)), some (.ref (q)), none]) (st' := [.int (nI 1)]) ⟨dL_clear_13, rfl⟩ rfl ?_
        refine ev_iret dL_clear_14 rfl rfl ⟨Nat.le_of_ble_eq_true rfl, Nat.le_of_ble_eq_true rfl⟩ ?_
        rw [← show (sClr S a).1.1 = 1 from hp]
        exact HQ.x hq hg hR1 hF (by rw [hp]; decide)
    | i + 1, hp => omega

set_option maxHeartbeats 4000000 in
set_option maxRecDepth 100000 in
theorem h_length {l : Launch} (hl : l.stackTraces = false) {M : ev_M} (S : St) (hS : okS S) (hR : RCl M S) (a : Int32) (q : Nat) (hq : 104 ≤ q) (g : Nat → Int64) (hg : M[q]? = some (.inl (1, 1, .inr (.inl g)))) : ev_Mt l m_L_length [.ref (0), .int (a), .ref (q)] M (HQ M q wL (sLen S a) S) := by
  have hb : (sLen S a).1 ≤ 1 := by
    unfold sLen
    (repeat' split) <;> (first | exact Nat.zero_le _ | exact Nat.le_of_ble_eq_true rfl)
  refine ev_bodyH hl ⟨_, _, rfl⟩ (by decide +kernel) (Nat.le_of_ble_eq_true rfl) ?_
  show ev_ l m_L_length 0 0 0 [some (.ref (0)), some (.int (a)), some (.ref (q)), none] [] M _
  refine ev_blk (B := [(.aload_n 2, 1), (.iconst 0, 1), (.aload_n 0, 1), (.iload_n 1, 1)]) (pe := 4) (ls' := [some (.ref (0)), some (.int (a)), some (.ref (q)), none]) (st' := [.int (a), .ref (0), .int (nI 0), .ref (q)]) ⟨dL_length_0, dL_length_1, dL_length_2, dL_length_3, rfl⟩ rfl ?_
  refine ev_cVA (p := (sLen S a)) Y_X10_length L_RL_36 dL_length_4 ⟨Nat.le_of_ble_eq_true rfl, Nat.le_of_ble_eq_true rfl, Nat.le_of_ble_eq_true rfl, Nat.le_of_ble_eq_true rfl, Nat.le_of_ble_eq_true rfl⟩ hR.1 (as := [.int (a)]) rfl rfl (c_X10_length hl S hS hR a) (fun M1 hB hp => ?_) (fun M1 i hB hp => ?_)
  · obtain ⟨hR1, hF⟩ := hB
    have hq1 := (hF.2 q (Or.inr hq)).trans hg
    refine ev_blk (B := [(.i2l, 1)]) (pe := 8) (ls' := [some (.ref (0)), some (.int (a)), some (.ref (q)), none]) (st' := [.long ((sLen S a).2.toInt64), .int (nI 0), .ref (q)]) ⟨dL_length_7, rfl⟩ rfl ?_
    refine ev_last dL_length_8 hq1 (vp_in_nI (show 0 < 1 by omega) (by omega)) ?_
    rw [nI_clamp (show 0 < 2 ^ 31 by omega)]
    refine ev_goto (tgt := 15) dL_length_9 (by decide) ?_
    refine ev_blk (B := [(.iconst 0, 1)]) (pe := 16) (ls' := [some (.ref (0)), some (.int (a)), some (.ref (q)), none]) (st' := [.int (nI 0)]) ⟨dL_length_15, rfl⟩ rfl ?_
    refine ev_iret dL_length_16 rfl rfl ⟨Nat.le_of_ble_eq_true rfl, Nat.le_of_ble_eq_true rfl⟩ ?_
    exact HQ.v hq hg hR1 hF hp rfl
  · obtain ⟨hR1, hF⟩ := hB
    match i, hp with
    | 0, hp =>
      refine ev_catch (E := eIB) (k := 3) (len := 1) (pre := []) (x := (0, 9, 12, 21)) (suf := []) rfl (fun z hz => nomatch hz) rfl (by decide) CL_RL_21 (Or.inr ⟨3, rfl, dL_length_12, rfl⟩) rfl (fun j v e1 e2 => ?_) ?_
      · obtain rfl : j = 2 := by omega
        cases e2; rfl
      · refine ev_blk (B := [(.iconst 1, 1)]) (pe := 14) (ls' := [some (.ref (0)), some (.int (a)), some (.ref (q)), none]) (st' := [.int (nI 1)]) ⟨dL_length_13, rfl⟩ rfl ?_
        refine ev_iret dL_length_14 rfl rfl ⟨Nat.le_of_ble_eq_true rfl, Nat.le_of_ble_eq_true rfl⟩ ?_
        rw [← show (sLen S a).1 = 1 from hp]
        exact HQ.x hq hg hR1 hF (by rw [hp]; decide)
    | i + 1, hp => omega

set_option maxHeartbeats 4000000 in
set_option maxRecDepth 100000 in
theorem h_letter {l : Launch} (hl : l.stackTraces = false) {M : ev_M} (S : St) (hS : okS S) (hR : RCl M S) (a : Int32) (b : Int32) (q : Nat) (hq : 104 ≤ q) (g : Nat → Int64) (hg : M[q]? = some (.inl (1, 1, .inr (.inl g)))) : ev_Mt l m_L_letter [.ref (0), .int (a), .int (b), .ref (q)] M (HQ M q wL (sLet S a b) S) := by
  have hb : (sLet S a b).1 ≤ 2 := by
    unfold sLet
    (repeat' split) <;> (first | exact Nat.zero_le _ | exact Nat.le_of_ble_eq_true rfl)
  refine ev_bodyH hl ⟨_, _, rfl⟩ (by decide +kernel) (Nat.le_of_ble_eq_true rfl) ?_
  show ev_ l m_L_letter 0 0 0 [some (.ref (0)), some (.int (a)), some (.int (b)), some (.ref (q)), none] [] M _
  refine ev_blk (B := [(.aload_n 3, 1), (.iconst 0, 1), (.aload_n 0, 1), (.iload_n 1, 1), (.iload_n 2, 1)]) (pe := 5) (ls' := [some (.ref (0)), some (.int (a)), some (.int (b)), some (.ref (q)), none]) (st' := [.int (b), .int (a), .ref (0), .int (nI 0), .ref (q)]) ⟨dL_letter_0, dL_letter_1, dL_letter_2, dL_letter_3, dL_letter_4, rfl⟩ rfl ?_
  refine ev_cVA (p := (sLet S a b)) Y_X10_letter L_RL_39 dL_letter_5 ⟨Nat.le_of_ble_eq_true rfl, Nat.le_of_ble_eq_true rfl, Nat.le_of_ble_eq_true rfl, Nat.le_of_ble_eq_true rfl, Nat.le_of_ble_eq_true rfl⟩ hR.1 (as := [.int (a), .int (b)]) rfl rfl (c_X10_letter hl S hS hR a b) (fun M1 hB hp => ?_) (fun M1 i hB hp => ?_)
  · obtain ⟨hR1, hF⟩ := hB
    have hq1 := (hF.2 q (Or.inr hq)).trans hg
    refine ev_blk (B := [(.i2l, 1)]) (pe := 9) (ls' := [some (.ref (0)), some (.int (a)), some (.int (b)), some (.ref (q)), none]) (st' := [.long ((sLet S a b).2.toInt64), .int (nI 0), .ref (q)]) ⟨dL_letter_8, rfl⟩ rfl ?_
    refine ev_last dL_letter_9 hq1 (vp_in_nI (show 0 < 1 by omega) (by omega)) ?_
    rw [nI_clamp (show 0 < 2 ^ 31 by omega)]
    refine ev_goto (tgt := 21) dL_letter_10 (by decide) ?_
    refine ev_blk (B := [(.iconst 0, 1)]) (pe := 22) (ls' := [some (.ref (0)), some (.int (a)), some (.int (b)), some (.ref (q)), none]) (st' := [.int (nI 0)]) ⟨dL_letter_21, rfl⟩ rfl ?_
    refine ev_iret dL_letter_22 rfl rfl ⟨Nat.le_of_ble_eq_true rfl, Nat.le_of_ble_eq_true rfl⟩ ?_
    exact HQ.v hq hg hR1 hF hp rfl
  · obtain ⟨hR1, hF⟩ := hB
    match i, hp with
    | 0, hp =>
      refine ev_catch (E := eIB) (k := 4) (len := 2) (pre := []) (x := (0, 10, 13, 21)) (suf := [(0, 10, 17, 42)]) rfl (fun z hz => nomatch hz) rfl (by decide) CL_RL_21 (Or.inl ⟨dL_letter_13, rfl⟩) rfl (fun j v e1 e2 => ?_) ?_
      · obtain rfl : j = 3 := by omega
        cases e2; rfl
      · refine ev_blk (B := [(.iconst 1, 1)]) (pe := 16) (ls' := [some (.ref (0)), some (.int (a)), some (.int (b)), some (.ref (q)), none]) (st' := [.int (nI 1)]) ⟨dL_letter_15, rfl⟩ rfl ?_
        refine ev_iret dL_letter_16 rfl rfl ⟨Nat.le_of_ble_eq_true rfl, Nat.le_of_ble_eq_true rfl⟩ ?_
        rw [← show (sLet S a b).1 = 1 from hp]
        exact HQ.x hq hg hR1 hF (by rw [hp]; decide)
    | 1, hp =>
      refine ev_catch (E := eNS) (k := 4) (len := 2) (pre := [(0, 10, 13, 21)]) (x := (0, 10, 17, 42)) (suf := []) rfl (fun z hz => by
            rcases List.mem_cons.mp hz with rfl | hz
            · exact ⟨eIB, by decide, CL_RL_21, by decide⟩
            cases hz) rfl (by decide) CL_RL_42 (Or.inl ⟨dL_letter_17, rfl⟩) rfl (fun j v e1 e2 => ?_) ?_
      · obtain rfl : j = 3 := by omega
        cases e2; rfl
      · refine ev_blk (B := [(.iconst 2, 1)]) (pe := 20) (ls' := [some (.ref (0)), some (.int (a)), some (.int (b)), some (.ref (q)), none]) (st' := [.int (nI 2)]) ⟨dL_letter_19, rfl⟩ rfl ?_
        refine ev_iret dL_letter_20 rfl rfl ⟨Nat.le_of_ble_eq_true rfl, Nat.le_of_ble_eq_true rfl⟩ ?_
        rw [← show (sLet S a b).1 = 2 from hp]
        exact HQ.x hq hg hR1 hF (by rw [hp]; decide)
    | i + 2, hp => omega

set_option maxHeartbeats 4000000 in
set_option maxRecDepth 100000 in
theorem h_fire {l : Launch} (hl : l.stackTraces = false) {M : ev_M} (S : St) (hS : okS S) (hR : RCl M S) (a : Int32) (q : Nat) (hq : 104 ≤ q) (g : Nat → Int64) (hg : M[q]? = some (.inl (1, 1, .inr (.inl g)))) : ev_Mt l m_L_fire [.ref (0), .int (a), .ref (q)] M (HQ M q wL (sFir S a).1 (sFir S a).2) := by
  have hb : (sFir S a).1.1 ≤ 2 := by
    unfold sFir
    (repeat' split) <;> (first | exact Nat.zero_le _ | exact Nat.le_of_ble_eq_true rfl)
  refine ev_bodyH hl ⟨_, _, rfl⟩ (by decide +kernel) (Nat.le_of_ble_eq_true rfl) ?_
  show ev_ l m_L_fire 0 0 0 [some (.ref (0)), some (.int (a)), some (.ref (q)), none] [] M _
  refine ev_blk (B := [(.aload_n 2, 1), (.iconst 0, 1), (.aload_n 0, 1), (.iload_n 1, 1)]) (pe := 4) (ls' := [some (.ref (0)), some (.int (a)), some (.ref (q)), none]) (st' := [.int (a), .ref (0), .int (nI 0), .ref (q)]) ⟨dL_fire_0, dL_fire_1, dL_fire_2, dL_fire_3, rfl⟩ rfl ?_
  refine ev_cVA (p := (sFir S a).1) Y_X10_fire L_RL_44 dL_fire_4 ⟨Nat.le_of_ble_eq_true rfl, Nat.le_of_ble_eq_true rfl, Nat.le_of_ble_eq_true rfl, Nat.le_of_ble_eq_true rfl, Nat.le_of_ble_eq_true rfl⟩ hR.1 (as := [.int (a)]) rfl rfl (c_X10_fire hl S hS hR a) (fun M1 hB hp => ?_) (fun M1 i hB hp => ?_)
  · obtain ⟨hR1, hF⟩ := hB
    have hq1 := (hF.2 q (Or.inr hq)).trans hg
    refine ev_blk (B := [(.i2l, 1)]) (pe := 8) (ls' := [some (.ref (0)), some (.int (a)), some (.ref (q)), none]) (st' := [.long ((sFir S a).1.2.toInt64), .int (nI 0), .ref (q)]) ⟨dL_fire_7, rfl⟩ rfl ?_
    refine ev_last dL_fire_8 hq1 (vp_in_nI (show 0 < 1 by omega) (by omega)) ?_
    rw [nI_clamp (show 0 < 2 ^ 31 by omega)]
    refine ev_goto (tgt := 18) dL_fire_9 (by decide) ?_
    refine ev_blk (B := [(.iconst 0, 1)]) (pe := 19) (ls' := [some (.ref (0)), some (.int (a)), some (.ref (q)), none]) (st' := [.int (nI 0)]) ⟨dL_fire_18, rfl⟩ rfl ?_
    refine ev_iret dL_fire_19 rfl rfl ⟨Nat.le_of_ble_eq_true rfl, Nat.le_of_ble_eq_true rfl⟩ ?_
    exact HQ.v hq hg hR1 hF hp rfl
  · obtain ⟨hR1, hF⟩ := hB
    match i, hp with
    | 0, hp =>
      refine ev_catch (E := eIB) (k := 3) (len := 1) (pre := []) (x := (0, 9, 12, 21)) (suf := [(0, 9, 15, 15)]) rfl (fun z hz => nomatch hz) rfl (by decide) CL_RL_21 (Or.inr ⟨3, rfl, dL_fire_12, rfl⟩) rfl (fun j v e1 e2 => ?_) ?_
      · obtain rfl : j = 2 := by omega
        cases e2; rfl
      · refine ev_blk (B := [(.iconst 1, 1)]) (pe := 14) (ls' := [some (.ref (0)), some (.int (a)), some (.ref (q)), none]) (st' := [.int (nI 1)]) ⟨dL_fire_13, rfl⟩ rfl ?_
        refine ev_iret dL_fire_14 rfl rfl ⟨Nat.le_of_ble_eq_true rfl, Nat.le_of_ble_eq_true rfl⟩ ?_
        rw [← show (sFir S a).1.1 = 1 from hp]
        exact HQ.x hq hg hR1 hF (by rw [hp]; decide)
    | 1, hp =>
      refine ev_catch (E := eIS) (k := 3) (len := 1) (pre := [(0, 9, 12, 21)]) (x := (0, 9, 15, 15)) (suf := []) rfl (fun z hz => by
            rcases List.mem_cons.mp hz with rfl | hz
            · exact ⟨eIB, by decide, CL_RL_21, by decide⟩
            cases hz) rfl (by decide) CL_RL_15 (Or.inr ⟨3, rfl, dL_fire_15, rfl⟩) rfl (fun j v e1 e2 => ?_) ?_
      · obtain rfl : j = 2 := by omega
        cases e2; rfl
      · refine ev_blk (B := [(.iconst 2, 1)]) (pe := 17) (ls' := [some (.ref (0)), some (.int (a)), some (.ref (q)), none]) (st' := [.int (nI 2)]) ⟨dL_fire_16, rfl⟩ rfl ?_
        refine ev_iret dL_fire_17 rfl rfl ⟨Nat.le_of_ble_eq_true rfl, Nat.le_of_ble_eq_true rfl⟩ ?_
        rw [← show (sFir S a).1.1 = 2 from hp]
        exact HQ.x hq hg hR1 hF (by rw [hp]; decide)
    | i + 2, hp => omega

set_option maxHeartbeats 4000000 in
set_option maxRecDepth 100000 in
theorem h_lose {l : Launch} (hl : l.stackTraces = false) {M : ev_M} (S : St) (hS : okS S) (hR : RCl M S) (a : Int32) (b : Int32) (q : Nat) (hq : 104 ≤ q) (g : Nat → Int64) (hg : M[q]? = some (.inl (1, 1, .inr (.inl g)))) : ev_Mt l m_L_lose [.ref (0), .int (a), .int (b), .ref (q)] M (HQ M q wL (sLos S a b).1 (sLos S a b).2) := by
  have hb : (sLos S a b).1.1 ≤ 2 := by
    unfold sLos
    (repeat' split) <;> (first | exact Nat.zero_le _ | exact Nat.le_of_ble_eq_true rfl)
  refine ev_bodyH hl ⟨_, _, rfl⟩ (by decide +kernel) (Nat.le_of_ble_eq_true rfl) ?_
  show ev_ l m_L_lose 0 0 0 [some (.ref (0)), some (.int (a)), some (.int (b)), some (.ref (q)), none] [] M _
  refine ev_blk (B := [(.aload_n 3, 1), (.iconst 0, 1), (.aload_n 0, 1), (.iload_n 1, 1), (.iload_n 2, 1)]) (pe := 5) (ls' := [some (.ref (0)), some (.int (a)), some (.int (b)), some (.ref (q)), none]) (st' := [.int (b), .int (a), .ref (0), .int (nI 0), .ref (q)]) ⟨dL_lose_0, dL_lose_1, dL_lose_2, dL_lose_3, dL_lose_4, rfl⟩ rfl ?_
  refine ev_cVA (p := (sLos S a b).1) Y_X10_lose L_RL_47 dL_lose_5 ⟨Nat.le_of_ble_eq_true rfl, Nat.le_of_ble_eq_true rfl, Nat.le_of_ble_eq_true rfl, Nat.le_of_ble_eq_true rfl, Nat.le_of_ble_eq_true rfl⟩ hR.1 (as := [.int (a), .int (b)]) rfl rfl (c_X10_lose hl S hS hR a b) (fun M1 hB hp => ?_) (fun M1 i hB hp => ?_)
  · obtain ⟨hR1, hF⟩ := hB
    have hq1 := (hF.2 q (Or.inr hq)).trans hg
    refine ev_blk (B := [(.i2l, 1)]) (pe := 9) (ls' := [some (.ref (0)), some (.int (a)), some (.int (b)), some (.ref (q)), none]) (st' := [.long ((sLos S a b).1.2.toInt64), .int (nI 0), .ref (q)]) ⟨dL_lose_8, rfl⟩ rfl ?_
    refine ev_last dL_lose_9 hq1 (vp_in_nI (show 0 < 1 by omega) (by omega)) ?_
    rw [nI_clamp (show 0 < 2 ^ 31 by omega)]
    refine ev_goto (tgt := 21) dL_lose_10 (by decide) ?_
    refine ev_blk (B := [(.iconst 0, 1)]) (pe := 22) (ls' := [some (.ref (0)), some (.int (a)), some (.int (b)), some (.ref (q)), none]) (st' := [.int (nI 0)]) ⟨dL_lose_21, rfl⟩ rfl ?_
    refine ev_iret dL_lose_22 rfl rfl ⟨Nat.le_of_ble_eq_true rfl, Nat.le_of_ble_eq_true rfl⟩ ?_
    exact HQ.v hq hg hR1 hF hp rfl
  · obtain ⟨hR1, hF⟩ := hB
    match i, hp with
    | 0, hp =>
      refine ev_catch (E := eIB) (k := 4) (len := 2) (pre := []) (x := (0, 10, 13, 21)) (suf := [(0, 10, 17, 42)]) rfl (fun z hz => nomatch hz) rfl (by decide) CL_RL_21 (Or.inl ⟨dL_lose_13, rfl⟩) rfl (fun j v e1 e2 => ?_) ?_
      · obtain rfl : j = 3 := by omega
        cases e2; rfl
      · refine ev_blk (B := [(.iconst 1, 1)]) (pe := 16) (ls' := [some (.ref (0)), some (.int (a)), some (.int (b)), some (.ref (q)), none]) (st' := [.int (nI 1)]) ⟨dL_lose_15, rfl⟩ rfl ?_
        refine ev_iret dL_lose_16 rfl rfl ⟨Nat.le_of_ble_eq_true rfl, Nat.le_of_ble_eq_true rfl⟩ ?_
        rw [← show (sLos S a b).1.1 = 1 from hp]
        exact HQ.x hq hg hR1 hF (by rw [hp]; decide)
    | 1, hp =>
      refine ev_catch (E := eNS) (k := 4) (len := 2) (pre := [(0, 10, 13, 21)]) (x := (0, 10, 17, 42)) (suf := []) rfl (fun z hz => by
            rcases List.mem_cons.mp hz with rfl | hz
            · exact ⟨eIB, by decide, CL_RL_21, by decide⟩
            cases hz) rfl (by decide) CL_RL_42 (Or.inl ⟨dL_lose_17, rfl⟩) rfl (fun j v e1 e2 => ?_) ?_
      · obtain rfl : j = 3 := by omega
        cases e2; rfl
      · refine ev_blk (B := [(.iconst 2, 1)]) (pe := 20) (ls' := [some (.ref (0)), some (.int (a)), some (.int (b)), some (.ref (q)), none]) (st' := [.int (nI 2)]) ⟨dL_lose_19, rfl⟩ rfl ?_
        refine ev_iret dL_lose_20 rfl rfl ⟨Nat.le_of_ble_eq_true rfl, Nat.le_of_ble_eq_true rfl⟩ ?_
        rw [← show (sLos S a b).1.1 = 2 from hp]
        exact HQ.x hq hg hR1 hF (by rw [hp]; decide)
    | i + 2, hp => omega

set_option maxHeartbeats 4000000 in
set_option maxRecDepth 100000 in
theorem h_undo {l : Launch} (hl : l.stackTraces = false) {M : ev_M} (S : St) (hS : okS S) (hR : RCl M S) (q : Nat) (hq : 104 ≤ q) (g : Nat → Int64) (hg : M[q]? = some (.inl (1, 1, .inr (.inl g)))) : ev_Mt l m_L_undo [.ref (0), .ref (q)] M (HQ M q wL (sUnd S).1 (sUnd S).2) := by
  have hb : (sUnd S).1.1 ≤ 1 := by
    unfold sUnd
    (repeat' split) <;> (first | exact Nat.zero_le _ | exact Nat.le_of_ble_eq_true rfl)
  refine ev_bodyH hl ⟨_, _, rfl⟩ (by decide +kernel) (Nat.le_of_ble_eq_true rfl) ?_
  show ev_ l m_L_undo 0 0 0 [some (.ref (0)), some (.ref (q)), none] [] M _
  refine ev_blk (B := [(.aload_n 1, 1), (.iconst 0, 1), (.aload_n 0, 1)]) (pe := 3) (ls' := [some (.ref (0)), some (.ref (q)), none]) (st' := [.ref (0), .int (nI 0), .ref (q)]) ⟨dL_undo_0, dL_undo_1, dL_undo_2, rfl⟩ rfl ?_
  refine ev_cVA (p := (sUnd S).1) Y_X10_undo L_RL_50 dL_undo_3 ⟨Nat.le_of_ble_eq_true rfl, Nat.le_of_ble_eq_true rfl, Nat.le_of_ble_eq_true rfl, Nat.le_of_ble_eq_true rfl, Nat.le_of_ble_eq_true rfl⟩ hR.1 (as := []) rfl rfl (c_X10_undo hl S hS hR) (fun M1 hB hp => ?_) (fun M1 i hB hp => ?_)
  · obtain ⟨hR1, hF⟩ := hB
    have hq1 := (hF.2 q (Or.inr hq)).trans hg
    refine ev_blk (B := [(.i2l, 1)]) (pe := 7) (ls' := [some (.ref (0)), some (.ref (q)), none]) (st' := [.long ((sUnd S).1.2.toInt64), .int (nI 0), .ref (q)]) ⟨dL_undo_6, rfl⟩ rfl ?_
    refine ev_last dL_undo_7 hq1 (vp_in_nI (show 0 < 1 by omega) (by omega)) ?_
    rw [nI_clamp (show 0 < 2 ^ 31 by omega)]
    refine ev_goto (tgt := 14) dL_undo_8 (by decide) ?_
    refine ev_blk (B := [(.iconst 0, 1)]) (pe := 15) (ls' := [some (.ref (0)), some (.ref (q)), none]) (st' := [.int (nI 0)]) ⟨dL_undo_14, rfl⟩ rfl ?_
    refine ev_iret dL_undo_15 rfl rfl ⟨Nat.le_of_ble_eq_true rfl, Nat.le_of_ble_eq_true rfl⟩ ?_
    exact HQ.v hq hg hR1 hF hp rfl
  · obtain ⟨hR1, hF⟩ := hB
    match i, hp with
    | 0, hp =>
      refine ev_catch (E := eIS) (k := 2) (len := 1) (pre := []) (x := (0, 8, 11, 15)) (suf := []) rfl (fun z hz => nomatch hz) rfl (by decide) CL_RL_15 (Or.inr ⟨2, rfl, dL_undo_11, rfl⟩) rfl (fun j v e1 e2 => ?_) ?_
      · obtain rfl : j = 1 := by omega
        cases e2; rfl
      · refine ev_blk (B := [(.iconst 1, 1)]) (pe := 13) (ls' := [some (.ref (0)), some (.ref (q)), none]) (st' := [.int (nI 1)]) ⟨dL_undo_12, rfl⟩ rfl ?_
        refine ev_iret dL_undo_13 rfl rfl ⟨Nat.le_of_ble_eq_true rfl, Nat.le_of_ble_eq_true rfl⟩ ?_
        rw [← show (sUnd S).1.1 = 1 from hp]
        exact HQ.x hq hg hR1 hF (by rw [hp]; decide)
    | i + 1, hp => omega

set_option maxHeartbeats 4000000 in
set_option maxRecDepth 100000 in
theorem h_isBelow {l : Launch} (hl : l.stackTraces = false) {M : ev_M} (S : St) (hS : okS S) (hR : RCl M S) (a : Int32) (q : Nat) (hq : 104 ≤ q) (g : Nat → Int64) (hg : M[q]? = some (.inl (1, 1, .inr (.inl g)))) : ev_Mt l m_L_isBelow [.ref (0), .int (a), .ref (q)] M (HQ M q wZ (sBel S a) S) := by
  have hb : (sBel S a).1 ≤ 1 := by
    unfold sBel
    (repeat' split) <;> (first | exact Nat.zero_le _ | exact Nat.le_of_ble_eq_true rfl)
  refine ev_bodyH hl ⟨_, _, rfl⟩ (by decide +kernel) (Nat.le_of_ble_eq_true rfl) ?_
  show ev_ l m_L_isBelow 0 0 0 [some (.ref (0)), some (.int (a)), some (.ref (q)), none] [] M _
  refine ev_blk (B := [(.aload_n 2, 1), (.iconst 0, 1), (.aload_n 0, 1), (.iload_n 1, 1)]) (pe := 4) (ls' := [some (.ref (0)), some (.int (a)), some (.ref (q)), none]) (st' := [.int (a), .ref (0), .int (nI 0), .ref (q)]) ⟨dL_isBelow_0, dL_isBelow_1, dL_isBelow_2, dL_isBelow_3, rfl⟩ rfl ?_
  refine ev_cVA (p := (sBel S a)) Y_X10_isBelow L_RL_54 dL_isBelow_4 ⟨Nat.le_of_ble_eq_true rfl, Nat.le_of_ble_eq_true rfl, Nat.le_of_ble_eq_true rfl, Nat.le_of_ble_eq_true rfl, Nat.le_of_ble_eq_true rfl⟩ hR.1 (as := [.int (a)]) rfl rfl (c_X10_isBelow hl S hS hR a) (fun M1 hB hp => ?_) (fun M1 i hB hp => ?_)
  · obtain ⟨hR1, hF⟩ := hB
    have hq1 := (hF.2 q (Or.inr hq)).trans hg
    refine ev_if_eq dL_isBelow_7 (tgt := 14) (by decide) (fun z => ?_) (fun z => ?_)
    · refine ev_blk (B := [(.lconst 0, 1)]) (pe := 15) (ls' := [some (.ref (0)), some (.int (a)), some (.ref (q)), none]) (st' := [.long 0, .int (nI 0), .ref (q)]) ⟨dL_isBelow_14, rfl⟩ rfl ?_
      refine ev_last dL_isBelow_15 hq1 (vp_in_nI (show 0 < 1 by omega) (by omega)) ?_
      rw [nI_clamp (show 0 < 2 ^ 31 by omega)]
      refine ev_goto (tgt := 22) dL_isBelow_16 (by decide) ?_
      refine ev_blk (B := [(.iconst 0, 1)]) (pe := 23) (ls' := [some (.ref (0)), some (.int (a)), some (.ref (q)), none]) (st' := [.int (nI 0)]) ⟨dL_isBelow_22, rfl⟩ rfl ?_
      refine ev_iret dL_isBelow_23 rfl rfl ⟨Nat.le_of_ble_eq_true rfl, Nat.le_of_ble_eq_true rfl⟩ ?_
      exact HQ.v hq hg hR1 hF hp (by unfold wZ; rw [if_pos z])
    · refine ev_blk (B := [(.lconst 1, 1)]) (pe := 11) (ls' := [some (.ref (0)), some (.int (a)), some (.ref (q)), none]) (st' := [.long 1, .int (nI 0), .ref (q)]) ⟨dL_isBelow_10, rfl⟩ rfl ?_
      refine ev_goto (tgt := 15) dL_isBelow_11 (by decide) ?_
      refine ev_last dL_isBelow_15 hq1 (vp_in_nI (show 0 < 1 by omega) (by omega)) ?_
      rw [nI_clamp (show 0 < 2 ^ 31 by omega)]
      refine ev_goto (tgt := 22) dL_isBelow_16 (by decide) ?_
      refine ev_blk (B := [(.iconst 0, 1)]) (pe := 23) (ls' := [some (.ref (0)), some (.int (a)), some (.ref (q)), none]) (st' := [.int (nI 0)]) ⟨dL_isBelow_22, rfl⟩ rfl ?_
      refine ev_iret dL_isBelow_23 rfl rfl ⟨Nat.le_of_ble_eq_true rfl, Nat.le_of_ble_eq_true rfl⟩ ?_
      exact HQ.v hq hg hR1 hF hp (by unfold wZ; rw [if_neg z])
  · obtain ⟨hR1, hF⟩ := hB
    match i, hp with
    | 0, hp =>
      refine ev_catch (E := eIB) (k := 3) (len := 1) (pre := []) (x := (0, 16, 19, 21)) (suf := []) rfl (fun z hz => nomatch hz) rfl (by decide) CL_RL_21 (Or.inr ⟨3, rfl, dL_isBelow_19, rfl⟩) rfl (fun j v e1 e2 => ?_) ?_
      · obtain rfl : j = 2 := by omega
        cases e2; rfl
      · refine ev_blk (B := [(.iconst 1, 1)]) (pe := 21) (ls' := [some (.ref (0)), some (.int (a)), some (.ref (q)), none]) (st' := [.int (nI 1)]) ⟨dL_isBelow_20, rfl⟩ rfl ?_
        refine ev_iret dL_isBelow_21 rfl rfl ⟨Nat.le_of_ble_eq_true rfl, Nat.le_of_ble_eq_true rfl⟩ ?_
        rw [← show (sBel S a).1 = 1 from hp]
        exact HQ.x hq hg hR1 hF (by rw [hp]; decide)
    | i + 1, hp => omega

set_option maxHeartbeats 4000000 in
set_option maxRecDepth 100000 in
theorem h_embeddings {l : Launch} (hl : l.stackTraces = false) {M : ev_M} (S : St) (hS : okS S) (hR : RCl M S) (a : Int32) (q : Nat) (hq : 104 ≤ q) (g : Nat → Int64) (hg : M[q]? = some (.inl (1, 1, .inr (.inl g)))) : ev_Mt l m_L_embeddings [.ref (0), .int (a), .ref (q)] M (HQ M q wL (sEmb S a) S) := by
  have hb : (sEmb S a).1 ≤ 1 := by
    unfold sEmb
    (repeat' split) <;> (first | exact Nat.zero_le _ | exact Nat.le_of_ble_eq_true rfl)
  refine ev_bodyH hl ⟨_, _, rfl⟩ (by decide +kernel) (Nat.le_of_ble_eq_true rfl) ?_
  show ev_ l m_L_embeddings 0 0 0 [some (.ref (0)), some (.int (a)), some (.ref (q)), none] [] M _
  refine ev_blk (B := [(.aload_n 2, 1), (.iconst 0, 1), (.aload_n 0, 1), (.iload_n 1, 1)]) (pe := 4) (ls' := [some (.ref (0)), some (.int (a)), some (.ref (q)), none]) (st' := [.int (a), .ref (0), .int (nI 0), .ref (q)]) ⟨dL_embeddings_0, dL_embeddings_1, dL_embeddings_2, dL_embeddings_3, rfl⟩ rfl ?_
  refine ev_cVA (p := (sEmb S a)) Y_X10_embeddings L_RL_58 dL_embeddings_4 ⟨Nat.le_of_ble_eq_true rfl, Nat.le_of_ble_eq_true rfl, Nat.le_of_ble_eq_true rfl, Nat.le_of_ble_eq_true rfl, Nat.le_of_ble_eq_true rfl⟩ hR.1 (as := [.int (a)]) rfl rfl (c_X10_embeddings hl S hS hR a) (fun M1 hB hp => ?_) (fun M1 i hB hp => ?_)
  · obtain ⟨hR1, hF⟩ := hB
    have hq1 := (hF.2 q (Or.inr hq)).trans hg
    refine ev_blk (B := [(.i2l, 1)]) (pe := 8) (ls' := [some (.ref (0)), some (.int (a)), some (.ref (q)), none]) (st' := [.long ((sEmb S a).2.toInt64), .int (nI 0), .ref (q)]) ⟨dL_embeddings_7, rfl⟩ rfl ?_
    refine ev_last dL_embeddings_8 hq1 (vp_in_nI (show 0 < 1 by omega) (by omega)) ?_
    rw [nI_clamp (show 0 < 2 ^ 31 by omega)]
    refine ev_goto (tgt := 15) dL_embeddings_9 (by decide) ?_
    refine ev_blk (B := [(.iconst 0, 1)]) (pe := 16) (ls' := [some (.ref (0)), some (.int (a)), some (.ref (q)), none]) (st' := [.int (nI 0)]) ⟨dL_embeddings_15, rfl⟩ rfl ?_
    refine ev_iret dL_embeddings_16 rfl rfl ⟨Nat.le_of_ble_eq_true rfl, Nat.le_of_ble_eq_true rfl⟩ ?_
    exact HQ.v hq hg hR1 hF hp rfl
  · obtain ⟨hR1, hF⟩ := hB
    match i, hp with
    | 0, hp =>
      refine ev_catch (E := eIB) (k := 3) (len := 1) (pre := []) (x := (0, 9, 12, 21)) (suf := []) rfl (fun z hz => nomatch hz) rfl (by decide) CL_RL_21 (Or.inr ⟨3, rfl, dL_embeddings_12, rfl⟩) rfl (fun j v e1 e2 => ?_) ?_
      · obtain rfl : j = 2 := by omega
        cases e2; rfl
      · refine ev_blk (B := [(.iconst 1, 1)]) (pe := 14) (ls' := [some (.ref (0)), some (.int (a)), some (.ref (q)), none]) (st' := [.int (nI 1)]) ⟨dL_embeddings_13, rfl⟩ rfl ?_
        refine ev_iret dL_embeddings_14 rfl rfl ⟨Nat.le_of_ble_eq_true rfl, Nat.le_of_ble_eq_true rfl⟩ ?_
        rw [← show (sEmb S a).1 = 1 from hp]
        exact HQ.x hq hg hR1 hF (by rw [hp]; decide)
    | i + 1, hp => omega

set_option maxHeartbeats 4000000 in
set_option maxRecDepth 100000 in
theorem h_subwords {l : Launch} (hl : l.stackTraces = false) {M : ev_M} (S : St) (hS : okS S) (hR : RCl M S) (a : Int32) (q : Nat) (hq : 104 ≤ q) (g : Nat → Int64) (hg : M[q]? = some (.inl (1, 1, .inr (.inl g)))) : ev_Mt l m_L_subwords [.ref (0), .int (a), .ref (q)] M (HQ M q wL (sSub S a) S) := by
  have hb : (sSub S a).1 ≤ 1 := by
    unfold sSub
    (repeat' split) <;> (first | exact Nat.zero_le _ | exact Nat.le_of_ble_eq_true rfl)
  refine ev_bodyH hl ⟨_, _, rfl⟩ (by decide +kernel) (Nat.le_of_ble_eq_true rfl) ?_
  show ev_ l m_L_subwords 0 0 0 [some (.ref (0)), some (.int (a)), some (.ref (q)), none] [] M _
  refine ev_blk (B := [(.aload_n 2, 1), (.iconst 0, 1), (.aload_n 0, 1), (.iload_n 1, 1)]) (pe := 4) (ls' := [some (.ref (0)), some (.int (a)), some (.ref (q)), none]) (st' := [.int (a), .ref (0), .int (nI 0), .ref (q)]) ⟨dL_subwords_0, dL_subwords_1, dL_subwords_2, dL_subwords_3, rfl⟩ rfl ?_
  refine ev_cVA (p := (sSub S a)) Y_X10_subwords L_RL_61 dL_subwords_4 ⟨Nat.le_of_ble_eq_true rfl, Nat.le_of_ble_eq_true rfl, Nat.le_of_ble_eq_true rfl, Nat.le_of_ble_eq_true rfl, Nat.le_of_ble_eq_true rfl⟩ hR.1 (as := [.int (a)]) rfl rfl (c_X10_subwords hl S hS hR a) (fun M1 hB hp => ?_) (fun M1 i hB hp => ?_)
  · obtain ⟨hR1, hF⟩ := hB
    have hq1 := (hF.2 q (Or.inr hq)).trans hg
    refine ev_blk (B := [(.i2l, 1)]) (pe := 8) (ls' := [some (.ref (0)), some (.int (a)), some (.ref (q)), none]) (st' := [.long ((sSub S a).2.toInt64), .int (nI 0), .ref (q)]) ⟨dL_subwords_7, rfl⟩ rfl ?_
    refine ev_last dL_subwords_8 hq1 (vp_in_nI (show 0 < 1 by omega) (by omega)) ?_
    rw [nI_clamp (show 0 < 2 ^ 31 by omega)]
    refine ev_goto (tgt := 15) dL_subwords_9 (by decide) ?_
    refine ev_blk (B := [(.iconst 0, 1)]) (pe := 16) (ls' := [some (.ref (0)), some (.int (a)), some (.ref (q)), none]) (st' := [.int (nI 0)]) ⟨dL_subwords_15, rfl⟩ rfl ?_
    refine ev_iret dL_subwords_16 rfl rfl ⟨Nat.le_of_ble_eq_true rfl, Nat.le_of_ble_eq_true rfl⟩ ?_
    exact HQ.v hq hg hR1 hF hp rfl
  · obtain ⟨hR1, hF⟩ := hB
    match i, hp with
    | 0, hp =>
      refine ev_catch (E := eIB) (k := 3) (len := 1) (pre := []) (x := (0, 9, 12, 21)) (suf := []) rfl (fun z hz => nomatch hz) rfl (by decide) CL_RL_21 (Or.inr ⟨3, rfl, dL_subwords_12, rfl⟩) rfl (fun j v e1 e2 => ?_) ?_
      · obtain rfl : j = 2 := by omega
        cases e2; rfl
      · refine ev_blk (B := [(.iconst 1, 1)]) (pe := 14) (ls' := [some (.ref (0)), some (.int (a)), some (.ref (q)), none]) (st' := [.int (nI 1)]) ⟨dL_subwords_13, rfl⟩ rfl ?_
        refine ev_iret dL_subwords_14 rfl rfl ⟨Nat.le_of_ble_eq_true rfl, Nat.le_of_ble_eq_true rfl⟩ ?_
        rw [← show (sSub S a).1 = 1 from hp]
        exact HQ.x hq hg hR1 hF (by rw [hp]; decide)
    | i + 1, hp => omega

set_option maxHeartbeats 4000000 in
set_option maxRecDepth 100000 in
theorem h_addGoal {l : Launch} (hl : l.stackTraces = false) {M : ev_M} (S : St) (hS : okS S) (hR : RCl M S) (q : Nat) (hq : 104 ≤ q) (g : Nat → Int64) (hg : M[q]? = some (.inl (1, 1, .inr (.inl g)))) : ev_Mt l m_L_addGoal [.ref (0), .ref (q)] M (HQ M q wL (sAdG S).1 (sAdG S).2) := by
  have hb : (sAdG S).1.1 ≤ 1 := by
    unfold sAdG
    (repeat' split) <;> (first | exact Nat.zero_le _ | exact Nat.le_of_ble_eq_true rfl)
  refine ev_bodyH hl ⟨_, _, rfl⟩ (by decide +kernel) (Nat.le_of_ble_eq_true rfl) ?_
  show ev_ l m_L_addGoal 0 0 0 [some (.ref (0)), some (.ref (q)), none] [] M _
  refine ev_blk (B := [(.aload_n 1, 1), (.iconst 0, 1), (.aload_n 0, 1)]) (pe := 3) (ls' := [some (.ref (0)), some (.ref (q)), none]) (st' := [.ref (0), .int (nI 0), .ref (q)]) ⟨dL_addGoal_0, dL_addGoal_1, dL_addGoal_2, rfl⟩ rfl ?_
  refine ev_cVA (p := (sAdG S).1) Y_X10_addGoal L_RL_64 dL_addGoal_3 ⟨Nat.le_of_ble_eq_true rfl, Nat.le_of_ble_eq_true rfl, Nat.le_of_ble_eq_true rfl, Nat.le_of_ble_eq_true rfl, Nat.le_of_ble_eq_true rfl⟩ hR.1 (as := []) rfl rfl (c_X10_addGoal hl S hS hR) (fun M1 hB hp => ?_) (fun M1 i hB hp => ?_)
  · obtain ⟨hR1, hF⟩ := hB
    have hq1 := (hF.2 q (Or.inr hq)).trans hg
    refine ev_blk (B := [(.i2l, 1)]) (pe := 7) (ls' := [some (.ref (0)), some (.ref (q)), none]) (st' := [.long ((sAdG S).1.2.toInt64), .int (nI 0), .ref (q)]) ⟨dL_addGoal_6, rfl⟩ rfl ?_
    refine ev_last dL_addGoal_7 hq1 (vp_in_nI (show 0 < 1 by omega) (by omega)) ?_
    rw [nI_clamp (show 0 < 2 ^ 31 by omega)]
    refine ev_goto (tgt := 14) dL_addGoal_8 (by decide) ?_
    refine ev_blk (B := [(.iconst 0, 1)]) (pe := 15) (ls' := [some (.ref (0)), some (.ref (q)), none]) (st' := [.int (nI 0)]) ⟨dL_addGoal_14, rfl⟩ rfl ?_
    refine ev_iret dL_addGoal_15 rfl rfl ⟨Nat.le_of_ble_eq_true rfl, Nat.le_of_ble_eq_true rfl⟩ ?_
    exact HQ.v hq hg hR1 hF hp rfl
  · obtain ⟨hR1, hF⟩ := hB
    match i, hp with
    | 0, hp =>
      refine ev_catch (E := eIS) (k := 2) (len := 1) (pre := []) (x := (0, 8, 11, 15)) (suf := []) rfl (fun z hz => nomatch hz) rfl (by decide) CL_RL_15 (Or.inr ⟨2, rfl, dL_addGoal_11, rfl⟩) rfl (fun j v e1 e2 => ?_) ?_
      · obtain rfl : j = 1 := by omega
        cases e2; rfl
      · refine ev_blk (B := [(.iconst 1, 1)]) (pe := 13) (ls' := [some (.ref (0)), some (.ref (q)), none]) (st' := [.int (nI 1)]) ⟨dL_addGoal_12, rfl⟩ rfl ?_
        refine ev_iret dL_addGoal_13 rfl rfl ⟨Nat.le_of_ble_eq_true rfl, Nat.le_of_ble_eq_true rfl⟩ ?_
        rw [← show (sAdG S).1.1 = 1 from hp]
        exact HQ.x hq hg hR1 hF (by rw [hp]; decide)
    | i + 1, hp => omega

set_option maxHeartbeats 4000000 in
set_option maxRecDepth 100000 in
theorem h_analyze {l : Launch} (hl : l.stackTraces = false) {M : ev_M} (S : St) (hS : okS S) (hR : RCl M S) (q : Nat) (hq : 104 ≤ q) (g : Nat → Int64) (hg : M[q]? = some (.inl (1, 1, .inr (.inl g)))) : ev_Mt l m_L_analyze [.ref (0), .ref (q)] M (HQ M q wL (sAna S) S) := by
  have hb : (sAna S).1 ≤ 1 := by
    unfold sAna
    (repeat' split) <;> (first | exact Nat.zero_le _ | exact Nat.le_of_ble_eq_true rfl)
  refine ev_bodyH hl ⟨_, _, rfl⟩ (by decide +kernel) (Nat.le_of_ble_eq_true rfl) ?_
  show ev_ l m_L_analyze 0 0 0 [some (.ref (0)), some (.ref (q)), none] [] M _
  refine ev_blk (B := [(.aload_n 1, 1), (.iconst 0, 1), (.aload_n 0, 1)]) (pe := 3) (ls' := [some (.ref (0)), some (.ref (q)), none]) (st' := [.ref (0), .int (nI 0), .ref (q)]) ⟨dL_analyze_0, dL_analyze_1, dL_analyze_2, rfl⟩ rfl ?_
  refine ev_cVA (p := (sAna S)) Y_X10_analyze L_RL_67 dL_analyze_3 ⟨Nat.le_of_ble_eq_true rfl, Nat.le_of_ble_eq_true rfl, Nat.le_of_ble_eq_true rfl, Nat.le_of_ble_eq_true rfl, Nat.le_of_ble_eq_true rfl⟩ hR.1 (as := []) rfl rfl (c_X10_analyze hl S hS hR) (fun M1 hB hp => ?_) (fun M1 i hB hp => ?_)
  · obtain ⟨hR1, hF⟩ := hB
    have hq1 := (hF.2 q (Or.inr hq)).trans hg
    refine ev_blk (B := [(.i2l, 1)]) (pe := 7) (ls' := [some (.ref (0)), some (.ref (q)), none]) (st' := [.long ((sAna S).2.toInt64), .int (nI 0), .ref (q)]) ⟨dL_analyze_6, rfl⟩ rfl ?_
    refine ev_last dL_analyze_7 hq1 (vp_in_nI (show 0 < 1 by omega) (by omega)) ?_
    rw [nI_clamp (show 0 < 2 ^ 31 by omega)]
    refine ev_goto (tgt := 14) dL_analyze_8 (by decide) ?_
    refine ev_blk (B := [(.iconst 0, 1)]) (pe := 15) (ls' := [some (.ref (0)), some (.ref (q)), none]) (st' := [.int (nI 0)]) ⟨dL_analyze_14, rfl⟩ rfl ?_
    refine ev_iret dL_analyze_15 rfl rfl ⟨Nat.le_of_ble_eq_true rfl, Nat.le_of_ble_eq_true rfl⟩ ?_
    exact HQ.v hq hg hR1 hF hp rfl
  · obtain ⟨hR1, hF⟩ := hB
    match i, hp with
    | 0, hp =>
      refine ev_catch (E := eUO) (k := 2) (len := 1) (pre := []) (x := (0, 8, 11, 70)) (suf := []) rfl (fun z hz => nomatch hz) rfl (by decide) CL_RL_70 (Or.inr ⟨2, rfl, dL_analyze_11, rfl⟩) rfl (fun j v e1 e2 => ?_) ?_
      · obtain rfl : j = 1 := by omega
        cases e2; rfl
      · refine ev_blk (B := [(.iconst 1, 1)]) (pe := 13) (ls' := [some (.ref (0)), some (.ref (q)), none]) (st' := [.int (nI 1)]) ⟨dL_analyze_12, rfl⟩ rfl ?_
        refine ev_iret dL_analyze_13 rfl rfl ⟨Nat.le_of_ble_eq_true rfl, Nat.le_of_ble_eq_true rfl⟩ ?_
        rw [← show (sAna S).1 = 1 from hp]
        exact HQ.x hq hg hR1 hF (by rw [hp]; decide)
    | i + 1, hp => omega

set_option maxHeartbeats 4000000 in
set_option maxRecDepth 100000 in
theorem h_lastRound {l : Launch} (hl : l.stackTraces = false) {M : ev_M} (S : St) (hS : okS S) (hR : RCl M S) (q : Nat) (hq : 104 ≤ q) (g : Nat → Int64) (hg : M[q]? = some (.inl (1, 1, .inr (.inl g)))) : ev_Mt l m_L_lastRound [.ref (0), .ref (q)] M (HQ M q wL (sLR S) S) := by
  have hb : (sLR S).1 ≤ 2 := by
    unfold sLR
    refine gt_le ?_ (by decide)
    (repeat' split) <;> (first | exact Nat.zero_le _ | exact Nat.le_of_ble_eq_true rfl)
  refine ev_bodyH hl ⟨_, _, rfl⟩ (by decide +kernel) (Nat.le_of_ble_eq_true rfl) ?_
  show ev_ l m_L_lastRound 0 0 0 [some (.ref (0)), some (.ref (q)), none] [] M _
  refine ev_blk (B := [(.aload_n 1, 1), (.iconst 0, 1), (.aload_n 0, 1)]) (pe := 3) (ls' := [some (.ref (0)), some (.ref (q)), none]) (st' := [.ref (0), .int (nI 0), .ref (q)]) ⟨dL_lastRound_0, dL_lastRound_1, dL_lastRound_2, rfl⟩ rfl ?_
  refine ev_cVA (p := (sLR S)) Y_X10_lastRound L_RL_72 dL_lastRound_3 ⟨Nat.le_of_ble_eq_true rfl, Nat.le_of_ble_eq_true rfl, Nat.le_of_ble_eq_true rfl, Nat.le_of_ble_eq_true rfl, Nat.le_of_ble_eq_true rfl⟩ hR.1 (as := []) rfl rfl (c_X10_lastRound hl S hS hR) (fun M1 hB hp => ?_) (fun M1 i hB hp => ?_)
  · obtain ⟨hR1, hF⟩ := hB
    have hq1 := (hF.2 q (Or.inr hq)).trans hg
    refine ev_blk (B := [(.i2l, 1)]) (pe := 7) (ls' := [some (.ref (0)), some (.ref (q)), none]) (st' := [.long ((sLR S).2.toInt64), .int (nI 0), .ref (q)]) ⟨dL_lastRound_6, rfl⟩ rfl ?_
    refine ev_last dL_lastRound_7 hq1 (vp_in_nI (show 0 < 1 by omega) (by omega)) ?_
    rw [nI_clamp (show 0 < 2 ^ 31 by omega)]
    refine ev_goto (tgt := 17) dL_lastRound_8 (by decide) ?_
    refine ev_blk (B := [(.iconst 0, 1)]) (pe := 18) (ls' := [some (.ref (0)), some (.ref (q)), none]) (st' := [.int (nI 0)]) ⟨dL_lastRound_17, rfl⟩ rfl ?_
    refine ev_iret dL_lastRound_18 rfl rfl ⟨Nat.le_of_ble_eq_true rfl, Nat.le_of_ble_eq_true rfl⟩ ?_
    exact HQ.v hq hg hR1 hF hp rfl
  · obtain ⟨hR1, hF⟩ := hB
    match i, hp with
    | 0, hp =>
      refine ev_catch (E := eUO) (k := 2) (len := 1) (pre := []) (x := (0, 8, 11, 70)) (suf := [(0, 8, 14, 15)]) rfl (fun z hz => nomatch hz) rfl (by decide) CL_RL_70 (Or.inr ⟨2, rfl, dL_lastRound_11, rfl⟩) rfl (fun j v e1 e2 => ?_) ?_
      · obtain rfl : j = 1 := by omega
        cases e2; rfl
      · refine ev_blk (B := [(.iconst 1, 1)]) (pe := 13) (ls' := [some (.ref (0)), some (.ref (q)), none]) (st' := [.int (nI 1)]) ⟨dL_lastRound_12, rfl⟩ rfl ?_
        refine ev_iret dL_lastRound_13 rfl rfl ⟨Nat.le_of_ble_eq_true rfl, Nat.le_of_ble_eq_true rfl⟩ ?_
        rw [← show (sLR S).1 = 1 from hp]
        exact HQ.x hq hg hR1 hF (by rw [hp]; decide)
    | 1, hp =>
      refine ev_catch (E := eIS) (k := 2) (len := 1) (pre := [(0, 8, 11, 70)]) (x := (0, 8, 14, 15)) (suf := []) rfl (fun z hz => by
            rcases List.mem_cons.mp hz with rfl | hz
            · exact ⟨eUO, by decide, CL_RL_70, by decide⟩
            cases hz) rfl (by decide) CL_RL_15 (Or.inr ⟨2, rfl, dL_lastRound_14, rfl⟩) rfl (fun j v e1 e2 => ?_) ?_
      · obtain rfl : j = 1 := by omega
        cases e2; rfl
      · refine ev_blk (B := [(.iconst 2, 1)]) (pe := 16) (ls' := [some (.ref (0)), some (.ref (q)), none]) (st' := [.int (nI 2)]) ⟨dL_lastRound_15, rfl⟩ rfl ?_
        refine ev_iret dL_lastRound_16 rfl rfl ⟨Nat.le_of_ble_eq_true rfl, Nat.le_of_ble_eq_true rfl⟩ ?_
        rw [← show (sLR S).1 = 2 from hp]
        exact HQ.x hq hg hR1 hF (by rw [hp]; decide)
    | i + 2, hp => omega

set_option maxHeartbeats 4000000 in
set_option maxRecDepth 100000 in
theorem h_basisSize {l : Launch} (hl : l.stackTraces = false) {M : ev_M} (S : St) (hS : okS S) (hR : RCl M S) (a : Int32) (q : Nat) (hq : 104 ≤ q) (g : Nat → Int64) (hg : M[q]? = some (.inl (1, 1, .inr (.inl g)))) : ev_Mt l m_L_basisSize [.ref (0), .int (a), .ref (q)] M (HQ M q wL (sBS S a) S) := by
  have hb : (sBS S a).1 ≤ 3 := by
    unfold sBS
    refine gt_le ?_ (by decide)
    (repeat' split) <;> (first | exact Nat.zero_le _ | exact Nat.le_of_ble_eq_true rfl)
  refine ev_bodyH hl ⟨_, _, rfl⟩ (by decide +kernel) (Nat.le_of_ble_eq_true rfl) ?_
  show ev_ l m_L_basisSize 0 0 0 [some (.ref (0)), some (.int (a)), some (.ref (q)), none] [] M _
  refine ev_blk (B := [(.aload_n 2, 1), (.iconst 0, 1), (.aload_n 0, 1), (.iload_n 1, 1)]) (pe := 4) (ls' := [some (.ref (0)), some (.int (a)), some (.ref (q)), none]) (st' := [.int (a), .ref (0), .int (nI 0), .ref (q)]) ⟨dL_basisSize_0, dL_basisSize_1, dL_basisSize_2, dL_basisSize_3, rfl⟩ rfl ?_
  refine ev_cVA (p := (sBS S a)) Y_X10_basisSize L_RL_75 dL_basisSize_4 ⟨Nat.le_of_ble_eq_true rfl, Nat.le_of_ble_eq_true rfl, Nat.le_of_ble_eq_true rfl, Nat.le_of_ble_eq_true rfl, Nat.le_of_ble_eq_true rfl⟩ hR.1 (as := [.int (a)]) rfl rfl (c_X10_basisSize hl S hS hR a) (fun M1 hB hp => ?_) (fun M1 i hB hp => ?_)
  · obtain ⟨hR1, hF⟩ := hB
    have hq1 := (hF.2 q (Or.inr hq)).trans hg
    refine ev_blk (B := [(.i2l, 1)]) (pe := 8) (ls' := [some (.ref (0)), some (.int (a)), some (.ref (q)), none]) (st' := [.long ((sBS S a).2.toInt64), .int (nI 0), .ref (q)]) ⟨dL_basisSize_7, rfl⟩ rfl ?_
    refine ev_last dL_basisSize_8 hq1 (vp_in_nI (show 0 < 1 by omega) (by omega)) ?_
    rw [nI_clamp (show 0 < 2 ^ 31 by omega)]
    refine ev_goto (tgt := 21) dL_basisSize_9 (by decide) ?_
    refine ev_blk (B := [(.iconst 0, 1)]) (pe := 22) (ls' := [some (.ref (0)), some (.int (a)), some (.ref (q)), none]) (st' := [.int (nI 0)]) ⟨dL_basisSize_21, rfl⟩ rfl ?_
    refine ev_iret dL_basisSize_22 rfl rfl ⟨Nat.le_of_ble_eq_true rfl, Nat.le_of_ble_eq_true rfl⟩ ?_
    exact HQ.v hq hg hR1 hF hp rfl
  · obtain ⟨hR1, hF⟩ := hB
    match i, hp with
    | 0, hp =>
      refine ev_catch (E := eUO) (k := 3) (len := 1) (pre := []) (x := (0, 9, 12, 70)) (suf := [(0, 9, 15, 15), (0, 9, 18, 21)]) rfl (fun z hz => nomatch hz) rfl (by decide) CL_RL_70 (Or.inr ⟨3, rfl, dL_basisSize_12, rfl⟩) rfl (fun j v e1 e2 => ?_) ?_
      · obtain rfl : j = 2 := by omega
        cases e2; rfl
      · refine ev_blk (B := [(.iconst 1, 1)]) (pe := 14) (ls' := [some (.ref (0)), some (.int (a)), some (.ref (q)), none]) (st' := [.int (nI 1)]) ⟨dL_basisSize_13, rfl⟩ rfl ?_
        refine ev_iret dL_basisSize_14 rfl rfl ⟨Nat.le_of_ble_eq_true rfl, Nat.le_of_ble_eq_true rfl⟩ ?_
        rw [← show (sBS S a).1 = 1 from hp]
        exact HQ.x hq hg hR1 hF (by rw [hp]; decide)
    | 1, hp =>
      refine ev_catch (E := eIS) (k := 3) (len := 1) (pre := [(0, 9, 12, 70)]) (x := (0, 9, 15, 15)) (suf := [(0, 9, 18, 21)]) rfl (fun z hz => by
            rcases List.mem_cons.mp hz with rfl | hz
            · exact ⟨eUO, by decide, CL_RL_70, by decide⟩
            cases hz) rfl (by decide) CL_RL_15 (Or.inr ⟨3, rfl, dL_basisSize_15, rfl⟩) rfl (fun j v e1 e2 => ?_) ?_
      · obtain rfl : j = 2 := by omega
        cases e2; rfl
      · refine ev_blk (B := [(.iconst 2, 1)]) (pe := 17) (ls' := [some (.ref (0)), some (.int (a)), some (.ref (q)), none]) (st' := [.int (nI 2)]) ⟨dL_basisSize_16, rfl⟩ rfl ?_
        refine ev_iret dL_basisSize_17 rfl rfl ⟨Nat.le_of_ble_eq_true rfl, Nat.le_of_ble_eq_true rfl⟩ ?_
        rw [← show (sBS S a).1 = 2 from hp]
        exact HQ.x hq hg hR1 hF (by rw [hp]; decide)
    | 2, hp =>
      refine ev_catch (E := eIB) (k := 3) (len := 1) (pre := [(0, 9, 12, 70), (0, 9, 15, 15)]) (x := (0, 9, 18, 21)) (suf := []) rfl (fun z hz => by
            rcases List.mem_cons.mp hz with rfl | hz
            · exact ⟨eUO, by decide, CL_RL_70, by decide⟩
            rcases List.mem_cons.mp hz with rfl | hz
            · exact ⟨eIS, by decide, CL_RL_15, by decide⟩
            cases hz) rfl (by decide) CL_RL_21 (Or.inr ⟨3, rfl, dL_basisSize_18, rfl⟩) rfl (fun j v e1 e2 => ?_) ?_
      · obtain rfl : j = 2 := by omega
        cases e2; rfl
      · refine ev_blk (B := [(.iconst 3, 1)]) (pe := 20) (ls' := [some (.ref (0)), some (.int (a)), some (.ref (q)), none]) (st' := [.int (nI 3)]) ⟨dL_basisSize_19, rfl⟩ rfl ?_
        refine ev_iret dL_basisSize_20 rfl rfl ⟨Nat.le_of_ble_eq_true rfl, Nat.le_of_ble_eq_true rfl⟩ ?_
        rw [← show (sBS S a).1 = 3 from hp]
        exact HQ.x hq hg hR1 hF (by rw [hp]; decide)
    | i + 3, hp => omega

set_option maxHeartbeats 4000000 in
set_option maxRecDepth 100000 in
theorem h_basis {l : Launch} (hl : l.stackTraces = false) {M : ev_M} (S : St) (hS : okS S) (hR : RCl M S) (a : Int32) (b : Int32) (c : Int32) (q : Nat) (hq : 104 ≤ q) (g : Nat → Int64) (hg : M[q]? = some (.inl (1, 1, .inr (.inl g)))) : ev_Mt l m_L_basis [.ref (0), .int (a), .int (b), .int (c), .ref (q)] M (HQ M q wL (sBa S a b c) S) := by
  have hb : (sBa S a b c).1 ≤ 3 := by
    unfold sBa
    refine gt_le ?_ (by decide)
    (repeat' split) <;> (first | exact Nat.zero_le _ | exact Nat.le_of_ble_eq_true rfl)
  refine ev_bodyH hl ⟨_, _, rfl⟩ (by decide +kernel) (Nat.le_of_ble_eq_true rfl) ?_
  show ev_ l m_L_basis 0 0 0 [some (.ref (0)), some (.int (a)), some (.int (b)), some (.int (c)), some (.ref (q)), none] [] M _
  refine ev_blk (B := [(.aload 4, 2), (.iconst 0, 1), (.aload_n 0, 1), (.iload_n 1, 1), (.iload_n 2, 1), (.iload_n 3, 1)]) (pe := 7) (ls' := [some (.ref (0)), some (.int (a)), some (.int (b)), some (.int (c)), some (.ref (q)), none]) (st' := [.int (c), .int (b), .int (a), .ref (0), .int (nI 0), .ref (q)]) ⟨dL_basis_0, dL_basis_2, dL_basis_3, dL_basis_4, dL_basis_5, dL_basis_6, rfl⟩ rfl ?_
  refine ev_cVA (p := (sBa S a b c)) Y_X10_basis L_RL_78 dL_basis_7 ⟨Nat.le_of_ble_eq_true rfl, Nat.le_of_ble_eq_true rfl, Nat.le_of_ble_eq_true rfl, Nat.le_of_ble_eq_true rfl, Nat.le_of_ble_eq_true rfl⟩ hR.1 (as := [.int (a), .int (b), .int (c)]) rfl rfl (c_X10_basis hl S hS hR a b c) (fun M1 hB hp => ?_) (fun M1 i hB hp => ?_)
  · obtain ⟨hR1, hF⟩ := hB
    have hq1 := (hF.2 q (Or.inr hq)).trans hg
    refine ev_blk (B := [(.i2l, 1)]) (pe := 11) (ls' := [some (.ref (0)), some (.int (a)), some (.int (b)), some (.int (c)), some (.ref (q)), none]) (st' := [.long ((sBa S a b c).2.toInt64), .int (nI 0), .ref (q)]) ⟨dL_basis_10, rfl⟩ rfl ?_
    refine ev_last dL_basis_11 hq1 (vp_in_nI (show 0 < 1 by omega) (by omega)) ?_
    rw [nI_clamp (show 0 < 2 ^ 31 by omega)]
    refine ev_goto (tgt := 27) dL_basis_12 (by decide) ?_
    refine ev_blk (B := [(.iconst 0, 1)]) (pe := 28) (ls' := [some (.ref (0)), some (.int (a)), some (.int (b)), some (.int (c)), some (.ref (q)), none]) (st' := [.int (nI 0)]) ⟨dL_basis_27, rfl⟩ rfl ?_
    refine ev_iret dL_basis_28 rfl rfl ⟨Nat.le_of_ble_eq_true rfl, Nat.le_of_ble_eq_true rfl⟩ ?_
    exact HQ.v hq hg hR1 hF hp rfl
  · obtain ⟨hR1, hF⟩ := hB
    match i, hp with
    | 0, hp =>
      refine ev_catch (E := eUO) (k := 5) (len := 2) (pre := []) (x := (0, 12, 15, 70)) (suf := [(0, 12, 19, 15), (0, 12, 23, 21)]) rfl (fun z hz => nomatch hz) rfl (by decide) CL_RL_70 (Or.inl ⟨dL_basis_15, rfl⟩) rfl (fun j v e1 e2 => ?_) ?_
      · obtain rfl : j = 4 := by omega
        cases e2; rfl
      · refine ev_blk (B := [(.iconst 1, 1)]) (pe := 18) (ls' := [some (.ref (0)), some (.int (a)), some (.int (b)), some (.int (c)), some (.ref (q)), none]) (st' := [.int (nI 1)]) ⟨dL_basis_17, rfl⟩ rfl ?_
        refine ev_iret dL_basis_18 rfl rfl ⟨Nat.le_of_ble_eq_true rfl, Nat.le_of_ble_eq_true rfl⟩ ?_
        rw [← show (sBa S a b c).1 = 1 from hp]
        exact HQ.x hq hg hR1 hF (by rw [hp]; decide)
    | 1, hp =>
      refine ev_catch (E := eIS) (k := 5) (len := 2) (pre := [(0, 12, 15, 70)]) (x := (0, 12, 19, 15)) (suf := [(0, 12, 23, 21)]) rfl (fun z hz => by
            rcases List.mem_cons.mp hz with rfl | hz
            · exact ⟨eUO, by decide, CL_RL_70, by decide⟩
            cases hz) rfl (by decide) CL_RL_15 (Or.inl ⟨dL_basis_19, rfl⟩) rfl (fun j v e1 e2 => ?_) ?_
      · obtain rfl : j = 4 := by omega
        cases e2; rfl
      · refine ev_blk (B := [(.iconst 2, 1)]) (pe := 22) (ls' := [some (.ref (0)), some (.int (a)), some (.int (b)), some (.int (c)), some (.ref (q)), none]) (st' := [.int (nI 2)]) ⟨dL_basis_21, rfl⟩ rfl ?_
        refine ev_iret dL_basis_22 rfl rfl ⟨Nat.le_of_ble_eq_true rfl, Nat.le_of_ble_eq_true rfl⟩ ?_
        rw [← show (sBa S a b c).1 = 2 from hp]
        exact HQ.x hq hg hR1 hF (by rw [hp]; decide)
    | 2, hp =>
      refine ev_catch (E := eIB) (k := 5) (len := 2) (pre := [(0, 12, 15, 70), (0, 12, 19, 15)]) (x := (0, 12, 23, 21)) (suf := []) rfl (fun z hz => by
            rcases List.mem_cons.mp hz with rfl | hz
            · exact ⟨eUO, by decide, CL_RL_70, by decide⟩
            rcases List.mem_cons.mp hz with rfl | hz
            · exact ⟨eIS, by decide, CL_RL_15, by decide⟩
            cases hz) rfl (by decide) CL_RL_21 (Or.inl ⟨dL_basis_23, rfl⟩) rfl (fun j v e1 e2 => ?_) ?_
      · obtain rfl : j = 4 := by omega
        cases e2; rfl
      · refine ev_blk (B := [(.iconst 3, 1)]) (pe := 26) (ls' := [some (.ref (0)), some (.int (a)), some (.int (b)), some (.int (c)), some (.ref (q)), none]) (st' := [.int (nI 3)]) ⟨dL_basis_25, rfl⟩ rfl ?_
        refine ev_iret dL_basis_26 rfl rfl ⟨Nat.le_of_ble_eq_true rfl, Nat.le_of_ble_eq_true rfl⟩ ?_
        rw [← show (sBa S a b c).1 = 3 from hp]
        exact HQ.x hq hg hR1 hF (by rw [hp]; decide)
    | i + 3, hp => omega

set_option maxHeartbeats 4000000 in
set_option maxRecDepth 100000 in
theorem h_basisLetter {l : Launch} (hl : l.stackTraces = false) {M : ev_M} (S : St) (hS : okS S) (hR : RCl M S) (a : Int32) (b : Int32) (c : Int32) (q : Nat) (hq : 104 ≤ q) (g : Nat → Int64) (hg : M[q]? = some (.inl (1, 1, .inr (.inl g)))) : ev_Mt l m_L_basisLetter [.ref (0), .int (a), .int (b), .int (c), .ref (q)] M (HQ M q wL (sBL S a b c) S) := by
  have hb : (sBL S a b c).1 ≤ 3 := by
    unfold sBL
    refine gt_le ?_ (by decide)
    (repeat' split) <;> (first | exact Nat.zero_le _ | exact Nat.le_of_ble_eq_true rfl)
  refine ev_bodyH hl ⟨_, _, rfl⟩ (by decide +kernel) (Nat.le_of_ble_eq_true rfl) ?_
  show ev_ l m_L_basisLetter 0 0 0 [some (.ref (0)), some (.int (a)), some (.int (b)), some (.int (c)), some (.ref (q)), none] [] M _
  refine ev_blk (B := [(.aload 4, 2), (.iconst 0, 1), (.aload_n 0, 1), (.iload_n 1, 1), (.iload_n 2, 1), (.iload_n 3, 1)]) (pe := 7) (ls' := [some (.ref (0)), some (.int (a)), some (.int (b)), some (.int (c)), some (.ref (q)), none]) (st' := [.int (c), .int (b), .int (a), .ref (0), .int (nI 0), .ref (q)]) ⟨dL_basisLetter_0, dL_basisLetter_2, dL_basisLetter_3, dL_basisLetter_4, dL_basisLetter_5, dL_basisLetter_6, rfl⟩ rfl ?_
  refine ev_cVA (p := (sBL S a b c)) Y_X10_basisLetter L_RL_82 dL_basisLetter_7 ⟨Nat.le_of_ble_eq_true rfl, Nat.le_of_ble_eq_true rfl, Nat.le_of_ble_eq_true rfl, Nat.le_of_ble_eq_true rfl, Nat.le_of_ble_eq_true rfl⟩ hR.1 (as := [.int (a), .int (b), .int (c)]) rfl rfl (c_X10_basisLetter hl S hS hR a b c) (fun M1 hB hp => ?_) (fun M1 i hB hp => ?_)
  · obtain ⟨hR1, hF⟩ := hB
    have hq1 := (hF.2 q (Or.inr hq)).trans hg
    refine ev_blk (B := [(.i2l, 1)]) (pe := 11) (ls' := [some (.ref (0)), some (.int (a)), some (.int (b)), some (.int (c)), some (.ref (q)), none]) (st' := [.long ((sBL S a b c).2.toInt64), .int (nI 0), .ref (q)]) ⟨dL_basisLetter_10, rfl⟩ rfl ?_
    refine ev_last dL_basisLetter_11 hq1 (vp_in_nI (show 0 < 1 by omega) (by omega)) ?_
    rw [nI_clamp (show 0 < 2 ^ 31 by omega)]
    refine ev_goto (tgt := 27) dL_basisLetter_12 (by decide) ?_
    refine ev_blk (B := [(.iconst 0, 1)]) (pe := 28) (ls' := [some (.ref (0)), some (.int (a)), some (.int (b)), some (.int (c)), some (.ref (q)), none]) (st' := [.int (nI 0)]) ⟨dL_basisLetter_27, rfl⟩ rfl ?_
    refine ev_iret dL_basisLetter_28 rfl rfl ⟨Nat.le_of_ble_eq_true rfl, Nat.le_of_ble_eq_true rfl⟩ ?_
    exact HQ.v hq hg hR1 hF hp rfl
  · obtain ⟨hR1, hF⟩ := hB
    match i, hp with
    | 0, hp =>
      refine ev_catch (E := eUO) (k := 5) (len := 2) (pre := []) (x := (0, 12, 15, 70)) (suf := [(0, 12, 19, 15), (0, 12, 23, 21)]) rfl (fun z hz => nomatch hz) rfl (by decide) CL_RL_70 (Or.inl ⟨dL_basisLetter_15, rfl⟩) rfl (fun j v e1 e2 => ?_) ?_
      · obtain rfl : j = 4 := by omega
        cases e2; rfl
      · refine ev_blk (B := [(.iconst 1, 1)]) (pe := 18) (ls' := [some (.ref (0)), some (.int (a)), some (.int (b)), some (.int (c)), some (.ref (q)), none]) (st' := [.int (nI 1)]) ⟨dL_basisLetter_17, rfl⟩ rfl ?_
        refine ev_iret dL_basisLetter_18 rfl rfl ⟨Nat.le_of_ble_eq_true rfl, Nat.le_of_ble_eq_true rfl⟩ ?_
        rw [← show (sBL S a b c).1 = 1 from hp]
        exact HQ.x hq hg hR1 hF (by rw [hp]; decide)
    | 1, hp =>
      refine ev_catch (E := eIS) (k := 5) (len := 2) (pre := [(0, 12, 15, 70)]) (x := (0, 12, 19, 15)) (suf := [(0, 12, 23, 21)]) rfl (fun z hz => by
            rcases List.mem_cons.mp hz with rfl | hz
            · exact ⟨eUO, by decide, CL_RL_70, by decide⟩
            cases hz) rfl (by decide) CL_RL_15 (Or.inl ⟨dL_basisLetter_19, rfl⟩) rfl (fun j v e1 e2 => ?_) ?_
      · obtain rfl : j = 4 := by omega
        cases e2; rfl
      · refine ev_blk (B := [(.iconst 2, 1)]) (pe := 22) (ls' := [some (.ref (0)), some (.int (a)), some (.int (b)), some (.int (c)), some (.ref (q)), none]) (st' := [.int (nI 2)]) ⟨dL_basisLetter_21, rfl⟩ rfl ?_
        refine ev_iret dL_basisLetter_22 rfl rfl ⟨Nat.le_of_ble_eq_true rfl, Nat.le_of_ble_eq_true rfl⟩ ?_
        rw [← show (sBL S a b c).1 = 2 from hp]
        exact HQ.x hq hg hR1 hF (by rw [hp]; decide)
    | 2, hp =>
      refine ev_catch (E := eIB) (k := 5) (len := 2) (pre := [(0, 12, 15, 70), (0, 12, 19, 15)]) (x := (0, 12, 23, 21)) (suf := []) rfl (fun z hz => by
            rcases List.mem_cons.mp hz with rfl | hz
            · exact ⟨eUO, by decide, CL_RL_70, by decide⟩
            rcases List.mem_cons.mp hz with rfl | hz
            · exact ⟨eIS, by decide, CL_RL_15, by decide⟩
            cases hz) rfl (by decide) CL_RL_21 (Or.inl ⟨dL_basisLetter_23, rfl⟩) rfl (fun j v e1 e2 => ?_) ?_
      · obtain rfl : j = 4 := by omega
        cases e2; rfl
      · refine ev_blk (B := [(.iconst 3, 1)]) (pe := 26) (ls' := [some (.ref (0)), some (.int (a)), some (.int (b)), some (.int (c)), some (.ref (q)), none]) (st' := [.int (nI 3)]) ⟨dL_basisLetter_25, rfl⟩ rfl ?_
        refine ev_iret dL_basisLetter_26 rfl rfl ⟨Nat.le_of_ble_eq_true rfl, Nat.le_of_ble_eq_true rfl⟩ ?_
        rw [← show (sBL S a b c).1 = 3 from hp]
        exact HQ.x hq hg hR1 hF (by rw [hp]; decide)
    | i + 3, hp => omega

set_option maxHeartbeats 4000000 in
set_option maxRecDepth 100000 in
theorem h_coveringStates {l : Launch} (hl : l.stackTraces = false) {M : ev_M} (S : St) (hS : okS S) (hR : RCl M S) (q : Nat) (hq : 104 ≤ q) (g : Nat → Int64) (hg : M[q]? = some (.inl (1, 1, .inr (.inl g)))) : ev_Mt l m_L_coveringStates [.ref (0), .ref (q)] M (HQ M q wL (sCo S) S) := by
  have hb : (sCo S).1 ≤ 2 := by
    unfold sCo
    refine gt_le ?_ (by decide)
    (repeat' split) <;> (first | exact Nat.zero_le _ | exact Nat.le_of_ble_eq_true rfl)
  refine ev_bodyH hl ⟨_, _, rfl⟩ (by decide +kernel) (Nat.le_of_ble_eq_true rfl) ?_
  show ev_ l m_L_coveringStates 0 0 0 [some (.ref (0)), some (.ref (q)), none] [] M _
  refine ev_blk (B := [(.aload_n 1, 1), (.iconst 0, 1), (.aload_n 0, 1)]) (pe := 3) (ls' := [some (.ref (0)), some (.ref (q)), none]) (st' := [.ref (0), .int (nI 0), .ref (q)]) ⟨dL_coveringStates_0, dL_coveringStates_1, dL_coveringStates_2, rfl⟩ rfl ?_
  refine ev_cVA (p := (sCo S)) Y_X10_coveringStates L_RL_85 dL_coveringStates_3 ⟨Nat.le_of_ble_eq_true rfl, Nat.le_of_ble_eq_true rfl, Nat.le_of_ble_eq_true rfl, Nat.le_of_ble_eq_true rfl, Nat.le_of_ble_eq_true rfl⟩ hR.1 (as := []) rfl rfl (c_X10_coveringStates hl S hS hR) (fun M1 hB hp => ?_) (fun M1 i hB hp => ?_)
  · obtain ⟨hR1, hF⟩ := hB
    have hq1 := (hF.2 q (Or.inr hq)).trans hg
    refine ev_blk (B := [(.i2l, 1)]) (pe := 7) (ls' := [some (.ref (0)), some (.ref (q)), none]) (st' := [.long ((sCo S).2.toInt64), .int (nI 0), .ref (q)]) ⟨dL_coveringStates_6, rfl⟩ rfl ?_
    refine ev_last dL_coveringStates_7 hq1 (vp_in_nI (show 0 < 1 by omega) (by omega)) ?_
    rw [nI_clamp (show 0 < 2 ^ 31 by omega)]
    refine ev_goto (tgt := 17) dL_coveringStates_8 (by decide) ?_
    refine ev_blk (B := [(.iconst 0, 1)]) (pe := 18) (ls' := [some (.ref (0)), some (.ref (q)), none]) (st' := [.int (nI 0)]) ⟨dL_coveringStates_17, rfl⟩ rfl ?_
    refine ev_iret dL_coveringStates_18 rfl rfl ⟨Nat.le_of_ble_eq_true rfl, Nat.le_of_ble_eq_true rfl⟩ ?_
    exact HQ.v hq hg hR1 hF hp rfl
  · obtain ⟨hR1, hF⟩ := hB
    match i, hp with
    | 0, hp =>
      refine ev_catch (E := eUO) (k := 2) (len := 1) (pre := []) (x := (0, 8, 11, 70)) (suf := [(0, 8, 14, 15)]) rfl (fun z hz => nomatch hz) rfl (by decide) CL_RL_70 (Or.inr ⟨2, rfl, dL_coveringStates_11, rfl⟩) rfl (fun j v e1 e2 => ?_) ?_
      · obtain rfl : j = 1 := by omega
        cases e2; rfl
      · refine ev_blk (B := [(.iconst 1, 1)]) (pe := 13) (ls' := [some (.ref (0)), some (.ref (q)), none]) (st' := [.int (nI 1)]) ⟨dL_coveringStates_12, rfl⟩ rfl ?_
        refine ev_iret dL_coveringStates_13 rfl rfl ⟨Nat.le_of_ble_eq_true rfl, Nat.le_of_ble_eq_true rfl⟩ ?_
        rw [← show (sCo S).1 = 1 from hp]
        exact HQ.x hq hg hR1 hF (by rw [hp]; decide)
    | 1, hp =>
      refine ev_catch (E := eIS) (k := 2) (len := 1) (pre := [(0, 8, 11, 70)]) (x := (0, 8, 14, 15)) (suf := []) rfl (fun z hz => by
            rcases List.mem_cons.mp hz with rfl | hz
            · exact ⟨eUO, by decide, CL_RL_70, by decide⟩
            cases hz) rfl (by decide) CL_RL_15 (Or.inr ⟨2, rfl, dL_coveringStates_14, rfl⟩) rfl (fun j v e1 e2 => ?_) ?_
      · obtain rfl : j = 1 := by omega
        cases e2; rfl
      · refine ev_blk (B := [(.iconst 2, 1)]) (pe := 16) (ls' := [some (.ref (0)), some (.ref (q)), none]) (st' := [.int (nI 2)]) ⟨dL_coveringStates_15, rfl⟩ rfl ?_
        refine ev_iret dL_coveringStates_16 rfl rfl ⟨Nat.le_of_ble_eq_true rfl, Nat.le_of_ble_eq_true rfl⟩ ?_
        rw [← show (sCo S).1 = 2 from hp]
        exact HQ.x hq hg hR1 hF (by rw [hp]; decide)
    | i + 2, hp => omega

set_option maxHeartbeats 4000000 in
set_option maxRecDepth 100000 in
theorem h_least {l : Launch} (hl : l.stackTraces = false) {M : ev_M} (S : St) (hS : okS S) (hR : RCl M S) (a : Int32) (q : Nat) (hq : 104 ≤ q) (g : Nat → Int64) (hg : M[q]? = some (.inl (1, 1, .inr (.inl g)))) : ev_Mt l m_L_least [.ref (0), .int (a), .ref (q)] M (HQ M q wL (sLe S a) S) := by
  have hb : (sLe S a).1 ≤ 3 := by
    unfold sLe
    refine gt_le ?_ (by decide)
    (repeat' split) <;> (first | exact Nat.zero_le _ | exact Nat.le_of_ble_eq_true rfl)
  refine ev_bodyH hl ⟨_, _, rfl⟩ (by decide +kernel) (Nat.le_of_ble_eq_true rfl) ?_
  show ev_ l m_L_least 0 0 0 [some (.ref (0)), some (.int (a)), some (.ref (q)), none] [] M _
  refine ev_blk (B := [(.aload_n 2, 1), (.iconst 0, 1), (.aload_n 0, 1), (.iload_n 1, 1)]) (pe := 4) (ls' := [some (.ref (0)), some (.int (a)), some (.ref (q)), none]) (st' := [.int (a), .ref (0), .int (nI 0), .ref (q)]) ⟨dL_least_0, dL_least_1, dL_least_2, dL_least_3, rfl⟩ rfl ?_
  refine ev_cVA (p := (sLe S a)) Y_X10_least L_RL_88 dL_least_4 ⟨Nat.le_of_ble_eq_true rfl, Nat.le_of_ble_eq_true rfl, Nat.le_of_ble_eq_true rfl, Nat.le_of_ble_eq_true rfl, Nat.le_of_ble_eq_true rfl⟩ hR.1 (as := [.int (a)]) rfl rfl (c_X10_least hl S hS hR a) (fun M1 hB hp => ?_) (fun M1 i hB hp => ?_)
  · obtain ⟨hR1, hF⟩ := hB
    have hq1 := (hF.2 q (Or.inr hq)).trans hg
    refine ev_blk (B := [(.i2l, 1)]) (pe := 8) (ls' := [some (.ref (0)), some (.int (a)), some (.ref (q)), none]) (st' := [.long ((sLe S a).2.toInt64), .int (nI 0), .ref (q)]) ⟨dL_least_7, rfl⟩ rfl ?_
    refine ev_last dL_least_8 hq1 (vp_in_nI (show 0 < 1 by omega) (by omega)) ?_
    rw [nI_clamp (show 0 < 2 ^ 31 by omega)]
    refine ev_goto (tgt := 21) dL_least_9 (by decide) ?_
    refine ev_blk (B := [(.iconst 0, 1)]) (pe := 22) (ls' := [some (.ref (0)), some (.int (a)), some (.ref (q)), none]) (st' := [.int (nI 0)]) ⟨dL_least_21, rfl⟩ rfl ?_
    refine ev_iret dL_least_22 rfl rfl ⟨Nat.le_of_ble_eq_true rfl, Nat.le_of_ble_eq_true rfl⟩ ?_
    exact HQ.v hq hg hR1 hF hp rfl
  · obtain ⟨hR1, hF⟩ := hB
    match i, hp with
    | 0, hp =>
      refine ev_catch (E := eUO) (k := 3) (len := 1) (pre := []) (x := (0, 9, 12, 70)) (suf := [(0, 9, 15, 15), (0, 9, 18, 13)]) rfl (fun z hz => nomatch hz) rfl (by decide) CL_RL_70 (Or.inr ⟨3, rfl, dL_least_12, rfl⟩) rfl (fun j v e1 e2 => ?_) ?_
      · obtain rfl : j = 2 := by omega
        cases e2; rfl
      · refine ev_blk (B := [(.iconst 1, 1)]) (pe := 14) (ls' := [some (.ref (0)), some (.int (a)), some (.ref (q)), none]) (st' := [.int (nI 1)]) ⟨dL_least_13, rfl⟩ rfl ?_
        refine ev_iret dL_least_14 rfl rfl ⟨Nat.le_of_ble_eq_true rfl, Nat.le_of_ble_eq_true rfl⟩ ?_
        rw [← show (sLe S a).1 = 1 from hp]
        exact HQ.x hq hg hR1 hF (by rw [hp]; decide)
    | 1, hp =>
      refine ev_catch (E := eIS) (k := 3) (len := 1) (pre := [(0, 9, 12, 70)]) (x := (0, 9, 15, 15)) (suf := [(0, 9, 18, 13)]) rfl (fun z hz => by
            rcases List.mem_cons.mp hz with rfl | hz
            · exact ⟨eUO, by decide, CL_RL_70, by decide⟩
            cases hz) rfl (by decide) CL_RL_15 (Or.inr ⟨3, rfl, dL_least_15, rfl⟩) rfl (fun j v e1 e2 => ?_) ?_
      · obtain rfl : j = 2 := by omega
        cases e2; rfl
      · refine ev_blk (B := [(.iconst 2, 1)]) (pe := 17) (ls' := [some (.ref (0)), some (.int (a)), some (.ref (q)), none]) (st' := [.int (nI 2)]) ⟨dL_least_16, rfl⟩ rfl ?_
        refine ev_iret dL_least_17 rfl rfl ⟨Nat.le_of_ble_eq_true rfl, Nat.le_of_ble_eq_true rfl⟩ ?_
        rw [← show (sLe S a).1 = 2 from hp]
        exact HQ.x hq hg hR1 hF (by rw [hp]; decide)
    | 2, hp =>
      refine ev_catch (E := eIA) (k := 3) (len := 1) (pre := [(0, 9, 12, 70), (0, 9, 15, 15)]) (x := (0, 9, 18, 13)) (suf := []) rfl (fun z hz => by
            rcases List.mem_cons.mp hz with rfl | hz
            · exact ⟨eUO, by decide, CL_RL_70, by decide⟩
            rcases List.mem_cons.mp hz with rfl | hz
            · exact ⟨eIS, by decide, CL_RL_15, by decide⟩
            cases hz) rfl (by decide) CL_RL_13 (Or.inr ⟨3, rfl, dL_least_18, rfl⟩) rfl (fun j v e1 e2 => ?_) ?_
      · obtain rfl : j = 2 := by omega
        cases e2; rfl
      · refine ev_blk (B := [(.iconst 3, 1)]) (pe := 20) (ls' := [some (.ref (0)), some (.int (a)), some (.ref (q)), none]) (st' := [.int (nI 3)]) ⟨dL_least_19, rfl⟩ rfl ?_
        refine ev_iret dL_least_20 rfl rfl ⟨Nat.le_of_ble_eq_true rfl, Nat.le_of_ble_eq_true rfl⟩ ?_
        rw [← show (sLe S a).1 = 3 from hp]
        exact HQ.x hq hg hR1 hF (by rw [hp]; decide)
    | i + 3, hp => omega

set_option maxHeartbeats 4000000 in
set_option maxRecDepth 100000 in
theorem h_distance {l : Launch} (hl : l.stackTraces = false) {M : ev_M} (S : St) (hS : okS S) (hR : RCl M S) (q : Nat) (hq : 104 ≤ q) (g : Nat → Int64) (hg : M[q]? = some (.inl (1, 1, .inr (.inl g)))) : ev_Mt l m_L_distance [.ref (0), .ref (q)] M (HQ M q wL (sDi S) S) := by
  have hb : (sDi S).1 ≤ 2 := by
    unfold sDi
    refine gt_le ?_ (by decide)
    (repeat' split) <;> (first | exact Nat.zero_le _ | exact Nat.le_of_ble_eq_true rfl)
  refine ev_bodyH hl ⟨_, _, rfl⟩ (by decide +kernel) (Nat.le_of_ble_eq_true rfl) ?_
  show ev_ l m_L_distance 0 0 0 [some (.ref (0)), some (.ref (q)), none] [] M _
  refine ev_blk (B := [(.aload_n 1, 1), (.iconst 0, 1), (.aload_n 0, 1)]) (pe := 3) (ls' := [some (.ref (0)), some (.ref (q)), none]) (st' := [.ref (0), .int (nI 0), .ref (q)]) ⟨dL_distance_0, dL_distance_1, dL_distance_2, rfl⟩ rfl ?_
  refine ev_cVA (p := (sDi S)) Y_X10_distance L_RL_91 dL_distance_3 ⟨Nat.le_of_ble_eq_true rfl, Nat.le_of_ble_eq_true rfl, Nat.le_of_ble_eq_true rfl, Nat.le_of_ble_eq_true rfl, Nat.le_of_ble_eq_true rfl⟩ hR.1 (as := []) rfl rfl (c_X10_distance hl S hS hR) (fun M1 hB hp => ?_) (fun M1 i hB hp => ?_)
  · obtain ⟨hR1, hF⟩ := hB
    have hq1 := (hF.2 q (Or.inr hq)).trans hg
    refine ev_blk (B := [(.i2l, 1)]) (pe := 7) (ls' := [some (.ref (0)), some (.ref (q)), none]) (st' := [.long ((sDi S).2.toInt64), .int (nI 0), .ref (q)]) ⟨dL_distance_6, rfl⟩ rfl ?_
    refine ev_last dL_distance_7 hq1 (vp_in_nI (show 0 < 1 by omega) (by omega)) ?_
    rw [nI_clamp (show 0 < 2 ^ 31 by omega)]
    refine ev_goto (tgt := 17) dL_distance_8 (by decide) ?_
    refine ev_blk (B := [(.iconst 0, 1)]) (pe := 18) (ls' := [some (.ref (0)), some (.ref (q)), none]) (st' := [.int (nI 0)]) ⟨dL_distance_17, rfl⟩ rfl ?_
    refine ev_iret dL_distance_18 rfl rfl ⟨Nat.le_of_ble_eq_true rfl, Nat.le_of_ble_eq_true rfl⟩ ?_
    exact HQ.v hq hg hR1 hF hp rfl
  · obtain ⟨hR1, hF⟩ := hB
    match i, hp with
    | 0, hp =>
      refine ev_catch (E := eUO) (k := 2) (len := 1) (pre := []) (x := (0, 8, 11, 70)) (suf := [(0, 8, 14, 15)]) rfl (fun z hz => nomatch hz) rfl (by decide) CL_RL_70 (Or.inr ⟨2, rfl, dL_distance_11, rfl⟩) rfl (fun j v e1 e2 => ?_) ?_
      · obtain rfl : j = 1 := by omega
        cases e2; rfl
      · refine ev_blk (B := [(.iconst 1, 1)]) (pe := 13) (ls' := [some (.ref (0)), some (.ref (q)), none]) (st' := [.int (nI 1)]) ⟨dL_distance_12, rfl⟩ rfl ?_
        refine ev_iret dL_distance_13 rfl rfl ⟨Nat.le_of_ble_eq_true rfl, Nat.le_of_ble_eq_true rfl⟩ ?_
        rw [← show (sDi S).1 = 1 from hp]
        exact HQ.x hq hg hR1 hF (by rw [hp]; decide)
    | 1, hp =>
      refine ev_catch (E := eIS) (k := 2) (len := 1) (pre := [(0, 8, 11, 70)]) (x := (0, 8, 14, 15)) (suf := []) rfl (fun z hz => by
            rcases List.mem_cons.mp hz with rfl | hz
            · exact ⟨eUO, by decide, CL_RL_70, by decide⟩
            cases hz) rfl (by decide) CL_RL_15 (Or.inr ⟨2, rfl, dL_distance_14, rfl⟩) rfl (fun j v e1 e2 => ?_) ?_
      · obtain rfl : j = 1 := by omega
        cases e2; rfl
      · refine ev_blk (B := [(.iconst 2, 1)]) (pe := 16) (ls' := [some (.ref (0)), some (.ref (q)), none]) (st' := [.int (nI 2)]) ⟨dL_distance_15, rfl⟩ rfl ?_
        refine ev_iret dL_distance_16 rfl rfl ⟨Nat.le_of_ble_eq_true rfl, Nat.le_of_ble_eq_true rfl⟩ ?_
        rw [← show (sDi S).1 = 2 from hp]
        exact HQ.x hq hg hR1 hF (by rw [hp]; decide)
    | i + 2, hp => omega

set_option maxHeartbeats 4000000 in
set_option maxRecDepth 100000 in
theorem h_covering {l : Launch} (hl : l.stackTraces = false) {M : ev_M} (S : St) (hS : okS S) (hR : RCl M S) (a : Int32) (hW : walks S) (q : Nat) (hq : 104 ≤ q) (g : Nat → Int64) (hg : M[q]? = some (.inl (1, 1, .inr (.inl g)))) : ev_Mt l m_L_covering [.ref (0), .int (a), .ref (q)] M (HQ M q wL (sCv S a) S) := by
  have hb : (sCv S a).1 ≤ 3 := by
    unfold sCv
    refine gt_le ?_ (by decide)
    (repeat' split) <;> (first | exact Nat.zero_le _ | exact Nat.le_of_ble_eq_true rfl)
  refine ev_bodyH hl ⟨_, _, rfl⟩ (by decide +kernel) (Nat.le_of_ble_eq_true rfl) ?_
  show ev_ l m_L_covering 0 0 0 [some (.ref (0)), some (.int (a)), some (.ref (q)), none] [] M _
  refine ev_blk (B := [(.aload_n 2, 1), (.iconst 0, 1), (.aload_n 0, 1), (.iload_n 1, 1)]) (pe := 4) (ls' := [some (.ref (0)), some (.int (a)), some (.ref (q)), none]) (st' := [.int (a), .ref (0), .int (nI 0), .ref (q)]) ⟨dL_covering_0, dL_covering_1, dL_covering_2, dL_covering_3, rfl⟩ rfl ?_
  refine ev_cVA (p := (sCv S a)) Y_X10_covering L_RL_94 dL_covering_4 ⟨Nat.le_of_ble_eq_true rfl, Nat.le_of_ble_eq_true rfl, Nat.le_of_ble_eq_true rfl, Nat.le_of_ble_eq_true rfl, Nat.le_of_ble_eq_true rfl⟩ hR.1 (as := [.int (a)]) rfl rfl (c_X10_covering hl S hS hR a hW) (fun M1 hB hp => ?_) (fun M1 i hB hp => ?_)
  · obtain ⟨hR1, hF⟩ := hB
    have hq1 := (hF.2 q (Or.inr hq)).trans hg
    refine ev_blk (B := [(.i2l, 1)]) (pe := 8) (ls' := [some (.ref (0)), some (.int (a)), some (.ref (q)), none]) (st' := [.long ((sCv S a).2.toInt64), .int (nI 0), .ref (q)]) ⟨dL_covering_7, rfl⟩ rfl ?_
    refine ev_last dL_covering_8 hq1 (vp_in_nI (show 0 < 1 by omega) (by omega)) ?_
    rw [nI_clamp (show 0 < 2 ^ 31 by omega)]
    refine ev_goto (tgt := 21) dL_covering_9 (by decide) ?_
    refine ev_blk (B := [(.iconst 0, 1)]) (pe := 22) (ls' := [some (.ref (0)), some (.int (a)), some (.ref (q)), none]) (st' := [.int (nI 0)]) ⟨dL_covering_21, rfl⟩ rfl ?_
    refine ev_iret dL_covering_22 rfl rfl ⟨Nat.le_of_ble_eq_true rfl, Nat.le_of_ble_eq_true rfl⟩ ?_
    exact HQ.v hq hg hR1 hF hp rfl
  · obtain ⟨hR1, hF⟩ := hB
    match i, hp with
    | 0, hp =>
      refine ev_catch (E := eUO) (k := 3) (len := 1) (pre := []) (x := (0, 9, 12, 70)) (suf := [(0, 9, 15, 15), (0, 9, 18, 42)]) rfl (fun z hz => nomatch hz) rfl (by decide) CL_RL_70 (Or.inr ⟨3, rfl, dL_covering_12, rfl⟩) rfl (fun j v e1 e2 => ?_) ?_
      · obtain rfl : j = 2 := by omega
        cases e2; rfl
      · refine ev_blk (B := [(.iconst 1, 1)]) (pe := 14) (ls' := [some (.ref (0)), some (.int (a)), some (.ref (q)), none]) (st' := [.int (nI 1)]) ⟨dL_covering_13, rfl⟩ rfl ?_
        refine ev_iret dL_covering_14 rfl rfl ⟨Nat.le_of_ble_eq_true rfl, Nat.le_of_ble_eq_true rfl⟩ ?_
        rw [← show (sCv S a).1 = 1 from hp]
        exact HQ.x hq hg hR1 hF (by rw [hp]; decide)
    | 1, hp =>
      refine ev_catch (E := eIS) (k := 3) (len := 1) (pre := [(0, 9, 12, 70)]) (x := (0, 9, 15, 15)) (suf := [(0, 9, 18, 42)]) rfl (fun z hz => by
            rcases List.mem_cons.mp hz with rfl | hz
            · exact ⟨eUO, by decide, CL_RL_70, by decide⟩
            cases hz) rfl (by decide) CL_RL_15 (Or.inr ⟨3, rfl, dL_covering_15, rfl⟩) rfl (fun j v e1 e2 => ?_) ?_
      · obtain rfl : j = 2 := by omega
        cases e2; rfl
      · refine ev_blk (B := [(.iconst 2, 1)]) (pe := 17) (ls' := [some (.ref (0)), some (.int (a)), some (.ref (q)), none]) (st' := [.int (nI 2)]) ⟨dL_covering_16, rfl⟩ rfl ?_
        refine ev_iret dL_covering_17 rfl rfl ⟨Nat.le_of_ble_eq_true rfl, Nat.le_of_ble_eq_true rfl⟩ ?_
        rw [← show (sCv S a).1 = 2 from hp]
        exact HQ.x hq hg hR1 hF (by rw [hp]; decide)
    | 2, hp =>
      refine ev_catch (E := eNS) (k := 3) (len := 1) (pre := [(0, 9, 12, 70), (0, 9, 15, 15)]) (x := (0, 9, 18, 42)) (suf := []) rfl (fun z hz => by
            rcases List.mem_cons.mp hz with rfl | hz
            · exact ⟨eUO, by decide, CL_RL_70, by decide⟩
            rcases List.mem_cons.mp hz with rfl | hz
            · exact ⟨eIS, by decide, CL_RL_15, by decide⟩
            cases hz) rfl (by decide) CL_RL_42 (Or.inr ⟨3, rfl, dL_covering_18, rfl⟩) rfl (fun j v e1 e2 => ?_) ?_
      · obtain rfl : j = 2 := by omega
        cases e2; rfl
      · refine ev_blk (B := [(.iconst 3, 1)]) (pe := 20) (ls' := [some (.ref (0)), some (.int (a)), some (.ref (q)), none]) (st' := [.int (nI 3)]) ⟨dL_covering_19, rfl⟩ rfl ?_
        refine ev_iret dL_covering_20 rfl rfl ⟨Nat.le_of_ble_eq_true rfl, Nat.le_of_ble_eq_true rfl⟩ ?_
        rw [← show (sCv S a).1 = 3 from hp]
        exact HQ.x hq hg hR1 hF (by rw [hp]; decide)
    | i + 3, hp => omega

set_option maxHeartbeats 4000000 in
set_option maxRecDepth 100000 in
theorem h_lost {l : Launch} (hl : l.stackTraces = false) {M : ev_M} (S : St) (hS : okS S) (hR : RCl M S) (a : Int32) (hW : walks S) (q : Nat) (hq : 104 ≤ q) (g : Nat → Int64) (hg : M[q]? = some (.inl (1, 1, .inr (.inl g)))) : ev_Mt l m_L_lost [.ref (0), .int (a), .ref (q)] M (HQ M q wL (sLo S a) S) := by
  have hb : (sLo S a).1 ≤ 3 := by
    unfold sLo
    refine gt_le ?_ (by decide)
    (repeat' split) <;> (first | exact Nat.zero_le _ | exact Nat.le_of_ble_eq_true rfl)
  refine ev_bodyH hl ⟨_, _, rfl⟩ (by decide +kernel) (Nat.le_of_ble_eq_true rfl) ?_
  show ev_ l m_L_lost 0 0 0 [some (.ref (0)), some (.int (a)), some (.ref (q)), none] [] M _
  refine ev_blk (B := [(.aload_n 2, 1), (.iconst 0, 1), (.aload_n 0, 1), (.iload_n 1, 1)]) (pe := 4) (ls' := [some (.ref (0)), some (.int (a)), some (.ref (q)), none]) (st' := [.int (a), .ref (0), .int (nI 0), .ref (q)]) ⟨dL_lost_0, dL_lost_1, dL_lost_2, dL_lost_3, rfl⟩ rfl ?_
  refine ev_cVA (p := (sLo S a)) Y_X10_lost L_RL_97 dL_lost_4 ⟨Nat.le_of_ble_eq_true rfl, Nat.le_of_ble_eq_true rfl, Nat.le_of_ble_eq_true rfl, Nat.le_of_ble_eq_true rfl, Nat.le_of_ble_eq_true rfl⟩ hR.1 (as := [.int (a)]) rfl rfl (c_X10_lost hl S hS hR a hW) (fun M1 hB hp => ?_) (fun M1 i hB hp => ?_)
  · obtain ⟨hR1, hF⟩ := hB
    have hq1 := (hF.2 q (Or.inr hq)).trans hg
    refine ev_blk (B := [(.i2l, 1)]) (pe := 8) (ls' := [some (.ref (0)), some (.int (a)), some (.ref (q)), none]) (st' := [.long ((sLo S a).2.toInt64), .int (nI 0), .ref (q)]) ⟨dL_lost_7, rfl⟩ rfl ?_
    refine ev_last dL_lost_8 hq1 (vp_in_nI (show 0 < 1 by omega) (by omega)) ?_
    rw [nI_clamp (show 0 < 2 ^ 31 by omega)]
    refine ev_goto (tgt := 21) dL_lost_9 (by decide) ?_
    refine ev_blk (B := [(.iconst 0, 1)]) (pe := 22) (ls' := [some (.ref (0)), some (.int (a)), some (.ref (q)), none]) (st' := [.int (nI 0)]) ⟨dL_lost_21, rfl⟩ rfl ?_
    refine ev_iret dL_lost_22 rfl rfl ⟨Nat.le_of_ble_eq_true rfl, Nat.le_of_ble_eq_true rfl⟩ ?_
    exact HQ.v hq hg hR1 hF hp rfl
  · obtain ⟨hR1, hF⟩ := hB
    match i, hp with
    | 0, hp =>
      refine ev_catch (E := eUO) (k := 3) (len := 1) (pre := []) (x := (0, 9, 12, 70)) (suf := [(0, 9, 15, 15), (0, 9, 18, 42)]) rfl (fun z hz => nomatch hz) rfl (by decide) CL_RL_70 (Or.inr ⟨3, rfl, dL_lost_12, rfl⟩) rfl (fun j v e1 e2 => ?_) ?_
      · obtain rfl : j = 2 := by omega
        cases e2; rfl
      · refine ev_blk (B := [(.iconst 1, 1)]) (pe := 14) (ls' := [some (.ref (0)), some (.int (a)), some (.ref (q)), none]) (st' := [.int (nI 1)]) ⟨dL_lost_13, rfl⟩ rfl ?_
        refine ev_iret dL_lost_14 rfl rfl ⟨Nat.le_of_ble_eq_true rfl, Nat.le_of_ble_eq_true rfl⟩ ?_
        rw [← show (sLo S a).1 = 1 from hp]
        exact HQ.x hq hg hR1 hF (by rw [hp]; decide)
    | 1, hp =>
      refine ev_catch (E := eIS) (k := 3) (len := 1) (pre := [(0, 9, 12, 70)]) (x := (0, 9, 15, 15)) (suf := [(0, 9, 18, 42)]) rfl (fun z hz => by
            rcases List.mem_cons.mp hz with rfl | hz
            · exact ⟨eUO, by decide, CL_RL_70, by decide⟩
            cases hz) rfl (by decide) CL_RL_15 (Or.inr ⟨3, rfl, dL_lost_15, rfl⟩) rfl (fun j v e1 e2 => ?_) ?_
      · obtain rfl : j = 2 := by omega
        cases e2; rfl
      · refine ev_blk (B := [(.iconst 2, 1)]) (pe := 17) (ls' := [some (.ref (0)), some (.int (a)), some (.ref (q)), none]) (st' := [.int (nI 2)]) ⟨dL_lost_16, rfl⟩ rfl ?_
        refine ev_iret dL_lost_17 rfl rfl ⟨Nat.le_of_ble_eq_true rfl, Nat.le_of_ble_eq_true rfl⟩ ?_
        rw [← show (sLo S a).1 = 2 from hp]
        exact HQ.x hq hg hR1 hF (by rw [hp]; decide)
    | 2, hp =>
      refine ev_catch (E := eNS) (k := 3) (len := 1) (pre := [(0, 9, 12, 70), (0, 9, 15, 15)]) (x := (0, 9, 18, 42)) (suf := []) rfl (fun z hz => by
            rcases List.mem_cons.mp hz with rfl | hz
            · exact ⟨eUO, by decide, CL_RL_70, by decide⟩
            rcases List.mem_cons.mp hz with rfl | hz
            · exact ⟨eIS, by decide, CL_RL_15, by decide⟩
            cases hz) rfl (by decide) CL_RL_42 (Or.inr ⟨3, rfl, dL_lost_18, rfl⟩) rfl (fun j v e1 e2 => ?_) ?_
      · obtain rfl : j = 2 := by omega
        cases e2; rfl
      · refine ev_blk (B := [(.iconst 3, 1)]) (pe := 20) (ls' := [some (.ref (0)), some (.int (a)), some (.ref (q)), none]) (st' := [.int (nI 3)]) ⟨dL_lost_19, rfl⟩ rfl ?_
        refine ev_iret dL_lost_20 rfl rfl ⟨Nat.le_of_ble_eq_true rfl, Nat.le_of_ble_eq_true rfl⟩ ?_
        rw [← show (sLo S a).1 = 3 from hp]
        exact HQ.x hq hg hR1 hF (by rw [hp]; decide)
    | i + 3, hp => omega

set_option maxHeartbeats 4000000 in
set_option maxRecDepth 100000 in
theorem h_statesAfter {l : Launch} (hl : l.stackTraces = false) {M : ev_M} (S : St) (hS : okS S) (hR : RCl M S) (a : Int32) (q : Nat) (hq : 104 ≤ q) (g : Nat → Int64) (hg : M[q]? = some (.inl (1, 1, .inr (.inl g)))) : ev_Mt l m_L_statesAfter [.ref (0), .int (a), .ref (q)] M (HQ M q wL (sAft S a) S) := by
  have hb : (sAft S a).1 ≤ 1 := by
    unfold sAft
    (repeat' split) <;> (first | exact Nat.zero_le _ | exact Nat.le_of_ble_eq_true rfl)
  refine ev_bodyH hl ⟨_, _, rfl⟩ (by decide +kernel) (Nat.le_of_ble_eq_true rfl) ?_
  show ev_ l m_L_statesAfter 0 0 0 [some (.ref (0)), some (.int (a)), some (.ref (q)), none] [] M _
  refine ev_blk (B := [(.aload_n 2, 1), (.iconst 0, 1), (.aload_n 0, 1), (.iload_n 1, 1)]) (pe := 4) (ls' := [some (.ref (0)), some (.int (a)), some (.ref (q)), none]) (st' := [.int (a), .ref (0), .int (nI 0), .ref (q)]) ⟨dL_statesAfter_0, dL_statesAfter_1, dL_statesAfter_2, dL_statesAfter_3, rfl⟩ rfl ?_
  refine ev_cVA (p := (sAft S a)) Y_X10_statesAfter L_RL_100 dL_statesAfter_4 ⟨Nat.le_of_ble_eq_true rfl, Nat.le_of_ble_eq_true rfl, Nat.le_of_ble_eq_true rfl, Nat.le_of_ble_eq_true rfl, Nat.le_of_ble_eq_true rfl⟩ hR.1 (as := [.int (a)]) rfl rfl (c_X10_statesAfter hl S hS hR a) (fun M1 hB hp => ?_) (fun M1 i hB hp => ?_)
  · obtain ⟨hR1, hF⟩ := hB
    have hq1 := (hF.2 q (Or.inr hq)).trans hg
    refine ev_blk (B := [(.i2l, 1)]) (pe := 8) (ls' := [some (.ref (0)), some (.int (a)), some (.ref (q)), none]) (st' := [.long ((sAft S a).2.toInt64), .int (nI 0), .ref (q)]) ⟨dL_statesAfter_7, rfl⟩ rfl ?_
    refine ev_last dL_statesAfter_8 hq1 (vp_in_nI (show 0 < 1 by omega) (by omega)) ?_
    rw [nI_clamp (show 0 < 2 ^ 31 by omega)]
    refine ev_goto (tgt := 15) dL_statesAfter_9 (by decide) ?_
    refine ev_blk (B := [(.iconst 0, 1)]) (pe := 16) (ls' := [some (.ref (0)), some (.int (a)), some (.ref (q)), none]) (st' := [.int (nI 0)]) ⟨dL_statesAfter_15, rfl⟩ rfl ?_
    refine ev_iret dL_statesAfter_16 rfl rfl ⟨Nat.le_of_ble_eq_true rfl, Nat.le_of_ble_eq_true rfl⟩ ?_
    exact HQ.v hq hg hR1 hF hp rfl
  · obtain ⟨hR1, hF⟩ := hB
    match i, hp with
    | 0, hp =>
      refine ev_catch (E := eIA) (k := 3) (len := 1) (pre := []) (x := (0, 9, 12, 13)) (suf := []) rfl (fun z hz => nomatch hz) rfl (by decide) CL_RL_13 (Or.inr ⟨3, rfl, dL_statesAfter_12, rfl⟩) rfl (fun j v e1 e2 => ?_) ?_
      · obtain rfl : j = 2 := by omega
        cases e2; rfl
      · refine ev_blk (B := [(.iconst 1, 1)]) (pe := 14) (ls' := [some (.ref (0)), some (.int (a)), some (.ref (q)), none]) (st' := [.int (nI 1)]) ⟨dL_statesAfter_13, rfl⟩ rfl ?_
        refine ev_iret dL_statesAfter_14 rfl rfl ⟨Nat.le_of_ble_eq_true rfl, Nat.le_of_ble_eq_true rfl⟩ ?_
        rw [← show (sAft S a).1 = 1 from hp]
        exact HQ.x hq hg hR1 hF (by rw [hp]; decide)
    | i + 1, hp => omega

set_option maxHeartbeats 4000000 in
set_option maxRecDepth 100000 in
theorem h_isLast {l : Launch} (hl : l.stackTraces = false) {M : ev_M} (S : St) (hS : okS S) (hR : RCl M S) (a : Int32) (b : Int32) (q : Nat) (hq : 104 ≤ q) (g : Nat → Int64) (hg : M[q]? = some (.inl (1, 1, .inr (.inl g)))) : ev_Mt l m_L_isLast [.ref (0), .int (a), .int (b), .ref (q)] M (HQ M q wZ (sLas S a b) S) := by
  have hb : (sLas S a b).1 ≤ 2 := by
    unfold sLas
    (repeat' split) <;> (first | exact Nat.zero_le _ | exact Nat.le_of_ble_eq_true rfl)
  refine ev_bodyH hl ⟨_, _, rfl⟩ (by decide +kernel) (Nat.le_of_ble_eq_true rfl) ?_
  show ev_ l m_L_isLast 0 0 0 [some (.ref (0)), some (.int (a)), some (.int (b)), some (.ref (q)), none] [] M _
  refine ev_blk (B := [(.aload_n 3, 1), (.iconst 0, 1), (.aload_n 0, 1), (.iload_n 1, 1), (.iload_n 2, 1)]) (pe := 5) (ls' := [some (.ref (0)), some (.int (a)), some (.int (b)), some (.ref (q)), none]) (st' := [.int (b), .int (a), .ref (0), .int (nI 0), .ref (q)]) ⟨dL_isLast_0, dL_isLast_1, dL_isLast_2, dL_isLast_3, dL_isLast_4, rfl⟩ rfl ?_
  refine ev_cVA (p := (sLas S a b)) Y_X10_isLast L_RL_103 dL_isLast_5 ⟨Nat.le_of_ble_eq_true rfl, Nat.le_of_ble_eq_true rfl, Nat.le_of_ble_eq_true rfl, Nat.le_of_ble_eq_true rfl, Nat.le_of_ble_eq_true rfl⟩ hR.1 (as := [.int (a), .int (b)]) rfl rfl (c_X10_isLast hl S hS hR a b) (fun M1 hB hp => ?_) (fun M1 i hB hp => ?_)
  · obtain ⟨hR1, hF⟩ := hB
    have hq1 := (hF.2 q (Or.inr hq)).trans hg
    refine ev_if_eq dL_isLast_8 (tgt := 15) (by decide) (fun z => ?_) (fun z => ?_)
    · refine ev_blk (B := [(.lconst 0, 1)]) (pe := 16) (ls' := [some (.ref (0)), some (.int (a)), some (.int (b)), some (.ref (q)), none]) (st' := [.long 0, .int (nI 0), .ref (q)]) ⟨dL_isLast_15, rfl⟩ rfl ?_
      refine ev_last dL_isLast_16 hq1 (vp_in_nI (show 0 < 1 by omega) (by omega)) ?_
      rw [nI_clamp (show 0 < 2 ^ 31 by omega)]
      refine ev_goto (tgt := 28) dL_isLast_17 (by decide) ?_
      refine ev_blk (B := [(.iconst 0, 1)]) (pe := 29) (ls' := [some (.ref (0)), some (.int (a)), some (.int (b)), some (.ref (q)), none]) (st' := [.int (nI 0)]) ⟨dL_isLast_28, rfl⟩ rfl ?_
      refine ev_iret dL_isLast_29 rfl rfl ⟨Nat.le_of_ble_eq_true rfl, Nat.le_of_ble_eq_true rfl⟩ ?_
      exact HQ.v hq hg hR1 hF hp (by unfold wZ; rw [if_pos z])
    · refine ev_blk (B := [(.lconst 1, 1)]) (pe := 12) (ls' := [some (.ref (0)), some (.int (a)), some (.int (b)), some (.ref (q)), none]) (st' := [.long 1, .int (nI 0), .ref (q)]) ⟨dL_isLast_11, rfl⟩ rfl ?_
      refine ev_goto (tgt := 16) dL_isLast_12 (by decide) ?_
      refine ev_last dL_isLast_16 hq1 (vp_in_nI (show 0 < 1 by omega) (by omega)) ?_
      rw [nI_clamp (show 0 < 2 ^ 31 by omega)]
      refine ev_goto (tgt := 28) dL_isLast_17 (by decide) ?_
      refine ev_blk (B := [(.iconst 0, 1)]) (pe := 29) (ls' := [some (.ref (0)), some (.int (a)), some (.int (b)), some (.ref (q)), none]) (st' := [.int (nI 0)]) ⟨dL_isLast_28, rfl⟩ rfl ?_
      refine ev_iret dL_isLast_29 rfl rfl ⟨Nat.le_of_ble_eq_true rfl, Nat.le_of_ble_eq_true rfl⟩ ?_
      exact HQ.v hq hg hR1 hF hp (by unfold wZ; rw [if_neg z])
  · obtain ⟨hR1, hF⟩ := hB
    match i, hp with
    | 0, hp =>
      refine ev_catch (E := eIB) (k := 4) (len := 2) (pre := []) (x := (0, 17, 20, 21)) (suf := [(0, 17, 24, 13)]) rfl (fun z hz => nomatch hz) rfl (by decide) CL_RL_21 (Or.inl ⟨dL_isLast_20, rfl⟩) rfl (fun j v e1 e2 => ?_) ?_
      · obtain rfl : j = 3 := by omega
        cases e2; rfl
      · refine ev_blk (B := [(.iconst 1, 1)]) (pe := 23) (ls' := [some (.ref (0)), some (.int (a)), some (.int (b)), some (.ref (q)), none]) (st' := [.int (nI 1)]) ⟨dL_isLast_22, rfl⟩ rfl ?_
        refine ev_iret dL_isLast_23 rfl rfl ⟨Nat.le_of_ble_eq_true rfl, Nat.le_of_ble_eq_true rfl⟩ ?_
        rw [← show (sLas S a b).1 = 1 from hp]
        exact HQ.x hq hg hR1 hF (by rw [hp]; decide)
    | 1, hp =>
      refine ev_catch (E := eIA) (k := 4) (len := 2) (pre := [(0, 17, 20, 21)]) (x := (0, 17, 24, 13)) (suf := []) rfl (fun z hz => by
            rcases List.mem_cons.mp hz with rfl | hz
            · exact ⟨eIB, by decide, CL_RL_21, by decide⟩
            cases hz) rfl (by decide) CL_RL_13 (Or.inl ⟨dL_isLast_24, rfl⟩) rfl (fun j v e1 e2 => ?_) ?_
      · obtain rfl : j = 3 := by omega
        cases e2; rfl
      · refine ev_blk (B := [(.iconst 2, 1)]) (pe := 27) (ls' := [some (.ref (0)), some (.int (a)), some (.int (b)), some (.ref (q)), none]) (st' := [.int (nI 2)]) ⟨dL_isLast_26, rfl⟩ rfl ?_
        refine ev_iret dL_isLast_27 rfl rfl ⟨Nat.le_of_ble_eq_true rfl, Nat.le_of_ble_eq_true rfl⟩ ?_
        rw [← show (sLas S a b).1 = 2 from hp]
        exact HQ.x hq hg hR1 hF (by rw [hp]; decide)
    | i + 2, hp => omega

set_option maxHeartbeats 4000000 in
set_option maxRecDepth 100000 in
theorem h_append {l : Launch} (hl : l.stackTraces = false) {M : ev_M} (S : St) (hS : okS S) (hR : RCl M S) (c : Nat) (hc : c < 65536) : ev_Mt l m_L_append [.ref (0), .int (nI c)] M (HV M (sApp S c).1 (sApp S c).2) := by
  have hb : (sApp S c).1 ≤ 1 := by
    unfold sApp
    (repeat' split) <;> (first | exact Nat.zero_le _ | exact Nat.le_of_ble_eq_true rfl)
  refine ev_bodyH hl ⟨_, _, rfl⟩ (by decide +kernel) (Nat.le_of_ble_eq_true rfl) ?_
  show ev_ l m_L_append 0 0 0 [some (.ref (0)), some (.int (nI c)), none] [] M _
  refine ev_blk (B := [(.aload_n 0, 1), (.iload_n 1, 1)]) (pe := 2) (ls' := [some (.ref (0)), some (.int (nI c)), none]) (st' := [.int (nI c), .ref (0)]) ⟨dL_append_0, dL_append_1, rfl⟩ rfl ?_
  refine ev_cVV (p := (sApp S c).1) Y_X10_append L_RL_107 dL_append_2 ⟨Nat.le_of_ble_eq_true rfl, Nat.le_of_ble_eq_true rfl, Nat.le_of_ble_eq_true rfl, Nat.le_of_ble_eq_true rfl, Nat.le_of_ble_eq_true rfl⟩ hR.1 (as := [.int (nI c)]) rfl rfl (c_X10_append hl S hS hR c hc) (fun M1 hB hp => ?_) (fun M1 i hB hp => ?_)
  · obtain ⟨hR1, hF⟩ := hB
    refine ev_goto (tgt := 11) dL_append_5 (by decide) ?_
    refine ev_blk (B := [(.iconst 0, 1)]) (pe := 12) (ls' := [some (.ref (0)), some (.int (nI c)), none]) (st' := [.int (nI 0)]) ⟨dL_append_11, rfl⟩ rfl ?_
    refine ev_iret dL_append_12 rfl rfl ⟨Nat.le_of_ble_eq_true rfl, Nat.le_of_ble_eq_true rfl⟩ ?_
    exact ⟨by rw [hp], hR1, hF⟩
  · obtain ⟨hR1, hF⟩ := hB
    match i, hp with
    | 0, hp =>
      refine ev_catch (E := eIS) (k := 2) (len := 1) (pre := []) (x := (0, 5, 8, 15)) (suf := []) rfl (fun z hz => nomatch hz) rfl (by decide) CL_RL_15 (Or.inr ⟨2, rfl, dL_append_8, rfl⟩) rfl (fun j v e1 e2 => ?_) ?_
      · obtain rfl : j = 1 := by omega
        cases e2; rfl
      · refine ev_blk (B := [(.iconst 1, 1)]) (pe := 10) (ls' := [some (.ref (0)), some (.int (nI c)), none]) (st' := [.int (nI 1)]) ⟨dL_append_9, rfl⟩ rfl ?_
        refine ev_iret dL_append_10 rfl rfl ⟨Nat.le_of_ble_eq_true rfl, Nat.le_of_ble_eq_true rfl⟩ ?_
        exact ⟨by rw [hp], hR1, hF⟩
    | i + 1, hp => omega

set_option maxHeartbeats 4000000 in
set_option maxRecDepth 100000 in
theorem h_read {l : Launch} (hl : l.stackTraces = false) {M : ev_M} (S : St) (hS : okS S) (hR : RCl M S) (q : Nat) (hq : 104 ≤ q) (g : Nat → Int64) (hg : M[q]? = some (.inl (1, 1, .inr (.inl g)))) : ev_Mt l m_L_read [.ref (0), .ref (q)] M (HQ M q wL (sRea S).1 (sRea S).2) := by
  have hb : (sRea S).1.1 ≤ 2 := by
    unfold sRea
    (repeat' split) <;> (first | exact Nat.zero_le _ | exact Nat.le_of_ble_eq_true rfl)
  refine ev_bodyH hl ⟨_, _, rfl⟩ (by decide +kernel) (Nat.le_of_ble_eq_true rfl) ?_
  show ev_ l m_L_read 0 0 0 [some (.ref (0)), some (.ref (q)), none] [] M _
  refine ev_blk (B := [(.aload_n 1, 1), (.iconst 0, 1), (.aload_n 0, 1)]) (pe := 3) (ls' := [some (.ref (0)), some (.ref (q)), none]) (st' := [.ref (0), .int (nI 0), .ref (q)]) ⟨dL_read_0, dL_read_1, dL_read_2, rfl⟩ rfl ?_
  refine ev_cVA (p := (sRea S).1) Y_X10_read L_RL_111 dL_read_3 ⟨Nat.le_of_ble_eq_true rfl, Nat.le_of_ble_eq_true rfl, Nat.le_of_ble_eq_true rfl, Nat.le_of_ble_eq_true rfl, Nat.le_of_ble_eq_true rfl⟩ hR.1 (as := []) rfl rfl (c_X10_read hl S hS hR) (fun M1 hB hp => ?_) (fun M1 i hB hp => ?_)
  · obtain ⟨hR1, hF⟩ := hB
    have hq1 := (hF.2 q (Or.inr hq)).trans hg
    refine ev_blk (B := [(.i2l, 1)]) (pe := 7) (ls' := [some (.ref (0)), some (.ref (q)), none]) (st' := [.long ((sRea S).1.2.toInt64), .int (nI 0), .ref (q)]) ⟨dL_read_6, rfl⟩ rfl ?_
    refine ev_last dL_read_7 hq1 (vp_in_nI (show 0 < 1 by omega) (by omega)) ?_
    rw [nI_clamp (show 0 < 2 ^ 31 by omega)]
    refine ev_goto (tgt := 17) dL_read_8 (by decide) ?_
    refine ev_blk (B := [(.iconst 0, 1)]) (pe := 18) (ls' := [some (.ref (0)), some (.ref (q)), none]) (st' := [.int (nI 0)]) ⟨dL_read_17, rfl⟩ rfl ?_
    refine ev_iret dL_read_18 rfl rfl ⟨Nat.le_of_ble_eq_true rfl, Nat.le_of_ble_eq_true rfl⟩ ?_
    exact HQ.v hq hg hR1 hF hp rfl
  · obtain ⟨hR1, hF⟩ := hB
    match i, hp with
    | 0, hp =>
      refine ev_catch (E := eIA) (k := 2) (len := 1) (pre := []) (x := (0, 8, 11, 13)) (suf := [(0, 8, 14, 15)]) rfl (fun z hz => nomatch hz) rfl (by decide) CL_RL_13 (Or.inr ⟨2, rfl, dL_read_11, rfl⟩) rfl (fun j v e1 e2 => ?_) ?_
      · obtain rfl : j = 1 := by omega
        cases e2; rfl
      · refine ev_blk (B := [(.iconst 1, 1)]) (pe := 13) (ls' := [some (.ref (0)), some (.ref (q)), none]) (st' := [.int (nI 1)]) ⟨dL_read_12, rfl⟩ rfl ?_
        refine ev_iret dL_read_13 rfl rfl ⟨Nat.le_of_ble_eq_true rfl, Nat.le_of_ble_eq_true rfl⟩ ?_
        rw [← show (sRea S).1.1 = 1 from hp]
        exact HQ.x hq hg hR1 hF (by rw [hp]; decide)
    | 1, hp =>
      refine ev_catch (E := eIS) (k := 2) (len := 1) (pre := [(0, 8, 11, 13)]) (x := (0, 8, 14, 15)) (suf := []) rfl (fun z hz => by
            rcases List.mem_cons.mp hz with rfl | hz
            · exact ⟨eIA, by decide, CL_RL_13, by decide⟩
            cases hz) rfl (by decide) CL_RL_15 (Or.inr ⟨2, rfl, dL_read_14, rfl⟩) rfl (fun j v e1 e2 => ?_) ?_
      · obtain rfl : j = 1 := by omega
        cases e2; rfl
      · refine ev_blk (B := [(.iconst 2, 1)]) (pe := 16) (ls' := [some (.ref (0)), some (.ref (q)), none]) (st' := [.int (nI 2)]) ⟨dL_read_15, rfl⟩ rfl ?_
        refine ev_iret dL_read_16 rfl rfl ⟨Nat.le_of_ble_eq_true rfl, Nat.le_of_ble_eq_true rfl⟩ ?_
        rw [← show (sRea S).1.1 = 2 from hp]
        exact HQ.x hq hg hR1 hF (by rw [hp]; decide)
    | i + 2, hp => omega

set_option maxHeartbeats 4000000 in
set_option maxRecDepth 100000 in
theorem h_restore {l : Launch} (hl : l.stackTraces = false) {M : ev_M} (S : St) (hS : okS S) (hR : RCl M S) : ev_Mt l m_L_restore [.ref (0)] M (HV M (sRes S).1 (sRes S).2) := by
  have hb : (sRes S).1 ≤ 1 := by
    unfold sRes
    (repeat' split) <;> (first | exact Nat.zero_le _ | exact Nat.le_of_ble_eq_true rfl)
  refine ev_bodyH hl ⟨_, _, rfl⟩ (by decide +kernel) (Nat.le_of_ble_eq_true rfl) ?_
  show ev_ l m_L_restore 0 0 0 [some (.ref (0)), none] [] M _
  refine ev_blk (B := [(.aload_n 0, 1)]) (pe := 1) (ls' := [some (.ref (0)), none]) (st' := [.ref (0)]) ⟨dL_restore_0, rfl⟩ rfl ?_
  refine ev_cVV (p := (sRes S).1) Y_X10_restore L_RL_114 dL_restore_1 ⟨Nat.le_of_ble_eq_true rfl, Nat.le_of_ble_eq_true rfl, Nat.le_of_ble_eq_true rfl, Nat.le_of_ble_eq_true rfl, Nat.le_of_ble_eq_true rfl⟩ hR.1 (as := []) rfl rfl (c_X10_restore hl S hS hR) (fun M1 hB hp => ?_) (fun M1 i hB hp => ?_)
  · obtain ⟨hR1, hF⟩ := hB
    refine ev_goto (tgt := 10) dL_restore_4 (by decide) ?_
    refine ev_blk (B := [(.iconst 0, 1)]) (pe := 11) (ls' := [some (.ref (0)), none]) (st' := [.int (nI 0)]) ⟨dL_restore_10, rfl⟩ rfl ?_
    refine ev_iret dL_restore_11 rfl rfl ⟨Nat.le_of_ble_eq_true rfl, Nat.le_of_ble_eq_true rfl⟩ ?_
    exact ⟨by rw [hp], hR1, hF⟩
  · obtain ⟨hR1, hF⟩ := hB
    match i, hp with
    | 0, hp =>
      refine ev_catch (E := eIS) (k := 1) (len := 1) (pre := []) (x := (0, 4, 7, 15)) (suf := []) rfl (fun z hz => nomatch hz) rfl (by decide) CL_RL_15 (Or.inr ⟨1, rfl, dL_restore_7, rfl⟩) rfl (fun j v e1 e2 => ?_) ?_
      · obtain rfl : j = 0 := by omega
        cases e2; rfl
      · refine ev_blk (B := [(.iconst 1, 1)]) (pe := 9) (ls' := [some (.ref (0)), none]) (st' := [.int (nI 1)]) ⟨dL_restore_8, rfl⟩ rfl ?_
        refine ev_iret dL_restore_9 rfl rfl ⟨Nat.le_of_ble_eq_true rfl, Nat.le_of_ble_eq_true rfl⟩ ?_
        exact ⟨by rw [hp], hR1, hF⟩
    | i + 1, hp => omega

