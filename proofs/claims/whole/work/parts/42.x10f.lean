theorem i32_le {a : Int32} {n : Nat} (h : a ≤ nI n) (hn : n < 2 ^ 30) : a < nI (n + 1) := Int32.lt_of_le_of_lt h (nI_lt (Nat.lt_succ_self n) (by omega))
def walks (S : St) : Prop := ∀ d, dN S = some d → ∀ i, i < d → wo S.T (bl S.T S.G (d - 1 - i)) (wsq S.T (bl S.T S.G) d (S.x, 0, 0) i).1 ≠ none
theorem wst_1 {T : List Tr} {L : List Cf} {s s' : Cf × Nat × Nat} (h : s.1 = s'.1) : (wst T L s).1 = (wst T L s').1 := by
  cases hw : wo T L s'.1 with
  | none => rw [wst_none (h ▸ hw), wst_none hw]; exact h
  | some t => rw [wst_some (h ▸ hw), wst_some hw, h]
theorem wsq_1 {T : List Tr} {B : Nat → List Cf} {d : Nat} {x : Cf} {tr lo : Nat} (i : Nat) : (wsq T B d (x, tr, lo) i).1 = (wsq T B d (x, 0, 0) i).1 := by
  induction i with
  | zero => rfl
  | succ i ih => exact wst_1 ih
theorem wsq_any {T : List Tr} {B : Nat → List Cf} {d : Nat} {x : Cf} {tr lo : Nat} {i : Nat} (h : wo T (B (d - 1 - i)) (wsq T B d (x, 0, 0) i).1 ≠ none) : wsq T B d (x, tr, lo) (i + 1) = wsq T B d (x, 0, 0) (i + 1) := by
  show wst T (B (d - 1 - i)) (wsq T B d (x, tr, lo) i) = wst T (B (d - 1 - i)) (wsq T B d (x, 0, 0) i)
  cases hw : wo T (B (d - 1 - i)) (wsq T B d (x, 0, 0) i).1 with
  | none => exact absurd hw h
  | some t => rw [wst_some hw, wst_some (by rw [wsq_1]; exact hw), wsq_1]
def sCv (S : St) (a : Int32) : Nat × Int32 := gt S (match dN S with
  | none => (3, 0)
  | some d => if inR a d = false then (3, 0) else (0, nI (wsq S.T (bl S.T S.G) d (S.x, 0, 0) (tN a + 1)).2.1))
def sLo (S : St) (a : Int32) : Nat × Int32 := gt S (match dN S with
  | none => (3, 0)
  | some d => if inR a d = false then (3, 0) else (0, nI (wsq S.T (bl S.T S.G) d (S.x, 0, 0) (tN a + 1)).2.2))
set_option maxHeartbeats 4000000 in
set_option maxRecDepth 100000 in
theorem c_X10_reqRT {l : Launch} (hl : l.stackTraces = false) {M : ev_M} (S : St) (hR : RClo M) (co : Bool) (la tr9 lo9 : Nat) (hA : RAo M 17 true co la tr9 lo9) (h13 : la < 13) (k : Nat) (hk : k < la + 1) : ev_Mt l m_X10_requireRound [.ref (0), .int (nI k)] M (ev_q (.inl none) M) := by
  refine ev_body hl rfl (by decide +kernel) (Nat.le_of_ble_eq_true rfl) ?_
  show ev_ l m_X10_requireRound 0 0 0 [some (.ref (0)), some (.int (nI k))] [] M _
  refine ev_blk (B := [(.iload_n 1, 1)]) (pe := 1) (ls' := [some (.ref (0)), some (.int (nI k))]) (st' := [.int (nI k)]) ⟨dX10_requireRound_0, rfl⟩ rfl ?_
  refine ev_fN_lt dX10_requireRound_1 (tgt := 15) (by decide) (by omega) ?_
  refine ev_blk (B := [(.iload_n 1, 1), (.aload_n 0, 1)]) (pe := 6) (ls' := [some (.ref (0)), some (.int (nI k))]) (st' := [.ref (0), .int (nI k)]) ⟨dX10_requireRound_4, dX10_requireRound_5, rfl⟩ rfl ?_
  refine ev_getf (v := .ref (17)) F_RX10_49 dX10_requireRound_6 hR rfl ?_
  refine ev_cVv Y_X0_last L_RX10_245 dX10_requireRound_9 ⟨Nat.le_of_ble_eq_true rfl, Nat.le_of_ble_eq_true rfl, Nat.le_of_ble_eq_true rfl, Nat.le_of_ble_eq_true rfl, Nat.le_of_ble_eq_true rfl⟩ hA.1 (as := []) rfl rfl (c_X0_last hl 17 true _ _ tr9 lo9 hA) ?_
  refine ev_iN_le dX10_requireRound_12 (tgt := 26) (by decide) (by omega) (by omega) (fun q12 => ?_) (fun q12 => ?_)
  · refine ev_vret dX10_requireRound_26 rfl ⟨Nat.le_of_ble_eq_true rfl, Nat.le_of_ble_eq_true rfl⟩ ?_
    exact ⟨rfl, rfl⟩
  · exact absurd q12 (by omega)

set_option maxHeartbeats 4000000 in
set_option maxRecDepth 100000 in
theorem c_X10_reqRF {l : Launch} (hl : l.stackTraces = false) {M : ev_M} (S : St) (hR : RClo M) (co : Bool) (la tr9 lo9 : Nat) (hA : RAo M 17 true co la tr9 lo9) (h13 : la < 13) (a : Int32) (ia : inR a (la + 1) = false) : ev_Mt l m_X10_requireRound [.ref (0), .int (a)] M (ev_q (.inr eIB) M) := by
  refine ev_body hl rfl (by decide +kernel) (Nat.le_of_ble_eq_true rfl) ?_
  show ev_ l m_X10_requireRound 0 0 0 [some (.ref (0)), some (.int (a))] [] M _
  refine ev_blk (B := [(.iload_n 1, 1)]) (pe := 1) (ls' := [some (.ref (0)), some (.int (a))]) (st' := [.int (a)]) ⟨dX10_requireRound_0, rfl⟩ rfl ?_
  refine ev_if_lt dX10_requireRound_1 (tgt := 15) (by decide) (fun q1 => ?_) (fun q1 => ?_)
  · refine ev_throwW (cls := "java/lang/IndexOutOfBoundsException") (text := "no such round") (names := ev_nmR) (ic := 259) (ik := 255) rfl (by decide +kernel) (by decide +kernel) T_IndexOutOfBoundsException (by decide +kernel) dX10_requireRound_15 dX10_requireRound_18 dX10_requireRound_19 dX10_requireRound_22 dX10_requireRound_25 ⟨Nat.le_of_ble_eq_true rfl, Nat.le_of_ble_eq_true rfl, Nat.le_of_ble_eq_true rfl, Nat.le_of_ble_eq_true rfl⟩ ?_
    exact ⟨rfl, rfl⟩
  · refine ev_blk (B := [(.iload_n 1, 1), (.aload_n 0, 1)]) (pe := 6) (ls' := [some (.ref (0)), some (.int (a))]) (st' := [.ref (0), .int (a)]) ⟨dX10_requireRound_4, dX10_requireRound_5, rfl⟩ rfl ?_
    refine ev_getf (v := .ref (17)) F_RX10_49 dX10_requireRound_6 hR rfl ?_
    refine ev_cVv Y_X0_last L_RX10_245 dX10_requireRound_9 ⟨Nat.le_of_ble_eq_true rfl, Nat.le_of_ble_eq_true rfl, Nat.le_of_ble_eq_true rfl, Nat.le_of_ble_eq_true rfl, Nat.le_of_ble_eq_true rfl⟩ hA.1 (as := []) rfl rfl (c_X0_last hl 17 true _ _ tr9 lo9 hA) ?_
    refine ev_ic_le dX10_requireRound_12 (tgt := 26) (by decide) (fun q12 => ?_) (fun q12 => ?_)
    · exact (inR_no ia q1 (i32_le q12 (by omega))).elim
    · refine ev_throwW (cls := "java/lang/IndexOutOfBoundsException") (text := "no such round") (names := ev_nmR) (ic := 259) (ik := 255) rfl (by decide +kernel) (by decide +kernel) T_IndexOutOfBoundsException (by decide +kernel) dX10_requireRound_15 dX10_requireRound_18 dX10_requireRound_19 dX10_requireRound_22 dX10_requireRound_25 ⟨Nat.le_of_ble_eq_true rfl, Nat.le_of_ble_eq_true rfl, Nat.le_of_ble_eq_true rfl, Nat.le_of_ble_eq_true rfl⟩ ?_
      exact ⟨rfl, rfl⟩

set_option maxHeartbeats 4000000 in
set_option maxRecDepth 100000 in
theorem c_X10_basisSize {l : Launch} (hl : l.stackTraces = false) {M : ev_M} (S : St) (hS : okS S) (hR : RCl M S) (a : Int32) : ev_Mt l m_X10_basisSize [.ref (0), .int (a)] M (fun r M1 => r = cA [eUO, eIS, eIB] (sBS S a) ∧ RCl M1 S ∧ Fr 0 104 M M1) := by
  have hTl : S.T.length ≤ 10 := hR.m.1
  have hGl : S.G.length ≤ 3 := hR.g.2.1
  rcases Nat.eq_zero_or_pos S.G.length with g0 | g1
  · have y9 : True := trivial
    refine ev_body hl rfl (by decide +kernel) (Nat.le_of_ble_eq_true rfl) ?_
    show ev_ l m_X10_basisSize 0 0 0 [some (.ref (0)), some (.int (a))] [] M _
    refine ev_blk (B := [(.aload_n 0, 1)]) (pe := 1) (ls' := [some (.ref (0)), some (.int (a))]) (st' := [.ref (0)]) ⟨dX10_basisSize_0, rfl⟩ rfl ?_
    refine ev_cVx Y_X10_requireCompleteAnalysis L_RX10_242 dX10_basisSize_1 ⟨Nat.le_of_ble_eq_true rfl, Nat.le_of_ble_eq_true rfl, Nat.le_of_ble_eq_true rfl, Nat.le_of_ble_eq_true rfl, Nat.le_of_ble_eq_true rfl⟩ hR.o (as := []) rfl rfl (c_X10_reqC1 hl S hS hR g0) ?_
    refine ev_Th_out rfl ⟨Nat.le_of_ble_eq_true rfl, Nat.le_of_ble_eq_true rfl⟩ ?_
    have e9 : sBS S a = (1, 0) := gt_1 g0
    rw [e9]
    exact ⟨rfl, ⟨hR.o, hR.m, hR.x, hR.g, hR.h, hR.k, hR.a, hR.l, hR.r, hR.w, hR.s⟩, Fr.rf⟩
  · have y9 : True := trivial
    rcases Bool.eq_false_or_eq_true (rn S.T S.G).1 with c1 | c0
    · have y9 : True := trivial
      refine ev_body hl rfl (by decide +kernel) (Nat.le_of_ble_eq_true rfl) ?_
      show ev_ l m_X10_basisSize 0 0 0 [some (.ref (0)), some (.int (a))] [] M _
      refine ev_blk (B := [(.aload_n 0, 1)]) (pe := 1) (ls' := [some (.ref (0)), some (.int (a))]) (st' := [.ref (0)]) ⟨dX10_basisSize_0, rfl⟩ rfl ?_
      refine ev_cVn Y_X10_requireCompleteAnalysis L_RX10_242 dX10_basisSize_1 ⟨Nat.le_of_ble_eq_true rfl, Nat.le_of_ble_eq_true rfl, Nat.le_of_ble_eq_true rfl, Nat.le_of_ble_eq_true rfl, Nat.le_of_ble_eq_true rfl⟩ hR.o (as := []) rfl rfl (c_X10_reqC0 hl S hS hR g1 c1) (fun M1 hL1 hB1 => ?_)
      obtain ⟨Da, Df⟩ := hB1
      have Dx : RAx M1 S.T S.G := by
        obtain ⟨t1, t2, t3, t4⟩ := Da
        exact ⟨true, t1, t2, t3, t4⟩
      obtain ⟨tr9, lo9, B9, co, la, N9, hA, hBs, hAN, hA8, hA9, hAf⟩ := Da
      obtain ⟨rfl, rfl, h13, hBe⟩ := hAf rfl
      have hLl : La S < 13 := h13
      rcases inR_c a (La S + 1) (by omega) with ⟨k, hk, rfl⟩ | ia
      · have jk : inR (nI k) (La S + 1) = true := inR_n hk (by omega)
        have tk : (nI k).toNatClampNeg = k := nI_clamp (by omega)
        refine ev_blk (B := [(.aload_n 0, 1), (.iload_n 1, 1)]) (pe := 6) (ls' := [some (.ref (0)), some (.int (nI k))]) (st' := [.int (nI k), .ref (0)]) ⟨dX10_basisSize_4, dX10_basisSize_5, rfl⟩ rfl ?_
        refine ev_cV0 Y_X10_requireRound L_RX10_248 dX10_basisSize_6 ⟨Nat.le_of_ble_eq_true rfl, Nat.le_of_ble_eq_true rfl, Nat.le_of_ble_eq_true rfl, Nat.le_of_ble_eq_true rfl, Nat.le_of_ble_eq_true rfl⟩ (hR.o.fr Df (by omega)) (as := [.int (nI k)]) rfl rfl (c_X10_reqRT hl S (hR.o.fr Df (by omega)) _ _ tr9 lo9 hA h13 k hk) ?_
        refine ev_blk (B := [(.aload_n 0, 1)]) (pe := 10) (ls' := [some (.ref (0)), some (.int (nI k))]) (st' := [.ref (0)]) ⟨dX10_basisSize_9, rfl⟩ rfl ?_
        refine ev_getf (v := .ref (17)) F_RX10_49 dX10_basisSize_10 (hR.o.fr Df (by omega)) rfl ?_
        refine ev_blk (B := [(.iload_n 1, 1)]) (pe := 14) (ls' := [some (.ref (0)), some (.int (nI k))]) (st' := [.int (nI k), .ref (17)]) ⟨dX10_basisSize_13, rfl⟩ rfl ?_
        have hLl : La S < 13 := h13
        have hqk : RQ M1 (17 + 2 + 4 * k) 30 (bl S.T S.G k) := by rw [← hBe k (show k ≤ La S by omega)]; exact hBs k (by omega)
        have hq30 : (bl S.T S.G k).length ≤ 30 := hqk.2.1
        have hb25 : cfs 25 (bl S.T S.G k) := (bl_ok hS.T hS.G k).le (by omega)
        refine ev_cVv Y_X0_basisOf L_RX10_251 dX10_basisSize_14 ⟨Nat.le_of_ble_eq_true rfl, Nat.le_of_ble_eq_true rfl, Nat.le_of_ble_eq_true rfl, Nat.le_of_ble_eq_true rfl, Nat.le_of_ble_eq_true rfl⟩ hA.1 (as := [.int (nI k)]) rfl rfl (c_X0_basisOf hl 17 true _ _ tr9 lo9 hA k (by omega)) ?_
        refine ev_cVv Y_X2_size L_RX10_225 dX10_basisSize_17 ⟨Nat.le_of_ble_eq_true rfl, Nat.le_of_ble_eq_true rfl, Nat.le_of_ble_eq_true rfl, Nat.le_of_ble_eq_true rfl, Nat.le_of_ble_eq_true rfl⟩ hqk.obj (as := []) rfl rfl (c_X2_size hl (17 + 2 + 4 * k) 30 (bl S.T S.G k) hqk) ?_
        refine ev_iret dX10_basisSize_20 rfl (rfl) ⟨Nat.le_of_ble_eq_true rfl, Nat.le_of_ble_eq_true rfl⟩ ?_
        have e9 : sBS S (nI k) = (0, nI (bl S.T S.G k).length) := (gt_0 g1 c1).trans (by simp [jk, tk, tN])
        rw [e9]
        exact ⟨rfl, ⟨(hR.o.fr Df (by omega)), (hR.m.fr Df (by omega)), (hR.x.fr Df (by omega)), (hR.g.fr Df (by omega)), (hR.h.fr Df (by omega)), (hR.k.fr Df (by omega)), Dx, (hR.l.fr Df (by omega)), (hR.r.fr Df (by omega)), (hR.w.fr Df (by omega)), (hR.s.fr Df (by omega))⟩, (Df.to (by omega) (by omega))⟩
      · have ia9 := ia
        refine ev_blk (B := [(.aload_n 0, 1), (.iload_n 1, 1)]) (pe := 6) (ls' := [some (.ref (0)), some (.int (a))]) (st' := [.int (a), .ref (0)]) ⟨dX10_basisSize_4, dX10_basisSize_5, rfl⟩ rfl ?_
        refine ev_cVx Y_X10_requireRound L_RX10_248 dX10_basisSize_6 ⟨Nat.le_of_ble_eq_true rfl, Nat.le_of_ble_eq_true rfl, Nat.le_of_ble_eq_true rfl, Nat.le_of_ble_eq_true rfl, Nat.le_of_ble_eq_true rfl⟩ (hR.o.fr Df (by omega)) (as := [.int (a)]) rfl rfl (c_X10_reqRF hl S (hR.o.fr Df (by omega)) _ _ tr9 lo9 hA h13 _ ia) ?_
        refine ev_Th_out rfl ⟨Nat.le_of_ble_eq_true rfl, Nat.le_of_ble_eq_true rfl⟩ ?_
        have e9 : sBS S a = (3, 0) := (gt_0 g1 c1).trans (by simp [ia, tN])
        rw [e9]
        exact ⟨rfl, ⟨(hR.o.fr Df (by omega)), (hR.m.fr Df (by omega)), (hR.x.fr Df (by omega)), (hR.g.fr Df (by omega)), (hR.h.fr Df (by omega)), (hR.k.fr Df (by omega)), Dx, (hR.l.fr Df (by omega)), (hR.r.fr Df (by omega)), (hR.w.fr Df (by omega)), (hR.s.fr Df (by omega))⟩, (Df.to (by omega) (by omega))⟩
    · have y9 : True := trivial
      refine ev_body hl rfl (by decide +kernel) (Nat.le_of_ble_eq_true rfl) ?_
      show ev_ l m_X10_basisSize 0 0 0 [some (.ref (0)), some (.int (a))] [] M _
      refine ev_blk (B := [(.aload_n 0, 1)]) (pe := 1) (ls' := [some (.ref (0)), some (.int (a))]) (st' := [.ref (0)]) ⟨dX10_basisSize_0, rfl⟩ rfl ?_
      refine ev_cVX Y_X10_requireCompleteAnalysis L_RX10_242 dX10_basisSize_1 ⟨Nat.le_of_ble_eq_true rfl, Nat.le_of_ble_eq_true rfl, Nat.le_of_ble_eq_true rfl, Nat.le_of_ble_eq_true rfl, Nat.le_of_ble_eq_true rfl⟩ hR.o (as := []) rfl rfl (c_X10_reqC2 hl S hS hR g1 c0) (fun M2 hL2 hB2 => ?_)
      obtain ⟨Da, Df⟩ := hB2
      have Dx : RAx M2 S.T S.G := by
        obtain ⟨t1, t2, t3, t4⟩ := Da
        exact ⟨true, t1, t2, t3, t4⟩
      refine ev_Th_out rfl ⟨Nat.le_of_ble_eq_true rfl, Nat.le_of_ble_eq_true rfl⟩ ?_
      have e9 : sBS S a = (2, 0) := gt_2 g1 c0
      rw [e9]
      exact ⟨rfl, ⟨(hR.o.fr Df (by omega)), (hR.m.fr Df (by omega)), (hR.x.fr Df (by omega)), (hR.g.fr Df (by omega)), (hR.h.fr Df (by omega)), (hR.k.fr Df (by omega)), Dx, (hR.l.fr Df (by omega)), (hR.r.fr Df (by omega)), (hR.w.fr Df (by omega)), (hR.s.fr Df (by omega))⟩, (Df.to (by omega) (by omega))⟩

set_option maxHeartbeats 4000000 in
set_option maxRecDepth 100000 in
theorem c_X10_basis {l : Launch} (hl : l.stackTraces = false) {M : ev_M} (S : St) (hS : okS S) (hR : RCl M S) (a : Int32) (b : Int32) (c : Int32) : ev_Mt l m_X10_basis [.ref (0), .int (a), .int (b), .int (c)] M (fun r M1 => r = cA [eUO, eIS, eIB] (sBa S a b c) ∧ RCl M1 S ∧ Fr 0 104 M M1) := by
  have hTl : S.T.length ≤ 10 := hR.m.1
  have hGl : S.G.length ≤ 3 := hR.g.2.1
  rcases Nat.eq_zero_or_pos S.G.length with g0 | g1
  · have y9 : True := trivial
    refine ev_body hl rfl (by decide +kernel) (Nat.le_of_ble_eq_true rfl) ?_
    show ev_ l m_X10_basis 0 0 0 [some (.ref (0)), some (.int (a)), some (.int (b)), some (.int (c)), none] [] M _
    refine ev_blk (B := [(.aload_n 0, 1)]) (pe := 1) (ls' := [some (.ref (0)), some (.int (a)), some (.int (b)), some (.int (c)), none]) (st' := [.ref (0)]) ⟨dX10_basis_0, rfl⟩ rfl ?_
    refine ev_cVx Y_X10_requireCompleteAnalysis L_RX10_242 dX10_basis_1 ⟨Nat.le_of_ble_eq_true rfl, Nat.le_of_ble_eq_true rfl, Nat.le_of_ble_eq_true rfl, Nat.le_of_ble_eq_true rfl, Nat.le_of_ble_eq_true rfl⟩ hR.o (as := []) rfl rfl (c_X10_reqC1 hl S hS hR g0) ?_
    refine ev_Th_out rfl ⟨Nat.le_of_ble_eq_true rfl, Nat.le_of_ble_eq_true rfl⟩ ?_
    have e9 : sBa S a b c = (1, 0) := gt_1 g0
    rw [e9]
    exact ⟨rfl, ⟨hR.o, hR.m, hR.x, hR.g, hR.h, hR.k, hR.a, hR.l, hR.r, hR.w, hR.s⟩, Fr.rf⟩
  · have y9 : True := trivial
    rcases Bool.eq_false_or_eq_true (rn S.T S.G).1 with c1 | c0
    · have y9 : True := trivial
      refine ev_body hl rfl (by decide +kernel) (Nat.le_of_ble_eq_true rfl) ?_
      show ev_ l m_X10_basis 0 0 0 [some (.ref (0)), some (.int (a)), some (.int (b)), some (.int (c)), none] [] M _
      refine ev_blk (B := [(.aload_n 0, 1)]) (pe := 1) (ls' := [some (.ref (0)), some (.int (a)), some (.int (b)), some (.int (c)), none]) (st' := [.ref (0)]) ⟨dX10_basis_0, rfl⟩ rfl ?_
      refine ev_cVn Y_X10_requireCompleteAnalysis L_RX10_242 dX10_basis_1 ⟨Nat.le_of_ble_eq_true rfl, Nat.le_of_ble_eq_true rfl, Nat.le_of_ble_eq_true rfl, Nat.le_of_ble_eq_true rfl, Nat.le_of_ble_eq_true rfl⟩ hR.o (as := []) rfl rfl (c_X10_reqC0 hl S hS hR g1 c1) (fun M1 hL1 hB1 => ?_)
      obtain ⟨Da, Df⟩ := hB1
      have Dx : RAx M1 S.T S.G := by
        obtain ⟨t1, t2, t3, t4⟩ := Da
        exact ⟨true, t1, t2, t3, t4⟩
      obtain ⟨tr9, lo9, B9, co, la, N9, hA, hBs, hAN, hA8, hA9, hAf⟩ := Da
      obtain ⟨rfl, rfl, h13, hBe⟩ := hAf rfl
      have hLl : La S < 13 := h13
      rcases inR_c a (La S + 1) (by omega) with ⟨k, hk, rfl⟩ | ia
      · have jk : inR (nI k) (La S + 1) = true := inR_n hk (by omega)
        have tk : (nI k).toNatClampNeg = k := nI_clamp (by omega)
        refine ev_blk (B := [(.aload_n 0, 1), (.iload_n 1, 1)]) (pe := 6) (ls' := [some (.ref (0)), some (.int (nI k)), some (.int (b)), some (.int (c)), none]) (st' := [.int (nI k), .ref (0)]) ⟨dX10_basis_4, dX10_basis_5, rfl⟩ rfl ?_
        refine ev_cV0 Y_X10_requireRound L_RX10_248 dX10_basis_6 ⟨Nat.le_of_ble_eq_true rfl, Nat.le_of_ble_eq_true rfl, Nat.le_of_ble_eq_true rfl, Nat.le_of_ble_eq_true rfl, Nat.le_of_ble_eq_true rfl⟩ (hR.o.fr Df (by omega)) (as := [.int (nI k)]) rfl rfl (c_X10_reqRT hl S (hR.o.fr Df (by omega)) _ _ tr9 lo9 hA h13 k hk) ?_
        refine ev_blk (B := [(.aload_n 0, 1)]) (pe := 10) (ls' := [some (.ref (0)), some (.int (nI k)), some (.int (b)), some (.int (c)), none]) (st' := [.ref (0)]) ⟨dX10_basis_9, rfl⟩ rfl ?_
        refine ev_getf (v := .ref (17)) F_RX10_49 dX10_basis_10 (hR.o.fr Df (by omega)) rfl ?_
        refine ev_blk (B := [(.iload_n 1, 1)]) (pe := 14) (ls' := [some (.ref (0)), some (.int (nI k)), some (.int (b)), some (.int (c)), none]) (st' := [.int (nI k), .ref (17)]) ⟨dX10_basis_13, rfl⟩ rfl ?_
        have hLl : La S < 13 := h13
        have hqk : RQ M1 (17 + 2 + 4 * k) 30 (bl S.T S.G k) := by rw [← hBe k (show k ≤ La S by omega)]; exact hBs k (by omega)
        have hq30 : (bl S.T S.G k).length ≤ 30 := hqk.2.1
        have hb25 : cfs 25 (bl S.T S.G k) := (bl_ok hS.T hS.G k).le (by omega)
        refine ev_cVv Y_X0_basisOf L_RX10_251 dX10_basis_14 ⟨Nat.le_of_ble_eq_true rfl, Nat.le_of_ble_eq_true rfl, Nat.le_of_ble_eq_true rfl, Nat.le_of_ble_eq_true rfl, Nat.le_of_ble_eq_true rfl⟩ hA.1 (as := [.int (nI k)]) rfl rfl (c_X0_basisOf hl 17 true _ _ tr9 lo9 hA k (by omega)) ?_
        refine ev_blk (B := [(.astore 4, 2)]) (pe := 19) (ls' := [some (.ref (0)), some (.int (nI k)), some (.int (b)), some (.int (c)), some (.ref (17 + 2 + 4 * k))]) (st' := []) ⟨dX10_basis_17, rfl⟩ rfl ?_
        rcases inR_c b ((bl S.T S.G k).length) (by omega) with ⟨j, hj, rfl⟩ | ib
        · have jj : inR (nI j) ((bl S.T S.G k).length) = true := inR_n hj (by omega)
          have tj : (nI j).toNatClampNeg = j := nI_clamp (by omega)
          have hcw := fun z => cw_ok (cfs_cg hb25 hj) z
          rcases inR_c c 3 (by omega) with ⟨m, hm, rfl⟩ | ic
          · have jm : inR (nI m) 3 = true := inR_n hm (by omega)
            have tm : (nI m).toNatClampNeg = m := nI_clamp (by omega)
            refine ev_blk (B := [(.iload_n 2, 1)]) (pe := 20) (ls' := [some (.ref (0)), some (.int (nI k)), some (.int (nI j)), some (.int (nI m)), some (.ref (17 + 2 + 4 * k))]) (st' := [.int (nI j)]) ⟨dX10_basis_19, rfl⟩ rfl ?_
            refine ev_fN_lt dX10_basis_20 (tgt := 41) (by decide) (by omega) ?_
            refine ev_blk (B := [(.iload_n 2, 1), (.aload 4, 2)]) (pe := 26) (ls' := [some (.ref (0)), some (.int (nI k)), some (.int (nI j)), some (.int (nI m)), some (.ref (17 + 2 + 4 * k))]) (st' := [.ref (17 + 2 + 4 * k), .int (nI j)]) ⟨dX10_basis_23, dX10_basis_24, rfl⟩ rfl ?_
            refine ev_cVv Y_X2_size L_RX10_225 dX10_basis_26 ⟨Nat.le_of_ble_eq_true rfl, Nat.le_of_ble_eq_true rfl, Nat.le_of_ble_eq_true rfl, Nat.le_of_ble_eq_true rfl, Nat.le_of_ble_eq_true rfl⟩ hqk.obj (as := []) rfl rfl (c_X2_size hl (17 + 2 + 4 * k) 30 (bl S.T S.G k) hqk) ?_
            refine ev_iN_ge dX10_basis_29 (tgt := 41) (by decide) (by omega) (by omega) (fun q29 => ?_) (fun q29 => ?_)
            · exact absurd q29 (by omega)
            · refine ev_blk (B := [(.iload_n 3, 1)]) (pe := 33) (ls' := [some (.ref (0)), some (.int (nI k)), some (.int (nI j)), some (.int (nI m)), some (.ref (17 + 2 + 4 * k))]) (st' := [.int (nI m)]) ⟨dX10_basis_32, rfl⟩ rfl ?_
              refine ev_fN_lt dX10_basis_33 (tgt := 41) (by decide) (by omega) ?_
              refine ev_blk (B := [(.iload_n 3, 1), (.iconst 3, 1)]) (pe := 38) (ls' := [some (.ref (0)), some (.int (nI k)), some (.int (nI j)), some (.int (nI m)), some (.ref (17 + 2 + 4 * k))]) (st' := [.int (nI 3), .int (nI m)]) ⟨dX10_basis_36, dX10_basis_37, rfl⟩ rfl ?_
              refine ev_iN_lt dX10_basis_38 (tgt := 52) (by decide) (by omega) (by omega) (fun q38 => ?_) (fun q38 => ?_)
              · refine ev_blk (B := [(.iload_n 3, 1)]) (pe := 53) (ls' := [some (.ref (0)), some (.int (nI k)), some (.int (nI j)), some (.int (nI m)), some (.ref (17 + 2 + 4 * k))]) (st' := [.int (nI m)]) ⟨dX10_basis_52, rfl⟩ rfl ?_
                refine ev_fN_ne dX10_basis_53 (tgt := 65) (by decide) (by omega) (fun q53 => ?_) (fun q53 => ?_)
                · refine ev_blk (B := [(.aload 4, 2), (.iload_n 2, 1), (.iload_n 3, 1), (.iconst 1, 1), (.isub, 1)]) (pe := 71) (ls' := [some (.ref (0)), some (.int (nI k)), some (.int (nI j)), some (.int (nI m)), some (.ref (17 + 2 + 4 * k))]) (st' := [.int (nI (m - 1)), .int (nI j), .ref (17 + 2 + 4 * k)]) ⟨dX10_basis_65, dX10_basis_67, dX10_basis_68, dX10_basis_69, dX10_basis_70, rfl⟩ (by show some (([some (.ref (0)), some (.int (nI k)), some (.int (nI j)), some (.int (nI m)), some (.ref (17 + 2 + 4 * k))] : ev_L), ([.int ((nI m) - (nI 1)), .int (nI j), .ref (17 + 2 + 4 * k)] : List Value)) = _; rw [pk_sub (show 1 ≤ m by omega)]) ?_
                  refine ev_cVv Y_X2_wordAt L_RX10_263 dX10_basis_71 ⟨Nat.le_of_ble_eq_true rfl, Nat.le_of_ble_eq_true rfl, Nat.le_of_ble_eq_true rfl, Nat.le_of_ble_eq_true rfl, Nat.le_of_ble_eq_true rfl⟩ hqk.obj (as := [.int (nI j), .int (nI (m - 1))]) rfl rfl (c_X2_wordAt hl (17 + 2 + 4 * k) 30 (bl S.T S.G k) hqk j hj (m - 1) (by omega)) ?_
                  refine ev_cSv Y_X9_size L_RX10_139 dX10_basis_74 ⟨Nat.le_of_ble_eq_true rfl, Nat.le_of_ble_eq_true rfl, Nat.le_of_ble_eq_true rfl, Nat.le_of_ble_eq_true rfl, Nat.le_of_ble_eq_true rfl⟩ (as := [.long (e1 (cw (cg (bl S.T S.G k) j) (m - 1)))]) rfl rfl (c_X9_size hl ((cw (cg (bl S.T S.G k) j) (m - 1))) (hcw (m - 1)).1 (hcw (m - 1)).2) ?_
                  refine ev_iret dX10_basis_77 rfl (rfl) ⟨Nat.le_of_ble_eq_true rfl, Nat.le_of_ble_eq_true rfl⟩ ?_
                  have e9 : sBa S (nI k) (nI j) (nI m) = (0, nI (cw (cg (bl S.T S.G k) j) (m - 1)).length) := (gt_0 g1 c1).trans (by simp [jk, tk, jj, tj, jm, tm, tN, q29, q38, q53])
                  rw [e9]
                  exact ⟨rfl, ⟨(hR.o.fr Df (by omega)), (hR.m.fr Df (by omega)), (hR.x.fr Df (by omega)), (hR.g.fr Df (by omega)), (hR.h.fr Df (by omega)), (hR.k.fr Df (by omega)), Dx, (hR.l.fr Df (by omega)), (hR.r.fr Df (by omega)), (hR.w.fr Df (by omega)), (hR.s.fr Df (by omega))⟩, (Df.to (by omega) (by omega))⟩
                · refine ev_blk (B := [(.aload 4, 2), (.iload_n 2, 1)]) (pe := 59) (ls' := [some (.ref (0)), some (.int (nI k)), some (.int (nI j)), some (.int (nI m)), some (.ref (17 + 2 + 4 * k))]) (st' := [.int (nI j), .ref (17 + 2 + 4 * k)]) ⟨dX10_basis_56, dX10_basis_58, rfl⟩ rfl ?_
                  refine ev_cVv Y_X2_stateAt L_RX10_260 dX10_basis_59 ⟨Nat.le_of_ble_eq_true rfl, Nat.le_of_ble_eq_true rfl, Nat.le_of_ble_eq_true rfl, Nat.le_of_ble_eq_true rfl, Nat.le_of_ble_eq_true rfl⟩ hqk.obj (as := [.int (nI j)]) rfl rfl (c_X2_stateAt hl (17 + 2 + 4 * k) 30 (bl S.T S.G k) hqk j hj) ?_
                  refine ev_goto (tgt := 77) dX10_basis_62 (by decide) ?_
                  refine ev_iret dX10_basis_77 rfl (rfl) ⟨Nat.le_of_ble_eq_true rfl, Nat.le_of_ble_eq_true rfl⟩ ?_
                  have e9 : sBa S (nI k) (nI j) (nI m) = (0, nI (cg (bl S.T S.G k) j).1) := (gt_0 g1 c1).trans (by simp [jk, tk, jj, tj, jm, tm, tN, nI_0, (show inR 0 3 = true by decide), q29, q38, q53])
                  rw [e9]
                  exact ⟨rfl, ⟨(hR.o.fr Df (by omega)), (hR.m.fr Df (by omega)), (hR.x.fr Df (by omega)), (hR.g.fr Df (by omega)), (hR.h.fr Df (by omega)), (hR.k.fr Df (by omega)), Dx, (hR.l.fr Df (by omega)), (hR.r.fr Df (by omega)), (hR.w.fr Df (by omega)), (hR.s.fr Df (by omega))⟩, (Df.to (by omega) (by omega))⟩
              · exact absurd q38 (by omega)
          · have ic9 := ic
            refine ev_blk (B := [(.iload_n 2, 1)]) (pe := 20) (ls' := [some (.ref (0)), some (.int (nI k)), some (.int (nI j)), some (.int (c)), some (.ref (17 + 2 + 4 * k))]) (st' := [.int (nI j)]) ⟨dX10_basis_19, rfl⟩ rfl ?_
            refine ev_fN_lt dX10_basis_20 (tgt := 41) (by decide) (by omega) ?_
            refine ev_blk (B := [(.iload_n 2, 1), (.aload 4, 2)]) (pe := 26) (ls' := [some (.ref (0)), some (.int (nI k)), some (.int (nI j)), some (.int (c)), some (.ref (17 + 2 + 4 * k))]) (st' := [.ref (17 + 2 + 4 * k), .int (nI j)]) ⟨dX10_basis_23, dX10_basis_24, rfl⟩ rfl ?_
            refine ev_cVv Y_X2_size L_RX10_225 dX10_basis_26 ⟨Nat.le_of_ble_eq_true rfl, Nat.le_of_ble_eq_true rfl, Nat.le_of_ble_eq_true rfl, Nat.le_of_ble_eq_true rfl, Nat.le_of_ble_eq_true rfl⟩ hqk.obj (as := []) rfl rfl (c_X2_size hl (17 + 2 + 4 * k) 30 (bl S.T S.G k) hqk) ?_
            refine ev_iN_ge dX10_basis_29 (tgt := 41) (by decide) (by omega) (by omega) (fun q29 => ?_) (fun q29 => ?_)
            · exact absurd q29 (by omega)
            · refine ev_blk (B := [(.iload_n 3, 1)]) (pe := 33) (ls' := [some (.ref (0)), some (.int (nI k)), some (.int (nI j)), some (.int (c)), some (.ref (17 + 2 + 4 * k))]) (st' := [.int (c)]) ⟨dX10_basis_32, rfl⟩ rfl ?_
              refine ev_if_lt dX10_basis_33 (tgt := 41) (by decide) (fun q33 => ?_) (fun q33 => ?_)
              · refine ev_throwW (cls := "java/lang/IndexOutOfBoundsException") (text := "no such configuration or part of it") (names := ev_nmR) (ic := 259) (ik := 255) rfl (by decide +kernel) (by decide +kernel) T_IndexOutOfBoundsException (by decide +kernel) dX10_basis_41 dX10_basis_44 dX10_basis_45 dX10_basis_48 dX10_basis_51 ⟨Nat.le_of_ble_eq_true rfl, Nat.le_of_ble_eq_true rfl, Nat.le_of_ble_eq_true rfl, Nat.le_of_ble_eq_true rfl⟩ ?_
                have e9 : sBa S (nI k) (nI j) c = (3, 0) := (gt_0 g1 c1).trans (by simp [jk, tk, jj, tj, ic, tN])
                rw [e9]
                exact ⟨rfl, ⟨(hR.o.fr Df (by omega)), (hR.m.fr Df (by omega)), (hR.x.fr Df (by omega)), (hR.g.fr Df (by omega)), (hR.h.fr Df (by omega)), (hR.k.fr Df (by omega)), Dx, (hR.l.fr Df (by omega)), (hR.r.fr Df (by omega)), (hR.w.fr Df (by omega)), (hR.s.fr Df (by omega))⟩, (Df.to (by omega) (by omega))⟩
              · refine ev_blk (B := [(.iload_n 3, 1), (.iconst 3, 1)]) (pe := 38) (ls' := [some (.ref (0)), some (.int (nI k)), some (.int (nI j)), some (.int (c)), some (.ref (17 + 2 + 4 * k))]) (st' := [.int (nI 3), .int (c)]) ⟨dX10_basis_36, dX10_basis_37, rfl⟩ rfl ?_
                refine ev_ic_lt dX10_basis_38 (tgt := 52) (by decide) (fun q38 => ?_) (fun q38 => ?_)
                · exact (inR_no ic q33 q38).elim
                · refine ev_throwW (cls := "java/lang/IndexOutOfBoundsException") (text := "no such configuration or part of it") (names := ev_nmR) (ic := 259) (ik := 255) rfl (by decide +kernel) (by decide +kernel) T_IndexOutOfBoundsException (by decide +kernel) dX10_basis_41 dX10_basis_44 dX10_basis_45 dX10_basis_48 dX10_basis_51 ⟨Nat.le_of_ble_eq_true rfl, Nat.le_of_ble_eq_true rfl, Nat.le_of_ble_eq_true rfl, Nat.le_of_ble_eq_true rfl⟩ ?_
                  have e9 : sBa S (nI k) (nI j) c = (3, 0) := (gt_0 g1 c1).trans (by simp [jk, tk, jj, tj, ic, tN])
                  rw [e9]
                  exact ⟨rfl, ⟨(hR.o.fr Df (by omega)), (hR.m.fr Df (by omega)), (hR.x.fr Df (by omega)), (hR.g.fr Df (by omega)), (hR.h.fr Df (by omega)), (hR.k.fr Df (by omega)), Dx, (hR.l.fr Df (by omega)), (hR.r.fr Df (by omega)), (hR.w.fr Df (by omega)), (hR.s.fr Df (by omega))⟩, (Df.to (by omega) (by omega))⟩
        · have ib9 := ib
          refine ev_blk (B := [(.iload_n 2, 1)]) (pe := 20) (ls' := [some (.ref (0)), some (.int (nI k)), some (.int (b)), some (.int (c)), some (.ref (17 + 2 + 4 * k))]) (st' := [.int (b)]) ⟨dX10_basis_19, rfl⟩ rfl ?_
          refine ev_if_lt dX10_basis_20 (tgt := 41) (by decide) (fun q20 => ?_) (fun q20 => ?_)
          · refine ev_throwW (cls := "java/lang/IndexOutOfBoundsException") (text := "no such configuration or part of it") (names := ev_nmR) (ic := 259) (ik := 255) rfl (by decide +kernel) (by decide +kernel) T_IndexOutOfBoundsException (by decide +kernel) dX10_basis_41 dX10_basis_44 dX10_basis_45 dX10_basis_48 dX10_basis_51 ⟨Nat.le_of_ble_eq_true rfl, Nat.le_of_ble_eq_true rfl, Nat.le_of_ble_eq_true rfl, Nat.le_of_ble_eq_true rfl⟩ ?_
            have e9 : sBa S (nI k) b c = (3, 0) := (gt_0 g1 c1).trans (by simp [jk, tk, ib, tN])
            rw [e9]
            exact ⟨rfl, ⟨(hR.o.fr Df (by omega)), (hR.m.fr Df (by omega)), (hR.x.fr Df (by omega)), (hR.g.fr Df (by omega)), (hR.h.fr Df (by omega)), (hR.k.fr Df (by omega)), Dx, (hR.l.fr Df (by omega)), (hR.r.fr Df (by omega)), (hR.w.fr Df (by omega)), (hR.s.fr Df (by omega))⟩, (Df.to (by omega) (by omega))⟩
          · refine ev_blk (B := [(.iload_n 2, 1), (.aload 4, 2)]) (pe := 26) (ls' := [some (.ref (0)), some (.int (nI k)), some (.int (b)), some (.int (c)), some (.ref (17 + 2 + 4 * k))]) (st' := [.ref (17 + 2 + 4 * k), .int (b)]) ⟨dX10_basis_23, dX10_basis_24, rfl⟩ rfl ?_
            refine ev_cVv Y_X2_size L_RX10_225 dX10_basis_26 ⟨Nat.le_of_ble_eq_true rfl, Nat.le_of_ble_eq_true rfl, Nat.le_of_ble_eq_true rfl, Nat.le_of_ble_eq_true rfl, Nat.le_of_ble_eq_true rfl⟩ hqk.obj (as := []) rfl rfl (c_X2_size hl (17 + 2 + 4 * k) 30 (bl S.T S.G k) hqk) ?_
            refine ev_ic_ge dX10_basis_29 (tgt := 41) (by decide) (fun q29 => ?_) (fun q29 => ?_)
            · refine ev_throwW (cls := "java/lang/IndexOutOfBoundsException") (text := "no such configuration or part of it") (names := ev_nmR) (ic := 259) (ik := 255) rfl (by decide +kernel) (by decide +kernel) T_IndexOutOfBoundsException (by decide +kernel) dX10_basis_41 dX10_basis_44 dX10_basis_45 dX10_basis_48 dX10_basis_51 ⟨Nat.le_of_ble_eq_true rfl, Nat.le_of_ble_eq_true rfl, Nat.le_of_ble_eq_true rfl, Nat.le_of_ble_eq_true rfl⟩ ?_
              have e9 : sBa S (nI k) b c = (3, 0) := (gt_0 g1 c1).trans (by simp [jk, tk, ib, tN])
              rw [e9]
              exact ⟨rfl, ⟨(hR.o.fr Df (by omega)), (hR.m.fr Df (by omega)), (hR.x.fr Df (by omega)), (hR.g.fr Df (by omega)), (hR.h.fr Df (by omega)), (hR.k.fr Df (by omega)), Dx, (hR.l.fr Df (by omega)), (hR.r.fr Df (by omega)), (hR.w.fr Df (by omega)), (hR.s.fr Df (by omega))⟩, (Df.to (by omega) (by omega))⟩
            · exact (inR_no ib q20 (Int32.not_le.mp q29)).elim
      · have ia9 := ia
        refine ev_blk (B := [(.aload_n 0, 1), (.iload_n 1, 1)]) (pe := 6) (ls' := [some (.ref (0)), some (.int (a)), some (.int (b)), some (.int (c)), none]) (st' := [.int (a), .ref (0)]) ⟨dX10_basis_4, dX10_basis_5, rfl⟩ rfl ?_
        refine ev_cVx Y_X10_requireRound L_RX10_248 dX10_basis_6 ⟨Nat.le_of_ble_eq_true rfl, Nat.le_of_ble_eq_true rfl, Nat.le_of_ble_eq_true rfl, Nat.le_of_ble_eq_true rfl, Nat.le_of_ble_eq_true rfl⟩ (hR.o.fr Df (by omega)) (as := [.int (a)]) rfl rfl (c_X10_reqRF hl S (hR.o.fr Df (by omega)) _ _ tr9 lo9 hA h13 _ ia) ?_
        refine ev_Th_out rfl ⟨Nat.le_of_ble_eq_true rfl, Nat.le_of_ble_eq_true rfl⟩ ?_
        have e9 : sBa S a b c = (3, 0) := (gt_0 g1 c1).trans (by simp [ia, tN])
        rw [e9]
        exact ⟨rfl, ⟨(hR.o.fr Df (by omega)), (hR.m.fr Df (by omega)), (hR.x.fr Df (by omega)), (hR.g.fr Df (by omega)), (hR.h.fr Df (by omega)), (hR.k.fr Df (by omega)), Dx, (hR.l.fr Df (by omega)), (hR.r.fr Df (by omega)), (hR.w.fr Df (by omega)), (hR.s.fr Df (by omega))⟩, (Df.to (by omega) (by omega))⟩
    · have y9 : True := trivial
      refine ev_body hl rfl (by decide +kernel) (Nat.le_of_ble_eq_true rfl) ?_
      show ev_ l m_X10_basis 0 0 0 [some (.ref (0)), some (.int (a)), some (.int (b)), some (.int (c)), none] [] M _
      refine ev_blk (B := [(.aload_n 0, 1)]) (pe := 1) (ls' := [some (.ref (0)), some (.int (a)), some (.int (b)), some (.int (c)), none]) (st' := [.ref (0)]) ⟨dX10_basis_0, rfl⟩ rfl ?_
      refine ev_cVX Y_X10_requireCompleteAnalysis L_RX10_242 dX10_basis_1 ⟨Nat.le_of_ble_eq_true rfl, Nat.le_of_ble_eq_true rfl, Nat.le_of_ble_eq_true rfl, Nat.le_of_ble_eq_true rfl, Nat.le_of_ble_eq_true rfl⟩ hR.o (as := []) rfl rfl (c_X10_reqC2 hl S hS hR g1 c0) (fun M2 hL2 hB2 => ?_)
      obtain ⟨Da, Df⟩ := hB2
      have Dx : RAx M2 S.T S.G := by
        obtain ⟨t1, t2, t3, t4⟩ := Da
        exact ⟨true, t1, t2, t3, t4⟩
      refine ev_Th_out rfl ⟨Nat.le_of_ble_eq_true rfl, Nat.le_of_ble_eq_true rfl⟩ ?_
      have e9 : sBa S a b c = (2, 0) := gt_2 g1 c0
      rw [e9]
      exact ⟨rfl, ⟨(hR.o.fr Df (by omega)), (hR.m.fr Df (by omega)), (hR.x.fr Df (by omega)), (hR.g.fr Df (by omega)), (hR.h.fr Df (by omega)), (hR.k.fr Df (by omega)), Dx, (hR.l.fr Df (by omega)), (hR.r.fr Df (by omega)), (hR.w.fr Df (by omega)), (hR.s.fr Df (by omega))⟩, (Df.to (by omega) (by omega))⟩

set_option maxHeartbeats 4000000 in
set_option maxRecDepth 100000 in
theorem c_X10_basisLetter {l : Launch} (hl : l.stackTraces = false) {M : ev_M} (S : St) (hS : okS S) (hR : RCl M S) (a : Int32) (b : Int32) (c : Int32) : ev_Mt l m_X10_basisLetter [.ref (0), .int (a), .int (b), .int (c)] M (fun r M1 => r = cA [eUO, eIS, eIB] (sBL S a b c) ∧ RCl M1 S ∧ Fr 0 104 M M1) := by
  have hTl : S.T.length ≤ 10 := hR.m.1
  have hGl : S.G.length ≤ 3 := hR.g.2.1
  rcases Nat.eq_zero_or_pos S.G.length with g0 | g1
  · have y9 : True := trivial
    refine ev_body hl rfl (by decide +kernel) (Nat.le_of_ble_eq_true rfl) ?_
    show ev_ l m_X10_basisLetter 0 0 0 [some (.ref (0)), some (.int (a)), some (.int (b)), some (.int (c)), none, none, none] [] M _
    refine ev_blk (B := [(.aload_n 0, 1)]) (pe := 1) (ls' := [some (.ref (0)), some (.int (a)), some (.int (b)), some (.int (c)), none, none, none]) (st' := [.ref (0)]) ⟨dX10_basisLetter_0, rfl⟩ rfl ?_
    refine ev_cVx Y_X10_requireCompleteAnalysis L_RX10_242 dX10_basisLetter_1 ⟨Nat.le_of_ble_eq_true rfl, Nat.le_of_ble_eq_true rfl, Nat.le_of_ble_eq_true rfl, Nat.le_of_ble_eq_true rfl, Nat.le_of_ble_eq_true rfl⟩ hR.o (as := []) rfl rfl (c_X10_reqC1 hl S hS hR g0) ?_
    refine ev_Th_out rfl ⟨Nat.le_of_ble_eq_true rfl, Nat.le_of_ble_eq_true rfl⟩ ?_
    have e9 : sBL S a b c = (1, 0) := gt_1 g0
    rw [e9]
    exact ⟨rfl, ⟨hR.o, hR.m, hR.x, hR.g, hR.h, hR.k, hR.a, hR.l, hR.r, hR.w, hR.s⟩, Fr.rf⟩
  · have y9 : True := trivial
    rcases Bool.eq_false_or_eq_true (rn S.T S.G).1 with c1 | c0
    · have y9 : True := trivial
      refine ev_body hl rfl (by decide +kernel) (Nat.le_of_ble_eq_true rfl) ?_
      show ev_ l m_X10_basisLetter 0 0 0 [some (.ref (0)), some (.int (a)), some (.int (b)), some (.int (c)), none, none, none] [] M _
      refine ev_blk (B := [(.aload_n 0, 1)]) (pe := 1) (ls' := [some (.ref (0)), some (.int (a)), some (.int (b)), some (.int (c)), none, none, none]) (st' := [.ref (0)]) ⟨dX10_basisLetter_0, rfl⟩ rfl ?_
      refine ev_cVn Y_X10_requireCompleteAnalysis L_RX10_242 dX10_basisLetter_1 ⟨Nat.le_of_ble_eq_true rfl, Nat.le_of_ble_eq_true rfl, Nat.le_of_ble_eq_true rfl, Nat.le_of_ble_eq_true rfl, Nat.le_of_ble_eq_true rfl⟩ hR.o (as := []) rfl rfl (c_X10_reqC0 hl S hS hR g1 c1) (fun M1 hL1 hB1 => ?_)
      obtain ⟨Da, Df⟩ := hB1
      have Dx : RAx M1 S.T S.G := by
        obtain ⟨t1, t2, t3, t4⟩ := Da
        exact ⟨true, t1, t2, t3, t4⟩
      obtain ⟨tr9, lo9, B9, co, la, N9, hA, hBs, hAN, hA8, hA9, hAf⟩ := Da
      obtain ⟨rfl, rfl, h13, hBe⟩ := hAf rfl
      refine ev_blk (B := [(.aload_n 0, 1)]) (pe := 5) (ls' := [some (.ref (0)), some (.int (a)), some (.int (b)), some (.int (c)), none, none, none]) (st' := [.ref (0)]) ⟨dX10_basisLetter_4, rfl⟩ rfl ?_
      refine ev_getf (v := .ref (17)) F_RX10_49 dX10_basisLetter_5 (hR.o.fr Df (by omega)) rfl ?_
      refine ev_blk (B := [(.aload_n 0, 1)]) (pe := 9) (ls' := [some (.ref (0)), some (.int (a)), some (.int (b)), some (.int (c)), none, none, none]) (st' := [.ref (0), .ref (17)]) ⟨dX10_basisLetter_8, rfl⟩ rfl ?_
      refine ev_getf (v := .ref (17)) F_RX10_49 dX10_basisLetter_9 (hR.o.fr Df (by omega)) rfl ?_
      refine ev_cVv Y_X0_last L_RX10_245 dX10_basisLetter_12 ⟨Nat.le_of_ble_eq_true rfl, Nat.le_of_ble_eq_true rfl, Nat.le_of_ble_eq_true rfl, Nat.le_of_ble_eq_true rfl, Nat.le_of_ble_eq_true rfl⟩ hA.1 (as := []) rfl rfl (c_X0_last hl 17 true _ _ tr9 lo9 hA) ?_
      have hLl : La S < 13 := h13
      have hqk : RQ M1 (17 + 2 + 4 * ((La S))) 30 (bl S.T S.G ((La S))) := by rw [← hBe ((La S)) (show ((La S)) ≤ La S by omega)]; exact hBs ((La S)) (by omega)
      have hq30 : (bl S.T S.G ((La S))).length ≤ 30 := hqk.2.1
      have hb25 : cfs 25 (bl S.T S.G ((La S))) := (bl_ok hS.T hS.G ((La S))).le (by omega)
      refine ev_cVv Y_X0_basisOf L_RX10_251 dX10_basisLetter_15 ⟨Nat.le_of_ble_eq_true rfl, Nat.le_of_ble_eq_true rfl, Nat.le_of_ble_eq_true rfl, Nat.le_of_ble_eq_true rfl, Nat.le_of_ble_eq_true rfl⟩ hA.1 (as := [.int (nI ((La S)))]) rfl rfl (c_X0_basisOf hl 17 true _ _ tr9 lo9 hA ((La S)) (by omega)) ?_
      refine ev_blk (B := [(.astore 4, 2)]) (pe := 20) (ls' := [some (.ref (0)), some (.int (a)), some (.int (b)), some (.int (c)), some (.ref (17 + 2 + 4 * (La S))), none, none]) (st' := []) ⟨dX10_basisLetter_18, rfl⟩ rfl ?_
      rcases inR_c a ((bl S.T S.G (La S)).length) (by omega) with ⟨k, hk, rfl⟩ | ia
      · have jk : inR (nI k) ((bl S.T S.G (La S)).length) = true := inR_n hk (by omega)
        have tk : (nI k).toNatClampNeg = k := nI_clamp (by omega)
        rcases inR_c b 2 (by omega) with ⟨j, hj, rfl⟩ | ib
        · have jj : inR (nI j) 2 = true := inR_n hj (by omega)
          have tj : (nI j).toNatClampNeg = j := nI_clamp (by omega)
          have hcw := cw_ok (cfs_cg hb25 hk) j
          have hcw9 : (cw (cg (bl S.T S.G (La S)) k) j).length ≤ 25 := hcw.2
          rcases inR_c c ((cw (cg (bl S.T S.G (La S)) k) j).length) (by omega) with ⟨m, hm, rfl⟩ | ic
          · have jm : inR (nI m) ((cw (cg (bl S.T S.G (La S)) k) j).length) = true := inR_n hm (by omega)
            have tm : (nI m).toNatClampNeg = m := nI_clamp (by omega)
            refine ev_blk (B := [(.iload_n 1, 1)]) (pe := 21) (ls' := [some (.ref (0)), some (.int (nI k)), some (.int (nI j)), some (.int (nI m)), some (.ref (17 + 2 + 4 * (La S))), none, none]) (st' := [.int (nI k)]) ⟨dX10_basisLetter_20, rfl⟩ rfl ?_
            refine ev_fN_lt dX10_basisLetter_21 (tgt := 40) (by decide) (by omega) ?_
            refine ev_blk (B := [(.iload_n 1, 1), (.aload 4, 2)]) (pe := 27) (ls' := [some (.ref (0)), some (.int (nI k)), some (.int (nI j)), some (.int (nI m)), some (.ref (17 + 2 + 4 * (La S))), none, none]) (st' := [.ref (17 + 2 + 4 * (La S)), .int (nI k)]) ⟨dX10_basisLetter_24, dX10_basisLetter_25, rfl⟩ rfl ?_
            refine ev_cVv Y_X2_size L_RX10_225 dX10_basisLetter_27 ⟨Nat.le_of_ble_eq_true rfl, Nat.le_of_ble_eq_true rfl, Nat.le_of_ble_eq_true rfl, Nat.le_of_ble_eq_true rfl, Nat.le_of_ble_eq_true rfl⟩ hqk.obj (as := []) rfl rfl (c_X2_size hl (17 + 2 + 4 * (La S)) 30 (bl S.T S.G (La S)) hqk) ?_
            refine ev_iN_ge dX10_basisLetter_30 (tgt := 40) (by decide) (by omega) (by omega) (fun q30 => ?_) (fun q30 => ?_)
            · exact absurd q30 (by omega)
            · refine ev_blk (B := [(.iload_n 2, 1)]) (pe := 34) (ls' := [some (.ref (0)), some (.int (nI k)), some (.int (nI j)), some (.int (nI m)), some (.ref (17 + 2 + 4 * (La S))), none, none]) (st' := [.int (nI j)]) ⟨dX10_basisLetter_33, rfl⟩ rfl ?_
              refine ev_cSv Y_X10_isChannel L_RX10_85 dX10_basisLetter_34 ⟨Nat.le_of_ble_eq_true rfl, Nat.le_of_ble_eq_true rfl, Nat.le_of_ble_eq_true rfl, Nat.le_of_ble_eq_true rfl, Nat.le_of_ble_eq_true rfl⟩ (as := [.int (nI j)]) rfl rfl (c_X10_isChannel hl (nI j)) ?_
              refine ev_ifB_ne dX10_basisLetter_37 (tgt := 51) (by decide) (fun q37 => ?_) (fun q37 => ?_)
              · refine ev_blk (B := [(.aload 4, 2), (.iload_n 1, 1), (.iload_n 2, 1)]) (pe := 55) (ls' := [some (.ref (0)), some (.int (nI k)), some (.int (nI j)), some (.int (nI m)), some (.ref (17 + 2 + 4 * (La S))), none, none]) (st' := [.int (nI j), .int (nI k), .ref (17 + 2 + 4 * (La S))]) ⟨dX10_basisLetter_51, dX10_basisLetter_53, dX10_basisLetter_54, rfl⟩ rfl ?_
                refine ev_cVv Y_X2_wordAt L_RX10_263 dX10_basisLetter_55 ⟨Nat.le_of_ble_eq_true rfl, Nat.le_of_ble_eq_true rfl, Nat.le_of_ble_eq_true rfl, Nat.le_of_ble_eq_true rfl, Nat.le_of_ble_eq_true rfl⟩ hqk.obj (as := [.int (nI k), .int (nI j)]) rfl rfl (c_X2_wordAt hl (17 + 2 + 4 * (La S)) 30 (bl S.T S.G (La S)) hqk k hk j hj) ?_
                refine ev_blk (B := [(.lstore 5, 2), (.iload_n 3, 1)]) (pe := 61) (ls' := [some (.ref (0)), some (.int (nI k)), some (.int (nI j)), some (.int (nI m)), some (.ref (17 + 2 + 4 * (La S))), some (.long (e1 (cw (cg (bl S.T S.G (La S)) k) j))), none]) (st' := [.int (nI m)]) ⟨dX10_basisLetter_58, dX10_basisLetter_60, rfl⟩ rfl ?_
                refine ev_fN_lt dX10_basisLetter_61 (tgt := 73) (by decide) (by omega) ?_
                refine ev_blk (B := [(.iload_n 3, 1), (.lload 5, 2)]) (pe := 67) (ls' := [some (.ref (0)), some (.int (nI k)), some (.int (nI j)), some (.int (nI m)), some (.ref (17 + 2 + 4 * (La S))), some (.long (e1 (cw (cg (bl S.T S.G (La S)) k) j))), none]) (st' := [.long (e1 (cw (cg (bl S.T S.G (La S)) k) j)), .int (nI m)]) ⟨dX10_basisLetter_64, dX10_basisLetter_65, rfl⟩ rfl ?_
                refine ev_cSv Y_X9_size L_RX10_139 dX10_basisLetter_67 ⟨Nat.le_of_ble_eq_true rfl, Nat.le_of_ble_eq_true rfl, Nat.le_of_ble_eq_true rfl, Nat.le_of_ble_eq_true rfl, Nat.le_of_ble_eq_true rfl⟩ (as := [.long (e1 (cw (cg (bl S.T S.G (La S)) k) j))]) rfl rfl (c_X9_size hl ((cw (cg (bl S.T S.G (La S)) k) j)) hcw.1 hcw.2) ?_
                refine ev_iN_lt dX10_basisLetter_70 (tgt := 84) (by decide) (by omega) (by omega) (fun q70 => ?_) (fun q70 => ?_)
                · refine ev_blk (B := [(.lload 5, 2), (.iload_n 3, 1)]) (pe := 87) (ls' := [some (.ref (0)), some (.int (nI k)), some (.int (nI j)), some (.int (nI m)), some (.ref (17 + 2 + 4 * (La S))), some (.long (e1 (cw (cg (bl S.T S.G (La S)) k) j))), none]) (st' := [.int (nI m), .long (e1 (cw (cg (bl S.T S.G (La S)) k) j))]) ⟨dX10_basisLetter_84, dX10_basisLetter_86, rfl⟩ rfl ?_
                  refine ev_cSv Y_X9_at L_RX10_159 dX10_basisLetter_87 ⟨Nat.le_of_ble_eq_true rfl, Nat.le_of_ble_eq_true rfl, Nat.le_of_ble_eq_true rfl, Nat.le_of_ble_eq_true rfl, Nat.le_of_ble_eq_true rfl⟩ (as := [.long (e1 (cw (cg (bl S.T S.G (La S)) k) j)), .int (nI m)]) rfl rfl (c_X9_at hl (cw (cg (bl S.T S.G (La S)) k) j) hcw.1 hcw.2 m hm) ?_
                  refine ev_iret dX10_basisLetter_90 rfl (rfl) ⟨Nat.le_of_ble_eq_true rfl, Nat.le_of_ble_eq_true rfl⟩ ?_
                  have e9 : sBL S (nI k) (nI j) (nI m) = (0, nI ((cw (cg (bl S.T S.G (La S)) k) j).getD m 0)) := (gt_0 g1 c1).trans (by simp [jk, tk, jj, tj, jm, tm, tN, q30, q37, q70])
                  rw [e9]
                  refine ⟨?_, ⟨(hR.o.fr Df (by omega)), (hR.m.fr Df (by omega)), (hR.x.fr Df (by omega)), (hR.g.fr Df (by omega)), (hR.h.fr Df (by omega)), (hR.k.fr Df (by omega)), Dx, (hR.l.fr Df (by omega)), (hR.r.fr Df (by omega)), (hR.w.fr Df (by omega)), (hR.s.fr Df (by omega))⟩, (Df.to (by omega) (by omega))⟩
                  rw [gd_at hm]; rfl
                · exact absurd q70 (by omega)
              · exact absurd (jj.symm.trans q37) (by decide)
          · have ic9 := ic
            refine ev_blk (B := [(.iload_n 1, 1)]) (pe := 21) (ls' := [some (.ref (0)), some (.int (nI k)), some (.int (nI j)), some (.int (c)), some (.ref (17 + 2 + 4 * (La S))), none, none]) (st' := [.int (nI k)]) ⟨dX10_basisLetter_20, rfl⟩ rfl ?_
            refine ev_fN_lt dX10_basisLetter_21 (tgt := 40) (by decide) (by omega) ?_
            refine ev_blk (B := [(.iload_n 1, 1), (.aload 4, 2)]) (pe := 27) (ls' := [some (.ref (0)), some (.int (nI k)), some (.int (nI j)), some (.int (c)), some (.ref (17 + 2 + 4 * (La S))), none, none]) (st' := [.ref (17 + 2 + 4 * (La S)), .int (nI k)]) ⟨dX10_basisLetter_24, dX10_basisLetter_25, rfl⟩ rfl ?_
            refine ev_cVv Y_X2_size L_RX10_225 dX10_basisLetter_27 ⟨Nat.le_of_ble_eq_true rfl, Nat.le_of_ble_eq_true rfl, Nat.le_of_ble_eq_true rfl, Nat.le_of_ble_eq_true rfl, Nat.le_of_ble_eq_true rfl⟩ hqk.obj (as := []) rfl rfl (c_X2_size hl (17 + 2 + 4 * (La S)) 30 (bl S.T S.G (La S)) hqk) ?_
            refine ev_iN_ge dX10_basisLetter_30 (tgt := 40) (by decide) (by omega) (by omega) (fun q30 => ?_) (fun q30 => ?_)
            · exact absurd q30 (by omega)
            · refine ev_blk (B := [(.iload_n 2, 1)]) (pe := 34) (ls' := [some (.ref (0)), some (.int (nI k)), some (.int (nI j)), some (.int (c)), some (.ref (17 + 2 + 4 * (La S))), none, none]) (st' := [.int (nI j)]) ⟨dX10_basisLetter_33, rfl⟩ rfl ?_
              refine ev_cSv Y_X10_isChannel L_RX10_85 dX10_basisLetter_34 ⟨Nat.le_of_ble_eq_true rfl, Nat.le_of_ble_eq_true rfl, Nat.le_of_ble_eq_true rfl, Nat.le_of_ble_eq_true rfl, Nat.le_of_ble_eq_true rfl⟩ (as := [.int (nI j)]) rfl rfl (c_X10_isChannel hl (nI j)) ?_
              refine ev_ifB_ne dX10_basisLetter_37 (tgt := 51) (by decide) (fun q37 => ?_) (fun q37 => ?_)
              · refine ev_blk (B := [(.aload 4, 2), (.iload_n 1, 1), (.iload_n 2, 1)]) (pe := 55) (ls' := [some (.ref (0)), some (.int (nI k)), some (.int (nI j)), some (.int (c)), some (.ref (17 + 2 + 4 * (La S))), none, none]) (st' := [.int (nI j), .int (nI k), .ref (17 + 2 + 4 * (La S))]) ⟨dX10_basisLetter_51, dX10_basisLetter_53, dX10_basisLetter_54, rfl⟩ rfl ?_
                refine ev_cVv Y_X2_wordAt L_RX10_263 dX10_basisLetter_55 ⟨Nat.le_of_ble_eq_true rfl, Nat.le_of_ble_eq_true rfl, Nat.le_of_ble_eq_true rfl, Nat.le_of_ble_eq_true rfl, Nat.le_of_ble_eq_true rfl⟩ hqk.obj (as := [.int (nI k), .int (nI j)]) rfl rfl (c_X2_wordAt hl (17 + 2 + 4 * (La S)) 30 (bl S.T S.G (La S)) hqk k hk j hj) ?_
                refine ev_blk (B := [(.lstore 5, 2), (.iload_n 3, 1)]) (pe := 61) (ls' := [some (.ref (0)), some (.int (nI k)), some (.int (nI j)), some (.int (c)), some (.ref (17 + 2 + 4 * (La S))), some (.long (e1 (cw (cg (bl S.T S.G (La S)) k) j))), none]) (st' := [.int (c)]) ⟨dX10_basisLetter_58, dX10_basisLetter_60, rfl⟩ rfl ?_
                refine ev_if_lt dX10_basisLetter_61 (tgt := 73) (by decide) (fun q61 => ?_) (fun q61 => ?_)
                · refine ev_throwW (cls := "java/lang/IndexOutOfBoundsException") (text := "no such place") (names := ev_nmR) (ic := 259) (ik := 255) rfl (by decide +kernel) (by decide +kernel) T_IndexOutOfBoundsException (by decide +kernel) dX10_basisLetter_73 dX10_basisLetter_76 dX10_basisLetter_77 dX10_basisLetter_80 dX10_basisLetter_83 ⟨Nat.le_of_ble_eq_true rfl, Nat.le_of_ble_eq_true rfl, Nat.le_of_ble_eq_true rfl, Nat.le_of_ble_eq_true rfl⟩ ?_
                  have e9 : sBL S (nI k) (nI j) c = (3, 0) := (gt_0 g1 c1).trans (by simp [jk, tk, jj, tj, ic, tN])
                  rw [e9]
                  exact ⟨rfl, ⟨(hR.o.fr Df (by omega)), (hR.m.fr Df (by omega)), (hR.x.fr Df (by omega)), (hR.g.fr Df (by omega)), (hR.h.fr Df (by omega)), (hR.k.fr Df (by omega)), Dx, (hR.l.fr Df (by omega)), (hR.r.fr Df (by omega)), (hR.w.fr Df (by omega)), (hR.s.fr Df (by omega))⟩, (Df.to (by omega) (by omega))⟩
                · refine ev_blk (B := [(.iload_n 3, 1), (.lload 5, 2)]) (pe := 67) (ls' := [some (.ref (0)), some (.int (nI k)), some (.int (nI j)), some (.int (c)), some (.ref (17 + 2 + 4 * (La S))), some (.long (e1 (cw (cg (bl S.T S.G (La S)) k) j))), none]) (st' := [.long (e1 (cw (cg (bl S.T S.G (La S)) k) j)), .int (c)]) ⟨dX10_basisLetter_64, dX10_basisLetter_65, rfl⟩ rfl ?_
                  refine ev_cSv Y_X9_size L_RX10_139 dX10_basisLetter_67 ⟨Nat.le_of_ble_eq_true rfl, Nat.le_of_ble_eq_true rfl, Nat.le_of_ble_eq_true rfl, Nat.le_of_ble_eq_true rfl, Nat.le_of_ble_eq_true rfl⟩ (as := [.long (e1 (cw (cg (bl S.T S.G (La S)) k) j))]) rfl rfl (c_X9_size hl ((cw (cg (bl S.T S.G (La S)) k) j)) hcw.1 hcw.2) ?_
                  refine ev_ic_lt dX10_basisLetter_70 (tgt := 84) (by decide) (fun q70 => ?_) (fun q70 => ?_)
                  · exact (inR_no ic q61 q70).elim
                  · refine ev_throwW (cls := "java/lang/IndexOutOfBoundsException") (text := "no such place") (names := ev_nmR) (ic := 259) (ik := 255) rfl (by decide +kernel) (by decide +kernel) T_IndexOutOfBoundsException (by decide +kernel) dX10_basisLetter_73 dX10_basisLetter_76 dX10_basisLetter_77 dX10_basisLetter_80 dX10_basisLetter_83 ⟨Nat.le_of_ble_eq_true rfl, Nat.le_of_ble_eq_true rfl, Nat.le_of_ble_eq_true rfl, Nat.le_of_ble_eq_true rfl⟩ ?_
                    have e9 : sBL S (nI k) (nI j) c = (3, 0) := (gt_0 g1 c1).trans (by simp [jk, tk, jj, tj, ic, tN])
                    rw [e9]
                    exact ⟨rfl, ⟨(hR.o.fr Df (by omega)), (hR.m.fr Df (by omega)), (hR.x.fr Df (by omega)), (hR.g.fr Df (by omega)), (hR.h.fr Df (by omega)), (hR.k.fr Df (by omega)), Dx, (hR.l.fr Df (by omega)), (hR.r.fr Df (by omega)), (hR.w.fr Df (by omega)), (hR.s.fr Df (by omega))⟩, (Df.to (by omega) (by omega))⟩
              · exact absurd (jj.symm.trans q37) (by decide)
        · have ib9 := ib
          refine ev_blk (B := [(.iload_n 1, 1)]) (pe := 21) (ls' := [some (.ref (0)), some (.int (nI k)), some (.int (b)), some (.int (c)), some (.ref (17 + 2 + 4 * (La S))), none, none]) (st' := [.int (nI k)]) ⟨dX10_basisLetter_20, rfl⟩ rfl ?_
          refine ev_fN_lt dX10_basisLetter_21 (tgt := 40) (by decide) (by omega) ?_
          refine ev_blk (B := [(.iload_n 1, 1), (.aload 4, 2)]) (pe := 27) (ls' := [some (.ref (0)), some (.int (nI k)), some (.int (b)), some (.int (c)), some (.ref (17 + 2 + 4 * (La S))), none, none]) (st' := [.ref (17 + 2 + 4 * (La S)), .int (nI k)]) ⟨dX10_basisLetter_24, dX10_basisLetter_25, rfl⟩ rfl ?_
          refine ev_cVv Y_X2_size L_RX10_225 dX10_basisLetter_27 ⟨Nat.le_of_ble_eq_true rfl, Nat.le_of_ble_eq_true rfl, Nat.le_of_ble_eq_true rfl, Nat.le_of_ble_eq_true rfl, Nat.le_of_ble_eq_true rfl⟩ hqk.obj (as := []) rfl rfl (c_X2_size hl (17 + 2 + 4 * (La S)) 30 (bl S.T S.G (La S)) hqk) ?_
          refine ev_iN_ge dX10_basisLetter_30 (tgt := 40) (by decide) (by omega) (by omega) (fun q30 => ?_) (fun q30 => ?_)
          · exact absurd q30 (by omega)
          · refine ev_blk (B := [(.iload_n 2, 1)]) (pe := 34) (ls' := [some (.ref (0)), some (.int (nI k)), some (.int (b)), some (.int (c)), some (.ref (17 + 2 + 4 * (La S))), none, none]) (st' := [.int (b)]) ⟨dX10_basisLetter_33, rfl⟩ rfl ?_
            refine ev_cSv Y_X10_isChannel L_RX10_85 dX10_basisLetter_34 ⟨Nat.le_of_ble_eq_true rfl, Nat.le_of_ble_eq_true rfl, Nat.le_of_ble_eq_true rfl, Nat.le_of_ble_eq_true rfl, Nat.le_of_ble_eq_true rfl⟩ (as := [.int (b)]) rfl rfl (c_X10_isChannel hl b) ?_
            refine ev_ifB_ne dX10_basisLetter_37 (tgt := 51) (by decide) (fun q37 => ?_) (fun q37 => ?_)
            · exact absurd (ib.symm.trans q37) (by decide)
            · refine ev_throwW (cls := "java/lang/IndexOutOfBoundsException") (text := "no such configuration or channel") (names := ev_nmR) (ic := 259) (ik := 255) rfl (by decide +kernel) (by decide +kernel) T_IndexOutOfBoundsException (by decide +kernel) dX10_basisLetter_40 dX10_basisLetter_43 dX10_basisLetter_44 dX10_basisLetter_47 dX10_basisLetter_50 ⟨Nat.le_of_ble_eq_true rfl, Nat.le_of_ble_eq_true rfl, Nat.le_of_ble_eq_true rfl, Nat.le_of_ble_eq_true rfl⟩ ?_
              have e9 : sBL S (nI k) b c = (3, 0) := (gt_0 g1 c1).trans (by simp [jk, tk, ib, tN])
              rw [e9]
              exact ⟨rfl, ⟨(hR.o.fr Df (by omega)), (hR.m.fr Df (by omega)), (hR.x.fr Df (by omega)), (hR.g.fr Df (by omega)), (hR.h.fr Df (by omega)), (hR.k.fr Df (by omega)), Dx, (hR.l.fr Df (by omega)), (hR.r.fr Df (by omega)), (hR.w.fr Df (by omega)), (hR.s.fr Df (by omega))⟩, (Df.to (by omega) (by omega))⟩
      · have ia9 := ia
        refine ev_blk (B := [(.iload_n 1, 1)]) (pe := 21) (ls' := [some (.ref (0)), some (.int (a)), some (.int (b)), some (.int (c)), some (.ref (17 + 2 + 4 * (La S))), none, none]) (st' := [.int (a)]) ⟨dX10_basisLetter_20, rfl⟩ rfl ?_
        refine ev_if_lt dX10_basisLetter_21 (tgt := 40) (by decide) (fun q21 => ?_) (fun q21 => ?_)
        · refine ev_throwW (cls := "java/lang/IndexOutOfBoundsException") (text := "no such configuration or channel") (names := ev_nmR) (ic := 259) (ik := 255) rfl (by decide +kernel) (by decide +kernel) T_IndexOutOfBoundsException (by decide +kernel) dX10_basisLetter_40 dX10_basisLetter_43 dX10_basisLetter_44 dX10_basisLetter_47 dX10_basisLetter_50 ⟨Nat.le_of_ble_eq_true rfl, Nat.le_of_ble_eq_true rfl, Nat.le_of_ble_eq_true rfl, Nat.le_of_ble_eq_true rfl⟩ ?_
          have e9 : sBL S a b c = (3, 0) := (gt_0 g1 c1).trans (by simp [ia, tN])
          rw [e9]
          exact ⟨rfl, ⟨(hR.o.fr Df (by omega)), (hR.m.fr Df (by omega)), (hR.x.fr Df (by omega)), (hR.g.fr Df (by omega)), (hR.h.fr Df (by omega)), (hR.k.fr Df (by omega)), Dx, (hR.l.fr Df (by omega)), (hR.r.fr Df (by omega)), (hR.w.fr Df (by omega)), (hR.s.fr Df (by omega))⟩, (Df.to (by omega) (by omega))⟩
        · refine ev_blk (B := [(.iload_n 1, 1), (.aload 4, 2)]) (pe := 27) (ls' := [some (.ref (0)), some (.int (a)), some (.int (b)), some (.int (c)), some (.ref (17 + 2 + 4 * (La S))), none, none]) (st' := [.ref (17 + 2 + 4 * (La S)), .int (a)]) ⟨dX10_basisLetter_24, dX10_basisLetter_25, rfl⟩ rfl ?_
          refine ev_cVv Y_X2_size L_RX10_225 dX10_basisLetter_27 ⟨Nat.le_of_ble_eq_true rfl, Nat.le_of_ble_eq_true rfl, Nat.le_of_ble_eq_true rfl, Nat.le_of_ble_eq_true rfl, Nat.le_of_ble_eq_true rfl⟩ hqk.obj (as := []) rfl rfl (c_X2_size hl (17 + 2 + 4 * (La S)) 30 (bl S.T S.G (La S)) hqk) ?_
          refine ev_ic_ge dX10_basisLetter_30 (tgt := 40) (by decide) (fun q30 => ?_) (fun q30 => ?_)
          · refine ev_throwW (cls := "java/lang/IndexOutOfBoundsException") (text := "no such configuration or channel") (names := ev_nmR) (ic := 259) (ik := 255) rfl (by decide +kernel) (by decide +kernel) T_IndexOutOfBoundsException (by decide +kernel) dX10_basisLetter_40 dX10_basisLetter_43 dX10_basisLetter_44 dX10_basisLetter_47 dX10_basisLetter_50 ⟨Nat.le_of_ble_eq_true rfl, Nat.le_of_ble_eq_true rfl, Nat.le_of_ble_eq_true rfl, Nat.le_of_ble_eq_true rfl⟩ ?_
            have e9 : sBL S a b c = (3, 0) := (gt_0 g1 c1).trans (by simp [ia, tN])
            rw [e9]
            exact ⟨rfl, ⟨(hR.o.fr Df (by omega)), (hR.m.fr Df (by omega)), (hR.x.fr Df (by omega)), (hR.g.fr Df (by omega)), (hR.h.fr Df (by omega)), (hR.k.fr Df (by omega)), Dx, (hR.l.fr Df (by omega)), (hR.r.fr Df (by omega)), (hR.w.fr Df (by omega)), (hR.s.fr Df (by omega))⟩, (Df.to (by omega) (by omega))⟩
          · exact (inR_no ia q21 (Int32.not_le.mp q30)).elim
    · have y9 : True := trivial
      refine ev_body hl rfl (by decide +kernel) (Nat.le_of_ble_eq_true rfl) ?_
      show ev_ l m_X10_basisLetter 0 0 0 [some (.ref (0)), some (.int (a)), some (.int (b)), some (.int (c)), none, none, none] [] M _
      refine ev_blk (B := [(.aload_n 0, 1)]) (pe := 1) (ls' := [some (.ref (0)), some (.int (a)), some (.int (b)), some (.int (c)), none, none, none]) (st' := [.ref (0)]) ⟨dX10_basisLetter_0, rfl⟩ rfl ?_
      refine ev_cVX Y_X10_requireCompleteAnalysis L_RX10_242 dX10_basisLetter_1 ⟨Nat.le_of_ble_eq_true rfl, Nat.le_of_ble_eq_true rfl, Nat.le_of_ble_eq_true rfl, Nat.le_of_ble_eq_true rfl, Nat.le_of_ble_eq_true rfl⟩ hR.o (as := []) rfl rfl (c_X10_reqC2 hl S hS hR g1 c0) (fun M2 hL2 hB2 => ?_)
      obtain ⟨Da, Df⟩ := hB2
      have Dx : RAx M2 S.T S.G := by
        obtain ⟨t1, t2, t3, t4⟩ := Da
        exact ⟨true, t1, t2, t3, t4⟩
      refine ev_Th_out rfl ⟨Nat.le_of_ble_eq_true rfl, Nat.le_of_ble_eq_true rfl⟩ ?_
      have e9 : sBL S a b c = (2, 0) := gt_2 g1 c0
      rw [e9]
      exact ⟨rfl, ⟨(hR.o.fr Df (by omega)), (hR.m.fr Df (by omega)), (hR.x.fr Df (by omega)), (hR.g.fr Df (by omega)), (hR.h.fr Df (by omega)), (hR.k.fr Df (by omega)), Dx, (hR.l.fr Df (by omega)), (hR.r.fr Df (by omega)), (hR.w.fr Df (by omega)), (hR.s.fr Df (by omega))⟩, (Df.to (by omega) (by omega))⟩

set_option maxHeartbeats 4000000 in
set_option maxRecDepth 100000 in
theorem c_X10_covS_l {l : Launch} (hl : l.stackTraces = false) {M : ev_M} (S : St) (hR : RClo M) (co : Bool) (la tr9 lo9 : Nat) (hA : RAo M 17 true co la tr9 lo9) (h13 : la < 13) (B9 : Nat → List Cf) (hBs : RBs M 17 B9) (hB25 : cfs 25 (B9 la)) (Q : ev_R → ev_M → Prop) (hQ : Q (.inl (some (.int (cvS (B9 la) 6)))) M) : ∀ (n9 : Nat) (z : Nat), z ≤ 6 → 6 - z < n9 → ev_ l m_X10_coveringStates 2 12 8 [some (.ref (0)), some (.int (cvS (B9 la) z)), some (.int (nI z))] [] M (Q) := by
  intro n9
  induction n9 with
  | zero => intro z hz hm9; exact absurd hm9 (by omega)
  | succ n9 ih =>
    intro z hz hm9
    refine ev_blk (B := [(.iload_n 2, 1), (.bipush 6, 2)]) (pe := 11) (ls' := [some (.ref (0)), some (.int (cvS (B9 la) z)), some (.int (nI z))]) (st' := [.int (nI 6), .int (nI z)]) ⟨dX10_coveringStates_8, dX10_coveringStates_9, rfl⟩ rfl ?_
    refine ev_iN_ge dX10_coveringStates_11 (tgt := 37) (by decide) (by omega) (by omega) (fun q11 => ?_) (fun q11 => ?_)
    · refine ev_blk (B := [(.iload_n 1, 1)]) (pe := 38) (ls' := [some (.ref (0)), some (.int (cvS (B9 la) z)), some (.int (nI z))]) (st' := [.int (cvS (B9 la) z)]) ⟨dX10_coveringStates_37, rfl⟩ rfl ?_
      refine ev_iret dX10_coveringStates_38 rfl (rfl) ⟨Nat.le_of_ble_eq_true rfl, Nat.le_of_ble_eq_true rfl⟩ ?_
      have e7 : z = 6 := by omega
      rw [e7]
      exact hQ
    · refine ev_blk (B := [(.aload_n 0, 1)]) (pe := 15) (ls' := [some (.ref (0)), some (.int (cvS (B9 la) z)), some (.int (nI z))]) (st' := [.ref (0)]) ⟨dX10_coveringStates_14, rfl⟩ rfl ?_
      refine ev_getf (v := .ref (17)) F_RX10_49 dX10_coveringStates_15 hR rfl ?_
      refine ev_blk (B := [(.iload_n 2, 1)]) (pe := 19) (ls' := [some (.ref (0)), some (.int (cvS (B9 la) z)), some (.int (nI z))]) (st' := [.int (nI z), .ref (17)]) ⟨dX10_coveringStates_18, rfl⟩ rfl ?_
      have hz6 : z < 6 := by omega
      refine ev_cVv Y_X0_leastLetters L_RX10_271 dX10_coveringStates_19 ⟨Nat.le_of_ble_eq_true rfl, Nat.le_of_ble_eq_true rfl, Nat.le_of_ble_eq_true rfl, Nat.le_of_ble_eq_true rfl, Nat.le_of_ble_eq_true rfl⟩ hA.1 (as := [.int (nI z)]) rfl rfl (c_X0_leastLetters hl 17 true co la tr9 lo9 hA h13 B9 hBs hB25 z hz6) ?_
      refine ev_if_ne dX10_coveringStates_22 (tgt := 31) (by decide) (fun q22 => ?_) (fun q22 => ?_)
      · refine ev_blk (B := [(.iinc 2 1, 3)]) (pe := 34) (ls' := [some (.ref (0)), some (.int (cvS (B9 la) z)), some (.int (nI (z + 1)))]) (st' := []) ⟨dX10_coveringStates_31, rfl⟩ (by show some (([some (.ref (0)), some (.int (cvS (B9 la) z)), some (.int ((nI z) + Int32.ofInt (1)))] : ev_L), ([] : List Value)) = _; rw [ev_inc1 z]) ?_
        refine ev_goto (tgt := 8) dX10_coveringStates_34 (by decide) ?_
        have e8 : cvS (B9 la) (z + 1) = cvS (B9 la) z := if_neg q22
        have k9 := ih (z + 1) (by omega) (by omega)
        rw [e8] at k9
        exact k9
      · refine ev_blk (B := [(.iload_n 1, 1), (.iconst 1, 1), (.iload_n 2, 1), (.ishl, 1), (.ior, 1), (.istore_n 1, 1), (.iinc 2 1, 3)]) (pe := 34) (ls' := [some (.ref (0)), some (.int ((cvS (B9 la) z) ||| ((nI 1) <<< ((nI z) &&& 31)))), some (.int (nI (z + 1)))]) (st' := []) ⟨dX10_coveringStates_25, dX10_coveringStates_26, dX10_coveringStates_27, dX10_coveringStates_28, dX10_coveringStates_29, dX10_coveringStates_30, dX10_coveringStates_31, rfl⟩ (by show some (([some (.ref (0)), some (.int ((cvS (B9 la) z) ||| ((nI 1) <<< ((nI z) &&& 31)))), some (.int ((nI z) + Int32.ofInt (1)))] : ev_L), ([] : List Value)) = _; rw [ev_inc1 z]) ?_
        refine ev_goto (tgt := 8) dX10_coveringStates_34 (by decide) ?_
        have e8 : cvS (B9 la) (z + 1) = cvS (B9 la) z ||| ((1 : Int32) <<< (nI z &&& 31)) := if_pos q22
        have k9 := ih (z + 1) (by omega) (by omega)
        rw [e8] at k9
        exact k9

set_option maxHeartbeats 4000000 in
set_option maxRecDepth 100000 in
theorem c_X10_coveringStates {l : Launch} (hl : l.stackTraces = false) {M : ev_M} (S : St) (hS : okS S) (hR : RCl M S) : ev_Mt l m_X10_coveringStates [.ref (0)] M (fun r M1 => r = cA [eUO, eIS] (sCo S) ∧ RCl M1 S ∧ Fr 0 104 M M1) := by
  have hTl : S.T.length ≤ 10 := hR.m.1
  have hGl : S.G.length ≤ 3 := hR.g.2.1
  rcases Nat.eq_zero_or_pos S.G.length with g0 | g1
  · have y9 : True := trivial
    refine ev_body hl rfl (by decide +kernel) (Nat.le_of_ble_eq_true rfl) ?_
    show ev_ l m_X10_coveringStates 0 0 0 [some (.ref (0)), none, none] [] M _
    refine ev_blk (B := [(.aload_n 0, 1)]) (pe := 1) (ls' := [some (.ref (0)), none, none]) (st' := [.ref (0)]) ⟨dX10_coveringStates_0, rfl⟩ rfl ?_
    refine ev_cVx Y_X10_requireCompleteAnalysis L_RX10_242 dX10_coveringStates_1 ⟨Nat.le_of_ble_eq_true rfl, Nat.le_of_ble_eq_true rfl, Nat.le_of_ble_eq_true rfl, Nat.le_of_ble_eq_true rfl, Nat.le_of_ble_eq_true rfl⟩ hR.o (as := []) rfl rfl (c_X10_reqC1 hl S hS hR g0) ?_
    refine ev_Th_out rfl ⟨Nat.le_of_ble_eq_true rfl, Nat.le_of_ble_eq_true rfl⟩ ?_
    have e9 : sCo S = (1, 0) := gt_1 g0
    rw [e9]
    exact ⟨rfl, ⟨hR.o, hR.m, hR.x, hR.g, hR.h, hR.k, hR.a, hR.l, hR.r, hR.w, hR.s⟩, Fr.rf⟩
  · have y9 : True := trivial
    rcases Bool.eq_false_or_eq_true (rn S.T S.G).1 with c1 | c0
    · have y9 : True := trivial
      refine ev_body hl rfl (by decide +kernel) (Nat.le_of_ble_eq_true rfl) ?_
      show ev_ l m_X10_coveringStates 0 0 0 [some (.ref (0)), none, none] [] M _
      refine ev_blk (B := [(.aload_n 0, 1)]) (pe := 1) (ls' := [some (.ref (0)), none, none]) (st' := [.ref (0)]) ⟨dX10_coveringStates_0, rfl⟩ rfl ?_
      refine ev_cVn Y_X10_requireCompleteAnalysis L_RX10_242 dX10_coveringStates_1 ⟨Nat.le_of_ble_eq_true rfl, Nat.le_of_ble_eq_true rfl, Nat.le_of_ble_eq_true rfl, Nat.le_of_ble_eq_true rfl, Nat.le_of_ble_eq_true rfl⟩ hR.o (as := []) rfl rfl (c_X10_reqC0 hl S hS hR g1 c1) (fun M1 hL1 hB1 => ?_)
      obtain ⟨Da, Df⟩ := hB1
      have Dx : RAx M1 S.T S.G := by
        obtain ⟨t1, t2, t3, t4⟩ := Da
        exact ⟨true, t1, t2, t3, t4⟩
      obtain ⟨tr9, lo9, B9, co, la, N9, hA, hBs, hAN, hA8, hA9, hAf⟩ := Da
      obtain ⟨rfl, rfl, h13, hBe⟩ := hAf rfl
      refine ev_blk (B := [(.iconst 0, 1), (.istore_n 1, 1), (.iconst 0, 1), (.istore_n 2, 1)]) (pe := 8) (ls' := [some (.ref (0)), some (.int (nI 0)), some (.int (nI 0))]) (st' := []) ⟨dX10_coveringStates_4, dX10_coveringStates_5, dX10_coveringStates_6, dX10_coveringStates_7, rfl⟩ rfl ?_
      have hq9 : cA [eUO, eIS] (sCo S) = .inl (some (.int (cvS (B9 (rn S.T S.G).2) 6))) := by
        rw [hBe _ (Nat.le_refl _)]
        have e9 : sCo S = (0, cvS (bl S.T S.G (La S)) 6) := gt_0 g1 c1
        rw [e9]; rfl
      exact c_X10_covS_l hl S (hR.o.fr Df (by omega)) _ _ tr9 lo9 hA h13 B9 hBs (by rw [hBe _ (Nat.le_refl _)]; exact (bl_ok hS.T hS.G _).le (by omega)) _ ⟨hq9.symm, ⟨(hR.o.fr Df (by omega)), (hR.m.fr Df (by omega)), (hR.x.fr Df (by omega)), (hR.g.fr Df (by omega)), (hR.h.fr Df (by omega)), (hR.k.fr Df (by omega)), Dx, (hR.l.fr Df (by omega)), (hR.r.fr Df (by omega)), (hR.w.fr Df (by omega)), (hR.s.fr Df (by omega))⟩, (Df.to (by omega) (by omega))⟩ _ 0 (Nat.zero_le _) (Nat.lt_succ_self _)
    · have y9 : True := trivial
      refine ev_body hl rfl (by decide +kernel) (Nat.le_of_ble_eq_true rfl) ?_
      show ev_ l m_X10_coveringStates 0 0 0 [some (.ref (0)), none, none] [] M _
      refine ev_blk (B := [(.aload_n 0, 1)]) (pe := 1) (ls' := [some (.ref (0)), none, none]) (st' := [.ref (0)]) ⟨dX10_coveringStates_0, rfl⟩ rfl ?_
      refine ev_cVX Y_X10_requireCompleteAnalysis L_RX10_242 dX10_coveringStates_1 ⟨Nat.le_of_ble_eq_true rfl, Nat.le_of_ble_eq_true rfl, Nat.le_of_ble_eq_true rfl, Nat.le_of_ble_eq_true rfl, Nat.le_of_ble_eq_true rfl⟩ hR.o (as := []) rfl rfl (c_X10_reqC2 hl S hS hR g1 c0) (fun M2 hL2 hB2 => ?_)
      obtain ⟨Da, Df⟩ := hB2
      have Dx : RAx M2 S.T S.G := by
        obtain ⟨t1, t2, t3, t4⟩ := Da
        exact ⟨true, t1, t2, t3, t4⟩
      refine ev_Th_out rfl ⟨Nat.le_of_ble_eq_true rfl, Nat.le_of_ble_eq_true rfl⟩ ?_
      have e9 : sCo S = (2, 0) := gt_2 g1 c0
      rw [e9]
      exact ⟨rfl, ⟨(hR.o.fr Df (by omega)), (hR.m.fr Df (by omega)), (hR.x.fr Df (by omega)), (hR.g.fr Df (by omega)), (hR.h.fr Df (by omega)), (hR.k.fr Df (by omega)), Dx, (hR.l.fr Df (by omega)), (hR.r.fr Df (by omega)), (hR.w.fr Df (by omega)), (hR.s.fr Df (by omega))⟩, (Df.to (by omega) (by omega))⟩

set_option maxHeartbeats 4000000 in
set_option maxRecDepth 100000 in
theorem c_X10_least {l : Launch} (hl : l.stackTraces = false) {M : ev_M} (S : St) (hS : okS S) (hR : RCl M S) (a : Int32) : ev_Mt l m_X10_least [.ref (0), .int (a)] M (fun r M1 => r = cA [eUO, eIS, eIA] (sLe S a) ∧ RCl M1 S ∧ Fr 0 104 M M1) := by
  have hTl : S.T.length ≤ 10 := hR.m.1
  have hGl : S.G.length ≤ 3 := hR.g.2.1
  rcases Nat.eq_zero_or_pos S.G.length with g0 | g1
  · have y9 : True := trivial
    refine ev_body hl rfl (by decide +kernel) (Nat.le_of_ble_eq_true rfl) ?_
    show ev_ l m_X10_least 0 0 0 [some (.ref (0)), some (.int (a))] [] M _
    refine ev_blk (B := [(.aload_n 0, 1)]) (pe := 1) (ls' := [some (.ref (0)), some (.int (a))]) (st' := [.ref (0)]) ⟨dX10_least_0, rfl⟩ rfl ?_
    refine ev_cVx Y_X10_requireCompleteAnalysis L_RX10_242 dX10_least_1 ⟨Nat.le_of_ble_eq_true rfl, Nat.le_of_ble_eq_true rfl, Nat.le_of_ble_eq_true rfl, Nat.le_of_ble_eq_true rfl, Nat.le_of_ble_eq_true rfl⟩ hR.o (as := []) rfl rfl (c_X10_reqC1 hl S hS hR g0) ?_
    refine ev_Th_out rfl ⟨Nat.le_of_ble_eq_true rfl, Nat.le_of_ble_eq_true rfl⟩ ?_
    have e9 : sLe S a = (1, 0) := gt_1 g0
    rw [e9]
    exact ⟨rfl, ⟨hR.o, hR.m, hR.x, hR.g, hR.h, hR.k, hR.a, hR.l, hR.r, hR.w, hR.s⟩, Fr.rf⟩
  · have y9 : True := trivial
    rcases Bool.eq_false_or_eq_true (rn S.T S.G).1 with c1 | c0
    · have y9 : True := trivial
      refine ev_body hl rfl (by decide +kernel) (Nat.le_of_ble_eq_true rfl) ?_
      show ev_ l m_X10_least 0 0 0 [some (.ref (0)), some (.int (a))] [] M _
      refine ev_blk (B := [(.aload_n 0, 1)]) (pe := 1) (ls' := [some (.ref (0)), some (.int (a))]) (st' := [.ref (0)]) ⟨dX10_least_0, rfl⟩ rfl ?_
      refine ev_cVn Y_X10_requireCompleteAnalysis L_RX10_242 dX10_least_1 ⟨Nat.le_of_ble_eq_true rfl, Nat.le_of_ble_eq_true rfl, Nat.le_of_ble_eq_true rfl, Nat.le_of_ble_eq_true rfl, Nat.le_of_ble_eq_true rfl⟩ hR.o (as := []) rfl rfl (c_X10_reqC0 hl S hS hR g1 c1) (fun M1 hL1 hB1 => ?_)
      obtain ⟨Da, Df⟩ := hB1
      have Dx : RAx M1 S.T S.G := by
        obtain ⟨t1, t2, t3, t4⟩ := Da
        exact ⟨true, t1, t2, t3, t4⟩
      obtain ⟨tr9, lo9, B9, co, la, N9, hA, hBs, hAN, hA8, hA9, hAf⟩ := Da
      obtain ⟨rfl, rfl, h13, hBe⟩ := hAf rfl
      rcases inR_c a 6 (by omega) with ⟨k, hk, rfl⟩ | ia
      · have jk : inR (nI k) 6 = true := inR_n hk (by omega)
        have tk : (nI k).toNatClampNeg = k := nI_clamp (by omega)
        refine ev_blk (B := [(.iload_n 1, 1)]) (pe := 5) (ls' := [some (.ref (0)), some (.int (nI k))]) (st' := [.int (nI k)]) ⟨dX10_least_4, rfl⟩ rfl ?_
        refine ev_cSv Y_X10_isState L_RX10_74 dX10_least_5 ⟨Nat.le_of_ble_eq_true rfl, Nat.le_of_ble_eq_true rfl, Nat.le_of_ble_eq_true rfl, Nat.le_of_ble_eq_true rfl, Nat.le_of_ble_eq_true rfl⟩ (as := [.int (nI k)]) rfl rfl (c_X10_isState hl (nI k)) ?_
        refine ev_ifB_ne dX10_least_8 (tgt := 21) (by decide) (fun q8 => ?_) (fun q8 => ?_)
        · refine ev_blk (B := [(.aload_n 0, 1)]) (pe := 22) (ls' := [some (.ref (0)), some (.int (nI k))]) (st' := [.ref (0)]) ⟨dX10_least_21, rfl⟩ rfl ?_
          refine ev_getf (v := .ref (17)) F_RX10_49 dX10_least_22 (hR.o.fr Df (by omega)) rfl ?_
          refine ev_blk (B := [(.iload_n 1, 1)]) (pe := 26) (ls' := [some (.ref (0)), some (.int (nI k))]) (st' := [.int (nI k), .ref (17)]) ⟨dX10_least_25, rfl⟩ rfl ?_
          refine ev_cVv Y_X0_leastLetters L_RX10_271 dX10_least_26 ⟨Nat.le_of_ble_eq_true rfl, Nat.le_of_ble_eq_true rfl, Nat.le_of_ble_eq_true rfl, Nat.le_of_ble_eq_true rfl, Nat.le_of_ble_eq_true rfl⟩ hA.1 (as := [.int (nI k)]) rfl rfl (c_X0_leastLetters hl 17 true _ _ tr9 lo9 hA h13 B9 hBs (by rw [hBe _ (Nat.le_refl _)]; exact (bl_ok hS.T hS.G _).le (by omega)) k hk) ?_
          rw [hBe _ (Nat.le_refl _)]
          refine ev_iret dX10_least_29 rfl (rfl) ⟨Nat.le_of_ble_eq_true rfl, Nat.le_of_ble_eq_true rfl⟩ ?_
          have e9 : sLe S (nI k) = (0, oI (lst (bl S.T S.G (La S)) k (bl S.T S.G (La S)).length)) := (gt_0 g1 c1).trans (by simp [jk, tk, tN, q8])
          rw [e9]
          exact ⟨rfl, ⟨(hR.o.fr Df (by omega)), (hR.m.fr Df (by omega)), (hR.x.fr Df (by omega)), (hR.g.fr Df (by omega)), (hR.h.fr Df (by omega)), (hR.k.fr Df (by omega)), Dx, (hR.l.fr Df (by omega)), (hR.r.fr Df (by omega)), (hR.w.fr Df (by omega)), (hR.s.fr Df (by omega))⟩, (Df.to (by omega) (by omega))⟩
        · exact absurd (jk.symm.trans q8) (by decide)
      · have ia9 := ia
        refine ev_blk (B := [(.iload_n 1, 1)]) (pe := 5) (ls' := [some (.ref (0)), some (.int (a))]) (st' := [.int (a)]) ⟨dX10_least_4, rfl⟩ rfl ?_
        refine ev_cSv Y_X10_isState L_RX10_74 dX10_least_5 ⟨Nat.le_of_ble_eq_true rfl, Nat.le_of_ble_eq_true rfl, Nat.le_of_ble_eq_true rfl, Nat.le_of_ble_eq_true rfl, Nat.le_of_ble_eq_true rfl⟩ (as := [.int (a)]) rfl rfl (c_X10_isState hl a) ?_
        refine ev_ifB_ne dX10_least_8 (tgt := 21) (by decide) (fun q8 => ?_) (fun q8 => ?_)
        · exact absurd (ia.symm.trans q8) (by decide)
        · refine ev_throw (cls := "java/lang/IllegalArgumentException") (text := "no such state") (names := ev_nmR) (ic := 82) (ik := 78) rfl (by decide +kernel) (by decide +kernel) T_IllegalArgumentException (by decide +kernel) dX10_least_11 dX10_least_14 dX10_least_15 dX10_least_17 dX10_least_20 ⟨Nat.le_of_ble_eq_true rfl, Nat.le_of_ble_eq_true rfl, Nat.le_of_ble_eq_true rfl, Nat.le_of_ble_eq_true rfl⟩ ?_
          have e9 : sLe S a = (3, 0) := (gt_0 g1 c1).trans (by simp [ia, tN])
          rw [e9]
          exact ⟨rfl, ⟨(hR.o.fr Df (by omega)), (hR.m.fr Df (by omega)), (hR.x.fr Df (by omega)), (hR.g.fr Df (by omega)), (hR.h.fr Df (by omega)), (hR.k.fr Df (by omega)), Dx, (hR.l.fr Df (by omega)), (hR.r.fr Df (by omega)), (hR.w.fr Df (by omega)), (hR.s.fr Df (by omega))⟩, (Df.to (by omega) (by omega))⟩
    · have y9 : True := trivial
      refine ev_body hl rfl (by decide +kernel) (Nat.le_of_ble_eq_true rfl) ?_
      show ev_ l m_X10_least 0 0 0 [some (.ref (0)), some (.int (a))] [] M _
      refine ev_blk (B := [(.aload_n 0, 1)]) (pe := 1) (ls' := [some (.ref (0)), some (.int (a))]) (st' := [.ref (0)]) ⟨dX10_least_0, rfl⟩ rfl ?_
      refine ev_cVX Y_X10_requireCompleteAnalysis L_RX10_242 dX10_least_1 ⟨Nat.le_of_ble_eq_true rfl, Nat.le_of_ble_eq_true rfl, Nat.le_of_ble_eq_true rfl, Nat.le_of_ble_eq_true rfl, Nat.le_of_ble_eq_true rfl⟩ hR.o (as := []) rfl rfl (c_X10_reqC2 hl S hS hR g1 c0) (fun M2 hL2 hB2 => ?_)
      obtain ⟨Da, Df⟩ := hB2
      have Dx : RAx M2 S.T S.G := by
        obtain ⟨t1, t2, t3, t4⟩ := Da
        exact ⟨true, t1, t2, t3, t4⟩
      refine ev_Th_out rfl ⟨Nat.le_of_ble_eq_true rfl, Nat.le_of_ble_eq_true rfl⟩ ?_
      have e9 : sLe S a = (2, 0) := gt_2 g1 c0
      rw [e9]
      exact ⟨rfl, ⟨(hR.o.fr Df (by omega)), (hR.m.fr Df (by omega)), (hR.x.fr Df (by omega)), (hR.g.fr Df (by omega)), (hR.h.fr Df (by omega)), (hR.k.fr Df (by omega)), Dx, (hR.l.fr Df (by omega)), (hR.r.fr Df (by omega)), (hR.w.fr Df (by omega)), (hR.s.fr Df (by omega))⟩, (Df.to (by omega) (by omega))⟩

set_option maxHeartbeats 4000000 in
set_option maxRecDepth 100000 in
theorem c_X10_distance {l : Launch} (hl : l.stackTraces = false) {M : ev_M} (S : St) (hS : okS S) (hR : RCl M S) : ev_Mt l m_X10_distance [.ref (0)] M (fun r M1 => r = cA [eUO, eIS] (sDi S) ∧ RCl M1 S ∧ Fr 0 104 M M1) := by
  have hTl : S.T.length ≤ 10 := hR.m.1
  have hGl : S.G.length ≤ 3 := hR.g.2.1
  rcases Nat.eq_zero_or_pos S.G.length with g0 | g1
  · have y9 : True := trivial
    refine ev_body hl rfl (by decide +kernel) (Nat.le_of_ble_eq_true rfl) ?_
    show ev_ l m_X10_distance 0 0 0 [some (.ref (0))] [] M _
    refine ev_blk (B := [(.aload_n 0, 1)]) (pe := 1) (ls' := [some (.ref (0))]) (st' := [.ref (0)]) ⟨dX10_distance_0, rfl⟩ rfl ?_
    refine ev_cVx Y_X10_requireCompleteAnalysis L_RX10_242 dX10_distance_1 ⟨Nat.le_of_ble_eq_true rfl, Nat.le_of_ble_eq_true rfl, Nat.le_of_ble_eq_true rfl, Nat.le_of_ble_eq_true rfl, Nat.le_of_ble_eq_true rfl⟩ hR.o (as := []) rfl rfl (c_X10_reqC1 hl S hS hR g0) ?_
    refine ev_Th_out rfl ⟨Nat.le_of_ble_eq_true rfl, Nat.le_of_ble_eq_true rfl⟩ ?_
    have e9 : sDi S = (1, 0) := gt_1 g0
    rw [e9]
    exact ⟨rfl, ⟨hR.o, hR.m, hR.x, hR.g, hR.h, hR.k, hR.a, hR.l, hR.r, hR.w, hR.s⟩, Fr.rf⟩
  · have y9 : True := trivial
    rcases Bool.eq_false_or_eq_true (rn S.T S.G).1 with c1 | c0
    · have y9 : True := trivial
      refine ev_body hl rfl (by decide +kernel) (Nat.le_of_ble_eq_true rfl) ?_
      show ev_ l m_X10_distance 0 0 0 [some (.ref (0))] [] M _
      refine ev_blk (B := [(.aload_n 0, 1)]) (pe := 1) (ls' := [some (.ref (0))]) (st' := [.ref (0)]) ⟨dX10_distance_0, rfl⟩ rfl ?_
      refine ev_cVn Y_X10_requireCompleteAnalysis L_RX10_242 dX10_distance_1 ⟨Nat.le_of_ble_eq_true rfl, Nat.le_of_ble_eq_true rfl, Nat.le_of_ble_eq_true rfl, Nat.le_of_ble_eq_true rfl, Nat.le_of_ble_eq_true rfl⟩ hR.o (as := []) rfl rfl (c_X10_reqC0 hl S hS hR g1 c1) (fun M1 hL1 hB1 => ?_)
      obtain ⟨Da, Df⟩ := hB1
      have Dx : RAx M1 S.T S.G := by
        obtain ⟨t1, t2, t3, t4⟩ := Da
        exact ⟨true, t1, t2, t3, t4⟩
      obtain ⟨tr9, lo9, B9, co, la, N9, hA, hBs, hAN, hA8, hA9, hAf⟩ := Da
      obtain ⟨rfl, rfl, h13, hBe⟩ := hAf rfl
      refine ev_blk (B := [(.aload_n 0, 1)]) (pe := 5) (ls' := [some (.ref (0))]) (st' := [.ref (0)]) ⟨dX10_distance_4, rfl⟩ rfl ?_
      refine ev_getf (v := .ref (17)) F_RX10_49 dX10_distance_5 (hR.o.fr Df (by omega)) rfl ?_
      refine ev_blk (B := [(.aload_n 0, 1)]) (pe := 9) (ls' := [some (.ref (0))]) (st' := [.ref (0), .ref (17)]) ⟨dX10_distance_8, rfl⟩ rfl ?_
      refine ev_getf (v := .ref (3)) F_RX10_19 dX10_distance_9 (hR.o.fr Df (by omega)) rfl ?_
      refine ev_cVv Y_X0_distanceFrom L_RX10_274 dX10_distance_12 ⟨Nat.le_of_ble_eq_true rfl, Nat.le_of_ble_eq_true rfl, Nat.le_of_ble_eq_true rfl, Nat.le_of_ble_eq_true rfl, Nat.le_of_ble_eq_true rfl⟩ hA.1 (as := [.ref (3)]) rfl rfl (c_X0_distanceFrom hl 17 true _ _ tr9 lo9 hA h13 B9 hBs (fun j hj => by rw [hBe j hj]; exact (bl_ok hS.T hS.G j).le (by omega)) 3 S.x (hR.x.fr Df (by omega)) (hS.x.le (by omega))) ?_
      rw [ds_congr (B' := bl S.T S.G) hBe]
      refine ev_iret dX10_distance_15 rfl (rfl) ⟨Nat.le_of_ble_eq_true rfl, Nat.le_of_ble_eq_true rfl⟩ ?_
      have e9 : sDi S = (0, oI (dN S)) := (gt_0 g1 c1).trans (rfl)
      rw [e9]
      exact ⟨rfl, ⟨(hR.o.fr Df (by omega)), (hR.m.fr Df (by omega)), (hR.x.fr Df (by omega)), (hR.g.fr Df (by omega)), (hR.h.fr Df (by omega)), (hR.k.fr Df (by omega)), Dx, (hR.l.fr Df (by omega)), (hR.r.fr Df (by omega)), (hR.w.fr Df (by omega)), (hR.s.fr Df (by omega))⟩, (Df.to (by omega) (by omega))⟩
    · have y9 : True := trivial
      refine ev_body hl rfl (by decide +kernel) (Nat.le_of_ble_eq_true rfl) ?_
      show ev_ l m_X10_distance 0 0 0 [some (.ref (0))] [] M _
      refine ev_blk (B := [(.aload_n 0, 1)]) (pe := 1) (ls' := [some (.ref (0))]) (st' := [.ref (0)]) ⟨dX10_distance_0, rfl⟩ rfl ?_
      refine ev_cVX Y_X10_requireCompleteAnalysis L_RX10_242 dX10_distance_1 ⟨Nat.le_of_ble_eq_true rfl, Nat.le_of_ble_eq_true rfl, Nat.le_of_ble_eq_true rfl, Nat.le_of_ble_eq_true rfl, Nat.le_of_ble_eq_true rfl⟩ hR.o (as := []) rfl rfl (c_X10_reqC2 hl S hS hR g1 c0) (fun M2 hL2 hB2 => ?_)
      obtain ⟨Da, Df⟩ := hB2
      have Dx : RAx M2 S.T S.G := by
        obtain ⟨t1, t2, t3, t4⟩ := Da
        exact ⟨true, t1, t2, t3, t4⟩
      refine ev_Th_out rfl ⟨Nat.le_of_ble_eq_true rfl, Nat.le_of_ble_eq_true rfl⟩ ?_
      have e9 : sDi S = (2, 0) := gt_2 g1 c0
      rw [e9]
      exact ⟨rfl, ⟨(hR.o.fr Df (by omega)), (hR.m.fr Df (by omega)), (hR.x.fr Df (by omega)), (hR.g.fr Df (by omega)), (hR.h.fr Df (by omega)), (hR.k.fr Df (by omega)), Dx, (hR.l.fr Df (by omega)), (hR.r.fr Df (by omega)), (hR.w.fr Df (by omega)), (hR.s.fr Df (by omega))⟩, (Df.to (by omega) (by omega))⟩

set_option maxHeartbeats 4000000 in
set_option maxRecDepth 100000 in
theorem c_X10_reqFT {l : Launch} (hl : l.stackTraces = false) {M : ev_M} (S : St) (hS : okS S) (hO : RClo M) (tr9 lo9 : Nat) (B9 : Nat → List Cf) (hA : RAo M 17 true (rn S.T S.G).1 (rn S.T S.G).2 tr9 lo9) (h13 : (rn S.T S.G).2 < 13) (hBe : ∀ j, j ≤ (rn S.T S.G).2 → B9 j = bl S.T S.G j) (hBs : RBs M 17 B9) (hm : RM M 1 S.T) (hx : RF M 3 S.x) (hA8 : RWk M (17 + 58)) (hA9 : RWk M (17 + 59)) (d n : Nat) (hd : dN S = some d) (hn : n < d) (hw : wo S.T (bl S.T S.G (d - 1 - n)) (wsq S.T (bl S.T S.G) d (S.x, 0, 0) n).1 ≠ none) : ev_Mt l m_X10_requireCoveringFiring [.ref (0), .int (nI n)] M (fun r M1 => r = .inl none ∧ RAo M1 17 true (rn S.T S.G).1 (rn S.T S.G).2 (wsq S.T (bl S.T S.G) d (S.x, 0, 0) (n + 1)).2.1 (wsq S.T (bl S.T S.G) d (S.x, 0, 0) (n + 1)).2.2 ∧ RWk M1 (17 + 58) ∧ RWk M1 (17 + 59) ∧ Fw 17 M M1) := by
  refine ev_body hl rfl (by decide +kernel) (Nat.le_of_ble_eq_true rfl) ?_
  show ev_ l m_X10_requireCoveringFiring 0 0 0 [some (.ref (0)), some (.int (nI n))] [] M _
  refine ev_blk (B := [(.aload_n 0, 1)]) (pe := 1) (ls' := [some (.ref (0)), some (.int (nI n))]) (st' := [.ref (0)]) ⟨dX10_requireCoveringFiring_0, rfl⟩ rfl ?_
  refine ev_getf (v := .ref (17)) F_RX10_49 dX10_requireCoveringFiring_1 hO rfl ?_
  refine ev_blk (B := [(.aload_n 0, 1)]) (pe := 5) (ls' := [some (.ref (0)), some (.int (nI n))]) (st' := [.ref (0), .ref (17)]) ⟨dX10_requireCoveringFiring_4, rfl⟩ rfl ?_
  refine ev_getf (v := .ref (1)) F_RX10_10 dX10_requireCoveringFiring_5 hO rfl ?_
  refine ev_blk (B := [(.aload_n 0, 1)]) (pe := 9) (ls' := [some (.ref (0)), some (.int (nI n))]) (st' := [.ref (0), .ref (1), .ref (17)]) ⟨dX10_requireCoveringFiring_8, rfl⟩ rfl ?_
  refine ev_getf (v := .ref (3)) F_RX10_19 dX10_requireCoveringFiring_9 hO rfl ?_
  refine ev_blk (B := [(.iload_n 1, 1)]) (pe := 13) (ls' := [some (.ref (0)), some (.int (nI n))]) (st' := [.int (nI n), .ref (3), .ref (1), .ref (17)]) ⟨dX10_requireCoveringFiring_12, rfl⟩ rfl ?_
  refine ev_cVw Y_X0_walkTo L_RX10_361 dX10_requireCoveringFiring_13 ⟨Nat.le_of_ble_eq_true rfl, Nat.le_of_ble_eq_true rfl, Nat.le_of_ble_eq_true rfl, Nat.le_of_ble_eq_true rfl, Nat.le_of_ble_eq_true rfl⟩ hA.1 (as := [.ref (1), .ref (3), .int (nI n)]) rfl rfl (c_X0_walkToT hl 17 true _ _ tr9 lo9 1 S.T (by omega) hS.T B9 h13 (fun j hj => by rw [hBe j hj]; exact (bl_ok hS.T hS.G j).le (by omega)) 3 (by omega) S.x hS.x d n (by rw [ds_congr hBe]; exact hd) hn hA hm hBs hx hA8 hA9) (fun M1 hL1 hB1 => ?_)
  obtain ⟨Wa, Wb, Wc, Wf⟩ := hB1
  refine ev_ifB_ne dX10_requireCoveringFiring_16 (tgt := 30) (by decide) (fun q16 => ?_) (fun q16 => ?_)
  · refine ev_vret dX10_requireCoveringFiring_30 rfl ⟨Nat.le_of_ble_eq_true rfl, Nat.le_of_ble_eq_true rfl⟩ ?_
    have hd13 : d ≤ (rn S.T S.G).2 := (ds_lt hd).1
    have e9 : wsq S.T B9 d (S.x, tr9, lo9) (n + 1) = wsq S.T (bl S.T S.G) d (S.x, 0, 0) (n + 1) := (wsq_congr (fun j hj => hBe j (by omega)) (n + 1)).trans (wsq_any hw)
    rw [e9] at Wa
    exact ⟨rfl, Wa, Wc, Wb, Wf⟩
  · exact absurd q16 (by decide)

set_option maxHeartbeats 4000000 in
set_option maxRecDepth 100000 in
theorem c_X10_reqFF {l : Launch} (hl : l.stackTraces = false) {M : ev_M} (S : St) (hS : okS S) (hO : RClo M) (tr9 lo9 : Nat) (B9 : Nat → List Cf) (hA : RAo M 17 true (rn S.T S.G).1 (rn S.T S.G).2 tr9 lo9) (h13 : (rn S.T S.G).2 < 13) (hBe : ∀ j, j ≤ (rn S.T S.G).2 → B9 j = bl S.T S.G j) (hBs : RBs M 17 B9) (hm : RM M 1 S.T) (hx : RF M 3 S.x) (hA8 : RWk M (17 + 58)) (hA9 : RWk M (17 + 59)) (a : Int32) (hno : ¬ (0 ≤ a ∧ a < oI (dN S))) : ev_Mt l m_X10_requireCoveringFiring [.ref (0), .int (a)] M (ev_q (.inr eNS) M) := by
  refine ev_body hl rfl (by decide +kernel) (Nat.le_of_ble_eq_true rfl) ?_
  show ev_ l m_X10_requireCoveringFiring 0 0 0 [some (.ref (0)), some (.int (a))] [] M _
  refine ev_blk (B := [(.aload_n 0, 1)]) (pe := 1) (ls' := [some (.ref (0)), some (.int (a))]) (st' := [.ref (0)]) ⟨dX10_requireCoveringFiring_0, rfl⟩ rfl ?_
  refine ev_getf (v := .ref (17)) F_RX10_49 dX10_requireCoveringFiring_1 hO rfl ?_
  refine ev_blk (B := [(.aload_n 0, 1)]) (pe := 5) (ls' := [some (.ref (0)), some (.int (a))]) (st' := [.ref (0), .ref (17)]) ⟨dX10_requireCoveringFiring_4, rfl⟩ rfl ?_
  refine ev_getf (v := .ref (1)) F_RX10_10 dX10_requireCoveringFiring_5 hO rfl ?_
  refine ev_blk (B := [(.aload_n 0, 1)]) (pe := 9) (ls' := [some (.ref (0)), some (.int (a))]) (st' := [.ref (0), .ref (1), .ref (17)]) ⟨dX10_requireCoveringFiring_8, rfl⟩ rfl ?_
  refine ev_getf (v := .ref (3)) F_RX10_19 dX10_requireCoveringFiring_9 hO rfl ?_
  refine ev_blk (B := [(.iload_n 1, 1)]) (pe := 13) (ls' := [some (.ref (0)), some (.int (a))]) (st' := [.int (a), .ref (3), .ref (1), .ref (17)]) ⟨dX10_requireCoveringFiring_12, rfl⟩ rfl ?_
  refine ev_cVv Y_X0_walkTo L_RX10_361 dX10_requireCoveringFiring_13 ⟨Nat.le_of_ble_eq_true rfl, Nat.le_of_ble_eq_true rfl, Nat.le_of_ble_eq_true rfl, Nat.le_of_ble_eq_true rfl, Nat.le_of_ble_eq_true rfl⟩ hA.1 (as := [.ref (1), .ref (3), .int (a)]) rfl rfl (c_X0_walkToF hl 17 true _ _ tr9 lo9 1 S.T (by omega) hS.T B9 h13 (fun j hj => by rw [hBe j hj]; exact (bl_ok hS.T hS.G j).le (by omega)) 3 (by omega) S.x hS.x a (by rw [ds_congr hBe]; exact hno) hA hm hBs hx) ?_
  refine ev_ifB_ne dX10_requireCoveringFiring_16 (tgt := 30) (by decide) (fun q16 => ?_) (fun q16 => ?_)
  · exact absurd q16 (by decide)
  · refine ev_nseW (cls := "java/util/NoSuchElementException") (text := "no such firing") (Y1 := "java/lang/RuntimeException") (r := ["java/lang/Exception"]) (ic := 351) (ik := 349) rfl (by decide +kernel) (by decide +kernel) (by decide +kernel) T_NoSuchElementException (by decide +kernel) dX10_requireCoveringFiring_19 dX10_requireCoveringFiring_22 dX10_requireCoveringFiring_23 dX10_requireCoveringFiring_26 dX10_requireCoveringFiring_29 ⟨Nat.le_of_ble_eq_true rfl, Nat.le_of_ble_eq_true rfl, Nat.le_of_ble_eq_true rfl, Nat.le_of_ble_eq_true rfl⟩ ?_
    exact ⟨rfl, rfl⟩

set_option maxHeartbeats 4000000 in
set_option maxRecDepth 100000 in
theorem c_X10_covering {l : Launch} (hl : l.stackTraces = false) {M : ev_M} (S : St) (hS : okS S) (hR : RCl M S) (a : Int32) (hW : walks S) : ev_Mt l m_X10_covering [.ref (0), .int (a)] M (fun r M1 => r = cA [eUO, eIS, eNS] (sCv S a) ∧ RCl M1 S ∧ Fr 0 104 M M1) := by
  have hTl : S.T.length ≤ 10 := hR.m.1
  have hGl : S.G.length ≤ 3 := hR.g.2.1
  rcases Nat.eq_zero_or_pos S.G.length with g0 | g1
  · have y9 : True := trivial
    refine ev_body hl rfl (by decide +kernel) (Nat.le_of_ble_eq_true rfl) ?_
    show ev_ l m_X10_covering 0 0 0 [some (.ref (0)), some (.int (a))] [] M _
    refine ev_blk (B := [(.aload_n 0, 1)]) (pe := 1) (ls' := [some (.ref (0)), some (.int (a))]) (st' := [.ref (0)]) ⟨dX10_covering_0, rfl⟩ rfl ?_
    refine ev_cVx Y_X10_requireCompleteAnalysis L_RX10_242 dX10_covering_1 ⟨Nat.le_of_ble_eq_true rfl, Nat.le_of_ble_eq_true rfl, Nat.le_of_ble_eq_true rfl, Nat.le_of_ble_eq_true rfl, Nat.le_of_ble_eq_true rfl⟩ hR.o (as := []) rfl rfl (c_X10_reqC1 hl S hS hR g0) ?_
    refine ev_Th_out rfl ⟨Nat.le_of_ble_eq_true rfl, Nat.le_of_ble_eq_true rfl⟩ ?_
    have e9 : sCv S a = (1, 0) := gt_1 g0
    rw [e9]
    exact ⟨rfl, ⟨hR.o, hR.m, hR.x, hR.g, hR.h, hR.k, hR.a, hR.l, hR.r, hR.w, hR.s⟩, Fr.rf⟩
  · have y9 : True := trivial
    rcases Bool.eq_false_or_eq_true (rn S.T S.G).1 with c1 | c0
    · have y9 : True := trivial
      refine ev_body hl rfl (by decide +kernel) (Nat.le_of_ble_eq_true rfl) ?_
      show ev_ l m_X10_covering 0 0 0 [some (.ref (0)), some (.int (a))] [] M _
      refine ev_blk (B := [(.aload_n 0, 1)]) (pe := 1) (ls' := [some (.ref (0)), some (.int (a))]) (st' := [.ref (0)]) ⟨dX10_covering_0, rfl⟩ rfl ?_
      refine ev_cVn Y_X10_requireCompleteAnalysis L_RX10_242 dX10_covering_1 ⟨Nat.le_of_ble_eq_true rfl, Nat.le_of_ble_eq_true rfl, Nat.le_of_ble_eq_true rfl, Nat.le_of_ble_eq_true rfl, Nat.le_of_ble_eq_true rfl⟩ hR.o (as := []) rfl rfl (c_X10_reqC0 hl S hS hR g1 c1) (fun M1 hL1 hB1 => ?_)
      obtain ⟨Da, Df⟩ := hB1
      have Dx : RAx M1 S.T S.G := by
        obtain ⟨t1, t2, t3, t4⟩ := Da
        exact ⟨true, t1, t2, t3, t4⟩
      obtain ⟨tr9, lo9, B9, co, la, N9, hA, hBs, hAN, hA8, hA9, hAf⟩ := Da
      obtain ⟨rfl, rfl, h13, hBe⟩ := hAf rfl
      have hLl : La S < 13 := h13
      rcases hdn : dN S with _ | d
      · have hno9 : ¬ (0 ≤ a ∧ a < oI (dN S)) := by rw [hdn]; exact fun z => absurd (Int32.lt_of_le_of_lt z.1 z.2) (by decide)
        refine ev_blk (B := [(.aload_n 0, 1), (.iload_n 1, 1)]) (pe := 6) (ls' := [some (.ref (0)), some (.int (a))]) (st' := [.int (a), .ref (0)]) ⟨dX10_covering_4, dX10_covering_5, rfl⟩ rfl ?_
        refine ev_cVx Y_X10_requireCoveringFiring L_RX10_277 dX10_covering_6 ⟨Nat.le_of_ble_eq_true rfl, Nat.le_of_ble_eq_true rfl, Nat.le_of_ble_eq_true rfl, Nat.le_of_ble_eq_true rfl, Nat.le_of_ble_eq_true rfl⟩ (hR.o.fr Df (by omega)) (as := [.int (a)]) rfl rfl (c_X10_reqFF hl S hS (hR.o.fr Df (by omega)) tr9 lo9 B9 hA h13 hBe hBs (hR.m.fr Df (by omega)) (hR.x.fr Df (by omega)) hA8 hA9 a hno9) ?_
        refine ev_Th_out rfl ⟨Nat.le_of_ble_eq_true rfl, Nat.le_of_ble_eq_true rfl⟩ ?_
        have e9 : sCv S a = (3, 0) := (gt_0 g1 c1).trans (by simp [hdn, tN])
        rw [e9]
        exact ⟨rfl, ⟨(hR.o.fr Df (by omega)), (hR.m.fr Df (by omega)), (hR.x.fr Df (by omega)), (hR.g.fr Df (by omega)), (hR.h.fr Df (by omega)), (hR.k.fr Df (by omega)), Dx, (hR.l.fr Df (by omega)), (hR.r.fr Df (by omega)), (hR.w.fr Df (by omega)), (hR.s.fr Df (by omega))⟩, (Df.to (by omega) (by omega))⟩
      · have hd9 : d ≤ La S := (ds_lt hdn).1
        rcases inR_c a d (by omega) with ⟨k, hk, rfl⟩ | ia
        · have jk : inR (nI k) d = true := inR_n hk (by omega)
          have tk : (nI k).toNatClampNeg = k := nI_clamp (by omega)
          refine ev_blk (B := [(.aload_n 0, 1), (.iload_n 1, 1)]) (pe := 6) (ls' := [some (.ref (0)), some (.int (nI k))]) (st' := [.int (nI k), .ref (0)]) ⟨dX10_covering_4, dX10_covering_5, rfl⟩ rfl ?_
          refine ev_cVn Y_X10_requireCoveringFiring L_RX10_277 dX10_covering_6 ⟨Nat.le_of_ble_eq_true rfl, Nat.le_of_ble_eq_true rfl, Nat.le_of_ble_eq_true rfl, Nat.le_of_ble_eq_true rfl, Nat.le_of_ble_eq_true rfl⟩ (hR.o.fr Df (by omega)) (as := [.int (nI k)]) rfl rfl (c_X10_reqFT hl S hS (hR.o.fr Df (by omega)) tr9 lo9 B9 hA h13 hBe hBs (hR.m.fr Df (by omega)) (hR.x.fr Df (by omega)) hA8 hA9 d k hdn hk (hW d hdn k hk)) (fun M2 hL2 hB2 => ?_)
          obtain ⟨Wa, Wb, Wc, Wf⟩ := hB2
          have Wg := Wf.fr
          have Wx : RAx M2 S.T S.G := ⟨true, _, _, B9, _, _, N9, Wa, hBs.fw Wf, hAN.fw Wf, Wb, Wc, hAf⟩
          refine ev_blk (B := [(.aload_n 0, 1)]) (pe := 10) (ls' := [some (.ref (0)), some (.int (nI k))]) (st' := [.ref (0)]) ⟨dX10_covering_9, rfl⟩ rfl ?_
          refine ev_getf (v := .ref (17)) F_RX10_49 dX10_covering_10 ((hR.o.fr Df (by omega)).fr Wg (by omega)) rfl ?_
          refine ev_cVv Y_X0_walkedTransition L_RX10_280 dX10_covering_13 ⟨Nat.le_of_ble_eq_true rfl, Nat.le_of_ble_eq_true rfl, Nat.le_of_ble_eq_true rfl, Nat.le_of_ble_eq_true rfl, Nat.le_of_ble_eq_true rfl⟩ Wa.1 (as := []) rfl rfl (c_X0_walkedTransition hl 17 true _ _ _ _ Wa) ?_
          refine ev_iret dX10_covering_16 rfl (rfl) ⟨Nat.le_of_ble_eq_true rfl, Nat.le_of_ble_eq_true rfl⟩ ?_
          have e9 : sCv S (nI k) = (0, nI (wsq S.T (bl S.T S.G) d (S.x, 0, 0) (k + 1)).2.1) := (gt_0 g1 c1).trans (by simp [hdn, jk, tk, tN])
          rw [e9]
          exact ⟨rfl, ⟨((hR.o.fr Df (by omega)).fr Wg (by omega)), ((hR.m.fr Df (by omega)).fr Wg (by omega)), ((hR.x.fr Df (by omega)).fr Wg (by omega)), ((hR.g.fr Df (by omega)).fr Wg (by omega)), ((hR.h.fr Df (by omega)).fr Wg (by omega)), ((hR.k.fr Df (by omega)).fr Wg (by omega)), Wx, ((hR.l.fr Df (by omega)).fr Wg (by omega)), ((hR.r.fr Df (by omega)).fr Wg (by omega)), ((hR.w.fr Df (by omega)).fr Wg (by omega)), ((hR.s.fr Df (by omega)).fr Wg (by omega))⟩, ((Df.to (by omega) (by omega)).tr (Wg.to (by omega) (by omega)))⟩
        · have ia9 := ia
          refine ev_blk (B := [(.aload_n 0, 1), (.iload_n 1, 1)]) (pe := 6) (ls' := [some (.ref (0)), some (.int (a))]) (st' := [.int (a), .ref (0)]) ⟨dX10_covering_4, dX10_covering_5, rfl⟩ rfl ?_
          refine ev_cVx Y_X10_requireCoveringFiring L_RX10_277 dX10_covering_6 ⟨Nat.le_of_ble_eq_true rfl, Nat.le_of_ble_eq_true rfl, Nat.le_of_ble_eq_true rfl, Nat.le_of_ble_eq_true rfl, Nat.le_of_ble_eq_true rfl⟩ (hR.o.fr Df (by omega)) (as := [.int (a)]) rfl rfl (c_X10_reqFF hl S hS (hR.o.fr Df (by omega)) tr9 lo9 B9 hA h13 hBe hBs (hR.m.fr Df (by omega)) (hR.x.fr Df (by omega)) hA8 hA9 a (by rw [hdn]; exact of_decide_eq_false ia)) ?_
          refine ev_Th_out rfl ⟨Nat.le_of_ble_eq_true rfl, Nat.le_of_ble_eq_true rfl⟩ ?_
          have e9 : sCv S a = (3, 0) := (gt_0 g1 c1).trans (by simp [hdn, ia, tN])
          rw [e9]
          exact ⟨rfl, ⟨(hR.o.fr Df (by omega)), (hR.m.fr Df (by omega)), (hR.x.fr Df (by omega)), (hR.g.fr Df (by omega)), (hR.h.fr Df (by omega)), (hR.k.fr Df (by omega)), Dx, (hR.l.fr Df (by omega)), (hR.r.fr Df (by omega)), (hR.w.fr Df (by omega)), (hR.s.fr Df (by omega))⟩, (Df.to (by omega) (by omega))⟩
    · have y9 : True := trivial
      refine ev_body hl rfl (by decide +kernel) (Nat.le_of_ble_eq_true rfl) ?_
      show ev_ l m_X10_covering 0 0 0 [some (.ref (0)), some (.int (a))] [] M _
      refine ev_blk (B := [(.aload_n 0, 1)]) (pe := 1) (ls' := [some (.ref (0)), some (.int (a))]) (st' := [.ref (0)]) ⟨dX10_covering_0, rfl⟩ rfl ?_
      refine ev_cVX Y_X10_requireCompleteAnalysis L_RX10_242 dX10_covering_1 ⟨Nat.le_of_ble_eq_true rfl, Nat.le_of_ble_eq_true rfl, Nat.le_of_ble_eq_true rfl, Nat.le_of_ble_eq_true rfl, Nat.le_of_ble_eq_true rfl⟩ hR.o (as := []) rfl rfl (c_X10_reqC2 hl S hS hR g1 c0) (fun M3 hL3 hB3 => ?_)
      obtain ⟨Da, Df⟩ := hB3
      have Dx : RAx M3 S.T S.G := by
        obtain ⟨t1, t2, t3, t4⟩ := Da
        exact ⟨true, t1, t2, t3, t4⟩
      refine ev_Th_out rfl ⟨Nat.le_of_ble_eq_true rfl, Nat.le_of_ble_eq_true rfl⟩ ?_
      have e9 : sCv S a = (2, 0) := gt_2 g1 c0
      rw [e9]
      exact ⟨rfl, ⟨(hR.o.fr Df (by omega)), (hR.m.fr Df (by omega)), (hR.x.fr Df (by omega)), (hR.g.fr Df (by omega)), (hR.h.fr Df (by omega)), (hR.k.fr Df (by omega)), Dx, (hR.l.fr Df (by omega)), (hR.r.fr Df (by omega)), (hR.w.fr Df (by omega)), (hR.s.fr Df (by omega))⟩, (Df.to (by omega) (by omega))⟩

set_option maxHeartbeats 4000000 in
set_option maxRecDepth 100000 in
theorem c_X10_lost {l : Launch} (hl : l.stackTraces = false) {M : ev_M} (S : St) (hS : okS S) (hR : RCl M S) (a : Int32) (hW : walks S) : ev_Mt l m_X10_lost [.ref (0), .int (a)] M (fun r M1 => r = cA [eUO, eIS, eNS] (sLo S a) ∧ RCl M1 S ∧ Fr 0 104 M M1) := by
  have hTl : S.T.length ≤ 10 := hR.m.1
  have hGl : S.G.length ≤ 3 := hR.g.2.1
  rcases Nat.eq_zero_or_pos S.G.length with g0 | g1
  · have y9 : True := trivial
    refine ev_body hl rfl (by decide +kernel) (Nat.le_of_ble_eq_true rfl) ?_
    show ev_ l m_X10_lost 0 0 0 [some (.ref (0)), some (.int (a))] [] M _
    refine ev_blk (B := [(.aload_n 0, 1)]) (pe := 1) (ls' := [some (.ref (0)), some (.int (a))]) (st' := [.ref (0)]) ⟨dX10_lost_0, rfl⟩ rfl ?_
    refine ev_cVx Y_X10_requireCompleteAnalysis L_RX10_242 dX10_lost_1 ⟨Nat.le_of_ble_eq_true rfl, Nat.le_of_ble_eq_true rfl, Nat.le_of_ble_eq_true rfl, Nat.le_of_ble_eq_true rfl, Nat.le_of_ble_eq_true rfl⟩ hR.o (as := []) rfl rfl (c_X10_reqC1 hl S hS hR g0) ?_
    refine ev_Th_out rfl ⟨Nat.le_of_ble_eq_true rfl, Nat.le_of_ble_eq_true rfl⟩ ?_
    have e9 : sLo S a = (1, 0) := gt_1 g0
    rw [e9]
    exact ⟨rfl, ⟨hR.o, hR.m, hR.x, hR.g, hR.h, hR.k, hR.a, hR.l, hR.r, hR.w, hR.s⟩, Fr.rf⟩
  · have y9 : True := trivial
    rcases Bool.eq_false_or_eq_true (rn S.T S.G).1 with c1 | c0
    · have y9 : True := trivial
      refine ev_body hl rfl (by decide +kernel) (Nat.le_of_ble_eq_true rfl) ?_
      show ev_ l m_X10_lost 0 0 0 [some (.ref (0)), some (.int (a))] [] M _
      refine ev_blk (B := [(.aload_n 0, 1)]) (pe := 1) (ls' := [some (.ref (0)), some (.int (a))]) (st' := [.ref (0)]) ⟨dX10_lost_0, rfl⟩ rfl ?_
      refine ev_cVn Y_X10_requireCompleteAnalysis L_RX10_242 dX10_lost_1 ⟨Nat.le_of_ble_eq_true rfl, Nat.le_of_ble_eq_true rfl, Nat.le_of_ble_eq_true rfl, Nat.le_of_ble_eq_true rfl, Nat.le_of_ble_eq_true rfl⟩ hR.o (as := []) rfl rfl (c_X10_reqC0 hl S hS hR g1 c1) (fun M1 hL1 hB1 => ?_)
      obtain ⟨Da, Df⟩ := hB1
      have Dx : RAx M1 S.T S.G := by
        obtain ⟨t1, t2, t3, t4⟩ := Da
        exact ⟨true, t1, t2, t3, t4⟩
      obtain ⟨tr9, lo9, B9, co, la, N9, hA, hBs, hAN, hA8, hA9, hAf⟩ := Da
      obtain ⟨rfl, rfl, h13, hBe⟩ := hAf rfl
      have hLl : La S < 13 := h13
      rcases hdn : dN S with _ | d
      · have hno9 : ¬ (0 ≤ a ∧ a < oI (dN S)) := by rw [hdn]; exact fun z => absurd (Int32.lt_of_le_of_lt z.1 z.2) (by decide)
        refine ev_blk (B := [(.aload_n 0, 1), (.iload_n 1, 1)]) (pe := 6) (ls' := [some (.ref (0)), some (.int (a))]) (st' := [.int (a), .ref (0)]) ⟨dX10_lost_4, dX10_lost_5, rfl⟩ rfl ?_
        refine ev_cVx Y_X10_requireCoveringFiring L_RX10_277 dX10_lost_6 ⟨Nat.le_of_ble_eq_true rfl, Nat.le_of_ble_eq_true rfl, Nat.le_of_ble_eq_true rfl, Nat.le_of_ble_eq_true rfl, Nat.le_of_ble_eq_true rfl⟩ (hR.o.fr Df (by omega)) (as := [.int (a)]) rfl rfl (c_X10_reqFF hl S hS (hR.o.fr Df (by omega)) tr9 lo9 B9 hA h13 hBe hBs (hR.m.fr Df (by omega)) (hR.x.fr Df (by omega)) hA8 hA9 a hno9) ?_
        refine ev_Th_out rfl ⟨Nat.le_of_ble_eq_true rfl, Nat.le_of_ble_eq_true rfl⟩ ?_
        have e9 : sLo S a = (3, 0) := (gt_0 g1 c1).trans (by simp [hdn, tN])
        rw [e9]
        exact ⟨rfl, ⟨(hR.o.fr Df (by omega)), (hR.m.fr Df (by omega)), (hR.x.fr Df (by omega)), (hR.g.fr Df (by omega)), (hR.h.fr Df (by omega)), (hR.k.fr Df (by omega)), Dx, (hR.l.fr Df (by omega)), (hR.r.fr Df (by omega)), (hR.w.fr Df (by omega)), (hR.s.fr Df (by omega))⟩, (Df.to (by omega) (by omega))⟩
      · have hd9 : d ≤ La S := (ds_lt hdn).1
        rcases inR_c a d (by omega) with ⟨k, hk, rfl⟩ | ia
        · have jk : inR (nI k) d = true := inR_n hk (by omega)
          have tk : (nI k).toNatClampNeg = k := nI_clamp (by omega)
          refine ev_blk (B := [(.aload_n 0, 1), (.iload_n 1, 1)]) (pe := 6) (ls' := [some (.ref (0)), some (.int (nI k))]) (st' := [.int (nI k), .ref (0)]) ⟨dX10_lost_4, dX10_lost_5, rfl⟩ rfl ?_
          refine ev_cVn Y_X10_requireCoveringFiring L_RX10_277 dX10_lost_6 ⟨Nat.le_of_ble_eq_true rfl, Nat.le_of_ble_eq_true rfl, Nat.le_of_ble_eq_true rfl, Nat.le_of_ble_eq_true rfl, Nat.le_of_ble_eq_true rfl⟩ (hR.o.fr Df (by omega)) (as := [.int (nI k)]) rfl rfl (c_X10_reqFT hl S hS (hR.o.fr Df (by omega)) tr9 lo9 B9 hA h13 hBe hBs (hR.m.fr Df (by omega)) (hR.x.fr Df (by omega)) hA8 hA9 d k hdn hk (hW d hdn k hk)) (fun M2 hL2 hB2 => ?_)
          obtain ⟨Wa, Wb, Wc, Wf⟩ := hB2
          have Wg := Wf.fr
          have Wx : RAx M2 S.T S.G := ⟨true, _, _, B9, _, _, N9, Wa, hBs.fw Wf, hAN.fw Wf, Wb, Wc, hAf⟩
          refine ev_blk (B := [(.aload_n 0, 1)]) (pe := 10) (ls' := [some (.ref (0)), some (.int (nI k))]) (st' := [.ref (0)]) ⟨dX10_lost_9, rfl⟩ rfl ?_
          refine ev_getf (v := .ref (17)) F_RX10_49 dX10_lost_10 ((hR.o.fr Df (by omega)).fr Wg (by omega)) rfl ?_
          refine ev_cVv Y_X0_walkedLosses L_RX10_283 dX10_lost_13 ⟨Nat.le_of_ble_eq_true rfl, Nat.le_of_ble_eq_true rfl, Nat.le_of_ble_eq_true rfl, Nat.le_of_ble_eq_true rfl, Nat.le_of_ble_eq_true rfl⟩ Wa.1 (as := []) rfl rfl (c_X0_walkedLosses hl 17 true _ _ _ _ Wa) ?_
          refine ev_iret dX10_lost_16 rfl (rfl) ⟨Nat.le_of_ble_eq_true rfl, Nat.le_of_ble_eq_true rfl⟩ ?_
          have e9 : sLo S (nI k) = (0, nI (wsq S.T (bl S.T S.G) d (S.x, 0, 0) (k + 1)).2.2) := (gt_0 g1 c1).trans (by simp [hdn, jk, tk, tN])
          rw [e9]
          exact ⟨rfl, ⟨((hR.o.fr Df (by omega)).fr Wg (by omega)), ((hR.m.fr Df (by omega)).fr Wg (by omega)), ((hR.x.fr Df (by omega)).fr Wg (by omega)), ((hR.g.fr Df (by omega)).fr Wg (by omega)), ((hR.h.fr Df (by omega)).fr Wg (by omega)), ((hR.k.fr Df (by omega)).fr Wg (by omega)), Wx, ((hR.l.fr Df (by omega)).fr Wg (by omega)), ((hR.r.fr Df (by omega)).fr Wg (by omega)), ((hR.w.fr Df (by omega)).fr Wg (by omega)), ((hR.s.fr Df (by omega)).fr Wg (by omega))⟩, ((Df.to (by omega) (by omega)).tr (Wg.to (by omega) (by omega)))⟩
        · have ia9 := ia
          refine ev_blk (B := [(.aload_n 0, 1), (.iload_n 1, 1)]) (pe := 6) (ls' := [some (.ref (0)), some (.int (a))]) (st' := [.int (a), .ref (0)]) ⟨dX10_lost_4, dX10_lost_5, rfl⟩ rfl ?_
          refine ev_cVx Y_X10_requireCoveringFiring L_RX10_277 dX10_lost_6 ⟨Nat.le_of_ble_eq_true rfl, Nat.le_of_ble_eq_true rfl, Nat.le_of_ble_eq_true rfl, Nat.le_of_ble_eq_true rfl, Nat.le_of_ble_eq_true rfl⟩ (hR.o.fr Df (by omega)) (as := [.int (a)]) rfl rfl (c_X10_reqFF hl S hS (hR.o.fr Df (by omega)) tr9 lo9 B9 hA h13 hBe hBs (hR.m.fr Df (by omega)) (hR.x.fr Df (by omega)) hA8 hA9 a (by rw [hdn]; exact of_decide_eq_false ia)) ?_
          refine ev_Th_out rfl ⟨Nat.le_of_ble_eq_true rfl, Nat.le_of_ble_eq_true rfl⟩ ?_
          have e9 : sLo S a = (3, 0) := (gt_0 g1 c1).trans (by simp [hdn, ia, tN])
          rw [e9]
          exact ⟨rfl, ⟨(hR.o.fr Df (by omega)), (hR.m.fr Df (by omega)), (hR.x.fr Df (by omega)), (hR.g.fr Df (by omega)), (hR.h.fr Df (by omega)), (hR.k.fr Df (by omega)), Dx, (hR.l.fr Df (by omega)), (hR.r.fr Df (by omega)), (hR.w.fr Df (by omega)), (hR.s.fr Df (by omega))⟩, (Df.to (by omega) (by omega))⟩
    · have y9 : True := trivial
      refine ev_body hl rfl (by decide +kernel) (Nat.le_of_ble_eq_true rfl) ?_
      show ev_ l m_X10_lost 0 0 0 [some (.ref (0)), some (.int (a))] [] M _
      refine ev_blk (B := [(.aload_n 0, 1)]) (pe := 1) (ls' := [some (.ref (0)), some (.int (a))]) (st' := [.ref (0)]) ⟨dX10_lost_0, rfl⟩ rfl ?_
      refine ev_cVX Y_X10_requireCompleteAnalysis L_RX10_242 dX10_lost_1 ⟨Nat.le_of_ble_eq_true rfl, Nat.le_of_ble_eq_true rfl, Nat.le_of_ble_eq_true rfl, Nat.le_of_ble_eq_true rfl, Nat.le_of_ble_eq_true rfl⟩ hR.o (as := []) rfl rfl (c_X10_reqC2 hl S hS hR g1 c0) (fun M3 hL3 hB3 => ?_)
      obtain ⟨Da, Df⟩ := hB3
      have Dx : RAx M3 S.T S.G := by
        obtain ⟨t1, t2, t3, t4⟩ := Da
        exact ⟨true, t1, t2, t3, t4⟩
      refine ev_Th_out rfl ⟨Nat.le_of_ble_eq_true rfl, Nat.le_of_ble_eq_true rfl⟩ ?_
      have e9 : sLo S a = (2, 0) := gt_2 g1 c0
      rw [e9]
      exact ⟨rfl, ⟨(hR.o.fr Df (by omega)), (hR.m.fr Df (by omega)), (hR.x.fr Df (by omega)), (hR.g.fr Df (by omega)), (hR.h.fr Df (by omega)), (hR.k.fr Df (by omega)), Dx, (hR.l.fr Df (by omega)), (hR.r.fr Df (by omega)), (hR.w.fr Df (by omega)), (hR.s.fr Df (by omega))⟩, (Df.to (by omega) (by omega))⟩

