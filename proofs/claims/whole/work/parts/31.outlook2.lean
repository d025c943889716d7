set_option maxHeartbeats 4000000 in
set_option maxRecDepth 100000 in
theorem c_X5_lastFirings_j {l : Launch} (hl : l.stackTraces = false)  (o p q : Nat) (hpq : p = o + 2 ∧ q = o + 6 ∨ p = o + 6 ∧ q = o + 2) (m : Nat) (T : List Tr) (hmo : m + 2 ≤ o ∨ o + 10 ≤ m) (hT : trs T) (L9 : List Cf) (hL9 : cfs 24 L9) (c n : Nat) (M0 : ev_M) (hOz : ROo M0 o p q) (hmz : RM M0 m T) (hbz : RQ M0 p 1000 L9) : ∀ (n9 : Nat) (i : Nat) (M : ev_M), i ≤ L9.length → Fr (o + 1) (o + 2) M0 M → RWk M (o + 1) → L9.length - i < n9 → ev_ l m_X5_lastFirings 0 0 47 [some (.ref (o)), some (.ref (m)), some (.ref (c)), some (.int (nI n)), some (.int (lfs T L9 i)), some (.int (nI i))] [] M (fun r M1 => r = .inl (some (.int (lfs T L9 L9.length))) ∧ RWk M1 (o + 1) ∧ Fr (o + 1) (o + 2) M0 M1) := by
  intro n9
  induction n9 with
  | zero => intro i M hi hFr hWk hm9; exact absurd hm9 (by omega)
  | succ n9 ih =>
    intro i M hi hFr hWk hm9
    have hO : ROo M o p q := (hFr.2 o (by omega)).trans hOz
    have hm := hmz.fr hFr (by omega)
    have hb := hbz.fr hFr (by omega)
    obtain ⟨y, hW⟩ := hWk
    have hten := hm.1
    have h30 := hb.2.1
    refine ev_blk (B := [(.iload 5, 2), (.aload_n 0, 1)]) (pe := 50) (ls' := [some (.ref (o)), some (.ref (m)), some (.ref (c)), some (.int (nI n)), some (.int (lfs T L9 i)), some (.int (nI i))]) (st' := [.ref (o), .int (nI i)]) ⟨dX5_lastFirings_47, dX5_lastFirings_49, rfl⟩ rfl ?_
    refine ev_getf (v := .ref (p)) F_RX5_23 dX5_lastFirings_50 hO rfl ?_
    refine ev_cVv Y_X2_size L_RX5_41 dX5_lastFirings_53 ⟨Nat.le_of_ble_eq_true rfl, Nat.le_of_ble_eq_true rfl, Nat.le_of_ble_eq_true rfl, Nat.le_of_ble_eq_true rfl, Nat.le_of_ble_eq_true rfl⟩ hb.obj (as := []) rfl rfl (c_X2_size hl _ _ _ hb) ?_
    refine ev_iN_ge dX5_lastFirings_56 (tgt := 92) (by decide) (by omega) (by omega) (fun q56 => ?_) (fun q56 => ?_)
    · refine ev_blk (B := [(.iload 4, 2)]) (pe := 94) (ls' := [some (.ref (o)), some (.ref (m)), some (.ref (c)), some (.int (nI n)), some (.int (lfs T L9 i)), some (.int (nI i))]) (st' := [.int (lfs T L9 i)]) ⟨dX5_lastFirings_92, rfl⟩ rfl ?_
      refine ev_iret dX5_lastFirings_94 rfl (rfl) ⟨Nat.le_of_ble_eq_true rfl, Nat.le_of_ble_eq_true rfl⟩ ?_
      have e7 : i = L9.length := by omega
      rw [e7]
      exact ⟨rfl, hW.wk, hFr⟩
    · refine ev_blk (B := [(.aload_n 0, 1)]) (pe := 60) (ls' := [some (.ref (o)), some (.ref (m)), some (.ref (c)), some (.int (nI n)), some (.int (lfs T L9 i)), some (.int (nI i))]) (st' := [.ref (o)]) ⟨dX5_lastFirings_59, rfl⟩ rfl ?_
      refine ev_getf (v := .ref (p)) F_RX5_23 dX5_lastFirings_60 hO rfl ?_
      refine ev_blk (B := [(.iload 5, 2), (.aload_n 0, 1)]) (pe := 66) (ls' := [some (.ref (o)), some (.ref (m)), some (.ref (c)), some (.int (nI n)), some (.int (lfs T L9 i)), some (.int (nI i))]) (st' := [.ref (o), .int (nI i), .ref (p)]) ⟨dX5_lastFirings_63, dX5_lastFirings_65, rfl⟩ rfl ?_
      refine ev_getf (v := .ref (o + 1)) F_RX5_12 dX5_lastFirings_66 hO rfl ?_
      refine ev_cVn Y_X2_load L_RX5_45 dX5_lastFirings_69 ⟨Nat.le_of_ble_eq_true rfl, Nat.le_of_ble_eq_true rfl, Nat.le_of_ble_eq_true rfl, Nat.le_of_ble_eq_true rfl, Nat.le_of_ble_eq_true rfl⟩ hb.obj (as := [.int (nI i), .ref (o + 1)]) rfl rfl (c_X2_load hl _ _ _ hb (i) (by omega) _ _ hW (by omega) (by omega)) (fun M1 hL1 hB1 => ?_)
      obtain ⟨hB1, hB2⟩ := hB1
      have hO3 : ROo M1 o p q := (hB2.2 o (by omega)).trans hO
      have hm3 := hm.fr hB2 (by omega)
      refine ev_blk (B := [(.iload 4, 2), (.aload_n 1, 1), (.aload_n 0, 1)]) (pe := 76) (ls' := [some (.ref (o)), some (.ref (m)), some (.ref (c)), some (.int (nI n)), some (.int (lfs T L9 i)), some (.int (nI i))]) (st' := [.ref (o), .ref (m), .int (lfs T L9 i)]) ⟨dX5_lastFirings_72, dX5_lastFirings_74, dX5_lastFirings_75, rfl⟩ rfl ?_
      refine ev_getf (v := .ref (o + 1)) F_RX5_12 dX5_lastFirings_76 hO3 rfl ?_
      refine ev_blk (B := [(.iconst 1, 1)]) (pe := 80) (ls' := [some (.ref (o)), some (.ref (m)), some (.ref (c)), some (.int (nI n)), some (.int (lfs T L9 i)), some (.int (nI i))]) (st' := [.int (nI 1), .ref (o + 1), .ref (m), .int (lfs T L9 i)]) ⟨dX5_lastFirings_79, rfl⟩ rfl ?_
      refine ev_cVv Y_X4_firable L_RX5_49 dX5_lastFirings_80 ⟨Nat.le_of_ble_eq_true rfl, Nat.le_of_ble_eq_true rfl, Nat.le_of_ble_eq_true rfl, Nat.le_of_ble_eq_true rfl, Nat.le_of_ble_eq_true rfl⟩ hm3.obj (as := [.ref (o + 1), .int (nI 1)]) rfl rfl (c_X4_firable hl _ _ hm3 hT _ _ hB1 (cfs_cg hL9 (by omega)) true) ?_
      refine ev_blk (B := [(.ior, 1), (.istore 4, 2), (.iinc 5 1, 3)]) (pe := 89) (ls' := [some (.ref (o)), some (.ref (m)), some (.ref (c)), some (.int (nI n)), some (.int ((lfs T L9 i) ||| (mk (fun t => mf (cg L9 i) (tg T t) true) T.length))), some (.int (nI (i + 1)))]) (st' := []) ⟨dX5_lastFirings_83, dX5_lastFirings_84, dX5_lastFirings_86, rfl⟩ (by show some (([some (.ref (o)), some (.ref (m)), some (.ref (c)), some (.int (nI n)), some (.int ((lfs T L9 i) ||| (mk (fun t => mf (cg L9 i) (tg T t) true) T.length))), some (.int ((nI i) + Int32.ofInt (1)))] : ev_L), ([] : List Value)) = _; rw [ev_inc1 i]) ?_
      refine ev_goto (tgt := 47) dX5_lastFirings_89 (by decide) ?_
      exact ih (i + 1) _ (by omega) (hFr.tr hB2) hB1.wk (by omega)

set_option maxHeartbeats 4000000 in
set_option maxRecDepth 100000 in
theorem c_X5_lastFirings_l {l : Launch} (hl : l.stackTraces = false)  (o : Nat) (m : Nat) (T : List Tr) (hmo : m + 2 ≤ o ∨ o + 10 ≤ m) (hT : trs T) (c : Nat) (x : Cf) (hx : cfW 10 x) (hco : c < o ∨ o + 10 ≤ c) (n : Nat) (hn1 : 1 ≤ n) (hn4 : n ≤ 4) (M0 : ev_M) : ∀ (n9 : Nat) (k : Nat) (M : ev_M) (p : Nat) (q : Nat), 1 ≤ k → k ≤ n → (p = o + 2 ∧ q = o + 6 ∨ p = o + 6 ∧ q = o + 2) → ROo M o p q → RQ M p 1000 (rch T x (k - 1)) → (∃ N9, RQ M q 1000 N9) → RWk M (o + 1) → RM M m T → Fr o (o + 10) M0 M → n - k < n9 → ev_ l m_X5_lastFirings 0 0 18 [some (.ref (o)), some (.ref (m)), some (.ref (c)), some (.int (nI n)), some (.int (nI k)), none] [] M (fun r M1 => r = .inl (some (.int (lfs T (rch T x (n - 1)) (rch T x (n - 1)).length))) ∧ RO M1 o ∧ Fr o (o + 10) M0 M1) := by
  intro n9
  induction n9 with
  | zero => intro k M p q hk1 hkn hpq hO hb hNx hWk hm hFr hm9; exact absurd hm9 (by omega)
  | succ n9 ih =>
    intro k M p q hk1 hkn hpq hO hb hNx hWk hm hFr hm9
    obtain ⟨N9, hN⟩ := hNx
    have hten := hm.1
    refine ev_blk (B := [(.iload 4, 2), (.iload_n 3, 1)]) (pe := 21) (ls' := [some (.ref (o)), some (.ref (m)), some (.ref (c)), some (.int (nI n)), some (.int (nI k)), none]) (st' := [.int (nI n), .int (nI k)]) ⟨dX5_lastFirings_18, dX5_lastFirings_20, rfl⟩ rfl ?_
    refine ev_iN_ge dX5_lastFirings_21 (tgt := 41) (by decide) (by omega) (by omega) (fun q21 => ?_) (fun q21 => ?_)
    · refine ev_blk (B := [(.iconst 0, 1), (.istore 4, 2), (.iconst 0, 1), (.istore 5, 2)]) (pe := 47) (ls' := [some (.ref (o)), some (.ref (m)), some (.ref (c)), some (.int (nI n)), some (.int (nI 0)), some (.int (nI 0))]) (st' := []) ⟨dX5_lastFirings_41, dX5_lastFirings_42, dX5_lastFirings_44, dX5_lastFirings_45, rfl⟩ rfl ?_
      have e7 : k = n := by omega
      refine ev_mono ?_ (c_X5_lastFirings_j hl o p q hpq m T hmo hT (rch T x (n - 1)) ((rch_ok (k := 10) hT hx (n - 1)).le (by omega)) c n M hO hm (by rw [← e7]; exact hb) _ 0 M (Nat.zero_le _) Fr.rf hWk (Nat.lt_succ_self _))
      intro r M9 ⟨z1, z2, z3⟩
      exact ⟨z1, ⟨p, q, hpq, (z3.2 o (by omega)).trans hO, z2, ⟨_, hb.fr z3 (by omega)⟩, _, hN.fr z3 (by omega)⟩, hFr.tr (z3.to (by omega) (by omega))⟩
    · refine ev_blk (B := [(.iload 4, 2), (.iconst 4, 1)]) (pe := 27) (ls' := [some (.ref (o)), some (.ref (m)), some (.ref (c)), some (.int (nI n)), some (.int (nI k)), none]) (st' := [.int (nI 4), .int (nI k)]) ⟨dX5_lastFirings_24, dX5_lastFirings_26, rfl⟩ rfl ?_
      refine ev_iN_ge dX5_lastFirings_27 (tgt := 41) (by decide) (by omega) (by omega) (fun q27 => ?_) (fun q27 => ?_)
      · refine ev_blk (B := [(.iconst 0, 1), (.istore 4, 2), (.iconst 0, 1), (.istore 5, 2)]) (pe := 47) (ls' := [some (.ref (o)), some (.ref (m)), some (.ref (c)), some (.int (nI n)), some (.int (nI 0)), some (.int (nI 0))]) (st' := []) ⟨dX5_lastFirings_41, dX5_lastFirings_42, dX5_lastFirings_44, dX5_lastFirings_45, rfl⟩ rfl ?_
        have e7 : k = n := by omega
        refine ev_mono ?_ (c_X5_lastFirings_j hl o p q hpq m T hmo hT (rch T x (n - 1)) ((rch_ok (k := 10) hT hx (n - 1)).le (by omega)) c n M hO hm (by rw [← e7]; exact hb) _ 0 M (Nat.zero_le _) Fr.rf hWk (Nat.lt_succ_self _))
        intro r M9 ⟨z1, z2, z3⟩
        exact ⟨z1, ⟨p, q, hpq, (z3.2 o (by omega)).trans hO, z2, ⟨_, hb.fr z3 (by omega)⟩, _, hN.fr z3 (by omega)⟩, hFr.tr (z3.to (by omega) (by omega))⟩
      · refine ev_blk (B := [(.aload_n 0, 1), (.aload_n 1, 1)]) (pe := 32) (ls' := [some (.ref (o)), some (.ref (m)), some (.ref (c)), some (.int (nI n)), some (.int (nI k)), none]) (st' := [.ref (m), .ref (o)]) ⟨dX5_lastFirings_30, dX5_lastFirings_31, rfl⟩ rfl ?_
        have y1 := rch_len (T := T) (x := x) hten (k - 1)
        have y2 : 10 ^ (k - 1) ≤ 10 ^ 2 := Nat.pow_le_pow_right (by decide) (by omega)
        refine ev_cVn Y_X5_fireAll L_RX5_37 dX5_lastFirings_32 ⟨Nat.le_of_ble_eq_true rfl, Nat.le_of_ble_eq_true rfl, Nat.le_of_ble_eq_true rfl, Nat.le_of_ble_eq_true rfl, Nat.le_of_ble_eq_true rfl⟩ hO (as := [.ref (m)]) rfl rfl (c_X5_fireAll hl o p q hpq m T hmo hT _ ((rch_ok (k := 10) hT hx (k - 1)).le (by omega)) (by omega) hO hm hb N9 hN hWk) (fun M1 hL1 hB1 => ?_)
        obtain ⟨hC1, hC2, hC3, hC4, hC5⟩ := hB1
        refine ev_blk (B := [(.iinc 4 1, 3)]) (pe := 38) (ls' := [some (.ref (o)), some (.ref (m)), some (.ref (c)), some (.int (nI n)), some (.int (nI (k + 1))), none]) (st' := []) ⟨dX5_lastFirings_35, rfl⟩ (by show some (([some (.ref (o)), some (.ref (m)), some (.ref (c)), some (.int (nI n)), some (.int ((nI k) + Int32.ofInt (1))), none] : ev_L), ([] : List Value)) = _; rw [ev_inc1 k]) ?_
        refine ev_goto (tgt := 18) dX5_lastFirings_38 (by decide) ?_
        refine ih (k + 1) _ q p (by omega) (by omega) (by omega) hC1 (by rw [show k + 1 - 1 = (k - 1) + 1 by omega]; exact hC2) ⟨_, hC3⟩ hC4 (hm.fr hC5 (by omega)) (hFr.tr hC5) (by omega)

set_option maxHeartbeats 4000000 in
set_option maxRecDepth 100000 in
theorem c_X5_lastFirings {l : Launch} (hl : l.stackTraces = false) {M : ev_M} (o : Nat) (m : Nat) (T : List Tr) (hmo : m + 2 ≤ o ∨ o + 10 ≤ m) (hT : trs T) (c : Nat) (x : Cf) (hx : cfW 10 x) (hco : c < o ∨ o + 10 ≤ c) (n : Nat) (hn1 : 1 ≤ n) (hn4 : n ≤ 4) (hR : RO M o) (hm : RM M m T) (hF : RF M c x) : ev_Mt l m_X5_lastFirings [.ref (o), .ref (m), .ref (c), .int (nI n)] M (fun r M1 => r = .inl (some (.int (lfs T (rch T x (n - 1)) (rch T x (n - 1)).length))) ∧ RO M1 o ∧ Fr o (o + 10) M M1) := by
  obtain ⟨p, q, hpq, hO, hWk, ⟨L1, hp⟩, L2, hq⟩ := hR
  refine ev_body hl rfl (by decide +kernel) (Nat.le_of_ble_eq_true rfl) ?_
  show ev_ l m_X5_lastFirings 0 0 0 [some (.ref (o)), some (.ref (m)), some (.ref (c)), some (.int (nI n)), none, none] [] M _
  refine ev_blk (B := [(.aload_n 0, 1)]) (pe := 1) (ls' := [some (.ref (o)), some (.ref (m)), some (.ref (c)), some (.int (nI n)), none, none]) (st' := [.ref (o)]) ⟨dX5_lastFirings_0, rfl⟩ rfl ?_
  refine ev_getf (v := .ref (p)) F_RX5_23 dX5_lastFirings_1 hO rfl ?_
  refine ev_cVn Y_X2_removeAll L_RX5_30 dX5_lastFirings_4 ⟨Nat.le_of_ble_eq_true rfl, Nat.le_of_ble_eq_true rfl, Nat.le_of_ble_eq_true rfl, Nat.le_of_ble_eq_true rfl, Nat.le_of_ble_eq_true rfl⟩ hp.obj (as := []) rfl rfl (c_X2_removeAll hl _ _ _ hp) (fun M1 hL1 hB1 => ?_)
  obtain ⟨hB1, hB2⟩ := hB1
  have hO3 : ROo M1 o p q := (hB2.2 o (by omega)).trans hO
  have hF3 := hF.fr hB2 (by omega)
  refine ev_blk (B := [(.aload_n 0, 1)]) (pe := 8) (ls' := [some (.ref (o)), some (.ref (m)), some (.ref (c)), some (.int (nI n)), none, none]) (st' := [.ref (o)]) ⟨dX5_lastFirings_7, rfl⟩ rfl ?_
  refine ev_getf (v := .ref (p)) F_RX5_23 dX5_lastFirings_8 hO3 rfl ?_
  refine ev_blk (B := [(.aload_n 2, 1)]) (pe := 12) (ls' := [some (.ref (o)), some (.ref (m)), some (.ref (c)), some (.int (nI n)), none, none]) (st' := [.ref (c), .ref (p)]) ⟨dX5_lastFirings_11, rfl⟩ rfl ?_
  refine ev_cVn Y_X2_add L_RX5_33 dX5_lastFirings_12 ⟨Nat.le_of_ble_eq_true rfl, Nat.le_of_ble_eq_true rfl, Nat.le_of_ble_eq_true rfl, Nat.le_of_ble_eq_true rfl, Nat.le_of_ble_eq_true rfl⟩ hB1.obj (as := [.ref (c)]) rfl rfl (c_X2_add hl _ _ _ hB1 _ _ hF3 (by omega) (by decide)) (fun M2 hL2 hB2 => ?_)
  obtain ⟨hC1, hC2⟩ := hB2
  have hF12 := hB2.tr hC2
  refine ev_blk (B := [(.iconst 1, 1), (.istore 4, 2)]) (pe := 18) (ls' := [some (.ref (o)), some (.ref (m)), some (.ref (c)), some (.int (nI n)), some (.int (nI 1)), none]) (st' := []) ⟨dX5_lastFirings_15, dX5_lastFirings_16, rfl⟩ rfl ?_
  exact c_X5_lastFirings_l hl o m T hmo hT c x hx hco n hn1 hn4 M _ 1 _ p q (by omega) hn1 hpq ((hF12.2 o (by omega)).trans hO) hC1 ⟨_, hq.fr hF12 (by omega)⟩ (hWk.fr hF12 (by omega)) (hm.fr hF12 (by omega)) (hF12.to (by omega) (by omega)) (Nat.lt_succ_self _)

/-! ===== Snapshot ===== -/
/-- a Snapshot at o: its Machine at o + 1, its Config at o + 3, its goals at o + 4 -/
def RSo (M : ev_M) (o : Nat) (tk : Bool) : Prop := M[o]? = some (.inr (6, [.ref (o + 1), .ref (o + 3), .ref (o + 4), .int (ev_b tk)]))
def RS (M : ev_M) (o : Nat) (tk : Bool) (T : List Tr) (x : Cf) (G : List Cf) : Prop := RSo M o tk ∧ RM M (o + 1) T ∧ RF M (o + 3) x ∧ RQ M (o + 4) 3 G
theorem RS.fr {lo hi : Nat} {M M1 : ev_M} {o : Nat} {tk : Bool} {T : List Tr} {x : Cf} {G : List Cf} (hR : RS M o tk T x G) (hf : Fr lo hi M M1) (hd : o + 8 ≤ lo ∨ hi ≤ o) : RS M1 o tk T x G :=
  ⟨(hf.2 o (by omega)).trans hR.1, hR.2.1.fr hf (by omega), hR.2.2.1.fr hf (by omega), hR.2.2.2.fr hf (by omega)⟩
set_option maxHeartbeats 4000000 in
set_option maxRecDepth 100000 in
theorem c_X6_isTaken {l : Launch} (hl : l.stackTraces = false) {M : ev_M} (o : Nat) (tk : Bool) (T : List Tr) (x : Cf) (G : List Cf) (hR : RS M o tk T x G) : ev_Mt l m_X6_isTaken [.ref (o)] M (ev_q (.inl (some (.int (ev_b tk)))) M) := by
  refine ev_body hl rfl (by decide +kernel) (Nat.le_of_ble_eq_true rfl) ?_
  show ev_ l m_X6_isTaken 0 0 0 [some (.ref (o))] [] M _
  refine ev_blk (B := [(.aload_n 0, 1)]) (pe := 1) (ls' := [some (.ref (o))]) (st' := [.ref (o)]) ⟨dX6_isTaken_0, rfl⟩ rfl ?_
  refine ev_getf (v := .int (ev_b (tk))) F_RX6_34 dX6_isTaken_1 hR.1 rfl ?_
  refine ev_iret dX6_isTaken_4 rfl (ev_b_nar _) ⟨Nat.le_of_ble_eq_true rfl, Nat.le_of_ble_eq_true rfl⟩ ?_
  exact ⟨rfl, rfl⟩

set_option maxHeartbeats 4000000 in
set_option maxRecDepth 100000 in
theorem c_X6_take {l : Launch} (hl : l.stackTraces = false) {M : ev_M} (o : Nat) (tk : Bool) (T : List Tr) (x : Cf) (G : List Cf) (hR : RS M o tk T x G) (m : Nat) (T1 : List Tr) (hm : RM M m T1) (c : Nat) (x1 : Cf) (hF : RF M c x1) (g : Nat) (G1 : List Cf) (hg : RQ M g 3 G1) (hmo : m + 2 ≤ o ∨ o + 8 ≤ m) (hco : c < o ∨ o + 8 ≤ c) (hgo : g + 4 ≤ o ∨ o + 8 ≤ g) (hT1 : trs T1) : ev_Mt l m_X6_take [.ref (o), .ref (m), .ref (c), .ref (g)] M (fun r M1 => r = .inl none ∧ RS M1 o true T1 x1 G1 ∧ Fr o (o + 8) M M1) := by
  have hO := hR.1
  refine ev_body hl rfl (by decide +kernel) (Nat.le_of_ble_eq_true rfl) ?_
  show ev_ l m_X6_take 0 0 0 [some (.ref (o)), some (.ref (m)), some (.ref (c)), some (.ref (g))] [] M _
  refine ev_blk (B := [(.aload_n 0, 1)]) (pe := 1) (ls' := [some (.ref (o)), some (.ref (m)), some (.ref (c)), some (.ref (g))]) (st' := [.ref (o)]) ⟨dX6_take_0, rfl⟩ rfl ?_
  refine ev_getf (v := .ref (o + 1)) F_RX6_12 dX6_take_1 hO rfl ?_
  refine ev_blk (B := [(.aload_n 1, 1)]) (pe := 5) (ls' := [some (.ref (o)), some (.ref (m)), some (.ref (c)), some (.ref (g))]) (st' := [.ref (m), .ref (o + 1)]) ⟨dX6_take_4, rfl⟩ rfl ?_
  refine ev_cVn Y_X4_copyFrom L_RX6_38 dX6_take_5 ⟨Nat.le_of_ble_eq_true rfl, Nat.le_of_ble_eq_true rfl, Nat.le_of_ble_eq_true rfl, Nat.le_of_ble_eq_true rfl, Nat.le_of_ble_eq_true rfl⟩ hR.2.1.obj (as := [.ref (m)]) rfl rfl (c_X4_copyFrom hl _ _ _ _ hR.2.1 hm hT1 (by omega)) (fun M1 hL1 hB1 => ?_)
  obtain ⟨hB1, hB2⟩ := hB1
  have hO2 : RSo M1 o tk := (hB2.2 o (by omega)).trans hO
  have hF2 := hF.fr hB2 (by omega)
  have hP2 := hR.2.2.1.fr hB2 (by omega)
  refine ev_blk (B := [(.aload_n 0, 1)]) (pe := 9) (ls' := [some (.ref (o)), some (.ref (m)), some (.ref (c)), some (.ref (g))]) (st' := [.ref (o)]) ⟨dX6_take_8, rfl⟩ rfl ?_
  refine ev_getf (v := .ref (o + 3)) F_RX6_21 dX6_take_9 hO2 rfl ?_
  refine ev_blk (B := [(.aload_n 2, 1)]) (pe := 13) (ls' := [some (.ref (o)), some (.ref (m)), some (.ref (c)), some (.ref (g))]) (st' := [.ref (c), .ref (o + 3)]) ⟨dX6_take_12, rfl⟩ rfl ?_
  refine ev_cVn Y_X1_copyFrom L_RX6_42 dX6_take_13 ⟨Nat.le_of_ble_eq_true rfl, Nat.le_of_ble_eq_true rfl, Nat.le_of_ble_eq_true rfl, Nat.le_of_ble_eq_true rfl, Nat.le_of_ble_eq_true rfl⟩ hP2 (as := [.ref (c)]) rfl rfl (c_X1_copyFrom hl _ _ hP2 _ _ hF2 (by omega)) (fun M2 hL2 hB2 => ?_)
  obtain ⟨hC1, hC2⟩ := hB2
  have hO3 : RSo M2 o tk := (hC2.2 o (by omega)).trans hO2
  have hq3 := (hR.2.2.2.fr hB2 (by omega)).fr hC2 (by omega)
  have hg3 := (hg.fr hB2 (by omega)).fr hC2 (by omega)
  refine ev_blk (B := [(.aload_n 0, 1)]) (pe := 17) (ls' := [some (.ref (o)), some (.ref (m)), some (.ref (c)), some (.ref (g))]) (st' := [.ref (o)]) ⟨dX6_take_16, rfl⟩ rfl ?_
  refine ev_getf (v := .ref (o + 4)) F_RX6_30 dX6_take_17 hO3 rfl ?_
  refine ev_blk (B := [(.aload_n 3, 1)]) (pe := 21) (ls' := [some (.ref (o)), some (.ref (m)), some (.ref (c)), some (.ref (g))]) (st' := [.ref (g), .ref (o + 4)]) ⟨dX6_take_20, rfl⟩ rfl ?_
  refine ev_cVn Y_X2_copyFrom L_RX6_45 dX6_take_21 ⟨Nat.le_of_ble_eq_true rfl, Nat.le_of_ble_eq_true rfl, Nat.le_of_ble_eq_true rfl, Nat.le_of_ble_eq_true rfl, Nat.le_of_ble_eq_true rfl⟩ hq3.obj (as := [.ref (g)]) rfl rfl (c_X2_copyFrom hl _ _ _ _ _ _ hq3 hg3 hg.2.1 (by omega)) (fun M3 hL3 hB3 => ?_)
  obtain ⟨hD1, hD2⟩ := hB3
  have hO4 : RSo M3 o tk := (hD2.2 o (by omega)).trans hO3
  refine ev_blk (B := [(.aload_n 0, 1), (.iconst 1, 1)]) (pe := 26) (ls' := [some (.ref (o)), some (.ref (m)), some (.ref (c)), some (.ref (g))]) (st' := [.int (nI 1), .ref (o)]) ⟨dX6_take_24, dX6_take_25, rfl⟩ rfl ?_
  refine ev_put F_RX6_34 dX6_take_26 hO4 (Nat.le_of_ble_eq_true rfl) (fun _ _ => ⟨rfl, rfl⟩) ?_
  refine ev_nm (M0 := M3.set (o) (.inr (6, [.ref (o + 1), .ref (o + 3), .ref (o + 4), .int (nI 1)]))) (fun M4 eM4 => ?_)
  have f5 : M4[o]? = some (.inr (6, [.ref (o + 1), .ref (o + 3), .ref (o + 4), .int (nI 1)])) := by rw [eM4]; exact ev_sg hO4
  refine ev_vret dX6_take_29 rfl ⟨Nat.le_of_ble_eq_true rfl, Nat.le_of_ble_eq_true rfl⟩ ?_
  have hE1 : Fr o (o + 1) M3 M4 := ⟨by rw [eM4]; simp only [List.length_set], fun j hj => by rw [eM4, ev_sn (by omega)]⟩
  exact ⟨rfl, ⟨f5, ((hB1.fr hC2 (by omega)).fr hD2 (by omega)).fr hE1 (by omega), (hC1.fr hD2 (by omega)).fr hE1 (by omega), hD1.fr hE1 (by omega)⟩, (((hB2.to (by omega) (by omega)).tr (hC2.to (by omega) (by omega))).tr (hD2.to (by omega) (by omega))).tr (hE1.to (by omega) (by omega))⟩

set_option maxHeartbeats 4000000 in
set_option maxRecDepth 100000 in
theorem c_X6_putBack {l : Launch} (hl : l.stackTraces = false) {M : ev_M} (o : Nat) (tk : Bool) (T : List Tr) (x : Cf) (G : List Cf) (hR : RS M o tk T x G) (m : Nat) (T1 : List Tr) (hm : RM M m T1) (c : Nat) (x1 : Cf) (hF : RF M c x1) (g : Nat) (G1 : List Cf) (hg : RQ M g 3 G1) (hmo : m + 2 ≤ o ∨ o + 8 ≤ m) (hco : c < o ∨ o + 8 ≤ c) (hgo : g + 4 ≤ o ∨ o + 8 ≤ g) (hT : trs T) (hmc : c < m ∨ m + 2 ≤ c) (hmg : g + 4 ≤ m ∨ m + 2 ≤ g) (hcg : c < g ∨ g + 4 ≤ c) : ev_Mt l m_X6_putBack [.ref (o), .ref (m), .ref (c), .ref (g)] M (fun r M1 => r = .inl none ∧ RM M1 m T ∧ RF M1 c x ∧ RQ M1 g 3 G ∧ M1.length = M.length ∧ ∀ j, (j < m ∨ m + 2 ≤ j) → j ≠ c → (j < g ∨ g + 4 ≤ j) → M1[j]? = M[j]?) := by
  have hO := hR.1
  refine ev_body hl rfl (by decide +kernel) (Nat.le_of_ble_eq_true rfl) ?_
  show ev_ l m_X6_putBack 0 0 0 [some (.ref (o)), some (.ref (m)), some (.ref (c)), some (.ref (g))] [] M _
  refine ev_blk (B := [(.aload_n 1, 1), (.aload_n 0, 1)]) (pe := 2) (ls' := [some (.ref (o)), some (.ref (m)), some (.ref (c)), some (.ref (g))]) (st' := [.ref (o), .ref (m)]) ⟨dX6_putBack_0, dX6_putBack_1, rfl⟩ rfl ?_
  refine ev_getf (v := .ref (o + 1)) F_RX6_12 dX6_putBack_2 hO rfl ?_
  refine ev_cVn Y_X4_copyFrom L_RX6_38 dX6_putBack_5 ⟨Nat.le_of_ble_eq_true rfl, Nat.le_of_ble_eq_true rfl, Nat.le_of_ble_eq_true rfl, Nat.le_of_ble_eq_true rfl, Nat.le_of_ble_eq_true rfl⟩ hm.obj (as := [.ref (o + 1)]) rfl rfl (c_X4_copyFrom hl _ _ _ _ hm hR.2.1 hT (by omega)) (fun M1 hL1 hB1 => ?_)
  obtain ⟨hB1, hB2⟩ := hB1
  have hO2 : RSo M1 o tk := (hB2.2 o (by omega)).trans hO
  have hF2 := hF.fr hB2 (by omega)
  have hP2 := hR.2.2.1.fr hB2 (by omega)
  refine ev_blk (B := [(.aload_n 2, 1), (.aload_n 0, 1)]) (pe := 10) (ls' := [some (.ref (o)), some (.ref (m)), some (.ref (c)), some (.ref (g))]) (st' := [.ref (o), .ref (c)]) ⟨dX6_putBack_8, dX6_putBack_9, rfl⟩ rfl ?_
  refine ev_getf (v := .ref (o + 3)) F_RX6_21 dX6_putBack_10 hO2 rfl ?_
  refine ev_cVn Y_X1_copyFrom L_RX6_42 dX6_putBack_13 ⟨Nat.le_of_ble_eq_true rfl, Nat.le_of_ble_eq_true rfl, Nat.le_of_ble_eq_true rfl, Nat.le_of_ble_eq_true rfl, Nat.le_of_ble_eq_true rfl⟩ hF2 (as := [.ref (o + 3)]) rfl rfl (c_X1_copyFrom hl _ _ hF2 _ _ hP2 (by omega)) (fun M2 hL2 hB2 => ?_)
  obtain ⟨hC1, hC2⟩ := hB2
  have hO3 : RSo M2 o tk := (hC2.2 o (by omega)).trans hO2
  have hq3 := (hR.2.2.2.fr hB2 (by omega)).fr hC2 (by omega)
  have hg3 := (hg.fr hB2 (by omega)).fr hC2 (by omega)
  refine ev_blk (B := [(.aload_n 3, 1), (.aload_n 0, 1)]) (pe := 18) (ls' := [some (.ref (o)), some (.ref (m)), some (.ref (c)), some (.ref (g))]) (st' := [.ref (o), .ref (g)]) ⟨dX6_putBack_16, dX6_putBack_17, rfl⟩ rfl ?_
  refine ev_getf (v := .ref (o + 4)) F_RX6_30 dX6_putBack_18 hO3 rfl ?_
  refine ev_cVn Y_X2_copyFrom L_RX6_45 dX6_putBack_21 ⟨Nat.le_of_ble_eq_true rfl, Nat.le_of_ble_eq_true rfl, Nat.le_of_ble_eq_true rfl, Nat.le_of_ble_eq_true rfl, Nat.le_of_ble_eq_true rfl⟩ hg3.obj (as := [.ref (o + 4)]) rfl rfl (c_X2_copyFrom hl _ _ _ _ _ _ hg3 hq3 hR.2.2.2.2.1 (by omega)) (fun M3 hL3 hB3 => ?_)
  obtain ⟨hD1, hD2⟩ := hB3
  have hO4 : RSo M3 o tk := (hD2.2 o (by omega)).trans hO3
  refine ev_vret dX6_putBack_24 rfl ⟨Nat.le_of_ble_eq_true rfl, Nat.le_of_ble_eq_true rfl⟩ ?_
  exact ⟨rfl, (hB1.fr hC2 (by omega)).fr hD2 (by omega), hC1.fr hD2 (by omega), hD1, hD2.1.trans (hC2.1.trans hB2.1), fun j y1 y2 y3 => (hD2.2 j (by omega)).trans ((hC2.2 j (by omega)).trans (hB2.2 j (by omega)))⟩

