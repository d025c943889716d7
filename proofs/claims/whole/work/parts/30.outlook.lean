/-! ===== Outlook ===== -/
def fat (T : List Tr) (x : Cf) : Nat → List Cf
  | 0 => []
  | t + 1 => if mf x (tg T t) true = true then fat T x t ++ [(ap (tg T t) x).2] else fat T x t
def faa (T : List Tr) (L : List Cf) : Nat → List Cf
  | 0 => []
  | i + 1 => faa T L i ++ fat T (cg L i) T.length
/-- what is reached by so many firings -/
def rch (T : List Tr) (x : Cf) : Nat → List Cf
  | 0 => [x]
  | n + 1 => faa T (rch T x n) (rch T x n).length
/-- what can fire in one of a list -/
def lfs (T : List Tr) (L : List Cf) : Nat → Int32
  | 0 => 0
  | i + 1 => lfs T L i ||| mk (fun t => mf (cg L i) (tg T t) true) T.length
theorem fat_len {T : List Tr} {x : Cf} (t : Nat) : (fat T x t).length ≤ t := by
  induction t with
  | zero => exact Nat.le_refl _
  | succ t ih =>
    unfold fat
    split
    · rw [List.length_append, List.length_singleton]; omega
    · omega
theorem fat_ok {k : Nat} {T : List Tr} {x : Cf} (hT : trs T) (hx : cfW k x) (t : Nat) (ht : t ≤ T.length) : cfs (k + 1) (fat T x t) := by
  induction t with
  | zero => exact cfs_nil
  | succ t ih =>
    unfold fat
    split
    · exact cfs_app.mpr ⟨ih (by omega), cfs_one.mpr (ap_ok hx (trs_tg hT (by omega)))⟩
    · exact ih (by omega)
theorem faa_len {T : List Tr} {L : List Cf} (i : Nat) : (faa T L i).length ≤ i * T.length := by
  induction i with
  | zero => exact Nat.zero_le _
  | succ i ih =>
    have h : (i + 1) * T.length = i * T.length + T.length := Nat.succ_mul i T.length
    have h2 := fat_len (T := T) (x := cg L i) T.length
    show (faa T L i ++ _).length ≤ _
    rw [List.length_append]
    omega
theorem faa_ok {k : Nat} {T : List Tr} {L : List Cf} (hT : trs T) (hL : cfs k L) (i : Nat) (hi : i ≤ L.length) : cfs (k + 1) (faa T L i) := by
  induction i with
  | zero => exact cfs_nil
  | succ i ih => exact cfs_app.mpr ⟨ih (by omega), fat_ok hT (cfs_cg hL (by omega)) _ (Nat.le_refl _)⟩
theorem rch_len {T : List Tr} {x : Cf} (hT : T.length ≤ 10) (n : Nat) : (rch T x n).length ≤ 10 ^ n := by
  induction n with
  | zero => exact Nat.le_refl _
  | succ n ih =>
    refine Nat.le_trans (faa_len _) ?_
    rw [Nat.pow_succ]
    exact Nat.mul_le_mul ih hT
theorem rch_ok {k : Nat} {T : List Tr} {x : Cf} (hT : trs T) (hx : cfW k x) (n : Nat) : cfs (k + n) (rch T x n) := by
  induction n with
  | zero => exact cfs_one.mpr hx
  | succ n ih => exact faa_ok hT ih _ (Nat.le_refl _)
/-- nothing changed but one place and four -/
def Fo (a q : Nat) (M M1 : ev_M) : Prop := M1.length = M.length ∧ ∀ j, j ≠ a → (j < q ∨ q + 4 ≤ j) → M1[j]? = M[j]?
theorem Fo.rf {a q : Nat} {M : ev_M} : Fo a q M M := ⟨rfl, fun _ _ _ => rfl⟩
theorem Fo.tr {a q : Nat} {M M1 M2 : ev_M} (h1 : Fo a q M M1) (h2 : Fo a q M1 M2) : Fo a q M M2 := ⟨h2.1.trans h1.1, fun j x y => (h2.2 j x y).trans (h1.2 j x y)⟩
theorem Fo.of {a q lo hi : Nat} {M M1 : ev_M} (h : Fr lo hi M M1) (hd : q ≤ lo ∧ hi ≤ q + 4 ∨ lo = a ∧ hi = a + 1) : Fo a q M M1 := ⟨h.1, fun j x y => h.2 j (by omega)⟩
theorem Fo.fr {a q lo hi : Nat} {M M1 : ev_M} (h : Fo a q M M1) (hd : lo ≤ a ∧ a < hi ∧ lo ≤ q ∧ q + 4 ≤ hi) : Fr lo hi M M1 := ⟨h.1, fun j x => h.2 j (by omega) (by omega)⟩
theorem RQ.fo {a q : Nat} {M M1 : ev_M} {p cap : Nat} {L : List Cf} (hR : RQ M p cap L) (hf : Fo a q M M1) (h1 : a < p ∨ p + 4 ≤ a) (h2 : p + 4 ≤ q ∨ q + 4 ≤ p) : RQ M1 p cap L := hR.kept fun j x y => hf.2 j (by omega) (by omega)
/-- an Outlook at o -/
def ROo (M : ev_M) (o p q : Nat) : Prop := M[o]? = some (.inr (5, [.ref (o + 1), .ref p, .ref q]))
def RO (M : ev_M) (o : Nat) : Prop := ∃ p q, (p = o + 2 ∧ q = o + 6 ∨ p = o + 6 ∧ q = o + 2) ∧ ROo M o p q ∧ RWk M (o + 1) ∧ (∃ L, RQ M p 1000 L) ∧ ∃ L, RQ M q 1000 L
theorem RO.fr {lo hi : Nat} {M M1 : ev_M} {o : Nat} (hR : RO M o) (hf : Fr lo hi M M1) (hd : o + 10 ≤ lo ∨ hi ≤ o) : RO M1 o := by
  obtain ⟨p, q, h1, h2, h3, ⟨L, h4⟩, L2, h5⟩ := hR
  exact ⟨p, q, h1, (hf.2 o (by omega)).trans h2, h3.fr hf (by omega), ⟨L, h4.fr hf (by omega)⟩, L2, h5.fr hf (by omega)⟩
set_option maxHeartbeats 4000000 in
set_option maxRecDepth 100000 in
theorem c_X5_fireAll_i {l : Launch} (hl : l.stackTraces = false)  (o p q : Nat) (hpq : p = o + 2 ∧ q = o + 6 ∨ p = o + 6 ∧ q = o + 2) (m : Nat) (T : List Tr) (hmo : m + 2 ≤ o ∨ o + 10 ≤ m) (hT : trs T) (L9 : List Cf) (hL9 : cfs 23 L9) (h100 : L9.length ≤ 100) (M0 : ev_M) (hOz : ROo M0 o p q) (hmz : RM M0 m T) (hbz : RQ M0 p 1000 L9) (i : Nat) (hi : i < L9.length) (Q : ev_R → ev_M → Prop) (hk9 : ∀ (M : ev_M) (t : Nat), Fo (o + 1) q M0 M → RQ M q 1000 (faa T L9 (i + 1)) → RWk M (o + 1) → ev_ l m_X5_fireAll 0 0 82 [some (.ref (o)), some (.ref (m)), some (.int (nI i)), some (.int (nI t))] [] M Q) : ∀ (n9 : Nat) (t : Nat) (M : ev_M), t ≤ T.length → Fo (o + 1) q M0 M → RQ M q 1000 (faa T L9 i ++ fat T (cg L9 i) t) → RWk M (o + 1) → T.length - t < n9 → ev_ l m_X5_fireAll 0 0 22 [some (.ref (o)), some (.ref (m)), some (.int (nI i)), some (.int (nI t))] [] M (Q) := by
  intro n9
  induction n9 with
  | zero => intro t M ht hFr hN hWk hm9; exact absurd hm9 (by omega)
  | succ n9 ih =>
    intro t M ht hFr hN hWk hm9
    have hO : ROo M o p q := (hFr.2 o (by omega) (by omega)).trans hOz
    have hm := hmz.fr (hFr.fr (lo := o + 1) (hi := o + 10) (by omega)) (by omega)
    have hb := hbz.fo hFr (by omega) (by omega)
    obtain ⟨y, hW⟩ := hWk
    have hten := hm.1
    refine ev_blk (B := [(.iload_n 3, 1), (.aload_n 1, 1)]) (pe := 24) (ls' := [some (.ref (o)), some (.ref (m)), some (.int (nI i)), some (.int (nI t))]) (st' := [.ref (m), .int (nI t)]) ⟨dX5_fireAll_22, dX5_fireAll_23, rfl⟩ rfl ?_
    refine ev_cVv Y_X4_count L_RX5_55 dX5_fireAll_24 ⟨Nat.le_of_ble_eq_true rfl, Nat.le_of_ble_eq_true rfl, Nat.le_of_ble_eq_true rfl, Nat.le_of_ble_eq_true rfl, Nat.le_of_ble_eq_true rfl⟩ hm.obj (as := []) rfl rfl (c_X4_count hl _ _ hm) ?_
    refine ev_iN_ge dX5_fireAll_27 (tgt := 82) (by decide) (by omega) (by omega) (fun q27 => ?_) (fun q27 => ?_)
    · have e7 : t = T.length := by omega
      refine hk9 M _ hFr ?_ hW.wk
      rw [e7] at hN; exact hN
    · refine ev_blk (B := [(.aload_n 0, 1)]) (pe := 31) (ls' := [some (.ref (o)), some (.ref (m)), some (.int (nI i)), some (.int (nI t))]) (st' := [.ref (o)]) ⟨dX5_fireAll_30, rfl⟩ rfl ?_
      refine ev_getf (v := .ref (p)) F_RX5_23 dX5_fireAll_31 hO rfl ?_
      refine ev_blk (B := [(.iload_n 2, 1), (.aload_n 0, 1)]) (pe := 36) (ls' := [some (.ref (o)), some (.ref (m)), some (.int (nI i)), some (.int (nI t))]) (st' := [.ref (o), .int (nI i), .ref (p)]) ⟨dX5_fireAll_34, dX5_fireAll_35, rfl⟩ rfl ?_
      refine ev_getf (v := .ref (o + 1)) F_RX5_12 dX5_fireAll_36 hO rfl ?_
      refine ev_cVn Y_X2_load L_RX5_45 dX5_fireAll_39 ⟨Nat.le_of_ble_eq_true rfl, Nat.le_of_ble_eq_true rfl, Nat.le_of_ble_eq_true rfl, Nat.le_of_ble_eq_true rfl, Nat.le_of_ble_eq_true rfl⟩ hb.obj (as := [.int (nI i), .ref (o + 1)]) rfl rfl (c_X2_load hl _ _ _ hb (i) (by omega) _ _ hW (by omega) (by omega)) (fun M1 hL1 hB1 => ?_)
      obtain ⟨hB1, hB2⟩ := hB1
      have hO3 : ROo M1 o p q := (hB2.2 o (by omega)).trans hO
      have hm3 := hm.fr hB2 (by omega)
      have hN3 := hN.fr hB2 (by omega)
      refine ev_blk (B := [(.aload_n 1, 1), (.iload_n 3, 1), (.aload_n 0, 1)]) (pe := 45) (ls' := [some (.ref (o)), some (.ref (m)), some (.int (nI i)), some (.int (nI t))]) (st' := [.ref (o), .int (nI t), .ref (m)]) ⟨dX5_fireAll_42, dX5_fireAll_43, dX5_fireAll_44, rfl⟩ rfl ?_
      refine ev_getf (v := .ref (o + 1)) F_RX5_12 dX5_fireAll_45 hO3 rfl ?_
      refine ev_blk (B := [(.iconst 1, 1)]) (pe := 49) (ls' := [some (.ref (o)), some (.ref (m)), some (.int (nI i)), some (.int (nI t))]) (st' := [.int (nI 1), .ref (o + 1), .int (nI t), .ref (m)]) ⟨dX5_fireAll_48, rfl⟩ rfl ?_
      refine ev_cVv Y_X4_canFire L_RX5_58 dX5_fireAll_49 ⟨Nat.le_of_ble_eq_true rfl, Nat.le_of_ble_eq_true rfl, Nat.le_of_ble_eq_true rfl, Nat.le_of_ble_eq_true rfl, Nat.le_of_ble_eq_true rfl⟩ hm3.obj (as := [.int (nI t), .ref (o + 1), .int (nI 1)]) rfl rfl (c_X4_canFire hl _ _ hm3 hT (t) (by omega) _ _ hB1 ((cfs_cg hL9 hi).le (by omega)) true) ?_
      refine ev_ifB_eq dX5_fireAll_52 (tgt := 76) (by decide) (fun q52 => ?_) (fun q52 => ?_)
      · refine ev_blk (B := [(.iinc 3 1, 3)]) (pe := 79) (ls' := [some (.ref (o)), some (.ref (m)), some (.int (nI i)), some (.int (nI (t + 1)))]) (st' := []) ⟨dX5_fireAll_76, rfl⟩ (by show some (([some (.ref (o)), some (.ref (m)), some (.int (nI i)), some (.int ((nI t) + Int32.ofInt (1)))] : ev_L), ([] : List Value)) = _; rw [ev_inc1 t]) ?_
        refine ev_goto (tgt := 22) dX5_fireAll_79 (by decide) ?_
        have e9 : fat T (cg L9 i) (t + 1) = fat T (cg L9 i) t := if_neg (Bool.eq_false_iff.mp q52)
        exact ih (t + 1) _ (by omega) (hFr.tr (Fo.of hB2 (Or.inr ⟨rfl, rfl⟩))) (by rw [e9]; exact hN3) hB1.wk (by omega)
      · refine ev_blk (B := [(.aload_n 1, 1), (.iload_n 3, 1), (.aload_n 0, 1)]) (pe := 58) (ls' := [some (.ref (o)), some (.ref (m)), some (.int (nI i)), some (.int (nI t))]) (st' := [.ref (o), .int (nI t), .ref (m)]) ⟨dX5_fireAll_55, dX5_fireAll_56, dX5_fireAll_57, rfl⟩ rfl ?_
        refine ev_getf (v := .ref (o + 1)) F_RX5_12 dX5_fireAll_58 hO3 rfl ?_
        refine ev_cVw Y_X4_apply L_RX5_62 dX5_fireAll_61 ⟨Nat.le_of_ble_eq_true rfl, Nat.le_of_ble_eq_true rfl, Nat.le_of_ble_eq_true rfl, Nat.le_of_ble_eq_true rfl, Nat.le_of_ble_eq_true rfl⟩ hm3.obj (as := [.int (nI t), .ref (o + 1)]) rfl rfl (c_X4_apply hl _ _ hm3 hT (t) (by omega) _ _ hB1 ((cfs_cg hL9 hi).le (by omega)) (by omega) q52) (fun M2 hL2 hB2 => ?_)
        obtain ⟨hC1, hC2⟩ := hB2
        have hO4 : ROo M2 o p q := (hC2.2 o (by omega)).trans hO3
        have hN4 := hN3.fr hC2 (by omega)
        refine ev_blk (B := [(.pop, 1), (.aload_n 0, 1)]) (pe := 66) (ls' := [some (.ref (o)), some (.ref (m)), some (.int (nI i)), some (.int (nI t))]) (st' := [.ref (o)]) ⟨dX5_fireAll_64, dX5_fireAll_65, rfl⟩ rfl ?_
        refine ev_getf (v := .ref (q)) F_RX5_27 dX5_fireAll_66 hO4 rfl ?_
        refine ev_blk (B := [(.aload_n 0, 1)]) (pe := 70) (ls' := [some (.ref (o)), some (.ref (m)), some (.int (nI i)), some (.int (nI t))]) (st' := [.ref (o), .ref (q)]) ⟨dX5_fireAll_69, rfl⟩ rfl ?_
        refine ev_getf (v := .ref (o + 1)) F_RX5_12 dX5_fireAll_70 hO4 rfl ?_
        refine ev_cVn Y_X2_add L_RX5_33 dX5_fireAll_73 ⟨Nat.le_of_ble_eq_true rfl, Nat.le_of_ble_eq_true rfl, Nat.le_of_ble_eq_true rfl, Nat.le_of_ble_eq_true rfl, Nat.le_of_ble_eq_true rfl⟩ hN4.obj (as := [.ref (o + 1)]) rfl rfl (c_X2_add hl _ _ _ hN4 _ _ hC1 (by omega) (by have y1 := faa_len (T := T) (L := L9) i; have y2 := fat_len (T := T) (x := cg L9 i) t; have y3 : i * T.length ≤ i * 10 := Nat.mul_le_mul_left i hten; rw [List.length_append]; omega)) (fun M3 hL3 hB3 => ?_)
        obtain ⟨hD1, hD2⟩ := hB3
        refine ev_blk (B := [(.iinc 3 1, 3)]) (pe := 79) (ls' := [some (.ref (o)), some (.ref (m)), some (.int (nI i)), some (.int (nI (t + 1)))]) (st' := []) ⟨dX5_fireAll_76, rfl⟩ (by show some (([some (.ref (o)), some (.ref (m)), some (.int (nI i)), some (.int ((nI t) + Int32.ofInt (1)))] : ev_L), ([] : List Value)) = _; rw [ev_inc1 t]) ?_
        refine ev_goto (tgt := 22) dX5_fireAll_79 (by decide) ?_
        have e9 : fat T (cg L9 i) (t + 1) = fat T (cg L9 i) t ++ [(ap (tg T t) (cg L9 i)).2] := if_pos q52
        exact ih (t + 1) _ (by omega) (((hFr.tr (Fo.of hB2 (Or.inr ⟨rfl, rfl⟩))).tr (Fo.of hC2 (Or.inr ⟨rfl, rfl⟩))).tr (Fo.of hD2 (Or.inl ⟨Nat.le_refl _, Nat.le_refl _⟩))) (by rw [e9, ← List.append_assoc]; exact hD1) (hC1.fr hD2 (by omega)).wk (by omega)

set_option maxHeartbeats 4000000 in
set_option maxRecDepth 100000 in
theorem c_X5_fireAll_l {l : Launch} (hl : l.stackTraces = false)  (o p q : Nat) (hpq : p = o + 2 ∧ q = o + 6 ∨ p = o + 6 ∧ q = o + 2) (m : Nat) (T : List Tr) (hmo : m + 2 ≤ o ∨ o + 10 ≤ m) (hT : trs T) (L9 : List Cf) (hL9 : cfs 23 L9) (h100 : L9.length ≤ 100) (M0 : ev_M) (hOz : ROo M0 o p q) (hmz : RM M0 m T) (hbz : RQ M0 p 1000 L9) : ∀ (n9 : Nat) (i : Nat) (M : ev_M), i ≤ L9.length → Fo (o + 1) q M0 M → RQ M q 1000 (faa T L9 i) → RWk M (o + 1) → L9.length - i < n9 → ev_ l m_X5_fireAll 0 0 9 [some (.ref (o)), some (.ref (m)), some (.int (nI i)), none] [] M (fun r M1 => r = .inl none ∧ ROo M1 o q p ∧ RQ M1 q 1000 (faa T L9 L9.length) ∧ RQ M1 p 1000 L9 ∧ RWk M1 (o + 1) ∧ Fr o (o + 10) M0 M1) := by
  intro n9
  induction n9 with
  | zero => intro i M hi hFr hN hWk hm9; exact absurd hm9 (by omega)
  | succ n9 ih =>
    intro i M hi hFr hN hWk hm9
    have hO : ROo M o p q := (hFr.2 o (by omega) (by omega)).trans hOz
    have hm := hmz.fr (hFr.fr (lo := o + 1) (hi := o + 10) (by omega)) (by omega)
    have hb := hbz.fo hFr (by omega) (by omega)
    obtain ⟨y, hW⟩ := hWk
    have hten := hm.1
    refine ev_blk (B := [(.iload_n 2, 1), (.aload_n 0, 1)]) (pe := 11) (ls' := [some (.ref (o)), some (.ref (m)), some (.int (nI i)), none]) (st' := [.ref (o), .int (nI i)]) ⟨dX5_fireAll_9, dX5_fireAll_10, rfl⟩ rfl ?_
    refine ev_getf (v := .ref (p)) F_RX5_23 dX5_fireAll_11 hO rfl ?_
    refine ev_cVv Y_X2_size L_RX5_41 dX5_fireAll_14 ⟨Nat.le_of_ble_eq_true rfl, Nat.le_of_ble_eq_true rfl, Nat.le_of_ble_eq_true rfl, Nat.le_of_ble_eq_true rfl, Nat.le_of_ble_eq_true rfl⟩ hb.obj (as := []) rfl rfl (c_X2_size hl _ _ _ hb) ?_
    refine ev_iN_ge dX5_fireAll_17 (tgt := 88) (by decide) (by omega) (by omega) (fun q17 => ?_) (fun q17 => ?_)
    · refine ev_blk (B := [(.aload_n 0, 1)]) (pe := 89) (ls' := [some (.ref (o)), some (.ref (m)), some (.int (nI i)), none]) (st' := [.ref (o)]) ⟨dX5_fireAll_88, rfl⟩ rfl ?_
      refine ev_getf (v := .ref (p)) F_RX5_23 dX5_fireAll_89 hO rfl ?_
      refine ev_blk (B := [(.astore_n 2, 1), (.aload_n 0, 1), (.aload_n 0, 1)]) (pe := 95) (ls' := [some (.ref (o)), some (.ref (m)), some (.ref (p)), none]) (st' := [.ref (o), .ref (o)]) ⟨dX5_fireAll_92, dX5_fireAll_93, dX5_fireAll_94, rfl⟩ rfl ?_
      refine ev_getf (v := .ref (q)) F_RX5_27 dX5_fireAll_95 hO rfl ?_
      refine ev_put F_RX5_23 dX5_fireAll_98 hO (Nat.le_of_ble_eq_true rfl) (fun _ _ => ⟨rfl, rfl⟩) ?_
      refine ev_nm (M0 := M.set (o) (.inr (5, [.ref (o + 1), .ref (q), .ref (q)]))) (fun M1 eM1 => ?_)
      have f2 : M1[o]? = some (.inr (5, [.ref (o + 1), .ref (q), .ref (q)])) := by rw [eM1]; exact ev_sg hO
      have f3 : M1[p]? = some (.inr (2, [.ref (p + 1), .ref (p + 2), .ref (p + 3), .int (nI (L9.length))])) := by rw [eM1, ev_sn (by omega)]; exact hb.obj
      refine ev_blk (B := [(.aload_n 0, 1), (.aload_n 2, 1)]) (pe := 103) (ls' := [some (.ref (o)), some (.ref (m)), some (.ref (p)), none]) (st' := [.ref (p), .ref (o)]) ⟨dX5_fireAll_101, dX5_fireAll_102, rfl⟩ rfl ?_
      refine ev_put F_RX5_27 dX5_fireAll_103 f2 (Nat.le_of_ble_eq_true rfl) (fun _ _ => ⟨rfl, rfl⟩) ?_
      refine ev_nm (M0 := M1.set (o) (.inr (5, [.ref (o + 1), .ref (q), .ref (p)]))) (fun M4 eM4 => ?_)
      have f5 : M4[o]? = some (.inr (5, [.ref (o + 1), .ref (q), .ref (p)])) := by rw [eM4]; exact ev_sg f2
      have f6 : M4[p]? = some (.inr (2, [.ref (p + 1), .ref (p + 2), .ref (p + 3), .int (nI (L9.length))])) := by rw [eM4, ev_sn (by omega)]; exact f3
      refine ev_vret dX5_fireAll_106 rfl ⟨Nat.le_of_ble_eq_true rfl, Nat.le_of_ble_eq_true rfl⟩ ?_
      have e7 : i = L9.length := by omega
      have hFb : Fr o (o + 1) M M4 := ⟨by rw [eM4, eM1]; simp only [List.length_set], fun j hj => by rw [eM4, ev_sn (by omega), eM1, ev_sn (by omega)]⟩
      rw [e7] at hN
      exact ⟨rfl, f5, hN.fr hFb (by omega), hb.fr hFb (by omega), (hW.fr hFb (by omega)).wk, (hFr.fr (by omega)).tr (hFb.to (by omega) (by omega))⟩
    · refine ev_blk (B := [(.iconst 0, 1), (.istore_n 3, 1)]) (pe := 22) (ls' := [some (.ref (o)), some (.ref (m)), some (.int (nI i)), some (.int (nI 0))]) (st' := []) ⟨dX5_fireAll_20, dX5_fireAll_21, rfl⟩ rfl ?_
      refine c_X5_fireAll_i hl o p q hpq m T hmo hT L9 hL9 h100 M0 hOz hmz hbz i (by omega) _ (fun M1 t hFr2 hN2 hW2 => ?_) _ 0 _ (Nat.zero_le _) hFr (by rw [show fat T (cg L9 i) 0 = [] from rfl, List.append_nil]; exact hN) hW.wk (Nat.lt_succ_self _)
      refine ev_blk (B := [(.iinc 2 1, 3)]) (pe := 85) (ls' := [some (.ref (o)), some (.ref (m)), some (.int (nI (i + 1))), some (.int (nI t))]) (st' := []) ⟨dX5_fireAll_82, rfl⟩ (by show some (([some (.ref (o)), some (.ref (m)), some (.int (nI i + Int32.ofInt 1)), some (.int (nI t))] : ev_L), ([] : List Value)) = _; rw [ev_inc1]) ?_
      refine ev_goto (tgt := 9) dX5_fireAll_85 (by decide) ?_
      refine ev_fgt (ls' := [some (.ref (o)), some (.ref (m)), some (.int (nI (i + 1))), none]) ⟨Or.inr rfl, Or.inr rfl, Or.inr rfl, Or.inl rfl, trivial⟩ ?_
      exact ih (i + 1) M1 (by omega) hFr2 hN2 hW2 (by omega)

set_option maxHeartbeats 4000000 in
set_option maxRecDepth 100000 in
theorem c_X5_fireAll {l : Launch} (hl : l.stackTraces = false) {M : ev_M} (o p q : Nat) (hpq : p = o + 2 ∧ q = o + 6 ∨ p = o + 6 ∧ q = o + 2) (m : Nat) (T : List Tr) (hmo : m + 2 ≤ o ∨ o + 10 ≤ m) (hT : trs T) (L9 : List Cf) (hL9 : cfs 23 L9) (h100 : L9.length ≤ 100) (hOz : ROo M o p q) (hmz : RM M m T) (hbz : RQ M p 1000 L9) (N9 : List Cf) (hq : RQ M q 1000 N9) (hWk : RWk M (o + 1)) : ev_Mt l m_X5_fireAll [.ref (o), .ref (m)] M (fun r M1 => r = .inl none ∧ ROo M1 o q p ∧ RQ M1 q 1000 (faa T L9 L9.length) ∧ RQ M1 p 1000 L9 ∧ RWk M1 (o + 1) ∧ Fr o (o + 10) M M1) := by
  refine ev_body hl rfl (by decide +kernel) (Nat.le_of_ble_eq_true rfl) ?_
  show ev_ l m_X5_fireAll 0 0 0 [some (.ref (o)), some (.ref (m)), none, none] [] M _
  refine ev_blk (B := [(.aload_n 0, 1)]) (pe := 1) (ls' := [some (.ref (o)), some (.ref (m)), none, none]) (st' := [.ref (o)]) ⟨dX5_fireAll_0, rfl⟩ rfl ?_
  refine ev_getf (v := .ref (q)) F_RX5_27 dX5_fireAll_1 hOz rfl ?_
  refine ev_cVn Y_X2_removeAll L_RX5_30 dX5_fireAll_4 ⟨Nat.le_of_ble_eq_true rfl, Nat.le_of_ble_eq_true rfl, Nat.le_of_ble_eq_true rfl, Nat.le_of_ble_eq_true rfl, Nat.le_of_ble_eq_true rfl⟩ hq.obj (as := []) rfl rfl (c_X2_removeAll hl _ _ _ hq) (fun M1 hL1 hB1 => ?_)
  obtain ⟨hB1, hB2⟩ := hB1
  refine ev_blk (B := [(.iconst 0, 1), (.istore_n 2, 1)]) (pe := 9) (ls' := [some (.ref (o)), some (.ref (m)), some (.int (nI 0)), none]) (st' := []) ⟨dX5_fireAll_7, dX5_fireAll_8, rfl⟩ rfl ?_
  exact c_X5_fireAll_l hl o p q hpq m T hmo hT L9 hL9 h100 M hOz hmz hbz _ 0 _ (Nat.zero_le _) (Fo.of hB2 (Or.inl ⟨Nat.le_refl _, Nat.le_refl _⟩)) hB1 (hWk.fr hB2 (by omega)) (Nat.lt_succ_self _)

