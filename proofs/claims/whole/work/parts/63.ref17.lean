/-! ===== the reference: covered, distance, least ===== -/
/-- the set of states without letters, as the reference makes it -/
def cvR (B : List Cf) : Nat → Int32
  | 0 => 0
  | i + 1 => if (cg B i).2.1 = [] ∧ (cg B i).2.2 = [] then cvR B i ||| ((1 : Int32) <<< (nI (cg B i).1 &&& 31)) else cvR B i
theorem e2_0 {w : List Nat} (hw : wk w) (hn : w.length ≤ 25) : e2 w = 0 ↔ w = [] := by
  show lN (n2 w) = 0 ↔ _
  rw [show (0 : Int64) = lN 0 from rfl, wl_eq (q2_62 hw hn) (by decide)]
  have := n2_pos (w := w)
  constructor
  · intro h
    by_cases q : w = []
    · exact q
    · have := this.mpr q; omega
  · rintro rfl; rfl
/-- both sets of states are the same -/
theorem bt_or {a b : Int32} {k : Nat} : (a ||| b).toBitVec.getLsbD k = (a.toBitVec.getLsbD k || b.toBitVec.getLsbD k) := BitVec.getLsbD_or
theorem bt_one {j : Nat} (hj : j < 32) {k : Nat} (hk : k < 32) : ((1 : Int32) <<< (nI j &&& 31)).toBitVec.getLsbD k = decide (k = j) := by
  have key : ∀ j, j < 32 → ∀ k, k < 32 → ((1 : Int32) <<< (nI j &&& 31)).toBitVec.getLsbD k = decide (k = j) := by decide +kernel
  exact key j hj k hk
theorem bt_0 (k : Nat) : (0 : Int32).toBitVec.getLsbD k = false := by
  show (0#32).getLsbD k = false
  simp
theorem bt_ext {a b : Int32} (h : ∀ k, k < 32 → a.toBitVec.getLsbD k = b.toBitVec.getLsbD k) : a = b := Int32.toBitVec_inj.mp (BitVec.eq_of_getLsbD_eq h)
theorem cvR_bt {B : List Cf} (hB : cfs 25 B) {k : Nat} (hk : k < 32) (i : Nat) (hi : i ≤ B.length) : (cvR B i).toBitVec.getLsbD k = true ↔ ∃ j, j < i ∧ (cg B j).1 = k ∧ (cg B j).2.1 = [] ∧ (cg B j).2.2 = [] := by
  induction i with
  | zero => exact ⟨fun h => (by rw [show cvR B 0 = 0 from rfl, bt_0] at h; cases h), fun ⟨j, hj, _⟩ => absurd hj (Nat.not_lt_zero _)⟩
  | succ i ih =>
    have hc := (cfs_cg hB (show i < B.length by omega)).1
    have key : (cvR B (i + 1)).toBitVec.getLsbD k = true ↔ (cvR B i).toBitVec.getLsbD k = true ∨ (cg B i).1 = k ∧ (cg B i).2.1 = [] ∧ (cg B i).2.2 = [] := by
      show (if (cg B i).2.1 = [] ∧ (cg B i).2.2 = [] then _ else _ : Int32).toBitVec.getLsbD k = true ↔ _
      split
      · rename_i q
        rw [bt_or, bt_one (by omega) hk, Bool.or_eq_true, decide_eq_true_eq]
        exact ⟨fun h => h.imp_right fun e => ⟨e.symm, q⟩, fun h => h.imp_right fun e => e.1.symm⟩
      · rename_i q
        exact ⟨Or.inl, fun h => h.elim id (fun e => absurd e.2 q)⟩
    rw [key, ih (by omega)]
    constructor
    · rintro (⟨j, hj, h⟩ | h)
      · exact ⟨j, by omega, h⟩
      · exact ⟨i, by omega, h⟩
    · rintro ⟨j, hj, h⟩
      by_cases e : j = i
      · subst e; exact Or.inr h
      · exact Or.inl ⟨j, by omega, h⟩
theorem lst_0 {B : List Cf} {s : Nat} (i : Nat) : lst B s i = some 0 ↔ ∃ j, j < i ∧ (cg B j).1 = s ∧ (cg B j).2.1 = [] ∧ (cg B j).2.2 = [] := by
  induction i with
  | zero => exact ⟨fun h => (by cases h), fun ⟨j, hj, _⟩ => absurd hj (Nat.not_lt_zero _)⟩
  | succ i ih =>
    have el : (cg B i).2.1.length + (cg B i).2.2.length = 0 ↔ (cg B i).2.1 = [] ∧ (cg B i).2.2 = [] := by
      rw [← List.length_eq_zero_iff, ← List.length_eq_zero_iff]; omega
    have key : lst B s (i + 1) = some 0 ↔ lst B s i = some 0 ∨ (cg B i).1 = s ∧ (cg B i).2.1 = [] ∧ (cg B i).2.2 = [] := by
      by_cases q : (cg B i).1 = s ∧ (match lst B s i with | none => true | some v => decide ((cg B i).2.1.length + (cg B i).2.2.length < v)) = true
      · rw [show lst B s (i + 1) = some ((cg B i).2.1.length + (cg B i).2.2.length) from if_pos q, Option.some_inj, el]
        constructor
        · exact fun h => Or.inr ⟨q.1, h⟩
        · rintro (h | h)
          · have := q.2
            rw [h] at this
            exact absurd (of_decide_eq_true this) (Nat.not_lt_zero _)
          · exact h.2
      · rw [show lst B s (i + 1) = lst B s i from if_neg q]
        constructor
        · exact Or.inl
        · rintro (h | h)
          · exact h
          · cases hv : lst B s i with
            | none => exact absurd ⟨h.1, by rw [hv]⟩ q
            | some v =>
              have hlt : ¬ (cg B i).2.1.length + (cg B i).2.2.length < v := fun z => q ⟨h.1, by rw [hv]; exact decide_eq_true z⟩
              rw [el.mpr h.2] at hlt
              rw [show v = 0 by omega]
    rw [key, ih]
    constructor
    · rintro (⟨j, hj, h⟩ | h)
      · exact ⟨j, by omega, h⟩
      · exact ⟨i, by omega, h⟩
    · rintro ⟨j, hj, h⟩
      by_cases e : j = i
      · subst e; exact Or.inr h
      · exact Or.inl ⟨j, by omega, h⟩
theorem oI_z {r : Option Nat} (h : ∀ v, r = some v → v < 2 ^ 31) : oI r = 0 ↔ r = some 0 := by
  cases r with
  | none => exact ⟨fun q => absurd q (by decide), fun q => by cases q⟩
  | some v =>
    rw [Option.some_inj]
    show nI v = nI 0 ↔ _
    exact ⟨fun q => by have := congrArg Int32.toNatClampNeg q; rwa [nI_clamp (h v rfl), nI_clamp (by decide)] at this, fun q => by rw [q]⟩
theorem cvS_bt {B : List Cf} (hB : cfs 25 B) {k : Nat} (hk : k < 32) (n : Nat) (hn : n ≤ 6) : (cvS B n).toBitVec.getLsbD k = true ↔ k < n ∧ lst B k B.length = some 0 := by
  induction n with
  | zero => exact ⟨fun h => (by rw [show cvS B 0 = 0 from rfl, bt_0] at h; cases h), fun h => absurd h.1 (Nat.not_lt_zero _)⟩
  | succ n ih =>
    have h0 : oI (lst B n B.length) = 0 ↔ lst B n B.length = some 0 := oI_z (fun v hv => Nat.lt_of_le_of_lt (lst_lt hB _ (Nat.le_refl _) v hv) (by decide))
    have key : (cvS B (n + 1)).toBitVec.getLsbD k = true ↔ (cvS B n).toBitVec.getLsbD k = true ∨ k = n ∧ lst B n B.length = some 0 := by
      show (if oI (lst B n B.length) = 0 then _ else _ : Int32).toBitVec.getLsbD k = true ↔ _
      split
      · rename_i q
        rw [bt_or, bt_one (by omega) hk, Bool.or_eq_true, decide_eq_true_eq]
        exact ⟨fun h => h.imp_right fun e => ⟨e, h0.mp q⟩, fun h => h.imp_right fun e => e.1⟩
      · rename_i q
        exact ⟨Or.inl, fun h => h.elim id (fun e => absurd (h0.mpr e.2) q)⟩
    rw [key, ih (by omega)]
    constructor
    · rintro (⟨h1, h2⟩ | ⟨rfl, h2⟩)
      · exact ⟨by omega, h2⟩
      · exact ⟨by omega, h2⟩
    · rintro ⟨h1, h2⟩
      by_cases e : k = n
      · subst e; exact Or.inr ⟨rfl, h2⟩
      · exact Or.inl ⟨by omega, h2⟩
theorem cv_eq (B : List Cf) (hB : cfs 25 B) : cvR B B.length = cvS B 6 := by
  refine bt_ext fun k hk => ?_
  have h1 := cvR_bt hB hk B.length (Nat.le_refl _)
  have h2 := cvS_bt hB hk 6 (Nat.le_refl _)
  rw [lst_0] at h2
  have h3 : (cvR B B.length).toBitVec.getLsbD k = true ↔ (cvS B 6).toBitVec.getLsbD k = true := by
    rw [h1, h2]
    constructor
    · rintro ⟨j, hj, h⟩
      exact ⟨by have := (cfs_cg hB hj).1; omega, j, hj, h⟩
    · exact fun h => h.2
  cases q : (cvS B 6).toBitVec.getLsbD k with
  | true => exact h3.mpr q
  | false =>
    cases q2 : (cvR B B.length).toBitVec.getLsbD k with
    | true => rw [h3.mp q2] at q; cases q
    | false => rfl
set_option maxHeartbeats 4000000 in
set_option maxRecDepth 100000 in
theorem c_R_isCovered_l {l : Launch} (hl : l.stackTraces = false) {M : ev_M} (o : Nat) (zi : Nat → Int32) (zl : Nat → Int64) (hO : M[o]? = some (.inr (10, zo o zi zl))) (k : Nat) (hk13 : k < 13) (B : List Cf) (hB30 : B.length ≤ 30) (hB : cfs 25 B) (hPB : PB M o k B) (x : Cf) (hx : cfO x) (h11 : zi 11 = nI x.1) (h13 : zl 13 = e2 x.2.1) (h14 : zl 14 = e2 x.2.2) : ∀ (n9 : Nat) (i : Nat), i ≤ B.length → (∀ j, j < i → cb (cg B j) x = false) → B.length - i < n9 → ev_ l m_X11_isCovered 0 0 5 [some (.ref (o)), some (.int (nI k)), some (.int (nI (30 * k + i)))] [] M (ev_q (.inl (some (.int (ev_b (cv B x))))) M) := by
  intro n9
  induction n9 with
  | zero => intro i hi ha hm9; exact absurd hm9 (by omega)
  | succ n9 ih =>
    intro i hi ha hm9
    obtain ⟨bs, bn, bf, b2, b11, b12, b14, b15, hbn, hQ⟩ := hPB
    refine ev_blk (B := [(.iload_n 2, 1), (.bipush 30, 2), (.iload_n 1, 1), (.imul, 1), (.aload_n 0, 1)]) (pe := 11) (ls' := [some (.ref (o)), some (.int (nI k)), some (.int (nI (30 * k + i)))]) (st' := [.ref (o), .int (nI (30 * k)), .int (nI (30 * k + i))]) ⟨dX11_isCovered_5, dX11_isCovered_6, dX11_isCovered_8, dX11_isCovered_9, dX11_isCovered_10, rfl⟩ (by show some (([some (.ref (o)), some (.int (nI k)), some (.int (nI (30 * k + i)))] : ev_L), ([.ref (o), .int ((nI 30) * (nI k)), .int (nI (30 * k + i))] : List Value)) = _; rw [pk_mul 30 k]) ?_
    refine ev_getf (v := .ref (o + 12)) F_RX11_44 dX11_isCovered_11 hO rfl ?_
    refine ev_blk (B := [(.iload_n 1, 1)]) (pe := 15) (ls' := [some (.ref (o)), some (.int (nI k)), some (.int (nI (30 * k + i)))]) (st' := [.int (nI k), .ref (o + 12), .int (nI (30 * k)), .int (nI (30 * k + i))]) ⟨dX11_isCovered_14, rfl⟩ rfl ?_
    refine ev_iald dX11_isCovered_15 b12 (vp_in_nI (show k < 13 by omega) (by omega)) ?_
    rw [nI_clamp (show k < 2 ^ 31 by omega)]
    rw [show bn k = nI (B.length) from hbn]
    refine ev_blk (B := [(.iadd, 1)]) (pe := 17) (ls' := [some (.ref (o)), some (.int (nI k)), some (.int (nI (30 * k + i)))]) (st' := [.int (nI ((30 * k) + (B.length))), .int (nI (30 * k + i))]) ⟨dX11_isCovered_16, rfl⟩ (by show some (([some (.ref (o)), some (.int (nI k)), some (.int (nI (30 * k + i)))] : ev_L), ([.int ((nI (30 * k)) + (nI (B.length))), .int (nI (30 * k + i))] : List Value)) = _; rw [nI_add (30 * k) (B.length)]) ?_
    refine ev_iN_ge dX11_isCovered_17 (tgt := 73) (by decide) (by omega) (by omega) (fun q17 => ?_) (fun q17 => ?_)
    · refine ev_blk (B := [(.iconst 0, 1)]) (pe := 74) (ls' := [some (.ref (o)), some (.int (nI k)), some (.int (nI (30 * k + i)))]) (st' := [.int (nI 0)]) ⟨dX11_isCovered_73, rfl⟩ rfl ?_
      refine ev_iret dX11_isCovered_74 rfl (rfl) ⟨Nat.le_of_ble_eq_true rfl, Nat.le_of_ble_eq_true rfl⟩ ?_
      have e9 : cv B x = false := by
        unfold cv
        rw [List.any_eq_false]
        intro y hy
        obtain ⟨j, hj, rfl⟩ := List.getElem_of_mem hy
        rw [← cg_get hj, ha j (by omega)]
        decide
      rw [e9]
      exact ⟨rfl, rfl⟩
    · have hci := cfs_cg hB (show i < B.length by omega)
      have hc6 := hci.1
      have hx6 := hx.1
      refine ev_blk (B := [(.aload_n 0, 1)]) (pe := 21) (ls' := [some (.ref (o)), some (.int (nI k)), some (.int (nI (30 * k + i)))]) (st' := [.ref (o)]) ⟨dX11_isCovered_20, rfl⟩ rfl ?_
      refine ev_getf (v := .ref (o + 11)) F_RX11_41 dX11_isCovered_21 hO rfl ?_
      refine ev_blk (B := [(.iload_n 2, 1)]) (pe := 25) (ls' := [some (.ref (o)), some (.int (nI k)), some (.int (nI (30 * k + i)))]) (st' := [.int (nI (30 * k + i)), .ref (o + 11)]) ⟨dX11_isCovered_24, rfl⟩ rfl ?_
      refine ev_iald dX11_isCovered_25 b11 (vp_in_nI (show 30 * k + i < 390 by omega) (by omega)) ?_
      rw [nI_clamp (show 30 * k + i < 2 ^ 31 by omega)]
      rw [show bs (30 * k + i) = nI ((cg B i).1) from (hQ i (by omega)).1]
      refine ev_blk (B := [(.aload_n 0, 1)]) (pe := 27) (ls' := [some (.ref (o)), some (.int (nI k)), some (.int (nI (30 * k + i)))]) (st' := [.ref (o), .int (nI ((cg B i).1))]) ⟨dX11_isCovered_26, rfl⟩ rfl ?_
      refine ev_getf (v := .int (nI (x.1))) F_RX11_179 dX11_isCovered_27 hO (congrArg (fun q => some (Value.int q)) h11) ?_
      refine ev_iN_ne dX11_isCovered_30 (tgt := 67) (by decide) (by omega) (by omega) (fun q30 => ?_) (fun q30 => ?_)
      · refine ev_blk (B := [(.iinc 2 1, 3)]) (pe := 70) (ls' := [some (.ref (o)), some (.int (nI k)), some (.int (nI ((30 * k + i) + 1)))]) (st' := []) ⟨dX11_isCovered_67, rfl⟩ (by show some (([some (.ref (o)), some (.int (nI k)), some (.int ((nI (30 * k + i)) + Int32.ofInt (1)))] : ev_L), ([] : List Value)) = _; rw [ev_inc1 (30 * k + i)]) ?_
        refine ev_goto (tgt := 5) dX11_isCovered_70 (by decide) ?_
        refine ih (i + 1) (by omega) (fun j hj => ?_) (by omega)
        by_cases e : j = i
        · subst e
          unfold cb
          first
            | (rw [q62, Bool.and_false, Bool.and_false]; done)
            | (rw [q46, Bool.false_and, Bool.and_false]; done)
            | (rw [beq_eq_false_iff_ne.mpr q30, Bool.false_and]; done)
        · exact ha j (by omega)
      · refine ev_blk (B := [(.aload_n 0, 1)]) (pe := 34) (ls' := [some (.ref (o)), some (.int (nI k)), some (.int (nI (30 * k + i)))]) (st' := [.ref (o)]) ⟨dX11_isCovered_33, rfl⟩ rfl ?_
        refine ev_getf (v := .ref (o + 14)) F_RX11_50 dX11_isCovered_34 hO rfl ?_
        refine ev_blk (B := [(.iload_n 2, 1)]) (pe := 38) (ls' := [some (.ref (o)), some (.int (nI k)), some (.int (nI (30 * k + i)))]) (st' := [.int (nI (30 * k + i)), .ref (o + 14)]) ⟨dX11_isCovered_37, rfl⟩ rfl ?_
        refine ev_lald dX11_isCovered_38 b14 (vp_in_nI (show 30 * k + i < 390 by omega) (by omega)) ?_
        rw [nI_clamp (show 30 * k + i < 2 ^ 31 by omega)]
        rw [show bf (30 * k + i) = e2 (cg B i).2.1 from (hQ i (by omega)).2.1]
        refine ev_blk (B := [(.aload_n 0, 1)]) (pe := 40) (ls' := [some (.ref (o)), some (.int (nI k)), some (.int (nI (30 * k + i)))]) (st' := [.ref (o), .long (e2 (cg B i).2.1)]) ⟨dX11_isCovered_39, rfl⟩ rfl ?_
        refine ev_getf (v := .long (e2 x.2.1)) F_RX11_182 dX11_isCovered_40 hO (congrArg (fun q => some (Value.long q)) h13) ?_
        refine ev_cSv Y_X11_isWordBelow L_RX11_218 dX11_isCovered_43 ⟨Nat.le_of_ble_eq_true rfl, Nat.le_of_ble_eq_true rfl, Nat.le_of_ble_eq_true rfl, Nat.le_of_ble_eq_true rfl, Nat.le_of_ble_eq_true rfl⟩ (as := [.long (e2 (cg B i).2.1), .long (e2 x.2.1)]) rfl rfl (c_R_isWordBelow hl ((cg B i).2.1) x.2.1 hci.2.1 hci.2.2.1 hx.2.1 hx.2.2.1) ?_
        refine ev_ifB_eq dX11_isCovered_46 (tgt := 67) (by decide) (fun q46 => ?_) (fun q46 => ?_)
        · refine ev_blk (B := [(.iinc 2 1, 3)]) (pe := 70) (ls' := [some (.ref (o)), some (.int (nI k)), some (.int (nI ((30 * k + i) + 1)))]) (st' := []) ⟨dX11_isCovered_67, rfl⟩ (by show some (([some (.ref (o)), some (.int (nI k)), some (.int ((nI (30 * k + i)) + Int32.ofInt (1)))] : ev_L), ([] : List Value)) = _; rw [ev_inc1 (30 * k + i)]) ?_
          refine ev_goto (tgt := 5) dX11_isCovered_70 (by decide) ?_
          refine ih (i + 1) (by omega) (fun j hj => ?_) (by omega)
          by_cases e : j = i
          · subst e
            unfold cb
            first
              | (rw [q62, Bool.and_false, Bool.and_false]; done)
              | (rw [q46, Bool.false_and, Bool.and_false]; done)
              | (rw [beq_eq_false_iff_ne.mpr q30, Bool.false_and]; done)
          · exact ha j (by omega)
        · refine ev_blk (B := [(.aload_n 0, 1)]) (pe := 50) (ls' := [some (.ref (o)), some (.int (nI k)), some (.int (nI (30 * k + i)))]) (st' := [.ref (o)]) ⟨dX11_isCovered_49, rfl⟩ rfl ?_
          refine ev_getf (v := .ref (o + 15)) F_RX11_53 dX11_isCovered_50 hO rfl ?_
          refine ev_blk (B := [(.iload_n 2, 1)]) (pe := 54) (ls' := [some (.ref (o)), some (.int (nI k)), some (.int (nI (30 * k + i)))]) (st' := [.int (nI (30 * k + i)), .ref (o + 15)]) ⟨dX11_isCovered_53, rfl⟩ rfl ?_
          refine ev_lald dX11_isCovered_54 b15 (vp_in_nI (show 30 * k + i < 390 by omega) (by omega)) ?_
          rw [nI_clamp (show 30 * k + i < 2 ^ 31 by omega)]
          rw [show b2 (30 * k + i) = e2 (cg B i).2.2 from (hQ i (by omega)).2.2]
          refine ev_blk (B := [(.aload_n 0, 1)]) (pe := 56) (ls' := [some (.ref (o)), some (.int (nI k)), some (.int (nI (30 * k + i)))]) (st' := [.ref (o), .long (e2 (cg B i).2.2)]) ⟨dX11_isCovered_55, rfl⟩ rfl ?_
          refine ev_getf (v := .long (e2 x.2.2)) F_RX11_185 dX11_isCovered_56 hO (congrArg (fun q => some (Value.long q)) h14) ?_
          refine ev_cSv Y_X11_isWordBelow L_RX11_218 dX11_isCovered_59 ⟨Nat.le_of_ble_eq_true rfl, Nat.le_of_ble_eq_true rfl, Nat.le_of_ble_eq_true rfl, Nat.le_of_ble_eq_true rfl, Nat.le_of_ble_eq_true rfl⟩ (as := [.long (e2 (cg B i).2.2), .long (e2 x.2.2)]) rfl rfl (c_R_isWordBelow hl ((cg B i).2.2) x.2.2 hci.2.2.2.1 hci.2.2.2.2 hx.2.2.2.1 hx.2.2.2.2) ?_
          refine ev_ifB_eq dX11_isCovered_62 (tgt := 67) (by decide) (fun q62 => ?_) (fun q62 => ?_)
          · refine ev_blk (B := [(.iinc 2 1, 3)]) (pe := 70) (ls' := [some (.ref (o)), some (.int (nI k)), some (.int (nI ((30 * k + i) + 1)))]) (st' := []) ⟨dX11_isCovered_67, rfl⟩ (by show some (([some (.ref (o)), some (.int (nI k)), some (.int ((nI (30 * k + i)) + Int32.ofInt (1)))] : ev_L), ([] : List Value)) = _; rw [ev_inc1 (30 * k + i)]) ?_
            refine ev_goto (tgt := 5) dX11_isCovered_70 (by decide) ?_
            refine ih (i + 1) (by omega) (fun j hj => ?_) (by omega)
            by_cases e : j = i
            · subst e
              unfold cb
              first
                | (rw [q62, Bool.and_false, Bool.and_false]; done)
                | (rw [q46, Bool.false_and, Bool.and_false]; done)
                | (rw [beq_eq_false_iff_ne.mpr q30, Bool.false_and]; done)
            · exact ha j (by omega)
          · refine ev_blk (B := [(.iconst 1, 1)]) (pe := 66) (ls' := [some (.ref (o)), some (.int (nI k)), some (.int (nI (30 * k + i)))]) (st' := [.int (nI 1)]) ⟨dX11_isCovered_65, rfl⟩ rfl ?_
            refine ev_iret dX11_isCovered_66 rfl (rfl) ⟨Nat.le_of_ble_eq_true rfl, Nat.le_of_ble_eq_true rfl⟩ ?_
            have e9 : cv B x = true := List.any_eq_true.mpr ⟨cg B i, cg_mem (by omega), by unfold cb; rw [q62, q46, beq_iff_eq.mpr q30]; rfl⟩
            rw [e9]
            exact ⟨rfl, rfl⟩

set_option maxHeartbeats 4000000 in
set_option maxRecDepth 100000 in
theorem c_R_isCovered {l : Launch} (hl : l.stackTraces = false) {M : ev_M} (o : Nat) (zi : Nat → Int32) (zl : Nat → Int64) (hO : M[o]? = some (.inr (10, zo o zi zl))) (k : Nat) (hk13 : k < 13) (B : List Cf) (hB30 : B.length ≤ 30) (hB : cfs 25 B) (hPB : PB M o k B) (x : Cf) (hx : cfO x) (h11 : zi 11 = nI x.1) (h13 : zl 13 = e2 x.2.1) (h14 : zl 14 = e2 x.2.2) : ev_Mt l m_X11_isCovered [.ref (o), .int (nI k)] M (ev_q (.inl (some (.int (ev_b (cv B x))))) M) := by
  refine ev_body hl rfl (by decide +kernel) (Nat.le_of_ble_eq_true rfl) ?_
  show ev_ l m_X11_isCovered 0 0 0 [some (.ref (o)), some (.int (nI k)), none] [] M _
  refine ev_blk (B := [(.bipush 30, 2), (.iload_n 1, 1), (.imul, 1), (.istore_n 2, 1)]) (pe := 5) (ls' := [some (.ref (o)), some (.int (nI k)), some (.int (nI (30 * k)))]) (st' := []) ⟨dX11_isCovered_0, dX11_isCovered_2, dX11_isCovered_3, dX11_isCovered_4, rfl⟩ (by show some (([some (.ref (o)), some (.int (nI k)), some (.int ((nI 30) * (nI k)))] : ev_L), ([] : List Value)) = _; rw [pk_mul 30 k]) ?_
  exact c_R_isCovered_l hl o zi zl hO k hk13 B hB30 hB hPB x hx h11 h13 h14 _ 0 (Nat.zero_le _) (fun j hj => absurd hj (Nat.not_lt_zero _)) (Nat.lt_succ_self _)

set_option maxHeartbeats 4000000 in
set_option maxRecDepth 100000 in
theorem c_R_distN_l {l : Launch} (hl : l.stackTraces = false) {M : ev_M} (o : Nat) (S : St) (hS : okS S) (zi : Nat → Int32) (zl : Nat → Int64) (hO : M[o]? = some (.inr (10, zo o zi zl))) (h11 : zi 11 = nI S.x.1) (h13 : zl 13 = e2 S.x.2.1) (h14 : zl 14 = e2 S.x.2.2) (hL13 : La S < 13) (h29 : zi 29 = nI (La S)) (hPBs : PBs M o S.T S.G (La S + 1)) : ∀ (n9 : Nat) (k : Nat), k ≤ La S + 1 → (∀ j, j < k → cv (bl S.T S.G j) S.x = false) → La S + 1 - k < n9 → ev_ l m_X11_distanceNow 0 0 18 [some (.ref (o)), some (.int (nI k))] [] M (ev_q (.inl (some (.int (oI (dN S))))) M) := by
  intro n9
  induction n9 with
  | zero => intro k hk ha hm9; exact absurd hm9 (by omega)
  | succ n9 ih =>
    intro k hk ha hm9
    refine ev_blk (B := [(.iload_n 1, 1), (.aload_n 0, 1)]) (pe := 20) (ls' := [some (.ref (o)), some (.int (nI k))]) (st' := [.ref (o), .int (nI k)]) ⟨dX11_distanceNow_18, dX11_distanceNow_19, rfl⟩ rfl ?_
    refine ev_getf (v := .int (nI (La S))) F_RX11_261 dX11_distanceNow_20 hO (congrArg (fun q => some (Value.int q)) h29) ?_
    refine ev_iN_gt dX11_distanceNow_23 (tgt := 42) (by decide) (by omega) (by omega) (fun q23 => ?_) (fun q23 => ?_)
    · refine ev_blk (B := [(.iconst (-1), 1)]) (pe := 43) (ls' := [some (.ref (o)), some (.int (nI k))]) (st' := [.int ((-1))]) ⟨dX11_distanceNow_42, rfl⟩ rfl ?_
      refine ev_iret dX11_distanceNow_43 rfl (rfl) ⟨Nat.le_of_ble_eq_true rfl, Nat.le_of_ble_eq_true rfl⟩ ?_
      have e9 : dN S = none := ds_none (fun j hj => ha j (by omega))
      rw [e9]
      exact ⟨rfl, rfl⟩
    · refine ev_blk (B := [(.aload_n 0, 1), (.iload_n 1, 1)]) (pe := 28) (ls' := [some (.ref (o)), some (.int (nI k))]) (st' := [.int (nI k), .ref (o)]) ⟨dX11_distanceNow_26, dX11_distanceNow_27, rfl⟩ rfl ?_
      refine ev_cVv Y_X11_isCovered L_RX11_271 dX11_distanceNow_28 ⟨Nat.le_of_ble_eq_true rfl, Nat.le_of_ble_eq_true rfl, Nat.le_of_ble_eq_true rfl, Nat.le_of_ble_eq_true rfl, Nat.le_of_ble_eq_true rfl⟩ hO (as := [.int (nI k)]) rfl rfl (c_R_isCovered hl o (zi) (zl) hO k (by omega) (bl S.T S.G k) (hPBs.len (show k < La S + 1 by omega)) ((bl_ok hS.T hS.G k).le (by omega)) (hPBs.pb (show k < La S + 1 by omega)) S.x (hS.x.le (by omega) : cfW 25 S.x) h11 h13 h14) ?_
      refine ev_ifB_eq dX11_distanceNow_31 (tgt := 36) (by decide) (fun q31 => ?_) (fun q31 => ?_)
      · refine ev_blk (B := [(.iinc 1 1, 3)]) (pe := 39) (ls' := [some (.ref (o)), some (.int (nI (k + 1)))]) (st' := []) ⟨dX11_distanceNow_36, rfl⟩ (by show some (([some (.ref (o)), some (.int ((nI k) + Int32.ofInt (1)))] : ev_L), ([] : List Value)) = _; rw [ev_inc1 k]) ?_
        refine ev_goto (tgt := 18) dX11_distanceNow_39 (by decide) ?_
        refine ih (k + 1) (by omega) (fun j hj => ?_) (by omega)
        by_cases e : j = k
        · subst e; exact q31
        · exact ha j (by omega)
      · refine ev_blk (B := [(.iload_n 1, 1)]) (pe := 35) (ls' := [some (.ref (o)), some (.int (nI k))]) (st' := [.int (nI k)]) ⟨dX11_distanceNow_34, rfl⟩ rfl ?_
        refine ev_iret dX11_distanceNow_35 rfl (rfl) ⟨Nat.le_of_ble_eq_true rfl, Nat.le_of_ble_eq_true rfl⟩ ?_
        have e9 : dN S = some k := ds_some (by omega) q31 ha
        rw [e9]
        exact ⟨rfl, rfl⟩

set_option maxHeartbeats 4000000 in
set_option maxRecDepth 100000 in
theorem c_R_distanceNow {l : Launch} (hl : l.stackTraces = false) {M : ev_M} (o : Nat) (S : St) (hS : okS S) (zi : Nat → Int32) (zl : Nat → Int64) (hR : RR M o S zi zl) (hL13 : La S < 13) (h29 : zi 29 = nI (La S)) (hPBs : PBs M o S.T S.G (La S + 1)) : ev_Mt l m_X11_distanceNow [.ref (o)] M (fun r M1 => r = .inl (some (.int (oI (dN S)))) ∧ ∃ zi' zl', RR M1 o S zi' zl' ∧ (∀ j, j ≠ 11 → zi' j = zi j) ∧ (∀ j, j ≠ 13 → j ≠ 14 → zl' j = zl j) ∧ zi' 11 = nI S.x.1 ∧ zl' 13 = e2 S.x.2.1 ∧ zl' 14 = e2 S.x.2.2 ∧ FX o (o + 1) (o + 1) M M1) := by
  refine ev_body hl rfl (by decide +kernel) (Nat.le_of_ble_eq_true rfl) ?_
  show ev_ l m_X11_distanceNow 0 0 0 [some (.ref (o)), none] [] M _
  refine ev_blk (B := [(.aload_n 0, 1), (.aload_n 0, 1)]) (pe := 2) (ls' := [some (.ref (o)), none]) (st' := [.ref (o), .ref (o)]) ⟨dX11_distanceNow_0, dX11_distanceNow_1, rfl⟩ rfl ?_
  refine ev_getf (v := .int (nI (S.x.1))) F_RX11_169 dX11_distanceNow_2 hR.z (congrArg (fun q => some (Value.int q)) hR.p.2.1) ?_
  refine ev_blk (B := [(.aload_n 0, 1)]) (pe := 6) (ls' := [some (.ref (o)), none]) (st' := [.ref (o), .int (nI (S.x.1)), .ref (o)]) ⟨dX11_distanceNow_5, rfl⟩ rfl ?_
  refine ev_getf (v := .long (e2 S.x.2.1)) F_RX11_159 dX11_distanceNow_6 hR.z (congrArg (fun q => some (Value.long q)) hR.p.2.2.2.1) ?_
  refine ev_blk (B := [(.aload_n 0, 1)]) (pe := 10) (ls' := [some (.ref (o)), none]) (st' := [.ref (o), .long (e2 S.x.2.1), .int (nI (S.x.1)), .ref (o)]) ⟨dX11_distanceNow_9, rfl⟩ rfl ?_
  refine ev_getf (v := .long (e2 S.x.2.2)) F_RX11_163 dX11_distanceNow_10 hR.z (congrArg (fun q => some (Value.long q)) hR.p.2.2.2.2.1) ?_
  refine ev_cVn Y_X11_takes L_RX11_198 dX11_distanceNow_13 ⟨Nat.le_of_ble_eq_true rfl, Nat.le_of_ble_eq_true rfl, Nat.le_of_ble_eq_true rfl, Nat.le_of_ble_eq_true rfl, Nat.le_of_ble_eq_true rfl⟩ hR.z (as := [.int (nI (S.x.1)), .long (e2 S.x.2.1), .long (e2 S.x.2.2)]) rfl rfl (c_R_takes hl o (zi) (zl) hR.z S.x) (fun M1 hL1 hB1 => ?_)
  obtain ⟨T2z, T2f⟩ := hB1
  refine ev_blk (B := [(.iconst 0, 1), (.istore_n 1, 1)]) (pe := 18) (ls' := [some (.ref (o)), some (.int (nI 0))]) (st' := []) ⟨dX11_distanceNow_16, dX11_distanceNow_17, rfl⟩ rfl ?_
  refine ev_mono (fun r M9 hq => ?_) (c_R_distN_l hl o S hS _ _ T2z rfl rfl rfl hL13 h29 (hPBs.fx T2f (by omega)) _ 0 (Nat.zero_le _) (fun j hj => absurd hj (Nat.not_lt_zero _)) (Nat.lt_succ_self _))
  obtain ⟨q1, q2⟩ := hq
  rw [q2]
  exact ⟨q1, _, _, hR.keep T2z ⟨fun k hk => ui_ne (nm hk (by decide)), fun k hk => (ul_ne (nm hk (by decide))).trans (ul_ne (nm hk (by decide)))⟩ (T2f.em (by omega)), fun j hj => ui_ne hj, fun j a b => (ul_ne b).trans (ul_ne a), rfl, rfl, rfl, T2f⟩

set_option maxHeartbeats 4000000 in
set_option maxRecDepth 100000 in
theorem r_distance {l : Launch} (hl : l.stackTraces = false) {M : ev_M} (o : Nat) (S : St) (hS : okS S) (hT10 : S.T.length ≤ 10) (hG3 : S.G.length ≤ 3) (hH20 : S.H.length ≤ 20) (zi : Nat → Int32) (zl : Nat → Int64) (hR : RR M o S zi zl) : ev_Mt l m_X11_distance [.ref (o)] M (fun r M1 => r = .inl (some (.int (sDi S).2)) ∧ ∃ zi' zl', RR M1 o S zi' zl' ∧ zi' 0 = nI (sDi S).1 ∧ Fr o (o + 31) M M1) := by
  rcases gate_c S with ⟨gz, g1, c1⟩ | gn
  · obtain ⟨hL13, hb30⟩ := La_lt c1
    refine ev_body hl rfl (by decide +kernel) (Nat.le_of_ble_eq_true rfl) ?_
    show ev_ l m_X11_distance 0 0 0 [some (.ref (o))] [] M _
    refine ev_blk (B := [(.aload_n 0, 1)]) (pe := 1) (ls' := [some (.ref (o))]) (st' := [.ref (o)]) ⟨dX11_distance_0, rfl⟩ rfl ?_
    refine ev_cVw Y_X11_isAnalyzed L_RX11_267 dX11_distance_1 ⟨Nat.le_of_ble_eq_true rfl, Nat.le_of_ble_eq_true rfl, Nat.le_of_ble_eq_true rfl, Nat.le_of_ble_eq_true rfl, Nat.le_of_ble_eq_true rfl⟩ hR.z (as := []) rfl rfl (c_R_isAnalyzed hl o S hS hT10 hG3 (zi) (zl) hR) (fun M1 hL1 hB1 => ?_)
    obtain ⟨Ai, AR, A0, A30, AK, AF⟩ := hB1
    rw [gz] at A0
    obtain ⟨hco, hin⟩ := AR.a.co (A30 gz)
    obtain ⟨hla, hl13, hPBs⟩ := hin c1
    have hPBk := hPBs
    obtain ⟨bs, bn, bf, b2, b11, b12, b14, b15, hbb⟩ := hPBs
    refine ev_ifB_eq dX11_distance_4 (tgt := 14) (by decide) (fun q4 => ?_) (fun q4 => ?_)
    · exact absurd ((decide_eq_true gz).symm.trans q4) (by decide)
    · refine ev_blk (B := [(.aload_n 0, 1)]) (pe := 8) (ls' := [some (.ref (o))]) (st' := [.ref (o)]) ⟨dX11_distance_7, rfl⟩ rfl ?_
      refine ev_cVw Y_X11_distanceNow L_RX11_274 dX11_distance_8 ⟨Nat.le_of_ble_eq_true rfl, Nat.le_of_ble_eq_true rfl, Nat.le_of_ble_eq_true rfl, Nat.le_of_ble_eq_true rfl, Nat.le_of_ble_eq_true rfl⟩ AR.z (as := []) rfl rfl (c_R_distanceNow hl o S hS Ai zl AR hl13 hla hPBk) (fun M2 hL2 hB2 => ?_)
      obtain ⟨Di, Dl, DR, DK, DL, D11, D13, D14, DF⟩ := hB2
      refine ev_goto (tgt := 15) dX11_distance_11 (by decide) ?_
      refine ev_iret dX11_distance_15 rfl (rfl) ⟨Nat.le_of_ble_eq_true rfl, Nat.le_of_ble_eq_true rfl⟩ ?_
      have e9 : sDi S = (0, oI (dN S)) := gt_z gz
      rw [e9]
      exact ⟨rfl, Di, Dl, DR, (DK 0 (by decide)).trans A0, (FX.fr (lo := o + 1) (hi := o + 31) ((AF.to (by omega) (by omega)).tr (DF.to (by omega) (by omega))) (by omega) (by omega))⟩
  · have y9 : True := trivial
    refine ev_body hl rfl (by decide +kernel) (Nat.le_of_ble_eq_true rfl) ?_
    show ev_ l m_X11_distance 0 0 0 [some (.ref (o))] [] M _
    refine ev_blk (B := [(.aload_n 0, 1)]) (pe := 1) (ls' := [some (.ref (o))]) (st' := [.ref (o)]) ⟨dX11_distance_0, rfl⟩ rfl ?_
    refine ev_cVw Y_X11_isAnalyzed L_RX11_267 dX11_distance_1 ⟨Nat.le_of_ble_eq_true rfl, Nat.le_of_ble_eq_true rfl, Nat.le_of_ble_eq_true rfl, Nat.le_of_ble_eq_true rfl, Nat.le_of_ble_eq_true rfl⟩ hR.z (as := []) rfl rfl (c_R_isAnalyzed hl o S hS hT10 hG3 (zi) (zl) hR) (fun M3 hL3 hB3 => ?_)
    obtain ⟨Ai, AR, A0, A30, AK, AF⟩ := hB3
    refine ev_ifB_eq dX11_distance_4 (tgt := 14) (by decide) (fun q4 => ?_) (fun q4 => ?_)
    · refine ev_blk (B := [(.iconst 0, 1)]) (pe := 15) (ls' := [some (.ref (o))]) (st' := [.int (nI 0)]) ⟨dX11_distance_14, rfl⟩ rfl ?_
      refine ev_iret dX11_distance_15 rfl (rfl) ⟨Nat.le_of_ble_eq_true rfl, Nat.le_of_ble_eq_true rfl⟩ ?_
      have e9 : sDi S = (gate S, 0) := gt_n gn
      rw [e9]
      exact ⟨rfl, Ai, zl, AR, A0, (FX.fr (lo := o + 1) (hi := o + 31) (AF.to (by omega) (by omega)) (by omega) (by omega))⟩
    · exact absurd ((decide_eq_false gn).symm.trans q4) (by decide)

set_option maxHeartbeats 4000000 in
set_option maxRecDepth 100000 in
theorem c_R_cov_l {l : Launch}  {M : ev_M} (o : Nat) (zi : Nat → Int32) (zl : Nat → Int64) (hO : M[o]? = some (.inr (10, zo o zi zl))) (k : Nat) (hk13 : k < 13) (B : List Cf) (hB30 : B.length ≤ 30) (hB : cfs 25 B) (h29 : zi 29 = nI k) (hPB : PB M o k B) : ∀ (n9 : Nat) (i : Nat), i ≤ B.length → B.length - i < n9 → ev_ l m_X11_coveringStates 0 0 19 [some (.ref (o)), some (.int (cvR B i)), some (.int (nI (30 * k + i)))] [] M (ev_q (.inl (some (.int (cvR B B.length)))) M) := by
  intro n9
  induction n9 with
  | zero => intro i hi hm9; exact absurd hm9 (by omega)
  | succ n9 ih =>
    intro i hi hm9
    obtain ⟨bs, bn, bf, b2, b11, b12, b14, b15, hbn, hQ⟩ := hPB
    refine ev_blk (B := [(.iload_n 2, 1), (.bipush 30, 2), (.aload_n 0, 1)]) (pe := 23) (ls' := [some (.ref (o)), some (.int (cvR B i)), some (.int (nI (30 * k + i)))]) (st' := [.ref (o), .int (nI 30), .int (nI (30 * k + i))]) ⟨dX11_coveringStates_19, dX11_coveringStates_20, dX11_coveringStates_22, rfl⟩ rfl ?_
    refine ev_getf (v := .int (nI k)) F_RX11_261 dX11_coveringStates_23 hO (congrArg (fun q => some (Value.int q)) h29) ?_
    refine ev_blk (B := [(.imul, 1), (.aload_n 0, 1)]) (pe := 28) (ls' := [some (.ref (o)), some (.int (cvR B i)), some (.int (nI (30 * k + i)))]) (st' := [.ref (o), .int (nI (30 * k)), .int (nI (30 * k + i))]) ⟨dX11_coveringStates_26, dX11_coveringStates_27, rfl⟩ (by show some (([some (.ref (o)), some (.int (cvR B i)), some (.int (nI (30 * k + i)))] : ev_L), ([.ref (o), .int ((nI 30) * (nI k)), .int (nI (30 * k + i))] : List Value)) = _; rw [pk_mul 30 k]) ?_
    refine ev_getf (v := .ref (o + 12)) F_RX11_44 dX11_coveringStates_28 hO rfl ?_
    refine ev_blk (B := [(.aload_n 0, 1)]) (pe := 32) (ls' := [some (.ref (o)), some (.int (cvR B i)), some (.int (nI (30 * k + i)))]) (st' := [.ref (o), .ref (o + 12), .int (nI (30 * k)), .int (nI (30 * k + i))]) ⟨dX11_coveringStates_31, rfl⟩ rfl ?_
    refine ev_getf (v := .int (nI k)) F_RX11_261 dX11_coveringStates_32 hO (congrArg (fun q => some (Value.int q)) h29) ?_
    refine ev_iald dX11_coveringStates_35 b12 (vp_in_nI (show k < 13 by omega) (by omega)) ?_
    rw [nI_clamp (show k < 2 ^ 31 by omega)]
    rw [show bn k = nI (B.length) from hbn]
    refine ev_blk (B := [(.iadd, 1)]) (pe := 37) (ls' := [some (.ref (o)), some (.int (cvR B i)), some (.int (nI (30 * k + i)))]) (st' := [.int (nI ((30 * k) + (B.length))), .int (nI (30 * k + i))]) ⟨dX11_coveringStates_36, rfl⟩ (by show some (([some (.ref (o)), some (.int (cvR B i)), some (.int (nI (30 * k + i)))] : ev_L), ([.int ((nI (30 * k)) + (nI (B.length))), .int (nI (30 * k + i))] : List Value)) = _; rw [nI_add (30 * k) (B.length)]) ?_
    refine ev_iN_ge dX11_coveringStates_37 (tgt := 83) (by decide) (by omega) (by omega) (fun q37 => ?_) (fun q37 => ?_)
    · refine ev_blk (B := [(.iload_n 1, 1)]) (pe := 84) (ls' := [some (.ref (o)), some (.int (cvR B i)), some (.int (nI (30 * k + i)))]) (st' := [.int (cvR B i)]) ⟨dX11_coveringStates_83, rfl⟩ rfl ?_
      refine ev_iret dX11_coveringStates_84 rfl (rfl) ⟨Nat.le_of_ble_eq_true rfl, Nat.le_of_ble_eq_true rfl⟩ ?_
      have e7 : i = B.length := by omega
      subst e7
      exact ⟨rfl, rfl⟩
    · refine ev_blk (B := [(.iload_n 1, 1), (.aload_n 0, 1)]) (pe := 42) (ls' := [some (.ref (o)), some (.int (cvR B i)), some (.int (nI (30 * k + i)))]) (st' := [.ref (o), .int (cvR B i)]) ⟨dX11_coveringStates_40, dX11_coveringStates_41, rfl⟩ rfl ?_
      refine ev_getf (v := .ref (o + 14)) F_RX11_50 dX11_coveringStates_42 hO rfl ?_
      refine ev_blk (B := [(.iload_n 2, 1)]) (pe := 46) (ls' := [some (.ref (o)), some (.int (cvR B i)), some (.int (nI (30 * k + i)))]) (st' := [.int (nI (30 * k + i)), .ref (o + 14), .int (cvR B i)]) ⟨dX11_coveringStates_45, rfl⟩ rfl ?_
      refine ev_lald dX11_coveringStates_46 b14 (vp_in_nI (show 30 * k + i < 390 by omega) (by omega)) ?_
      rw [nI_clamp (show 30 * k + i < 2 ^ 31 by omega)]
      rw [show bf (30 * k + i) = e2 (cg B i).2.1 from (hQ i (by omega)).2.1]
      refine ev_blk (B := [(.lconst 0, 1), (.lcmp, 1)]) (pe := 49) (ls' := [some (.ref (o)), some (.int (cvR B i)), some (.int (nI (30 * k + i)))]) (st' := [.int (lg_cmp (e2 (cg B i).2.1) (0)), .int (cvR B i)]) ⟨dX11_coveringStates_47, dX11_coveringStates_48, rfl⟩ rfl ?_
      refine ev_lc_ne dX11_coveringStates_49 (tgt := 74) (by decide) (fun q49 => ?_) (fun q49 => ?_)
      · have q49 := mt (e2_0 (cfs_cg hB (show i < B.length by omega)).2.1 (cfs_cg hB (show i < B.length by omega)).2.2.1).mpr q49
        refine ev_blk (B := [(.iconst 0, 1), (.ior, 1), (.istore_n 1, 1), (.iinc 2 1, 3)]) (pe := 80) (ls' := [some (.ref (o)), some (.int ((cvR B i) ||| (nI 0))), some (.int (nI ((30 * k + i) + 1)))]) (st' := []) ⟨dX11_coveringStates_74, dX11_coveringStates_75, dX11_coveringStates_76, dX11_coveringStates_77, rfl⟩ (by show some (([some (.ref (o)), some (.int ((cvR B i) ||| (nI 0))), some (.int ((nI (30 * k + i)) + Int32.ofInt (1)))] : ev_L), ([] : List Value)) = _; rw [ev_inc1 (30 * k + i)]) ?_
        refine ev_goto (tgt := 19) dX11_coveringStates_80 (by decide) ?_
        have e9 : cvR B (i + 1) = (cvR B i) ||| (nI 0) := (if_neg (fun z => q49 z.1)).trans (or0 _).symm
        rw [← e9]
        exact ih (i + 1) (by omega) (by omega)
      · have q49 := (e2_0 (cfs_cg hB (show i < B.length by omega)).2.1 (cfs_cg hB (show i < B.length by omega)).2.2.1).mp q49
        refine ev_blk (B := [(.aload_n 0, 1)]) (pe := 53) (ls' := [some (.ref (o)), some (.int (cvR B i)), some (.int (nI (30 * k + i)))]) (st' := [.ref (o), .int (cvR B i)]) ⟨dX11_coveringStates_52, rfl⟩ rfl ?_
        refine ev_getf (v := .ref (o + 15)) F_RX11_53 dX11_coveringStates_53 hO rfl ?_
        refine ev_blk (B := [(.iload_n 2, 1)]) (pe := 57) (ls' := [some (.ref (o)), some (.int (cvR B i)), some (.int (nI (30 * k + i)))]) (st' := [.int (nI (30 * k + i)), .ref (o + 15), .int (cvR B i)]) ⟨dX11_coveringStates_56, rfl⟩ rfl ?_
        refine ev_lald dX11_coveringStates_57 b15 (vp_in_nI (show 30 * k + i < 390 by omega) (by omega)) ?_
        rw [nI_clamp (show 30 * k + i < 2 ^ 31 by omega)]
        rw [show b2 (30 * k + i) = e2 (cg B i).2.2 from (hQ i (by omega)).2.2]
        refine ev_blk (B := [(.lconst 0, 1), (.lcmp, 1)]) (pe := 60) (ls' := [some (.ref (o)), some (.int (cvR B i)), some (.int (nI (30 * k + i)))]) (st' := [.int (lg_cmp (e2 (cg B i).2.2) (0)), .int (cvR B i)]) ⟨dX11_coveringStates_58, dX11_coveringStates_59, rfl⟩ rfl ?_
        refine ev_lc_ne dX11_coveringStates_60 (tgt := 74) (by decide) (fun q60 => ?_) (fun q60 => ?_)
        · have q60 := mt (e2_0 (cfs_cg hB (show i < B.length by omega)).2.2.2.1 (cfs_cg hB (show i < B.length by omega)).2.2.2.2).mpr q60
          refine ev_blk (B := [(.iconst 0, 1), (.ior, 1), (.istore_n 1, 1), (.iinc 2 1, 3)]) (pe := 80) (ls' := [some (.ref (o)), some (.int ((cvR B i) ||| (nI 0))), some (.int (nI ((30 * k + i) + 1)))]) (st' := []) ⟨dX11_coveringStates_74, dX11_coveringStates_75, dX11_coveringStates_76, dX11_coveringStates_77, rfl⟩ (by show some (([some (.ref (o)), some (.int ((cvR B i) ||| (nI 0))), some (.int ((nI (30 * k + i)) + Int32.ofInt (1)))] : ev_L), ([] : List Value)) = _; rw [ev_inc1 (30 * k + i)]) ?_
          refine ev_goto (tgt := 19) dX11_coveringStates_80 (by decide) ?_
          have e9 : cvR B (i + 1) = (cvR B i) ||| (nI 0) := (if_neg (fun z => q60 z.2)).trans (or0 _).symm
          rw [← e9]
          exact ih (i + 1) (by omega) (by omega)
        · have q60 := (e2_0 (cfs_cg hB (show i < B.length by omega)).2.2.2.1 (cfs_cg hB (show i < B.length by omega)).2.2.2.2).mp q60
          refine ev_blk (B := [(.iconst 1, 1), (.aload_n 0, 1)]) (pe := 65) (ls' := [some (.ref (o)), some (.int (cvR B i)), some (.int (nI (30 * k + i)))]) (st' := [.ref (o), .int (nI 1), .int (cvR B i)]) ⟨dX11_coveringStates_63, dX11_coveringStates_64, rfl⟩ rfl ?_
          refine ev_getf (v := .ref (o + 11)) F_RX11_41 dX11_coveringStates_65 hO rfl ?_
          refine ev_blk (B := [(.iload_n 2, 1)]) (pe := 69) (ls' := [some (.ref (o)), some (.int (cvR B i)), some (.int (nI (30 * k + i)))]) (st' := [.int (nI (30 * k + i)), .ref (o + 11), .int (nI 1), .int (cvR B i)]) ⟨dX11_coveringStates_68, rfl⟩ rfl ?_
          refine ev_iald dX11_coveringStates_69 b11 (vp_in_nI (show 30 * k + i < 390 by omega) (by omega)) ?_
          rw [nI_clamp (show 30 * k + i < 2 ^ 31 by omega)]
          rw [show bs (30 * k + i) = nI ((cg B i).1) from (hQ i (by omega)).1]
          refine ev_blk (B := [(.ishl, 1)]) (pe := 71) (ls' := [some (.ref (o)), some (.int (cvR B i)), some (.int (nI (30 * k + i)))]) (st' := [.int ((nI 1) <<< ((nI ((cg B i).1)) &&& 31)), .int (cvR B i)]) ⟨dX11_coveringStates_70, rfl⟩ rfl ?_
          refine ev_goto (tgt := 75) dX11_coveringStates_71 (by decide) ?_
          refine ev_blk (B := [(.ior, 1), (.istore_n 1, 1), (.iinc 2 1, 3)]) (pe := 80) (ls' := [some (.ref (o)), some (.int ((cvR B i) ||| ((nI 1) <<< ((nI ((cg B i).1)) &&& 31)))), some (.int (nI ((30 * k + i) + 1)))]) (st' := []) ⟨dX11_coveringStates_75, dX11_coveringStates_76, dX11_coveringStates_77, rfl⟩ (by show some (([some (.ref (o)), some (.int ((cvR B i) ||| ((nI 1) <<< ((nI ((cg B i).1)) &&& 31)))), some (.int ((nI (30 * k + i)) + Int32.ofInt (1)))] : ev_L), ([] : List Value)) = _; rw [ev_inc1 (30 * k + i)]) ?_
          refine ev_goto (tgt := 19) dX11_coveringStates_80 (by decide) ?_
          have e9 : cvR B (i + 1) = (cvR B i) ||| ((nI 1) <<< ((nI ((cg B i).1)) &&& 31)) := if_pos ⟨q49, q60⟩
          rw [← e9]
          exact ih (i + 1) (by omega) (by omega)

set_option maxHeartbeats 4000000 in
set_option maxRecDepth 100000 in
theorem r_coveringStates {l : Launch} (hl : l.stackTraces = false) {M : ev_M} (o : Nat) (S : St) (hS : okS S) (hT10 : S.T.length ≤ 10) (hG3 : S.G.length ≤ 3) (hH20 : S.H.length ≤ 20) (zi : Nat → Int32) (zl : Nat → Int64) (hR : RR M o S zi zl) : ev_Mt l m_X11_coveringStates [.ref (o)] M (fun r M1 => r = .inl (some (.int (sCo S).2)) ∧ ∃ zi' zl', RR M1 o S zi' zl' ∧ zi' 0 = nI (sCo S).1 ∧ Fr o (o + 31) M M1) := by
  rcases gate_c S with ⟨gz, g1, c1⟩ | gn
  · obtain ⟨hL13, hb30⟩ := La_lt c1
    refine ev_body hl rfl (by decide +kernel) (Nat.le_of_ble_eq_true rfl) ?_
    show ev_ l m_X11_coveringStates 0 0 0 [some (.ref (o)), none, none] [] M _
    refine ev_blk (B := [(.aload_n 0, 1)]) (pe := 1) (ls' := [some (.ref (o)), none, none]) (st' := [.ref (o)]) ⟨dX11_coveringStates_0, rfl⟩ rfl ?_
    refine ev_cVw Y_X11_isAnalyzed L_RX11_267 dX11_coveringStates_1 ⟨Nat.le_of_ble_eq_true rfl, Nat.le_of_ble_eq_true rfl, Nat.le_of_ble_eq_true rfl, Nat.le_of_ble_eq_true rfl, Nat.le_of_ble_eq_true rfl⟩ hR.z (as := []) rfl rfl (c_R_isAnalyzed hl o S hS hT10 hG3 (zi) (zl) hR) (fun M1 hL1 hB1 => ?_)
    obtain ⟨Ai, AR, A0, A30, AK, AF⟩ := hB1
    rw [gz] at A0
    obtain ⟨hco, hin⟩ := AR.a.co (A30 gz)
    obtain ⟨hla, hl13, hPBs⟩ := hin c1
    have hPBk := hPBs
    obtain ⟨bs, bn, bf, b2, b11, b12, b14, b15, hbb⟩ := hPBs
    refine ev_ifB_ne dX11_coveringStates_4 (tgt := 9) (by decide) (fun q4 => ?_) (fun q4 => ?_)
    · refine ev_blk (B := [(.iconst 0, 1), (.istore_n 1, 1), (.bipush 30, 2), (.aload_n 0, 1)]) (pe := 14) (ls' := [some (.ref (o)), some (.int (nI 0)), none]) (st' := [.ref (o), .int (nI 30)]) ⟨dX11_coveringStates_9, dX11_coveringStates_10, dX11_coveringStates_11, dX11_coveringStates_13, rfl⟩ rfl ?_
      refine ev_getf (v := .int (nI (La S))) F_RX11_261 dX11_coveringStates_14 AR.z (congrArg (fun q => some (Value.int q)) hla) ?_
      refine ev_blk (B := [(.imul, 1), (.istore_n 2, 1)]) (pe := 19) (ls' := [some (.ref (o)), some (.int (nI 0)), some (.int (nI (30 * (La S))))]) (st' := []) ⟨dX11_coveringStates_17, dX11_coveringStates_18, rfl⟩ (by show some (([some (.ref (o)), some (.int (nI 0)), some (.int ((nI 30) * (nI (La S))))] : ev_L), ([] : List Value)) = _; rw [pk_mul 30 (La S)]) ?_
      refine ev_mono (fun r M9 hq => ?_) (c_R_cov_l o Ai zl AR.z (La S) hl13 (bl S.T S.G (La S)) (hb30 (La S) (Nat.le_refl _)) ((bl_ok hS.T hS.G (La S)).le (by omega)) hla (hPBk.pb (Nat.lt_succ_self _)) _ 0 (Nat.zero_le _) (Nat.lt_succ_self _))
      obtain ⟨q1, q2⟩ := hq
      rw [q2]
      have e9 : sCo S = (0, cvS (bl S.T S.G (La S)) 6) := gt_z gz
      rw [e9]
      exact ⟨by rw [q1]; exact congrArg (fun z => Sum.inl (some (Value.int z))) (cv_eq (bl S.T S.G (La S)) ((bl_ok hS.T hS.G (La S)).le (by omega))), Ai, zl, AR, A0, (FX.fr (lo := o + 1) (hi := o + 31) (AF.to (by omega) (by omega)) (by omega) (by omega))⟩
    · exact absurd ((decide_eq_true gz).symm.trans q4) (by decide)
  · have y9 : True := trivial
    refine ev_body hl rfl (by decide +kernel) (Nat.le_of_ble_eq_true rfl) ?_
    show ev_ l m_X11_coveringStates 0 0 0 [some (.ref (o)), none, none] [] M _
    refine ev_blk (B := [(.aload_n 0, 1)]) (pe := 1) (ls' := [some (.ref (o)), none, none]) (st' := [.ref (o)]) ⟨dX11_coveringStates_0, rfl⟩ rfl ?_
    refine ev_cVw Y_X11_isAnalyzed L_RX11_267 dX11_coveringStates_1 ⟨Nat.le_of_ble_eq_true rfl, Nat.le_of_ble_eq_true rfl, Nat.le_of_ble_eq_true rfl, Nat.le_of_ble_eq_true rfl, Nat.le_of_ble_eq_true rfl⟩ hR.z (as := []) rfl rfl (c_R_isAnalyzed hl o S hS hT10 hG3 (zi) (zl) hR) (fun M2 hL2 hB2 => ?_)
    obtain ⟨Ai, AR, A0, A30, AK, AF⟩ := hB2
    refine ev_ifB_ne dX11_coveringStates_4 (tgt := 9) (by decide) (fun q4 => ?_) (fun q4 => ?_)
    · exact absurd ((decide_eq_false gn).symm.trans q4) (by decide)
    · refine ev_blk (B := [(.iconst 0, 1)]) (pe := 8) (ls' := [some (.ref (o)), none, none]) (st' := [.int (nI 0)]) ⟨dX11_coveringStates_7, rfl⟩ rfl ?_
      refine ev_iret dX11_coveringStates_8 rfl (rfl) ⟨Nat.le_of_ble_eq_true rfl, Nat.le_of_ble_eq_true rfl⟩ ?_
      have e9 : sCo S = (gate S, 0) := gt_n gn
      rw [e9]
      exact ⟨rfl, Ai, zl, AR, A0, (FX.fr (lo := o + 1) (hi := o + 31) (AF.to (by omega) (by omega)) (by omega) (by omega))⟩

set_option maxHeartbeats 4000000 in
set_option maxRecDepth 100000 in
theorem c_R_least_l {l : Launch} (hl : l.stackTraces = false) {M : ev_M} (o : Nat) (zi : Nat → Int32) (zl : Nat → Int64) (hO : M[o]? = some (.inr (10, zo o zi zl))) (k : Nat) (hk13 : k < 13) (B : List Cf) (hB30 : B.length ≤ 30) (hB : cfs 25 B) (h29 : zi 29 = nI k) (hPB : PB M o k B) (z : Nat) (hz : z < 6) : ∀ (n9 : Nat) (i : Nat), i ≤ B.length → B.length - i < n9 → ev_ l m_X11_least 0 0 32 [some (.ref (o)), some (.int (nI z)), some (.int (oI (lst B z i))), some (.int (nI (30 * k + i))), none] [] M (ev_q (.inl (some (.int (oI (lst B z B.length))))) M) := by
  intro n9
  induction n9 with
  | zero => intro i hi hm9; exact absurd hm9 (by omega)
  | succ n9 ih =>
    intro i hi hm9
    obtain ⟨bs, bn, bf, b2, b11, b12, b14, b15, hbn, hQ⟩ := hPB
    have z50 := lst_lt (s := z) hB i hi
    refine ev_blk (B := [(.iload_n 3, 1), (.bipush 30, 2), (.aload_n 0, 1)]) (pe := 36) (ls' := [some (.ref (o)), some (.int (nI z)), some (.int (oI (lst B z i))), some (.int (nI (30 * k + i))), none]) (st' := [.ref (o), .int (nI 30), .int (nI (30 * k + i))]) ⟨dX11_least_32, dX11_least_33, dX11_least_35, rfl⟩ rfl ?_
    refine ev_getf (v := .int (nI k)) F_RX11_261 dX11_least_36 hO (congrArg (fun q => some (Value.int q)) h29) ?_
    refine ev_blk (B := [(.imul, 1), (.aload_n 0, 1)]) (pe := 41) (ls' := [some (.ref (o)), some (.int (nI z)), some (.int (oI (lst B z i))), some (.int (nI (30 * k + i))), none]) (st' := [.ref (o), .int (nI (30 * k)), .int (nI (30 * k + i))]) ⟨dX11_least_39, dX11_least_40, rfl⟩ (by show some (([some (.ref (o)), some (.int (nI z)), some (.int (oI (lst B z i))), some (.int (nI (30 * k + i))), none] : ev_L), ([.ref (o), .int ((nI 30) * (nI k)), .int (nI (30 * k + i))] : List Value)) = _; rw [pk_mul 30 k]) ?_
    refine ev_getf (v := .ref (o + 12)) F_RX11_44 dX11_least_41 hO rfl ?_
    refine ev_blk (B := [(.aload_n 0, 1)]) (pe := 45) (ls' := [some (.ref (o)), some (.int (nI z)), some (.int (oI (lst B z i))), some (.int (nI (30 * k + i))), none]) (st' := [.ref (o), .ref (o + 12), .int (nI (30 * k)), .int (nI (30 * k + i))]) ⟨dX11_least_44, rfl⟩ rfl ?_
    refine ev_getf (v := .int (nI k)) F_RX11_261 dX11_least_45 hO (congrArg (fun q => some (Value.int q)) h29) ?_
    refine ev_iald dX11_least_48 b12 (vp_in_nI (show k < 13 by omega) (by omega)) ?_
    rw [nI_clamp (show k < 2 ^ 31 by omega)]
    rw [show bn k = nI (B.length) from hbn]
    refine ev_blk (B := [(.iadd, 1)]) (pe := 50) (ls' := [some (.ref (o)), some (.int (nI z)), some (.int (oI (lst B z i))), some (.int (nI (30 * k + i))), none]) (st' := [.int (nI ((30 * k) + (B.length))), .int (nI (30 * k + i))]) ⟨dX11_least_49, rfl⟩ (by show some (([some (.ref (o)), some (.int (nI z)), some (.int (oI (lst B z i))), some (.int (nI (30 * k + i))), none] : ev_L), ([.int ((nI (30 * k)) + (nI (B.length))), .int (nI (30 * k + i))] : List Value)) = _; rw [nI_add (30 * k) (B.length)]) ?_
    refine ev_iN_ge dX11_least_50 (tgt := 103) (by decide) (by omega) (by omega) (fun q50 => ?_) (fun q50 => ?_)
    · refine ev_blk (B := [(.iload_n 2, 1)]) (pe := 104) (ls' := [some (.ref (o)), some (.int (nI z)), some (.int (oI (lst B z i))), some (.int (nI (30 * k + i))), none]) (st' := [.int (oI (lst B z i))]) ⟨dX11_least_103, rfl⟩ rfl ?_
      refine ev_iret dX11_least_104 rfl (rfl) ⟨Nat.le_of_ble_eq_true rfl, Nat.le_of_ble_eq_true rfl⟩ ?_
      have e7 : i = B.length := by omega
      exact ev_q_e (by rw [e7])
    · have hci := cfs_cg hB (show i < B.length by omega)
      have hl1 := hci.2.2.1
      have hl2 := hci.2.2.2.2
      have hl0 := hci.1
      refine ev_blk (B := [(.aload_n 0, 1)]) (pe := 54) (ls' := [some (.ref (o)), some (.int (nI z)), some (.int (oI (lst B z i))), some (.int (nI (30 * k + i))), none]) (st' := [.ref (o)]) ⟨dX11_least_53, rfl⟩ rfl ?_
      refine ev_getf (v := .ref (o + 14)) F_RX11_50 dX11_least_54 hO rfl ?_
      refine ev_blk (B := [(.iload_n 3, 1)]) (pe := 58) (ls' := [some (.ref (o)), some (.int (nI z)), some (.int (oI (lst B z i))), some (.int (nI (30 * k + i))), none]) (st' := [.int (nI (30 * k + i)), .ref (o + 14)]) ⟨dX11_least_57, rfl⟩ rfl ?_
      refine ev_lald dX11_least_58 b14 (vp_in_nI (show 30 * k + i < 390 by omega) (by omega)) ?_
      rw [nI_clamp (show 30 * k + i < 2 ^ 31 by omega)]
      rw [show bf (30 * k + i) = e2 (cg B i).2.1 from (hQ i (by omega)).2.1]
      refine ev_cSv Y_X11_lengthOf L_RX11_111 dX11_least_59 ⟨Nat.le_of_ble_eq_true rfl, Nat.le_of_ble_eq_true rfl, Nat.le_of_ble_eq_true rfl, Nat.le_of_ble_eq_true rfl, Nat.le_of_ble_eq_true rfl⟩ (as := [.long (e2 (cg B i).2.1)]) rfl rfl (c_R_lengthOf hl ((cg B i).2.1) hci.2.1 hci.2.2.1) ?_
      refine ev_blk (B := [(.aload_n 0, 1)]) (pe := 63) (ls' := [some (.ref (o)), some (.int (nI z)), some (.int (oI (lst B z i))), some (.int (nI (30 * k + i))), none]) (st' := [.ref (o), .int (nI (((cg B i).2.1).length))]) ⟨dX11_least_62, rfl⟩ rfl ?_
      refine ev_getf (v := .ref (o + 15)) F_RX11_53 dX11_least_63 hO rfl ?_
      refine ev_blk (B := [(.iload_n 3, 1)]) (pe := 67) (ls' := [some (.ref (o)), some (.int (nI z)), some (.int (oI (lst B z i))), some (.int (nI (30 * k + i))), none]) (st' := [.int (nI (30 * k + i)), .ref (o + 15), .int (nI (((cg B i).2.1).length))]) ⟨dX11_least_66, rfl⟩ rfl ?_
      refine ev_lald dX11_least_67 b15 (vp_in_nI (show 30 * k + i < 390 by omega) (by omega)) ?_
      rw [nI_clamp (show 30 * k + i < 2 ^ 31 by omega)]
      rw [show b2 (30 * k + i) = e2 (cg B i).2.2 from (hQ i (by omega)).2.2]
      refine ev_cSv Y_X11_lengthOf L_RX11_111 dX11_least_68 ⟨Nat.le_of_ble_eq_true rfl, Nat.le_of_ble_eq_true rfl, Nat.le_of_ble_eq_true rfl, Nat.le_of_ble_eq_true rfl, Nat.le_of_ble_eq_true rfl⟩ (as := [.long (e2 (cg B i).2.2)]) rfl rfl (c_R_lengthOf hl ((cg B i).2.2) hci.2.2.2.1 hci.2.2.2.2) ?_
      refine ev_blk (B := [(.iadd, 1), (.istore 4, 2), (.aload_n 0, 1)]) (pe := 75) (ls' := [some (.ref (o)), some (.int (nI z)), some (.int (oI (lst B z i))), some (.int (nI (30 * k + i))), some (.int (nI ((((cg B i).2.1).length) + (((cg B i).2.2).length))))]) (st' := [.ref (o)]) ⟨dX11_least_71, dX11_least_72, dX11_least_74, rfl⟩ (by show some (([some (.ref (o)), some (.int (nI z)), some (.int (oI (lst B z i))), some (.int (nI (30 * k + i))), some (.int ((nI (((cg B i).2.1).length)) + (nI (((cg B i).2.2).length))))] : ev_L), ([.ref (o)] : List Value)) = _; rw [nI_add (((cg B i).2.1).length) (((cg B i).2.2).length)]) ?_
      refine ev_getf (v := .ref (o + 11)) F_RX11_41 dX11_least_75 hO rfl ?_
      refine ev_blk (B := [(.iload_n 3, 1)]) (pe := 79) (ls' := [some (.ref (o)), some (.int (nI z)), some (.int (oI (lst B z i))), some (.int (nI (30 * k + i))), some (.int (nI ((((cg B i).2.1).length) + (((cg B i).2.2).length))))]) (st' := [.int (nI (30 * k + i)), .ref (o + 11)]) ⟨dX11_least_78, rfl⟩ rfl ?_
      refine ev_iald dX11_least_79 b11 (vp_in_nI (show 30 * k + i < 390 by omega) (by omega)) ?_
      rw [nI_clamp (show 30 * k + i < 2 ^ 31 by omega)]
      rw [show bs (30 * k + i) = nI ((cg B i).1) from (hQ i (by omega)).1]
      refine ev_blk (B := [(.iload_n 1, 1)]) (pe := 81) (ls' := [some (.ref (o)), some (.int (nI z)), some (.int (oI (lst B z i))), some (.int (nI (30 * k + i))), some (.int (nI ((((cg B i).2.1).length) + (((cg B i).2.2).length))))]) (st' := [.int (nI z), .int (nI ((cg B i).1))]) ⟨dX11_least_80, rfl⟩ rfl ?_
      refine ev_iN_ne dX11_least_81 (tgt := 97) (by decide) (by omega) (by omega) (fun q81 => ?_) (fun q81 => ?_)
      · refine ev_blk (B := [(.iinc 3 1, 3)]) (pe := 100) (ls' := [some (.ref (o)), some (.int (nI z)), some (.int (oI (lst B z i))), some (.int (nI ((30 * k + i) + 1))), some (.int (nI ((((cg B i).2.1).length) + (((cg B i).2.2).length))))]) (st' := []) ⟨dX11_least_97, rfl⟩ (by show some (([some (.ref (o)), some (.int (nI z)), some (.int (oI (lst B z i))), some (.int ((nI (30 * k + i)) + Int32.ofInt (1))), some (.int (nI ((((cg B i).2.1).length) + (((cg B i).2.2).length))))] : ev_L), ([] : List Value)) = _; rw [ev_inc1 (30 * k + i)]) ?_
        refine ev_goto (tgt := 32) dX11_least_100 (by decide) ?_
        refine ev_fgt (ls' := [some (.ref (o)), some (.int (nI z)), some (.int (oI (lst B z i))), some (.int (nI ((30 * k + i) + 1))), none]) ⟨Or.inr rfl, Or.inr rfl, Or.inr rfl, Or.inr rfl, Or.inl rfl, trivial⟩ ?_
        have e9 : lst B z (i + 1) = lst B z i := if_neg (fun q => q81 q.1)
        have e8 := ih (i + 1) (by omega) (by omega)
        rw [e9] at e8
        exact e8
      · refine ev_blk (B := [(.iload_n 2, 1)]) (pe := 85) (ls' := [some (.ref (o)), some (.int (nI z)), some (.int (oI (lst B z i))), some (.int (nI (30 * k + i))), some (.int (nI ((((cg B i).2.1).length) + (((cg B i).2.2).length))))]) (st' := [.int (oI (lst B z i))]) ⟨dX11_least_84, rfl⟩ rfl ?_
        refine ev_if_lt dX11_least_85 (tgt := 94) (by decide) (fun q85 => ?_) (fun q85 => ?_)
        · refine ev_blk (B := [(.iload 4, 2), (.istore_n 2, 1), (.iinc 3 1, 3)]) (pe := 100) (ls' := [some (.ref (o)), some (.int (nI z)), some (.int (nI ((((cg B i).2.1).length) + (((cg B i).2.2).length)))), some (.int (nI ((30 * k + i) + 1))), some (.int (nI ((((cg B i).2.1).length) + (((cg B i).2.2).length))))]) (st' := []) ⟨dX11_least_94, dX11_least_96, dX11_least_97, rfl⟩ (by show some (([some (.ref (o)), some (.int (nI z)), some (.int (nI ((((cg B i).2.1).length) + (((cg B i).2.2).length)))), some (.int ((nI (30 * k + i)) + Int32.ofInt (1))), some (.int (nI ((((cg B i).2.1).length) + (((cg B i).2.2).length))))] : ev_L), ([] : List Value)) = _; rw [ev_inc1 (30 * k + i)]) ?_
          refine ev_goto (tgt := 32) dX11_least_100 (by decide) ?_
          refine ev_fgt (ls' := [some (.ref (o)), some (.int (nI z)), some (.int (nI ((((cg B i).2.1).length) + (((cg B i).2.2).length)))), some (.int (nI ((30 * k + i) + 1))), none]) ⟨Or.inr rfl, Or.inr rfl, Or.inr rfl, Or.inr rfl, Or.inl rfl, trivial⟩ ?_
          have e9 : lst B z (i + 1) = some ((cg B i).2.1.length + (cg B i).2.2.length) := if_pos ⟨q81, by
            cases hv9 : lst B z i with
            | none => rfl
            | some v => (rw [hv9] at q85; exact absurd q85 (show ¬ nI v < 0 from nI_pos (by have := z50 v hv9; omega)))⟩
          have e8 := ih (i + 1) (by omega) (by omega)
          rw [e9] at e8
          exact e8
        · refine ev_blk (B := [(.iload 4, 2), (.iload_n 2, 1)]) (pe := 91) (ls' := [some (.ref (o)), some (.int (nI z)), some (.int (oI (lst B z i))), some (.int (nI (30 * k + i))), some (.int (nI ((((cg B i).2.1).length) + (((cg B i).2.2).length))))]) (st' := [.int (oI (lst B z i)), .int (nI ((((cg B i).2.1).length) + (((cg B i).2.2).length)))]) ⟨dX11_least_88, dX11_least_90, rfl⟩ rfl ?_
          refine ev_ic_ge dX11_least_91 (tgt := 97) (by decide) (fun q91 => ?_) (fun q91 => ?_)
          · refine ev_blk (B := [(.iinc 3 1, 3)]) (pe := 100) (ls' := [some (.ref (o)), some (.int (nI z)), some (.int (oI (lst B z i))), some (.int (nI ((30 * k + i) + 1))), some (.int (nI ((((cg B i).2.1).length) + (((cg B i).2.2).length))))]) (st' := []) ⟨dX11_least_97, rfl⟩ (by show some (([some (.ref (o)), some (.int (nI z)), some (.int (oI (lst B z i))), some (.int ((nI (30 * k + i)) + Int32.ofInt (1))), some (.int (nI ((((cg B i).2.1).length) + (((cg B i).2.2).length))))] : ev_L), ([] : List Value)) = _; rw [ev_inc1 (30 * k + i)]) ?_
            refine ev_goto (tgt := 32) dX11_least_100 (by decide) ?_
            refine ev_fgt (ls' := [some (.ref (o)), some (.int (nI z)), some (.int (oI (lst B z i))), some (.int (nI ((30 * k + i) + 1))), none]) ⟨Or.inr rfl, Or.inr rfl, Or.inr rfl, Or.inr rfl, Or.inl rfl, trivial⟩ ?_
            have e9 : lst B z (i + 1) = lst B z i := if_neg (fun q => by
              cases hv9 : lst B z i with
              | none => rw [hv9] at q85; exact q85 (by decide)
              | some v =>
                rw [hv9] at q91
                have q2 := q.2
                rw [hv9] at q2
                exact absurd ((nI_ltI (by omega) (by have := z50 v hv9; omega)).mpr (of_decide_eq_true q2)) (Int32.not_lt.mpr (by first | exact q91 | exact Int32.not_lt.mp q91)))
            have e8 := ih (i + 1) (by omega) (by omega)
            rw [e9] at e8
            exact e8
          · refine ev_blk (B := [(.iload 4, 2), (.istore_n 2, 1), (.iinc 3 1, 3)]) (pe := 100) (ls' := [some (.ref (o)), some (.int (nI z)), some (.int (nI ((((cg B i).2.1).length) + (((cg B i).2.2).length)))), some (.int (nI ((30 * k + i) + 1))), some (.int (nI ((((cg B i).2.1).length) + (((cg B i).2.2).length))))]) (st' := []) ⟨dX11_least_94, dX11_least_96, dX11_least_97, rfl⟩ (by show some (([some (.ref (o)), some (.int (nI z)), some (.int (nI ((((cg B i).2.1).length) + (((cg B i).2.2).length)))), some (.int ((nI (30 * k + i)) + Int32.ofInt (1))), some (.int (nI ((((cg B i).2.1).length) + (((cg B i).2.2).length))))] : ev_L), ([] : List Value)) = _; rw [ev_inc1 (30 * k + i)]) ?_
            refine ev_goto (tgt := 32) dX11_least_100 (by decide) ?_
            refine ev_fgt (ls' := [some (.ref (o)), some (.int (nI z)), some (.int (nI ((((cg B i).2.1).length) + (((cg B i).2.2).length)))), some (.int (nI ((30 * k + i) + 1))), none]) ⟨Or.inr rfl, Or.inr rfl, Or.inr rfl, Or.inr rfl, Or.inl rfl, trivial⟩ ?_
            have e9 : lst B z (i + 1) = some ((cg B i).2.1.length + (cg B i).2.2.length) := if_pos ⟨q81, by
              cases hv9 : lst B z i with
              | none => rfl
              | some v => (rw [hv9] at q91; exact decide_eq_true ((nI_ltI (by omega) (by have := z50 v hv9; omega)).mp (by first | exact q91 | exact Int32.not_le.mp q91)))⟩
            have e8 := ih (i + 1) (by omega) (by omega)
            rw [e9] at e8
            exact e8

set_option maxHeartbeats 4000000 in
set_option maxRecDepth 100000 in
theorem r_least {l : Launch} (hl : l.stackTraces = false) {M : ev_M} (o : Nat) (S : St) (hS : okS S) (hT10 : S.T.length ≤ 10) (hG3 : S.G.length ≤ 3) (hH20 : S.H.length ≤ 20) (zi : Nat → Int32) (zl : Nat → Int64) (hR : RR M o S zi zl) (a : Int32) : ev_Mt l m_X11_least [.ref (o), .int (a)] M (fun r M1 => r = .inl (some (.int (sLe S a).2)) ∧ ∃ zi' zl', RR M1 o S zi' zl' ∧ zi' 0 = nI (sLe S a).1 ∧ Fr o (o + 31) M M1) := by
  rcases gate_c S with ⟨gz, g1, c1⟩ | gn
  · obtain ⟨hL13, hb30⟩ := La_lt c1
    rcases inR_c a 6 (by omega) with ⟨k, hk, rfl⟩ | ia
    · have jk : inR (nI k) 6 = true := inR_n hk (by omega)
      have tk : (nI k).toNatClampNeg = k := nI_clamp (by omega)
      refine ev_body hl rfl (by decide +kernel) (Nat.le_of_ble_eq_true rfl) ?_
      show ev_ l m_X11_least 0 0 0 [some (.ref (o)), some (.int (nI k)), none, none, none] [] M _
      refine ev_blk (B := [(.aload_n 0, 1)]) (pe := 1) (ls' := [some (.ref (o)), some (.int (nI k)), none, none, none]) (st' := [.ref (o)]) ⟨dX11_least_0, rfl⟩ rfl ?_
      refine ev_cVw Y_X11_isAnalyzed L_RX11_267 dX11_least_1 ⟨Nat.le_of_ble_eq_true rfl, Nat.le_of_ble_eq_true rfl, Nat.le_of_ble_eq_true rfl, Nat.le_of_ble_eq_true rfl, Nat.le_of_ble_eq_true rfl⟩ hR.z (as := []) rfl rfl (c_R_isAnalyzed hl o S hS hT10 hG3 (zi) (zl) hR) (fun M1 hL1 hB1 => ?_)
      obtain ⟨Ai, AR, A0, A30, AK, AF⟩ := hB1
      rw [gz] at A0
      obtain ⟨hco, hin⟩ := AR.a.co (A30 gz)
      obtain ⟨hla, hl13, hPBs⟩ := hin c1
      have hPBk := hPBs
      obtain ⟨bs, bn, bf, b2, b11, b12, b14, b15, hbb⟩ := hPBs
      refine ev_ifB_ne dX11_least_4 (tgt := 9) (by decide) (fun q4 => ?_) (fun q4 => ?_)
      · refine ev_blk (B := [(.iload_n 1, 1)]) (pe := 10) (ls' := [some (.ref (o)), some (.int (nI k)), none, none, none]) (st' := [.int (nI k)]) ⟨dX11_least_9, rfl⟩ rfl ?_
        refine ev_cSv Y_X11_isState L_RX11_130 dX11_least_10 ⟨Nat.le_of_ble_eq_true rfl, Nat.le_of_ble_eq_true rfl, Nat.le_of_ble_eq_true rfl, Nat.le_of_ble_eq_true rfl, Nat.le_of_ble_eq_true rfl⟩ (as := [.int (nI k)]) rfl rfl (c_R_isState hl (nI k)) ?_
        refine ev_ifB_ne dX11_least_13 (tgt := 22) (by decide) (fun q13 => ?_) (fun q13 => ?_)
        · refine ev_blk (B := [(.iconst (-1), 1), (.istore_n 2, 1), (.bipush 30, 2), (.aload_n 0, 1)]) (pe := 27) (ls' := [some (.ref (o)), some (.int (nI k)), some (.int ((-1))), none, none]) (st' := [.ref (o), .int (nI 30)]) ⟨dX11_least_22, dX11_least_23, dX11_least_24, dX11_least_26, rfl⟩ rfl ?_
          refine ev_getf (v := .int (nI (La S))) F_RX11_261 dX11_least_27 AR.z (congrArg (fun q => some (Value.int q)) hla) ?_
          refine ev_blk (B := [(.imul, 1), (.istore_n 3, 1)]) (pe := 32) (ls' := [some (.ref (o)), some (.int (nI k)), some (.int ((-1))), some (.int (nI (30 * (La S)))), none]) (st' := []) ⟨dX11_least_30, dX11_least_31, rfl⟩ (by show some (([some (.ref (o)), some (.int (nI k)), some (.int ((-1))), some (.int ((nI 30) * (nI (La S)))), none] : ev_L), ([] : List Value)) = _; rw [pk_mul 30 (La S)]) ?_
          refine ev_mono (fun r M9 hq => ?_) (c_R_least_l hl o Ai zl AR.z (La S) hl13 (bl S.T S.G (La S)) (hb30 (La S) (Nat.le_refl _)) ((bl_ok hS.T hS.G (La S)).le (by omega)) hla (hPBk.pb (Nat.lt_succ_self _)) k hk _ 0 (Nat.zero_le _) (Nat.lt_succ_self _))
          obtain ⟨q1, q2⟩ := hq
          rw [q2]
          have e9 : sLe S (nI k) = (0, oI (lst (bl S.T S.G (La S)) k (bl S.T S.G (La S)).length)) := (gt_z gz).trans (by
            simp only [tN, tk]
            rw [if_neg (show ¬ inR (nI k) 6 = false by rw [jk]; decide)])
          rw [e9]
          exact ⟨q1, Ai, zl, AR, A0, (FX.fr (lo := o + 1) (hi := o + 31) (AF.to (by omega) (by omega)) (by omega) (by omega))⟩
        · exact absurd (jk.symm.trans q13) (by decide)
      · exact absurd ((decide_eq_true gz).symm.trans q4) (by decide)
    · have ia9 := ia
      refine ev_body hl rfl (by decide +kernel) (Nat.le_of_ble_eq_true rfl) ?_
      show ev_ l m_X11_least 0 0 0 [some (.ref (o)), some (.int (a)), none, none, none] [] M _
      refine ev_blk (B := [(.aload_n 0, 1)]) (pe := 1) (ls' := [some (.ref (o)), some (.int (a)), none, none, none]) (st' := [.ref (o)]) ⟨dX11_least_0, rfl⟩ rfl ?_
      refine ev_cVw Y_X11_isAnalyzed L_RX11_267 dX11_least_1 ⟨Nat.le_of_ble_eq_true rfl, Nat.le_of_ble_eq_true rfl, Nat.le_of_ble_eq_true rfl, Nat.le_of_ble_eq_true rfl, Nat.le_of_ble_eq_true rfl⟩ hR.z (as := []) rfl rfl (c_R_isAnalyzed hl o S hS hT10 hG3 (zi) (zl) hR) (fun M2 hL2 hB2 => ?_)
      obtain ⟨Ai, AR, A0, A30, AK, AF⟩ := hB2
      rw [gz] at A0
      obtain ⟨hco, hin⟩ := AR.a.co (A30 gz)
      obtain ⟨hla, hl13, hPBs⟩ := hin c1
      have hPBk := hPBs
      obtain ⟨bs, bn, bf, b2, b11, b12, b14, b15, hbb⟩ := hPBs
      refine ev_ifB_ne dX11_least_4 (tgt := 9) (by decide) (fun q4 => ?_) (fun q4 => ?_)
      · refine ev_blk (B := [(.iload_n 1, 1)]) (pe := 10) (ls' := [some (.ref (o)), some (.int (a)), none, none, none]) (st' := [.int (a)]) ⟨dX11_least_9, rfl⟩ rfl ?_
        refine ev_cSv Y_X11_isState L_RX11_130 dX11_least_10 ⟨Nat.le_of_ble_eq_true rfl, Nat.le_of_ble_eq_true rfl, Nat.le_of_ble_eq_true rfl, Nat.le_of_ble_eq_true rfl, Nat.le_of_ble_eq_true rfl⟩ (as := [.int (a)]) rfl rfl (c_R_isState hl a) ?_
        refine ev_ifB_ne dX11_least_13 (tgt := 22) (by decide) (fun q13 => ?_) (fun q13 => ?_)
        · exact absurd (ia.symm.trans q13) (by decide)
        · refine ev_blk (B := [(.aload_n 0, 1), (.iconst 3, 1)]) (pe := 18) (ls' := [some (.ref (o)), some (.int (a)), none, none, none]) (st' := [.int (nI 3), .ref (o)]) ⟨dX11_least_16, dX11_least_17, rfl⟩ rfl ?_
          refine ev_cVv Y_X11_fails L_RX11_144 dX11_least_18 ⟨Nat.le_of_ble_eq_true rfl, Nat.le_of_ble_eq_true rfl, Nat.le_of_ble_eq_true rfl, Nat.le_of_ble_eq_true rfl, Nat.le_of_ble_eq_true rfl⟩ AR.z (as := [.int (nI 3)]) rfl rfl (c_R_fails hl o (Ai) (zl) AR.z 3) ?_
          refine ev_nm (M0 := M2.set o (.inr (10, zo o (ui (Ai) 0 (nI 3)) (zl)))) (fun Mf eMf => ?_)
          have ff : Mf[o]? = some (.inr (10, zo o (ui (Ai) 0 (nI 3)) (zl))) := by rw [eMf]; exact ev_sg AR.z
          refine ev_iret dX11_least_21 rfl (rfl) ⟨Nat.le_of_ble_eq_true rfl, Nat.le_of_ble_eq_true rfl⟩ ?_
          have W3 : FX o (o + 31) (o + 31) M2 Mf := ⟨by rw [eMf]; simp only [List.length_set], fun j hj1 hj2 => by rw [eMf, ev_sn (by omega)]⟩
          have e9 : sLe S a = (3, 0) := (gt_z gz).trans (if_pos ia)
          rw [e9]
          exact ⟨rfl, _, _, ⟨ff, ⟨AR.p.1, AR.p.2.1, AR.p.2.2.1, AR.p.2.2.2.1, AR.p.2.2.2.2.1, AR.p.2.2.2.2.2.1, AR.p.2.2.2.2.2.2.1, AR.p.2.2.2.2.2.2.2.1, AR.p.2.2.2.2.2.2.2.2.1, AR.p.2.2.2.2.2.2.2.2.2⟩, (AR.T.fx W3 (by omega) (by omega)), (AR.H.fx W3 (by omega)), (AR.y.fx W3 (by omega)), (AR.G.fx W3 (by omega) (by omega)), (AR.a.fx W3 (by omega)), (AR.u.fx W3 (by omega)), (AR.x.fx W3 (by omega)), (AR.k.fx W3 (by omega)), (AR.s.fx W3 (by omega))⟩, rfl, (FX.fr (lo := o + 1) (hi := o + 31) ((AF.to (by omega) (by omega)).tr (W3.to (by omega) (by omega))) (by omega) (by omega))⟩
      · exact absurd ((decide_eq_true gz).symm.trans q4) (by decide)
  · have y9 : True := trivial
    refine ev_body hl rfl (by decide +kernel) (Nat.le_of_ble_eq_true rfl) ?_
    show ev_ l m_X11_least 0 0 0 [some (.ref (o)), some (.int (a)), none, none, none] [] M _
    refine ev_blk (B := [(.aload_n 0, 1)]) (pe := 1) (ls' := [some (.ref (o)), some (.int (a)), none, none, none]) (st' := [.ref (o)]) ⟨dX11_least_0, rfl⟩ rfl ?_
    refine ev_cVw Y_X11_isAnalyzed L_RX11_267 dX11_least_1 ⟨Nat.le_of_ble_eq_true rfl, Nat.le_of_ble_eq_true rfl, Nat.le_of_ble_eq_true rfl, Nat.le_of_ble_eq_true rfl, Nat.le_of_ble_eq_true rfl⟩ hR.z (as := []) rfl rfl (c_R_isAnalyzed hl o S hS hT10 hG3 (zi) (zl) hR) (fun M4 hL4 hB4 => ?_)
    obtain ⟨Ai, AR, A0, A30, AK, AF⟩ := hB4
    refine ev_ifB_ne dX11_least_4 (tgt := 9) (by decide) (fun q4 => ?_) (fun q4 => ?_)
    · exact absurd ((decide_eq_false gn).symm.trans q4) (by decide)
    · refine ev_blk (B := [(.iconst 0, 1)]) (pe := 8) (ls' := [some (.ref (o)), some (.int (a)), none, none, none]) (st' := [.int (nI 0)]) ⟨dX11_least_7, rfl⟩ rfl ?_
      refine ev_iret dX11_least_8 rfl (rfl) ⟨Nat.le_of_ble_eq_true rfl, Nat.le_of_ble_eq_true rfl⟩ ?_
      have e9 : sLe S a = (gate S, 0) := gt_n gn
      rw [e9]
      exact ⟨rfl, Ai, zl, AR, A0, (FX.fr (lo := o + 1) (hi := o + 31) (AF.to (by omega) (by omega)) (by omega) (by omega))⟩

