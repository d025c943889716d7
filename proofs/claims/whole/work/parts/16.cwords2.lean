/-! the place of a letter; a word below another -/
def ix (w : List Nat) (x : Nat) : Option Nat := (List.range w.length).find? (fun i => w.getD i 3 == x)
theorem ix_some {w : List Nat} {x i : Nat} (h2 : i < w.length) (h3 : w[i] = x) (h4 : ∀ j, j < i → ¬ w.getD j 3 = x) : ix w x = some i := by
  unfold ix
  rw [List.find?_range_eq_some]
  exact ⟨by simp [h2, h3], List.mem_range.mpr h2, fun j hj => by simpa using h4 j hj⟩
theorem ix_none {w : List Nat} {x : Nat} (h : ∀ j, j < w.length → ¬ w.getD j 3 = x) : ix w x = none := by
  unfold ix
  rw [List.find?_eq_none]
  intro j hj
  simpa using h j (List.mem_range.mp hj)
theorem ix_lt {w : List Nat} {x i : Nat} (h : ix w x = some i) : i < w.length ∧ w.getD i 3 = x ∧ ∀ j, j < i → ¬ w.getD j 3 = x := by
  unfold ix at h
  rw [List.find?_range_eq_some] at h
  exact ⟨List.mem_range.mp h.2.1, by simpa using h.1, fun j hj => by simpa using h.2.2 j hj⟩
theorem wb_iff {u v : List Nat} : wb u v = true ↔ u.Sublist v := List.isSublist_iff_sublist
theorem wb_ss (a b : List Nat) (x y : Nat) : wb (a ++ [x]) (b ++ [y]) = if x = y then wb a b else wb (a ++ [x]) b := by
  rw [Bool.eq_iff_iff, wb_iff]
  have e1 : (a ++ [x]).Sublist (b ++ [y]) ↔ (x :: a.reverse).Sublist (y :: b.reverse) := by
    rw [← List.reverse_sublist]; simp
  rw [e1]
  by_cases h : x = y
  · subst h
    rw [if_pos rfl, List.cons_sublist_cons, List.reverse_sublist, wb_iff]
  · have e2 : (a ++ [x]).Sublist b ↔ (x :: a.reverse).Sublist b.reverse := by
      rw [← List.reverse_sublist]; simp
    rw [if_neg h, wb_iff, e2]
    constructor
    · intro q
      rcases List.sublist_cons_iff.mp q with q | ⟨r, q1, q2⟩
      · exact q
      · exact absurd (List.cons.inj q1).1 h
    · intro q; exact List.Sublist.cons y q
theorem wb_nl (v : List Nat) : wb [] v = true := by cases v <;> rfl
theorem gd3 {w : List Nat} {i : Nat} (h : i < w.length) : w.getD i 3 = w[i] := by
  rw [List.getD_eq_getElem?_getD, List.getElem?_eq_getElem h]; rfl
theorem wb_nr {u : List Nat} (h : ¬ u = []) : wb u [] = false := by
  cases u with
  | nil => exact absurd rfl h
  | cons a r => rfl
theorem wb_step {u v : List Nat} (hu : ¬ u = []) (hv : ¬ v = []) : wb u v = if u.getLast hu = v.getLast hv then wb u.dropLast v.dropLast else wb u v.dropLast := by
  have h1 := wb_ss u.dropLast v.dropLast (u.getLast hu) (v.getLast hv)
  rw [List.dropLast_concat_getLast, List.dropLast_concat_getLast] at h1
  exact h1
theorem wk_dl {w : List Nat} (h : wk w) : wk w.dropLast := fun d hd => h d (List.dropLast_subset _ hd)
theorem la_lt {w : List Nat} (hw : wk w) (h : ¬ w = []) : w.getLast h < 3 := hw _ (List.getLast_mem h)
theorem em_e {w : List Nat} (hw : wk w) (hn : w.length ≤ 25) : e1 w = 1 ↔ w = [] := by
  constructor
  · intro h; exact (em_c hw hn).mp (by rw [h]; exact (ev_lerf 1).1)
  · rintro rfl; rfl
theorem la_eq {u v : List Nat} (hu : wk u) (hun : u.length ≤ 25) (hv : wk v) (hvn : v.length ≤ 25) (h1 : ¬ u = []) (h2 : ¬ v = []) : (e1 u &&& 3 = e1 v &&& 3) ↔ u.getLast h1 = v.getLast h2 := by
  rw [la_c hu hun h1, la_c hv hvn h2, wl_eq (by have := la_lt hu h1; omega) (by have := la_lt hv h2; omega)]
theorem lenpos {w : List Nat} (h : ¬ w = []) : 0 < w.length := List.length_pos_iff.mpr h
set_option maxHeartbeats 4000000 in
set_option maxRecDepth 100000 in
theorem c_X9_indexOf_l {l : Launch}  {M : ev_M} (w : List Nat) (hw : wk w) (hn : w.length ≤ 25) (x : Nat) (hx : x < 3) : ∀ (n9 : Nat) (i : Nat), i ≤ w.length → (∀ j, j < i → ¬ w.getD j 3 = x) → w.length - i < n9 → ev_ l m_X9_indexOf 0 0 8 [some (.long (e1 w)), none, some (.int (nI x)), some (.int (nI (w.length))), some (.int (nI i))] [] M (ev_q (.inl (some (.int (oI (ix w x))))) M) := by
  intro n9
  induction n9 with
  | zero => intro i hi ha hm9; exact absurd hm9 (by omega)
  | succ n9 ih =>
    intro i hi ha hm9
    refine ev_blk (B := [(.iload 4, 2), (.iload_n 3, 1)]) (pe := 11) (ls' := [some (.long (e1 w)), none, some (.int (nI x)), some (.int (nI (w.length))), some (.int (nI i))]) (st' := [.int (nI (w.length)), .int (nI i)]) ⟨dX9_indexOf_8, dX9_indexOf_10, rfl⟩ rfl ?_
    refine ev_iN_ge dX9_indexOf_11 (tgt := 43) (by decide) (by omega) (by omega) (fun q11 => ?_) (fun q11 => ?_)
    · refine ev_blk (B := [(.iconst (-1), 1)]) (pe := 44) (ls' := [some (.long (e1 w)), none, some (.int (nI x)), some (.int (nI (w.length))), some (.int (nI i))]) (st' := [.int ((-1))]) ⟨dX9_indexOf_43, rfl⟩ rfl ?_
      refine ev_iret dX9_indexOf_44 rfl (rfl) ⟨Nat.le_of_ble_eq_true rfl, Nat.le_of_ble_eq_true rfl⟩ ?_
      exact ev_q_e (by rw [ix_none (fun j hj => ha j (by omega))]; rfl)
    · refine ev_blk (B := [(.lload_n 0, 1), (.iconst 2, 1), (.iload_n 3, 1), (.iconst 1, 1), (.isub, 1), (.iload 4, 2), (.isub, 1), (.imul, 1), (.lshr, 1)]) (pe := 24) (ls' := [some (.long (e1 w)), none, some (.int (nI x)), some (.int (nI (w.length))), some (.int (nI i))]) (st' := [.long (lN (n1 w / 4 ^ (w.length - 1 - i)))]) ⟨dX9_indexOf_14, dX9_indexOf_15, dX9_indexOf_16, dX9_indexOf_17, dX9_indexOf_18, dX9_indexOf_19, dX9_indexOf_21, dX9_indexOf_22, dX9_indexOf_23, rfl⟩ (by show some (([some (.long (e1 w)), none, some (.int (nI x)), some (.int (nI (w.length))), some (.int (nI i))] : ev_L), ([.long ((e1 w) >>> (((nI 2) * (((nI (w.length)) - (nI 1)) - (nI i))).toInt64 &&& 63))] : List Value)) = _; rw [pk_sub (show 1 ≤ (w.length) by omega), pk_sub (show i ≤ ((w.length) - 1) by omega), pk_mul, show (e1 w) >>> ((nI (2 * (((w.length) - 1) - i))).toInt64 &&& 63) = lN (n1 w / 4 ^ (w.length - 1 - i)) from wl_shrB (q1_62 hw hn) (by omega)]) ?_
      refine ev_ldc2 K_RX9_13 dX9_indexOf_24 ?_
      refine ev_blk (B := [(.land, 1), (.iload_n 2, 1), (.i2l, 1), (.lcmp, 1)]) (pe := 31) (ls' := [some (.long (e1 w)), none, some (.int (nI x)), some (.int (nI (w.length))), some (.int (nI i))]) (st' := [.int (lg_cmp (lN w[i]) (lN (x)))]) ⟨dX9_indexOf_27, dX9_indexOf_28, dX9_indexOf_29, dX9_indexOf_30, rfl⟩ (by show some (([some (.long (e1 w)), none, some (.int (nI x)), some (.int (nI (w.length))), some (.int (nI i))] : ev_L), ([.int (lg_cmp ((lN (n1 w / 4 ^ (w.length - 1 - i))) &&& (3)) ((nI x).toInt64))] : List Value)) = _; rw [show (lN (n1 w / 4 ^ (w.length - 1 - i))) &&& (3) = lN w[i] from at_c hw hn (by omega), nI_l (show x < 2 ^ 31 by omega)]) ?_
      refine ev_lc_ne dX9_indexOf_31 (tgt := 37) (by decide) (fun q31 => ?_) (fun q31 => ?_)
      · have q31 := mt (wl_eq (show w[i] < 2 ^ 62 from Nat.lt_of_lt_of_le (hw _ (List.getElem_mem _)) (by decide)) (show x < 2 ^ 62 by omega)).mpr q31
        refine ev_blk (B := [(.iinc 4 1, 3)]) (pe := 40) (ls' := [some (.long (e1 w)), none, some (.int (nI x)), some (.int (nI (w.length))), some (.int (nI (i + 1)))]) (st' := []) ⟨dX9_indexOf_37, rfl⟩ (by show some (([some (.long (e1 w)), none, some (.int (nI x)), some (.int (nI (w.length))), some (.int ((nI i) + Int32.ofInt (1)))] : ev_L), ([] : List Value)) = _; rw [ev_inc1]) ?_
        refine ev_goto (tgt := 8) dX9_indexOf_40 (by decide) ?_
        refine ih (i + 1) (by omega) (fun j hj => ?_) (by omega)
        by_cases e : j = i
        · subst e; rw [gd3 (by omega)]; exact q31
        · exact ha j (by omega)
      · have q31 := (wl_eq (show w[i] < 2 ^ 62 from Nat.lt_of_lt_of_le (hw _ (List.getElem_mem _)) (by decide)) (show x < 2 ^ 62 by omega)).mp q31
        refine ev_blk (B := [(.iload 4, 2)]) (pe := 36) (ls' := [some (.long (e1 w)), none, some (.int (nI x)), some (.int (nI (w.length))), some (.int (nI i))]) (st' := [.int (nI i)]) ⟨dX9_indexOf_34, rfl⟩ rfl ?_
        refine ev_iret dX9_indexOf_36 rfl (rfl) ⟨Nat.le_of_ble_eq_true rfl, Nat.le_of_ble_eq_true rfl⟩ ?_
        exact ev_q_e (by rw [ix_some (by omega) q31 ha]; rfl)

set_option maxHeartbeats 4000000 in
set_option maxRecDepth 100000 in
theorem c_X9_indexOf {l : Launch} (hl : l.stackTraces = false) {M : ev_M} (w : List Nat) (hw : wk w) (hn : w.length ≤ 25) (x : Nat) (hx : x < 3) : ev_Mt l m_X9_indexOf [.long (e1 w), .int (nI x)] M (ev_q (.inl (some (.int (oI (ix w x))))) M) := by
  refine ev_body hl rfl (by decide +kernel) (Nat.le_of_ble_eq_true rfl) ?_
  show ev_ l m_X9_indexOf 0 0 0 [some (.long (e1 w)), none, some (.int (nI x)), none, none] [] M _
  refine ev_blk (B := [(.lload_n 0, 1)]) (pe := 1) (ls' := [some (.long (e1 w)), none, some (.int (nI x)), none, none]) (st' := [.long (e1 w)]) ⟨dX9_indexOf_0, rfl⟩ rfl ?_
  refine ev_cSv Y_X9_size L_RX9_9 dX9_indexOf_1 ⟨Nat.le_of_ble_eq_true rfl, Nat.le_of_ble_eq_true rfl, Nat.le_of_ble_eq_true rfl, Nat.le_of_ble_eq_true rfl, Nat.le_of_ble_eq_true rfl⟩ (as := [.long (e1 w)]) rfl rfl (c_X9_size hl w hw hn) ?_
  refine ev_blk (B := [(.istore_n 3, 1), (.iconst 0, 1), (.istore 4, 2)]) (pe := 8) (ls' := [some (.long (e1 w)), none, some (.int (nI x)), some (.int (nI (w.length))), some (.int (nI 0))]) (st' := []) ⟨dX9_indexOf_4, dX9_indexOf_5, dX9_indexOf_6, rfl⟩ rfl ?_
  exact c_X9_indexOf_l w hw hn x hx _ 0 (Nat.zero_le _) (fun j hj => absurd hj (Nat.not_lt_zero _)) (Nat.lt_succ_self _)

set_option maxHeartbeats 4000000 in
set_option maxRecDepth 100000 in
theorem c_X9_below_l {l : Launch}  {M : ev_M} (u0 v0 : Value) (hu0 : ev_c2 u0 = true) (z : Bool) : ∀ (n9 : Nat) (i : Nat) (u : List Nat) (v : List Nat), i + v.length ≤ 25 → wk u → u.length ≤ 25 → wk v → z = wb u v → v.length < n9 → ev_ l m_X9_below 0 0 9 [some (u0), none, some (v0), none, some (.long (e1 u)), none, some (.long (e1 v)), none, some (.int (nI i))] [] M (ev_q (.inl (some (.int (ev_b z)))) M) := by
  intro n9
  induction n9 with
  | zero => intro i u v hi hu hun hv hz hm9; exact absurd hm9 (by omega)
  | succ n9 ih =>
    intro i u v hi hu hun hv hz hm9
    refine ev_blk (B := [(.iload 8, 2), (.bipush 31, 2)]) (pe := 13) (ls' := [some (u0), none, some (v0), none, some (.long (e1 u)), none, some (.long (e1 v)), none, some (.int (nI i))]) (st' := [.int (nI 31), .int (nI i)]) ⟨dX9_below_9, dX9_below_11, rfl⟩ rfl ?_
    refine ev_iN_ge dX9_below_13 (tgt := 64) (by decide) (by omega) (by omega) (fun q13 => ?_) (fun q13 => ?_)
    · exfalso; omega
    · refine ev_blk (B := [(.lload 4, 2), (.lconst 1, 1), (.lcmp, 1)]) (pe := 20) (ls' := [some (u0), none, some (v0), none, some (.long (e1 u)), none, some (.long (e1 v)), none, some (.int (nI i))]) (st' := [.int (lg_cmp (e1 u) (1))]) ⟨dX9_below_16, dX9_below_18, dX9_below_19, rfl⟩ rfl ?_
      refine ev_lc_le dX9_below_20 (tgt := 64) (by decide) (fun q20 => ?_) (fun q20 => ?_)
      · have q20 := (em_c hu hun).mp q20
        refine ev_blk (B := [(.lload 4, 2), (.lconst 1, 1), (.lcmp, 1)]) (pe := 68) (ls' := [some (u0), none, some (v0), none, some (.long (e1 u)), none, some (.long (e1 v)), none, some (.int (nI i))]) (st' := [.int (lg_cmp (e1 u) (1))]) ⟨dX9_below_64, dX9_below_66, dX9_below_67, rfl⟩ rfl ?_
        refine ev_lc_ne dX9_below_68 (tgt := 75) (by decide) (fun q68 => ?_) (fun q68 => ?_)
        · have q68 := mt (em_e hu hun).mpr q68
          refine ev_blk (B := [(.iconst 0, 1)]) (pe := 76) (ls' := [some (u0), none, some (v0), none, some (.long (e1 u)), none, some (.long (e1 v)), none, some (.int (nI i))]) (st' := [.int (nI 0)]) ⟨dX9_below_75, rfl⟩ rfl ?_
          refine ev_iret dX9_below_76 rfl (rfl) ⟨Nat.le_of_ble_eq_true rfl, Nat.le_of_ble_eq_true rfl⟩ ?_
          exact ev_q_e (by rw [hz]; first | (rw [q68, wb_nl]; rfl) | (rw [q27, wb_nr q68]; rfl) | (exact absurd q20 q68) | (exact absurd q68 q20))
        · have q68 := (em_e hu hun).mp q68
          refine ev_blk (B := [(.iconst 1, 1)]) (pe := 72) (ls' := [some (u0), none, some (v0), none, some (.long (e1 u)), none, some (.long (e1 v)), none, some (.int (nI i))]) (st' := [.int (nI 1)]) ⟨dX9_below_71, rfl⟩ rfl ?_
          refine ev_goto (tgt := 76) dX9_below_72 (by decide) ?_
          refine ev_iret dX9_below_76 rfl (rfl) ⟨Nat.le_of_ble_eq_true rfl, Nat.le_of_ble_eq_true rfl⟩ ?_
          exact ev_q_e (by rw [hz]; first | (rw [q68, wb_nl]; rfl) | (rw [q27, wb_nr q68]; rfl) | (exact absurd q20 q68) | (exact absurd q68 q20))
      · have q20 := mt (em_c hu hun).mpr q20
        refine ev_blk (B := [(.lload 6, 2), (.lconst 1, 1), (.lcmp, 1)]) (pe := 27) (ls' := [some (u0), none, some (v0), none, some (.long (e1 u)), none, some (.long (e1 v)), none, some (.int (nI i))]) (st' := [.int (lg_cmp (e1 v) (1))]) ⟨dX9_below_23, dX9_below_25, dX9_below_26, rfl⟩ rfl ?_
        refine ev_lc_le dX9_below_27 (tgt := 64) (by decide) (fun q27 => ?_) (fun q27 => ?_)
        · have q27 := (em_c hv (by omega)).mp q27
          refine ev_blk (B := [(.lload 4, 2), (.lconst 1, 1), (.lcmp, 1)]) (pe := 68) (ls' := [some (u0), none, some (v0), none, some (.long (e1 u)), none, some (.long (e1 v)), none, some (.int (nI i))]) (st' := [.int (lg_cmp (e1 u) (1))]) ⟨dX9_below_64, dX9_below_66, dX9_below_67, rfl⟩ rfl ?_
          refine ev_lc_ne dX9_below_68 (tgt := 75) (by decide) (fun q68 => ?_) (fun q68 => ?_)
          · have q68 := mt (em_e hu hun).mpr q68
            refine ev_blk (B := [(.iconst 0, 1)]) (pe := 76) (ls' := [some (u0), none, some (v0), none, some (.long (e1 u)), none, some (.long (e1 v)), none, some (.int (nI i))]) (st' := [.int (nI 0)]) ⟨dX9_below_75, rfl⟩ rfl ?_
            refine ev_iret dX9_below_76 rfl (rfl) ⟨Nat.le_of_ble_eq_true rfl, Nat.le_of_ble_eq_true rfl⟩ ?_
            exact ev_q_e (by rw [hz]; first | (rw [q68, wb_nl]; rfl) | (rw [q27, wb_nr q68]; rfl) | (exact absurd q20 q68) | (exact absurd q68 q20))
          · have q68 := (em_e hu hun).mp q68
            refine ev_blk (B := [(.iconst 1, 1)]) (pe := 72) (ls' := [some (u0), none, some (v0), none, some (.long (e1 u)), none, some (.long (e1 v)), none, some (.int (nI i))]) (st' := [.int (nI 1)]) ⟨dX9_below_71, rfl⟩ rfl ?_
            refine ev_goto (tgt := 76) dX9_below_72 (by decide) ?_
            refine ev_iret dX9_below_76 rfl (rfl) ⟨Nat.le_of_ble_eq_true rfl, Nat.le_of_ble_eq_true rfl⟩ ?_
            exact ev_q_e (by rw [hz]; first | (rw [q68, wb_nl]; rfl) | (rw [q27, wb_nr q68]; rfl) | (exact absurd q20 q68) | (exact absurd q68 q20))
        · have q27 := mt (em_c hv (by omega)).mpr q27
          refine ev_blk (B := [(.lload 4, 2)]) (pe := 32) (ls' := [some (u0), none, some (v0), none, some (.long (e1 u)), none, some (.long (e1 v)), none, some (.int (nI i))]) (st' := [.long (e1 u)]) ⟨dX9_below_30, rfl⟩ rfl ?_
          refine ev_ldc2 K_RX9_13 dX9_below_32 ?_
          refine ev_blk (B := [(.land, 1), (.lload 6, 2)]) (pe := 38) (ls' := [some (u0), none, some (v0), none, some (.long (e1 u)), none, some (.long (e1 v)), none, some (.int (nI i))]) (st' := [.long (e1 v), .long ((e1 u) &&& (3))]) ⟨dX9_below_35, dX9_below_36, rfl⟩ rfl ?_
          refine ev_ldc2 K_RX9_13 dX9_below_38 ?_
          refine ev_blk (B := [(.land, 1), (.lcmp, 1)]) (pe := 43) (ls' := [some (u0), none, some (v0), none, some (.long (e1 u)), none, some (.long (e1 v)), none, some (.int (nI i))]) (st' := [.int (lg_cmp ((e1 u) &&& (3)) ((e1 v) &&& (3)))]) ⟨dX9_below_41, dX9_below_42, rfl⟩ rfl ?_
          refine ev_lc_ne dX9_below_43 (tgt := 52) (by decide) (fun q43 => ?_) (fun q43 => ?_)
          · have q43 := mt (la_eq hu hun hv (by omega) q20 q27).mpr q43
            refine ev_blk (B := [(.lload 6, 2), (.iconst 2, 1), (.lshr, 1), (.lstore 6, 2), (.iinc 8 1, 3)]) (pe := 61) (ls' := [some (u0), none, some (v0), none, some (.long (e1 u)), none, some (.long (e1 v.dropLast)), none, some (.int (nI (i + 1)))]) (st' := []) ⟨dX9_below_52, dX9_below_54, dX9_below_55, dX9_below_56, dX9_below_58, rfl⟩ (by show some (([some (u0), none, some (v0), none, some (.long (e1 u)), none, some (.long ((e1 v) >>> ((nI 2).toInt64 &&& 63))), none, some (.int ((nI i) + Int32.ofInt (1)))] : ev_L), ([] : List Value)) = _; rw [show (e1 v) >>> ((nI 2).toInt64 &&& 63) = e1 v.dropLast from wl_c hv (by omega) q27, ev_inc1]) ?_
            refine ev_goto (tgt := 9) dX9_below_61 (by decide) ?_
            exact ih (i + 1) u v.dropLast (by rw [List.length_dropLast]; have := lenpos q27; omega) hu hun (wk_dl hv) (by rw [hz, wb_step q20 q27, if_neg q43]) (by rw [List.length_dropLast]; have := lenpos q27; omega)
          · have q43 := (la_eq hu hun hv (by omega) q20 q27).mp q43
            refine ev_blk (B := [(.lload 4, 2), (.iconst 2, 1), (.lshr, 1), (.lstore 4, 2), (.lload 6, 2), (.iconst 2, 1), (.lshr, 1), (.lstore 6, 2), (.iinc 8 1, 3)]) (pe := 61) (ls' := [some (u0), none, some (v0), none, some (.long (e1 u.dropLast)), none, some (.long (e1 v.dropLast)), none, some (.int (nI (i + 1)))]) (st' := []) ⟨dX9_below_46, dX9_below_48, dX9_below_49, dX9_below_50, dX9_below_52, dX9_below_54, dX9_below_55, dX9_below_56, dX9_below_58, rfl⟩ (by show some (([some (u0), none, some (v0), none, some (.long ((e1 u) >>> ((nI 2).toInt64 &&& 63))), none, some (.long ((e1 v) >>> ((nI 2).toInt64 &&& 63))), none, some (.int ((nI i) + Int32.ofInt (1)))] : ev_L), ([] : List Value)) = _; rw [show (e1 u) >>> ((nI 2).toInt64 &&& 63) = e1 u.dropLast from wl_c hu hun q20, show (e1 v) >>> ((nI 2).toInt64 &&& 63) = e1 v.dropLast from wl_c hv (by omega) q27, ev_inc1]) ?_
            refine ev_goto (tgt := 9) dX9_below_61 (by decide) ?_
            exact ih (i + 1) u.dropLast v.dropLast (by rw [List.length_dropLast]; have := lenpos q27; omega) (wk_dl hu) (by rw [List.length_dropLast]; omega) (wk_dl hv) (by rw [hz, wb_step q20 q27, if_pos q43]) (by rw [List.length_dropLast]; have := lenpos q27; omega)

set_option maxHeartbeats 4000000 in
set_option maxRecDepth 100000 in
theorem c_X9_below {l : Launch} (hl : l.stackTraces = false) {M : ev_M} (u v : List Nat) (hu : wk u) (hun : u.length ≤ 25) (hv : wk v) (hvn : v.length ≤ 25) : ev_Mt l m_X9_below [.long (e1 u), .long (e1 v)] M (ev_q (.inl (some (.int (ev_b (wb u v))))) M) := by
  refine ev_body hl rfl (by decide +kernel) (Nat.le_of_ble_eq_true rfl) ?_
  show ev_ l m_X9_below 0 0 0 [some (.long (e1 u)), none, some (.long (e1 v)), none, none, none, none, none, none] [] M _
  refine ev_blk (B := [(.lload_n 0, 1), (.lstore 4, 2), (.lload_n 2, 1), (.lstore 6, 2), (.iconst 0, 1), (.istore 8, 2)]) (pe := 9) (ls' := [some (.long (e1 u)), none, some (.long (e1 v)), none, some (.long (e1 u)), none, some (.long (e1 v)), none, some (.int (nI 0))]) (st' := []) ⟨dX9_below_0, dX9_below_1, dX9_below_3, dX9_below_4, dX9_below_6, dX9_below_7, rfl⟩ rfl ?_
  exact c_X9_below_l _ _ rfl _ _ 0 u v (by omega) hu hun hv rfl (Nat.lt_succ_self _)

