/-! ===== the reference: its object, its fields as functions ===== -/
def ui (z : Nat → Int32) (k : Nat) (v : Int32) : Nat → Int32 := fun j => bif Nat.beq j k then v else z j
def ul (z : Nat → Int64) (k : Nat) (v : Int64) : Nat → Int64 := fun j => bif Nat.beq j k then v else z j
def zo (o : Nat) (zi : Nat → Int32) (zl : Nat → Int64) : List Value := [.int (zi 0), .ref (o + 1), .int (zi 2), .int (zi 3), .int (zi 4), .long (zl 5), .long (zl 6), .ref (o + 2), .ref (o + 3), .ref (o + 4), .ref (o + 5), .int (zi 11), .int (zi 12), .long (zl 13), .long (zl 14), .ref (o + 6), .ref (o + 7), .ref (o + 8), .ref (o + 9), .ref (o + 10), .int (zi 20), .ref (o + 11), .ref (o + 12), .ref (o + 13), .ref (o + 14), .ref (o + 15), .ref (o + 16), .ref (o + 17), .int (zi 28), .int (zi 29), .int (zi 30), .int (zi 31), .ref (o + 18), .ref (o + 19), .ref (o + 20), .ref (o + 21), .int (zi 36), .ref (o + 22), .ref (o + 23), .ref (o + 24), .ref (o + 25), .ref (o + 26), .int (zi 42), .int (zi 43), .int (zi 44), .int (zi 45), .ref (o + 27), .ref (o + 28), .ref (o + 29), .ref (o + 30), .int (zi 50), .int (zi 51), .int (zi 52), .long (zl 53), .long (zl 54), .int (zi 55)]
theorem zs_0 {o : Nat} {zi : Nat → Int32} {zl : Nat → Int64} {v : Int32} : (zo o zi zl).set 0 (.int v) = zo o (ui zi 0 v) zl := rfl
theorem zs_2 {o : Nat} {zi : Nat → Int32} {zl : Nat → Int64} {v : Int32} : (zo o zi zl).set 2 (.int v) = zo o (ui zi 2 v) zl := rfl
theorem zs_3 {o : Nat} {zi : Nat → Int32} {zl : Nat → Int64} {v : Int32} : (zo o zi zl).set 3 (.int v) = zo o (ui zi 3 v) zl := rfl
theorem zs_4 {o : Nat} {zi : Nat → Int32} {zl : Nat → Int64} {v : Int32} : (zo o zi zl).set 4 (.int v) = zo o (ui zi 4 v) zl := rfl
theorem zs_5 {o : Nat} {zi : Nat → Int32} {zl : Nat → Int64} {v : Int64} : (zo o zi zl).set 5 (.long v) = zo o zi (ul zl 5 v) := rfl
theorem zs_6 {o : Nat} {zi : Nat → Int32} {zl : Nat → Int64} {v : Int64} : (zo o zi zl).set 6 (.long v) = zo o zi (ul zl 6 v) := rfl
theorem zs_11 {o : Nat} {zi : Nat → Int32} {zl : Nat → Int64} {v : Int32} : (zo o zi zl).set 11 (.int v) = zo o (ui zi 11 v) zl := rfl
theorem zs_12 {o : Nat} {zi : Nat → Int32} {zl : Nat → Int64} {v : Int32} : (zo o zi zl).set 12 (.int v) = zo o (ui zi 12 v) zl := rfl
theorem zs_13 {o : Nat} {zi : Nat → Int32} {zl : Nat → Int64} {v : Int64} : (zo o zi zl).set 13 (.long v) = zo o zi (ul zl 13 v) := rfl
theorem zs_14 {o : Nat} {zi : Nat → Int32} {zl : Nat → Int64} {v : Int64} : (zo o zi zl).set 14 (.long v) = zo o zi (ul zl 14 v) := rfl
theorem zs_20 {o : Nat} {zi : Nat → Int32} {zl : Nat → Int64} {v : Int32} : (zo o zi zl).set 20 (.int v) = zo o (ui zi 20 v) zl := rfl
theorem zs_28 {o : Nat} {zi : Nat → Int32} {zl : Nat → Int64} {v : Int32} : (zo o zi zl).set 28 (.int v) = zo o (ui zi 28 v) zl := rfl
theorem zs_29 {o : Nat} {zi : Nat → Int32} {zl : Nat → Int64} {v : Int32} : (zo o zi zl).set 29 (.int v) = zo o (ui zi 29 v) zl := rfl
theorem zs_30 {o : Nat} {zi : Nat → Int32} {zl : Nat → Int64} {v : Int32} : (zo o zi zl).set 30 (.int v) = zo o (ui zi 30 v) zl := rfl
theorem zs_31 {o : Nat} {zi : Nat → Int32} {zl : Nat → Int64} {v : Int32} : (zo o zi zl).set 31 (.int v) = zo o (ui zi 31 v) zl := rfl
theorem zs_36 {o : Nat} {zi : Nat → Int32} {zl : Nat → Int64} {v : Int32} : (zo o zi zl).set 36 (.int v) = zo o (ui zi 36 v) zl := rfl
theorem zs_42 {o : Nat} {zi : Nat → Int32} {zl : Nat → Int64} {v : Int32} : (zo o zi zl).set 42 (.int v) = zo o (ui zi 42 v) zl := rfl
theorem zs_43 {o : Nat} {zi : Nat → Int32} {zl : Nat → Int64} {v : Int32} : (zo o zi zl).set 43 (.int v) = zo o (ui zi 43 v) zl := rfl
theorem zs_44 {o : Nat} {zi : Nat → Int32} {zl : Nat → Int64} {v : Int32} : (zo o zi zl).set 44 (.int v) = zo o (ui zi 44 v) zl := rfl
theorem zs_45 {o : Nat} {zi : Nat → Int32} {zl : Nat → Int64} {v : Int32} : (zo o zi zl).set 45 (.int v) = zo o (ui zi 45 v) zl := rfl
theorem zs_50 {o : Nat} {zi : Nat → Int32} {zl : Nat → Int64} {v : Int32} : (zo o zi zl).set 50 (.int v) = zo o (ui zi 50 v) zl := rfl
theorem zs_51 {o : Nat} {zi : Nat → Int32} {zl : Nat → Int64} {v : Int32} : (zo o zi zl).set 51 (.int v) = zo o (ui zi 51 v) zl := rfl
theorem zs_52 {o : Nat} {zi : Nat → Int32} {zl : Nat → Int64} {v : Int32} : (zo o zi zl).set 52 (.int v) = zo o (ui zi 52 v) zl := rfl
theorem zs_53 {o : Nat} {zi : Nat → Int32} {zl : Nat → Int64} {v : Int64} : (zo o zi zl).set 53 (.long v) = zo o zi (ul zl 53 v) := rfl
theorem zs_54 {o : Nat} {zi : Nat → Int32} {zl : Nat → Int64} {v : Int64} : (zo o zi zl).set 54 (.long v) = zo o zi (ul zl 54 v) := rfl
theorem zs_55 {o : Nat} {zi : Nat → Int32} {zl : Nat → Int64} {v : Int32} : (zo o zi zl).set 55 (.int v) = zo o (ui zi 55 v) zl := rfl
/-- nothing changed but one cell and a range -/
def FX (a lo hi : Nat) (M M1 : ev_M) : Prop := M1.length = M.length ∧ ∀ j, j ≠ a → (j < lo ∨ hi ≤ j) → M1[j]? = M[j]?
theorem FX.rf {a lo hi : Nat} {M : ev_M} : FX a lo hi M M := ⟨rfl, fun _ _ _ => rfl⟩
theorem FX.tr {a lo hi : Nat} {M M1 M2 : ev_M} (h1 : FX a lo hi M M1) (h2 : FX a lo hi M1 M2) : FX a lo hi M M2 := ⟨h2.1.trans h1.1, fun j x y => (h2.2 j x y).trans (h1.2 j x y)⟩
theorem FX.to {a lo hi lo' hi' : Nat} {M M1 : ev_M} (h : FX a lo hi M M1) (h1 : lo' ≤ lo) (h2 : hi ≤ hi') : FX a lo' hi' M M1 := ⟨h.1, fun j x y => h.2 j x (by omega)⟩
theorem FX.em {a lo hi lo' hi' : Nat} {M M1 : ev_M} (h : FX a lo hi M M1) (h1 : hi ≤ lo) : FX a lo' hi' M M1 := ⟨h.1, fun j x y => h.2 j x (by omega)⟩
theorem FX.fr {a lo hi : Nat} {M M1 : ev_M} (h : FX a lo hi M M1) (h1 : a < lo) (h2 : a < hi) : Fr a hi M M1 := ⟨h.1, fun j x => h.2 j (by omega) (by omega)⟩
set_option maxHeartbeats 4000000 in
set_option maxRecDepth 100000 in
theorem c_R_thrown {l : Launch} (hl : l.stackTraces = false) {M : ev_M} (o : Nat) (zi : Nat → Int32) (zl : Nat → Int64) (hO : M[o]? = some (.inr (10, zo o zi zl))) : ev_Mt l m_X11_thrown [.ref (o)] M (ev_q (.inl (some (.int (zi 0)))) M) := by
  refine ev_body hl rfl (by decide +kernel) (Nat.le_of_ble_eq_true rfl) ?_
  show ev_ l m_X11_thrown 0 0 0 [some (.ref (o))] [] M _
  refine ev_blk (B := [(.aload_n 0, 1)]) (pe := 1) (ls' := [some (.ref (o))]) (st' := [.ref (o)]) ⟨dX11_thrown_0, rfl⟩ rfl ?_
  refine ev_getf (v := .int (zi 0)) F_RX11_106 dX11_thrown_1 hO rfl ?_
  refine ev_iret dX11_thrown_4 rfl (rfl) ⟨Nat.le_of_ble_eq_true rfl, Nat.le_of_ble_eq_true rfl⟩ ?_
  exact ⟨rfl, rfl⟩

set_option maxHeartbeats 4000000 in
set_option maxRecDepth 100000 in
theorem c_R_fails {l : Launch} (hl : l.stackTraces = false) {M : ev_M} (o : Nat) (zi : Nat → Int32) (zl : Nat → Int64) (hO : M[o]? = some (.inr (10, zo o zi zl))) (c : Nat) : ev_Mt l m_X11_fails [.ref (o), .int (nI c)] M (ev_q (.inl (some (.int (nI 0)))) (M.set o (.inr (10, zo o (ui zi 0 (nI c)) (zl))))) := by
  refine ev_body hl rfl (by decide +kernel) (Nat.le_of_ble_eq_true rfl) ?_
  show ev_ l m_X11_fails 0 0 0 [some (.ref (o)), some (.int (nI c))] [] M _
  refine ev_blk (B := [(.aload_n 0, 1), (.iload_n 1, 1)]) (pe := 2) (ls' := [some (.ref (o)), some (.int (nI c))]) (st' := [.int (nI c), .ref (o)]) ⟨dX11_fails_0, dX11_fails_1, rfl⟩ rfl ?_
  refine ev_put F_RX11_106 dX11_fails_2 hO (Nat.le_of_ble_eq_true rfl) (fun _ _ => ⟨rfl, rfl⟩) ?_
  rw [zs_0]
  refine ev_nm (M0 := M.set (o) (.inr (10, zo o (ui (zi) 0 (nI c)) (zl)))) (fun M1 eM1 => ?_)
  have f2 : M1[o]? = some (.inr (10, zo o (ui (zi) 0 (nI c)) (zl))) := by rw [eM1]; exact ev_sg hO
  refine ev_blk (B := [(.iconst 0, 1)]) (pe := 6) (ls' := [some (.ref (o)), some (.int (nI c))]) (st' := [.int (nI 0)]) ⟨dX11_fails_5, rfl⟩ rfl ?_
  refine ev_iret dX11_fails_6 rfl (rfl) ⟨Nat.le_of_ble_eq_true rfl, Nat.le_of_ble_eq_true rfl⟩ ?_
  exact ⟨rfl, eM1⟩

set_option maxHeartbeats 4000000 in
set_option maxRecDepth 100000 in
theorem c_R_refuses {l : Launch} (hl : l.stackTraces = false) {M : ev_M} (o : Nat) (zi : Nat → Int32) (zl : Nat → Int64) (hO : M[o]? = some (.inr (10, zo o zi zl))) (c : Nat) : ev_Mt l m_X11_refuses [.ref (o), .int (nI c)] M (ev_q (.inl (some (.int (ev_b false)))) (M.set o (.inr (10, zo o (ui zi 0 (nI c)) (zl))))) := by
  refine ev_body hl rfl (by decide +kernel) (Nat.le_of_ble_eq_true rfl) ?_
  show ev_ l m_X11_refuses 0 0 0 [some (.ref (o)), some (.int (nI c))] [] M _
  refine ev_blk (B := [(.aload_n 0, 1), (.iload_n 1, 1)]) (pe := 2) (ls' := [some (.ref (o)), some (.int (nI c))]) (st' := [.int (nI c), .ref (o)]) ⟨dX11_refuses_0, dX11_refuses_1, rfl⟩ rfl ?_
  refine ev_put F_RX11_106 dX11_refuses_2 hO (Nat.le_of_ble_eq_true rfl) (fun _ _ => ⟨rfl, rfl⟩) ?_
  rw [zs_0]
  refine ev_nm (M0 := M.set (o) (.inr (10, zo o (ui (zi) 0 (nI c)) (zl)))) (fun M1 eM1 => ?_)
  have f2 : M1[o]? = some (.inr (10, zo o (ui (zi) 0 (nI c)) (zl))) := by rw [eM1]; exact ev_sg hO
  refine ev_blk (B := [(.iconst 0, 1)]) (pe := 6) (ls' := [some (.ref (o)), some (.int (nI c))]) (st' := [.int (nI 0)]) ⟨dX11_refuses_5, rfl⟩ rfl ?_
  refine ev_iret dX11_refuses_6 rfl (rfl) ⟨Nat.le_of_ble_eq_true rfl, Nat.le_of_ble_eq_true rfl⟩ ?_
  exact ⟨rfl, eM1⟩

set_option maxHeartbeats 4000000 in
set_option maxRecDepth 100000 in
theorem c_R_isBetween {l : Launch} (hl : l.stackTraces = false) {M : ev_M} (a : Int32) (lo hi : Int32) : ev_Mt l m_X11_isBetween [.int (a), .int (lo), .int (hi)] M (ev_q (.inl (some (.int (ev_b (decide (lo ≤ a ∧ a ≤ hi)))))) M) := by
  refine ev_body hl rfl (by decide +kernel) (Nat.le_of_ble_eq_true rfl) ?_
  show ev_ l m_X11_isBetween 0 0 0 [some (.int (a)), some (.int (lo)), some (.int (hi))] [] M _
  refine ev_blk (B := [(.iload_n 0, 1), (.iload_n 1, 1)]) (pe := 2) (ls' := [some (.int (a)), some (.int (lo)), some (.int (hi))]) (st' := [.int (lo), .int (a)]) ⟨dX11_isBetween_0, dX11_isBetween_1, rfl⟩ rfl ?_
  refine ev_ic_lt dX11_isBetween_2 (tgt := 14) (by decide) (fun q2 => ?_) (fun q2 => ?_)
  · refine ev_blk (B := [(.iconst 0, 1)]) (pe := 15) (ls' := [some (.int (a)), some (.int (lo)), some (.int (hi))]) (st' := [.int (nI 0)]) ⟨dX11_isBetween_14, rfl⟩ rfl ?_
    refine ev_iret dX11_isBetween_15 rfl (rfl) ⟨Nat.le_of_ble_eq_true rfl, Nat.le_of_ble_eq_true rfl⟩ ?_
    have e9 : decide (lo ≤ a ∧ a ≤ hi) = false := decide_eq_false (fun z => Int32.not_lt.mpr z.1 q2)
    rw [e9]
    exact ⟨rfl, rfl⟩
  · refine ev_blk (B := [(.iload_n 0, 1), (.iload_n 2, 1)]) (pe := 7) (ls' := [some (.int (a)), some (.int (lo)), some (.int (hi))]) (st' := [.int (hi), .int (a)]) ⟨dX11_isBetween_5, dX11_isBetween_6, rfl⟩ rfl ?_
    refine ev_ic_gt dX11_isBetween_7 (tgt := 14) (by decide) (fun q7 => ?_) (fun q7 => ?_)
    · refine ev_blk (B := [(.iconst 0, 1)]) (pe := 15) (ls' := [some (.int (a)), some (.int (lo)), some (.int (hi))]) (st' := [.int (nI 0)]) ⟨dX11_isBetween_14, rfl⟩ rfl ?_
      refine ev_iret dX11_isBetween_15 rfl (rfl) ⟨Nat.le_of_ble_eq_true rfl, Nat.le_of_ble_eq_true rfl⟩ ?_
      have e9 : decide (lo ≤ a ∧ a ≤ hi) = false := decide_eq_false (fun z => Int32.not_lt.mpr z.2 q7)
      rw [e9]
      exact ⟨rfl, rfl⟩
    · refine ev_blk (B := [(.iconst 1, 1)]) (pe := 11) (ls' := [some (.int (a)), some (.int (lo)), some (.int (hi))]) (st' := [.int (nI 1)]) ⟨dX11_isBetween_10, rfl⟩ rfl ?_
      refine ev_goto (tgt := 15) dX11_isBetween_11 (by decide) ?_
      refine ev_iret dX11_isBetween_15 rfl (rfl) ⟨Nat.le_of_ble_eq_true rfl, Nat.le_of_ble_eq_true rfl⟩ ?_
      have e9 : decide (lo ≤ a ∧ a ≤ hi) = true := decide_eq_true ⟨Int32.not_lt.mp q2, Int32.not_lt.mp q7⟩
      rw [e9]
      exact ⟨rfl, rfl⟩

set_option maxHeartbeats 4000000 in
set_option maxRecDepth 100000 in
theorem c_R_isState {l : Launch} (hl : l.stackTraces = false) {M : ev_M} (a : Int32) : ev_Mt l m_X11_isState [.int (a)] M (ev_q (.inl (some (.int (ev_b (inR a 6))))) M) := by
  refine ev_body hl rfl (by decide +kernel) (Nat.le_of_ble_eq_true rfl) ?_
  show ev_ l m_X11_isState 0 0 0 [some (.int (a))] [] M _
  refine ev_blk (B := [(.iload_n 0, 1)]) (pe := 1) (ls' := [some (.int (a))]) (st' := [.int (a)]) ⟨dX11_isState_0, rfl⟩ rfl ?_
  refine ev_if_lt dX11_isState_1 (tgt := 14) (by decide) (fun q1 => ?_) (fun q1 => ?_)
  · refine ev_blk (B := [(.iconst 0, 1)]) (pe := 15) (ls' := [some (.int (a))]) (st' := [.int (nI 0)]) ⟨dX11_isState_14, rfl⟩ rfl ?_
    refine ev_iret dX11_isState_15 rfl (rfl) ⟨Nat.le_of_ble_eq_true rfl, Nat.le_of_ble_eq_true rfl⟩ ?_
    have e9 : inR a 6 = false := decide_eq_false (fun q => Int32.not_le.mpr q1 q.1)
    rw [e9]
    exact ⟨rfl, rfl⟩
  · refine ev_blk (B := [(.iload_n 0, 1), (.bipush 6, 2)]) (pe := 7) (ls' := [some (.int (a))]) (st' := [.int (nI 6), .int (a)]) ⟨dX11_isState_4, dX11_isState_5, rfl⟩ rfl ?_
    refine ev_ic_ge dX11_isState_7 (tgt := 14) (by decide) (fun q7 => ?_) (fun q7 => ?_)
    · refine ev_blk (B := [(.iconst 0, 1)]) (pe := 15) (ls' := [some (.int (a))]) (st' := [.int (nI 0)]) ⟨dX11_isState_14, rfl⟩ rfl ?_
      refine ev_iret dX11_isState_15 rfl (rfl) ⟨Nat.le_of_ble_eq_true rfl, Nat.le_of_ble_eq_true rfl⟩ ?_
      have e9 : inR a 6 = false := decide_eq_false (fun q => Int32.not_le.mpr q.2 q7)
      rw [e9]
      exact ⟨rfl, rfl⟩
    · refine ev_blk (B := [(.iconst 1, 1)]) (pe := 11) (ls' := [some (.int (a))]) (st' := [.int (nI 1)]) ⟨dX11_isState_10, rfl⟩ rfl ?_
      refine ev_goto (tgt := 15) dX11_isState_11 (by decide) ?_
      refine ev_iret dX11_isState_15 rfl (rfl) ⟨Nat.le_of_ble_eq_true rfl, Nat.le_of_ble_eq_true rfl⟩ ?_
      have e9 : inR a 6 = true := decide_eq_true ⟨Int32.not_lt.mp q1, Int32.not_le.mp q7⟩
      rw [e9]
      exact ⟨rfl, rfl⟩

set_option maxHeartbeats 4000000 in
set_option maxRecDepth 100000 in
theorem c_R_isLetter {l : Launch} (hl : l.stackTraces = false) {M : ev_M} (a : Int32) : ev_Mt l m_X11_isLetter [.int (a)] M (ev_q (.inl (some (.int (ev_b (inR a 3))))) M) := by
  refine ev_body hl rfl (by decide +kernel) (Nat.le_of_ble_eq_true rfl) ?_
  show ev_ l m_X11_isLetter 0 0 0 [some (.int (a))] [] M _
  refine ev_blk (B := [(.iload_n 0, 1)]) (pe := 1) (ls' := [some (.int (a))]) (st' := [.int (a)]) ⟨dX11_isLetter_0, rfl⟩ rfl ?_
  refine ev_if_lt dX11_isLetter_1 (tgt := 13) (by decide) (fun q1 => ?_) (fun q1 => ?_)
  · refine ev_blk (B := [(.iconst 0, 1)]) (pe := 14) (ls' := [some (.int (a))]) (st' := [.int (nI 0)]) ⟨dX11_isLetter_13, rfl⟩ rfl ?_
    refine ev_iret dX11_isLetter_14 rfl (rfl) ⟨Nat.le_of_ble_eq_true rfl, Nat.le_of_ble_eq_true rfl⟩ ?_
    have e9 : inR a 3 = false := decide_eq_false (fun q => Int32.not_le.mpr q1 q.1)
    rw [e9]
    exact ⟨rfl, rfl⟩
  · refine ev_blk (B := [(.iload_n 0, 1), (.iconst 3, 1)]) (pe := 6) (ls' := [some (.int (a))]) (st' := [.int (nI 3), .int (a)]) ⟨dX11_isLetter_4, dX11_isLetter_5, rfl⟩ rfl ?_
    refine ev_ic_ge dX11_isLetter_6 (tgt := 13) (by decide) (fun q6 => ?_) (fun q6 => ?_)
    · refine ev_blk (B := [(.iconst 0, 1)]) (pe := 14) (ls' := [some (.int (a))]) (st' := [.int (nI 0)]) ⟨dX11_isLetter_13, rfl⟩ rfl ?_
      refine ev_iret dX11_isLetter_14 rfl (rfl) ⟨Nat.le_of_ble_eq_true rfl, Nat.le_of_ble_eq_true rfl⟩ ?_
      have e9 : inR a 3 = false := decide_eq_false (fun q => Int32.not_le.mpr q.2 q6)
      rw [e9]
      exact ⟨rfl, rfl⟩
    · refine ev_blk (B := [(.iconst 1, 1)]) (pe := 10) (ls' := [some (.int (a))]) (st' := [.int (nI 1)]) ⟨dX11_isLetter_9, rfl⟩ rfl ?_
      refine ev_goto (tgt := 14) dX11_isLetter_10 (by decide) ?_
      refine ev_iret dX11_isLetter_14 rfl (rfl) ⟨Nat.le_of_ble_eq_true rfl, Nat.le_of_ble_eq_true rfl⟩ ?_
      have e9 : inR a 3 = true := decide_eq_true ⟨Int32.not_lt.mp q1, Int32.not_le.mp q6⟩
      rw [e9]
      exact ⟨rfl, rfl⟩

set_option maxHeartbeats 4000000 in
set_option maxRecDepth 100000 in
theorem c_R_isChannel {l : Launch} (hl : l.stackTraces = false) {M : ev_M} (a : Int32) : ev_Mt l m_X11_isChannel [.int (a)] M (ev_q (.inl (some (.int (ev_b (inR a 2))))) M) := by
  refine ev_body hl rfl (by decide +kernel) (Nat.le_of_ble_eq_true rfl) ?_
  show ev_ l m_X11_isChannel 0 0 0 [some (.int (a))] [] M _
  refine ev_blk (B := [(.iload_n 0, 1)]) (pe := 1) (ls' := [some (.int (a))]) (st' := [.int (a)]) ⟨dX11_isChannel_0, rfl⟩ rfl ?_
  refine ev_if_eq dX11_isChannel_1 (tgt := 9) (by decide) (fun q1 => ?_) (fun q1 => ?_)
  · refine ev_blk (B := [(.iconst 1, 1)]) (pe := 10) (ls' := [some (.int (a))]) (st' := [.int (nI 1)]) ⟨dX11_isChannel_9, rfl⟩ rfl ?_
    refine ev_goto (tgt := 14) dX11_isChannel_10 (by decide) ?_
    refine ev_iret dX11_isChannel_14 rfl (rfl) ⟨Nat.le_of_ble_eq_true rfl, Nat.le_of_ble_eq_true rfl⟩ ?_
    have e9 : inR a 2 = true := by rw [q1]; decide
    rw [e9]
    exact ⟨rfl, rfl⟩
  · refine ev_blk (B := [(.iload_n 0, 1), (.iconst 1, 1)]) (pe := 6) (ls' := [some (.int (a))]) (st' := [.int (nI 1), .int (a)]) ⟨dX11_isChannel_4, dX11_isChannel_5, rfl⟩ rfl ?_
    refine ev_ic_ne dX11_isChannel_6 (tgt := 13) (by decide) (fun q6 => ?_) (fun q6 => ?_)
    · refine ev_blk (B := [(.iconst 0, 1)]) (pe := 14) (ls' := [some (.int (a))]) (st' := [.int (nI 0)]) ⟨dX11_isChannel_13, rfl⟩ rfl ?_
      refine ev_iret dX11_isChannel_14 rfl (rfl) ⟨Nat.le_of_ble_eq_true rfl, Nat.le_of_ble_eq_true rfl⟩ ?_
      have e9 : inR a 2 = false := by
        rcases inR_c a 2 (by decide) with ⟨k, hk, rfl⟩ | h
        · match k, hk with
          | 0, _ => exact absurd rfl q1
          | 1, _ => exact absurd rfl q6
        · exact h
      rw [e9]
      exact ⟨rfl, rfl⟩
    · refine ev_blk (B := [(.iconst 1, 1)]) (pe := 10) (ls' := [some (.int (a))]) (st' := [.int (nI 1)]) ⟨dX11_isChannel_9, rfl⟩ rfl ?_
      refine ev_goto (tgt := 14) dX11_isChannel_10 (by decide) ?_
      refine ev_iret dX11_isChannel_14 rfl (rfl) ⟨Nat.le_of_ble_eq_true rfl, Nat.le_of_ble_eq_true rfl⟩ ?_
      have e9 : inR a 2 = true := by rw [q6]; decide
      rw [e9]
      exact ⟨rfl, rfl⟩

set_option maxHeartbeats 4000000 in
set_option maxRecDepth 100000 in
theorem c_R_isTransition {l : Launch} (hl : l.stackTraces = false) {M : ev_M} (o : Nat) (zi : Nat → Int32) (zl : Nat → Int64) (hO : M[o]? = some (.inr (10, zo o zi zl))) (n : Nat) (h2 : zi 2 = nI n) (a : Int32) : ev_Mt l m_X11_isTransition [.ref (o), .int (a)] M (ev_q (.inl (some (.int (ev_b (inR a n))))) M) := by
  refine ev_body hl rfl (by decide +kernel) (Nat.le_of_ble_eq_true rfl) ?_
  show ev_ l m_X11_isTransition 0 0 0 [some (.ref (o)), some (.int (a))] [] M _
  refine ev_blk (B := [(.iload_n 1, 1)]) (pe := 1) (ls' := [some (.ref (o)), some (.int (a))]) (st' := [.int (a)]) ⟨dX11_isTransition_0, rfl⟩ rfl ?_
  refine ev_if_lt dX11_isTransition_1 (tgt := 16) (by decide) (fun q1 => ?_) (fun q1 => ?_)
  · refine ev_blk (B := [(.iconst 0, 1)]) (pe := 17) (ls' := [some (.ref (o)), some (.int (a))]) (st' := [.int (nI 0)]) ⟨dX11_isTransition_16, rfl⟩ rfl ?_
    refine ev_iret dX11_isTransition_17 rfl (rfl) ⟨Nat.le_of_ble_eq_true rfl, Nat.le_of_ble_eq_true rfl⟩ ?_
    have e9 : inR a n = false := decide_eq_false (fun q => Int32.not_le.mpr q1 q.1)
    rw [e9]
    exact ⟨rfl, rfl⟩
  · refine ev_blk (B := [(.iload_n 1, 1), (.aload_n 0, 1)]) (pe := 6) (ls' := [some (.ref (o)), some (.int (a))]) (st' := [.ref (o), .int (a)]) ⟨dX11_isTransition_4, dX11_isTransition_5, rfl⟩ rfl ?_
    refine ev_getf (v := .int (nI n)) F_RX11_123 dX11_isTransition_6 hO (congrArg (fun q => some (Value.int q)) h2) ?_
    refine ev_ic_ge dX11_isTransition_9 (tgt := 16) (by decide) (fun q9 => ?_) (fun q9 => ?_)
    · refine ev_blk (B := [(.iconst 0, 1)]) (pe := 17) (ls' := [some (.ref (o)), some (.int (a))]) (st' := [.int (nI 0)]) ⟨dX11_isTransition_16, rfl⟩ rfl ?_
      refine ev_iret dX11_isTransition_17 rfl (rfl) ⟨Nat.le_of_ble_eq_true rfl, Nat.le_of_ble_eq_true rfl⟩ ?_
      have e9 : inR a n = false := decide_eq_false (fun q => Int32.not_le.mpr q.2 q9)
      rw [e9]
      exact ⟨rfl, rfl⟩
    · refine ev_blk (B := [(.iconst 1, 1)]) (pe := 13) (ls' := [some (.ref (o)), some (.int (a))]) (st' := [.int (nI 1)]) ⟨dX11_isTransition_12, rfl⟩ rfl ?_
      refine ev_goto (tgt := 17) dX11_isTransition_13 (by decide) ?_
      refine ev_iret dX11_isTransition_17 rfl (rfl) ⟨Nat.le_of_ble_eq_true rfl, Nat.le_of_ble_eq_true rfl⟩ ?_
      have e9 : inR a n = true := decide_eq_true ⟨Int32.not_lt.mp q1, Int32.not_le.mp q9⟩
      rw [e9]
      exact ⟨rfl, rfl⟩

set_option maxHeartbeats 4000000 in
set_option maxRecDepth 100000 in
theorem c_R_partOf {l : Launch} (hl : l.stackTraces = false) {M : ev_M} (o : Nat) (zi : Nat → Int32) (zl : Nat → Int64) (hO : M[o]? = some (.inr (10, zo o zi zl))) (f : Nat → Int32) (hf : M[o + 1]? = some (.inl (0, 50, .inl f))) (T : List Tr) (hP : RP5 T.length f T) (hT10 : T.length ≤ 10) (t : Nat) (ht : t < T.length) (k : Nat) (hk : k < 5) : ev_Mt l m_X11_partOf [.ref (o), .int (nI t), .int (nI k)] M (ev_q (.inl (some (.int (tp (tg T t) k)))) M) := by
  refine ev_body hl rfl (by decide +kernel) (Nat.le_of_ble_eq_true rfl) ?_
  show ev_ l m_X11_partOf 0 0 0 [some (.ref (o)), some (.int (nI t)), some (.int (nI k))] [] M _
  refine ev_blk (B := [(.aload_n 0, 1)]) (pe := 1) (ls' := [some (.ref (o)), some (.int (nI t)), some (.int (nI k))]) (st' := [.ref (o)]) ⟨dX11_partOf_0, rfl⟩ rfl ?_
  refine ev_getf (v := .ref (o + 1)) F_RX11_7 dX11_partOf_1 hO rfl ?_
  refine ev_blk (B := [(.iconst 5, 1), (.iload_n 1, 1), (.imul, 1), (.iload_n 2, 1), (.iadd, 1)]) (pe := 9) (ls' := [some (.ref (o)), some (.int (nI t)), some (.int (nI k))]) (st' := [.int (nI ((5 * t) + k)), .ref (o + 1)]) ⟨dX11_partOf_4, dX11_partOf_5, dX11_partOf_6, dX11_partOf_7, dX11_partOf_8, rfl⟩ (by show some (([some (.ref (o)), some (.int (nI t)), some (.int (nI k))] : ev_L), ([.int (((nI 5) * (nI t)) + (nI k)), .ref (o + 1)] : List Value)) = _; rw [pk_mul 5 t, nI_add (5 * t) k]) ?_
  refine ev_iald dX11_partOf_9 hf (vp_in_nI (show (5 * t) + k < 50 by omega) (by omega)) ?_
  rw [nI_clamp (show (5 * t) + k < 2 ^ 31 by omega)]
  rw [show f ((5 * t) + k) = tp (tg T t) k from hP t ht k hk]
  refine ev_iret dX11_partOf_10 rfl (rfl) ⟨Nat.le_of_ble_eq_true rfl, Nat.le_of_ble_eq_true rfl⟩ ?_
  exact ⟨rfl, rfl⟩

set_option maxHeartbeats 4000000 in
set_option maxRecDepth 100000 in
theorem c_R_wordOf {l : Launch} (hl : l.stackTraces = false) {M : ev_M} (o : Nat) (zi : Nat → Int32) (zl : Nat → Int64) (hO : M[o]? = some (.inr (10, zo o zi zl))) (x : Cf) (h5 : zl 5 = e2 x.2.1) (h6 : zl 6 = e2 x.2.2) (k : Nat) (hk : k < 2) : ev_Mt l m_X11_wordOf [.ref (o), .int (nI k)] M (ev_q (.inl (some (.long (e2 (cw x k))))) M) := by
  refine ev_body hl rfl (by decide +kernel) (Nat.le_of_ble_eq_true rfl) ?_
  show ev_ l m_X11_wordOf 0 0 0 [some (.ref (o)), some (.int (nI k))] [] M _
  refine ev_blk (B := [(.iload_n 1, 1)]) (pe := 1) (ls' := [some (.ref (o)), some (.int (nI k))]) (st' := [.int (nI k)]) ⟨dX11_wordOf_0, rfl⟩ rfl ?_
  refine ev_fN_ne dX11_wordOf_1 (tgt := 11) (by decide) (by omega) (fun q1 => ?_) (fun q1 => ?_)
  · refine ev_blk (B := [(.aload_n 0, 1)]) (pe := 12) (ls' := [some (.ref (o)), some (.int (nI k))]) (st' := [.ref (o)]) ⟨dX11_wordOf_11, rfl⟩ rfl ?_
    refine ev_getf (v := .long (e2 x.2.2)) F_RX11_163 dX11_wordOf_12 hO (congrArg (fun q => some (Value.long q)) h6) ?_
    refine ev_lret dX11_wordOf_15 rfl ⟨Nat.le_of_ble_eq_true rfl, Nat.le_of_ble_eq_true rfl⟩ ?_
    have e9 : cw x k = x.2.2 := if_neg q1
    rw [e9]
    exact ⟨rfl, rfl⟩
  · refine ev_blk (B := [(.aload_n 0, 1)]) (pe := 5) (ls' := [some (.ref (o)), some (.int (nI k))]) (st' := [.ref (o)]) ⟨dX11_wordOf_4, rfl⟩ rfl ?_
    refine ev_getf (v := .long (e2 x.2.1)) F_RX11_159 dX11_wordOf_5 hO (congrArg (fun q => some (Value.long q)) h5) ?_
    refine ev_goto (tgt := 15) dX11_wordOf_8 (by decide) ?_
    refine ev_lret dX11_wordOf_15 rfl ⟨Nat.le_of_ble_eq_true rfl, Nat.le_of_ble_eq_true rfl⟩ ?_
    have e9 : cw x k = x.2.1 := if_pos q1
    rw [e9]
    exact ⟨rfl, rfl⟩

set_option maxHeartbeats 4000000 in
set_option maxRecDepth 100000 in
theorem c_R_setsWord {l : Launch} (hl : l.stackTraces = false) {M : ev_M} (o : Nat) (zi : Nat → Int32) (zl : Nat → Int64) (hO : M[o]? = some (.inr (10, zo o zi zl))) (k : Nat) (hk : k < 2) (w : List Nat) : ev_Mt l m_X11_setsWord [.ref (o), .int (nI k), .long (e2 w)] M (ev_q (.inl none) (M.set o (.inr (10, zo o (zi) (if k = 0 then ul zl 5 (e2 w) else ul zl 6 (e2 w)))))) := by
  refine ev_body hl rfl (by decide +kernel) (Nat.le_of_ble_eq_true rfl) ?_
  show ev_ l m_X11_setsWord 0 0 0 [some (.ref (o)), some (.int (nI k)), some (.long (e2 w)), none] [] M _
  refine ev_blk (B := [(.iload_n 1, 1)]) (pe := 1) (ls' := [some (.ref (o)), some (.int (nI k)), some (.long (e2 w)), none]) (st' := [.int (nI k)]) ⟨dX11_setsWord_0, rfl⟩ rfl ?_
  refine ev_fN_ne dX11_setsWord_1 (tgt := 12) (by decide) (by omega) (fun q1 => ?_) (fun q1 => ?_)
  · refine ev_blk (B := [(.aload_n 0, 1), (.lload_n 2, 1)]) (pe := 14) (ls' := [some (.ref (o)), some (.int (nI k)), some (.long (e2 w)), none]) (st' := [.long (e2 w), .ref (o)]) ⟨dX11_setsWord_12, dX11_setsWord_13, rfl⟩ rfl ?_
    refine ev_put F_RX11_163 dX11_setsWord_14 hO (Nat.le_of_ble_eq_true rfl) (fun _ _ => ⟨rfl, rfl⟩) ?_
    rw [zs_6]
    refine ev_nm (M0 := M.set (o) (.inr (10, zo o (zi) (ul (zl) 6 (e2 w))))) (fun M1 eM1 => ?_)
    have f2 : M1[o]? = some (.inr (10, zo o (zi) (ul (zl) 6 (e2 w)))) := by rw [eM1]; exact ev_sg hO
    refine ev_vret dX11_setsWord_17 rfl ⟨Nat.le_of_ble_eq_true rfl, Nat.le_of_ble_eq_true rfl⟩ ?_
    refine ⟨rfl, ?_⟩
    rw [if_neg q1]
    exact eM1
  · refine ev_blk (B := [(.aload_n 0, 1), (.lload_n 2, 1)]) (pe := 6) (ls' := [some (.ref (o)), some (.int (nI k)), some (.long (e2 w)), none]) (st' := [.long (e2 w), .ref (o)]) ⟨dX11_setsWord_4, dX11_setsWord_5, rfl⟩ rfl ?_
    refine ev_put F_RX11_159 dX11_setsWord_6 hO (Nat.le_of_ble_eq_true rfl) (fun _ _ => ⟨rfl, rfl⟩) ?_
    rw [zs_5]
    refine ev_nm (M0 := M.set (o) (.inr (10, zo o (zi) (ul (zl) 5 (e2 w))))) (fun M3 eM3 => ?_)
    have f4 : M3[o]? = some (.inr (10, zo o (zi) (ul (zl) 5 (e2 w)))) := by rw [eM3]; exact ev_sg hO
    refine ev_goto (tgt := 17) dX11_setsWord_9 (by decide) ?_
    refine ev_vret dX11_setsWord_17 rfl ⟨Nat.le_of_ble_eq_true rfl, Nat.le_of_ble_eq_true rfl⟩ ?_
    refine ⟨rfl, ?_⟩
    rw [if_pos q1]
    exact eM3

set_option maxHeartbeats 4000000 in
set_option maxRecDepth 100000 in
theorem c_R_takes {l : Launch} (hl : l.stackTraces = false) {M : ev_M} (o : Nat) (zi : Nat → Int32) (zl : Nat → Int64) (hO : M[o]? = some (.inr (10, zo o zi zl))) (x : Cf) : ev_Mt l m_X11_takes [.ref (o), .int (nI (x.1)), .long (e2 x.2.1), .long (e2 x.2.2)] M (fun r M1 => r = .inl none ∧ M1[o]? = some (.inr (10, zo o (ui zi 11 (nI x.1)) (ul (ul zl 13 (e2 x.2.1)) 14 (e2 x.2.2)))) ∧ FX o (o + 1) (o + 1) M M1) := by
  refine ev_body hl rfl (by decide +kernel) (Nat.le_of_ble_eq_true rfl) ?_
  show ev_ l m_X11_takes 0 0 0 [some (.ref (o)), some (.int (nI (x.1))), some (.long (e2 x.2.1)), none, some (.long (e2 x.2.2)), none] [] M _
  refine ev_blk (B := [(.aload_n 0, 1), (.iload_n 1, 1)]) (pe := 2) (ls' := [some (.ref (o)), some (.int (nI (x.1))), some (.long (e2 x.2.1)), none, some (.long (e2 x.2.2)), none]) (st' := [.int (nI (x.1)), .ref (o)]) ⟨dX11_takes_0, dX11_takes_1, rfl⟩ rfl ?_
  refine ev_put F_RX11_179 dX11_takes_2 hO (Nat.le_of_ble_eq_true rfl) (fun _ _ => ⟨rfl, rfl⟩) ?_
  rw [zs_11]
  refine ev_nm (M0 := M.set (o) (.inr (10, zo o (ui (zi) 11 (nI (x.1))) (zl)))) (fun M1 eM1 => ?_)
  have f2 : M1[o]? = some (.inr (10, zo o (ui (zi) 11 (nI (x.1))) (zl))) := by rw [eM1]; exact ev_sg hO
  refine ev_blk (B := [(.aload_n 0, 1), (.lload_n 2, 1)]) (pe := 7) (ls' := [some (.ref (o)), some (.int (nI (x.1))), some (.long (e2 x.2.1)), none, some (.long (e2 x.2.2)), none]) (st' := [.long (e2 x.2.1), .ref (o)]) ⟨dX11_takes_5, dX11_takes_6, rfl⟩ rfl ?_
  refine ev_put F_RX11_182 dX11_takes_7 f2 (Nat.le_of_ble_eq_true rfl) (fun _ _ => ⟨rfl, rfl⟩) ?_
  rw [zs_13]
  refine ev_nm (M0 := M1.set (o) (.inr (10, zo o (ui (zi) 11 (nI (x.1))) (ul (zl) 13 (e2 x.2.1))))) (fun M3 eM3 => ?_)
  have f4 : M3[o]? = some (.inr (10, zo o (ui (zi) 11 (nI (x.1))) (ul (zl) 13 (e2 x.2.1)))) := by rw [eM3]; exact ev_sg f2
  refine ev_blk (B := [(.aload_n 0, 1), (.lload 4, 2)]) (pe := 13) (ls' := [some (.ref (o)), some (.int (nI (x.1))), some (.long (e2 x.2.1)), none, some (.long (e2 x.2.2)), none]) (st' := [.long (e2 x.2.2), .ref (o)]) ⟨dX11_takes_10, dX11_takes_11, rfl⟩ rfl ?_
  refine ev_put F_RX11_185 dX11_takes_13 f4 (Nat.le_of_ble_eq_true rfl) (fun _ _ => ⟨rfl, rfl⟩) ?_
  rw [zs_14]
  refine ev_nm (M0 := M3.set (o) (.inr (10, zo o (ui (zi) 11 (nI (x.1))) (ul (ul (zl) 13 (e2 x.2.1)) 14 (e2 x.2.2))))) (fun M5 eM5 => ?_)
  have f6 : M5[o]? = some (.inr (10, zo o (ui (zi) 11 (nI (x.1))) (ul (ul (zl) 13 (e2 x.2.1)) 14 (e2 x.2.2)))) := by rw [eM5]; exact ev_sg f4
  refine ev_vret dX11_takes_16 rfl ⟨Nat.le_of_ble_eq_true rfl, Nat.le_of_ble_eq_true rfl⟩ ?_
  exact ⟨rfl, f6, ⟨by rw [eM5, eM3, eM1]; simp only [List.length_set], fun j hj1 hj2 => by rw [eM5, ev_sn (by omega), eM3, ev_sn (by omega), eM1, ev_sn (by omega)]⟩⟩

