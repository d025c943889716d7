/-! ===== Config, Configs: cells and what they mean ===== -/
/-- nothing changed but in [lo, hi) -/
def Fr (lo hi : Nat) (M M1 : ev_M) : Prop := M1.length = M.length ∧ ∀ j, (j < lo ∨ hi ≤ j) → M1[j]? = M[j]?
theorem Fr.rf {lo hi : Nat} {M : ev_M} : Fr lo hi M M := ⟨rfl, fun _ _ => rfl⟩
theorem Fr.tr {lo hi : Nat} {M M1 M2 : ev_M} (h1 : Fr lo hi M M1) (h2 : Fr lo hi M1 M2) : Fr lo hi M M2 := ⟨h2.1.trans h1.1, fun j hj => (h2.2 j hj).trans (h1.2 j hj)⟩
theorem Fr.to {lo hi lo' hi' : Nat} {M M1 : ev_M} (h : Fr lo hi M M1) (h1 : lo' ≤ lo) (h2 : hi ≤ hi') : Fr lo' hi' M M1 := ⟨h.1, fun j hj => h.2 j (by omega)⟩
/-- a Config at c -/
def RF (M : ev_M) (c : Nat) (x : Cf) : Prop := M[c]? = some (.inr (1, [.int (nI x.1), .long (e1 x.2.1), .long (e1 x.2.2)]))
theorem RF.kept {M M1 : ev_M} {c : Nat} {x : Cf} (h : RF M c x) (hk : M1[c]? = M[c]?) : RF M1 c x := hk.trans h
/-- a Configs at o, its rows behind it -/
def RC (M : ev_M) (o cap n : Nat) (f : Nat → Int32) (g h : Nat → Int64) : Prop := M[o]? = some (.inr (2, [.ref (o + 1), .ref (o + 2), .ref (o + 3), .int (nI n)])) ∧ M[o + 1]? = some (.inl (0, cap, .inl f)) ∧ M[o + 2]? = some (.inl (1, cap, .inr (.inl g))) ∧ M[o + 3]? = some (.inl (1, cap, .inr (.inl h)))
def RP (n : Nat) (f : Nat → Int32) (g h : Nat → Int64) (L : List Cf) : Prop := ∀ i, i < n → f i = nI (cg L i).1 ∧ g i = e1 (cg L i).2.1 ∧ h i = e1 (cg L i).2.2
def RQ (M : ev_M) (o cap : Nat) (L : List Cf) : Prop := cap < 2000 ∧ L.length ≤ cap ∧ ∃ f g h, RC M o cap L.length f g h ∧ RP L.length f g h L
theorem RC.kept {M M1 : ev_M} {o cap n : Nat} {f : Nat → Int32} {g h : Nat → Int64} (hR : RC M o cap n f g h) (hk : ∀ j, o ≤ j → j < o + 4 → M1[j]? = M[j]?) : RC M1 o cap n f g h :=
  ⟨(hk o (by omega) (by omega)).trans hR.1, (hk _ (by omega) (by omega)).trans hR.2.1, (hk _ (by omega) (by omega)).trans hR.2.2.1, (hk _ (by omega) (by omega)).trans hR.2.2.2⟩
theorem RQ.kept {M M1 : ev_M} {o cap : Nat} {L : List Cf} (hR : RQ M o cap L) (hk : ∀ j, o ≤ j → j < o + 4 → M1[j]? = M[j]?) : RQ M1 o cap L := by
  obtain ⟨h1, h2, f, g, h, h3, h4⟩ := hR
  exact ⟨h1, h2, f, g, h, h3.kept hk, h4⟩
theorem RQ.fr {lo hi : Nat} {M M1 : ev_M} {o cap : Nat} {L : List Cf} (hR : RQ M o cap L) (hf : Fr lo hi M M1) (hd : o + 4 ≤ lo ∨ hi ≤ o) : RQ M1 o cap L := hR.kept fun j h1 h2 => hf.2 j (by omega)
theorem RF.fr {lo hi : Nat} {M M1 : ev_M} {c : Nat} {x : Cf} (hR : RF M c x) (hf : Fr lo hi M M1) (hd : c < lo ∨ hi ≤ c) : RF M1 c x := hR.kept (hf.2 c hd)
theorem RQ.obj {M : ev_M} {o cap : Nat} {L : List Cf} (hR : RQ M o cap L) : M[o]? = some (.inr (2, [.ref (o + 1), .ref (o + 2), .ref (o + 3), .int (nI L.length)])) := by
  obtain ⟨_, _, f, g, h, h3, _⟩ := hR
  exact h3.1
theorem upd_at {f : Nat → Int32} {k i : Nat} {x : Int32} : upd f k x i = if i = k then x else f i := rfl
theorem updL_at {f : Nat → Int64} {k i : Nat} {x : Int64} : vp_updL f k x i = if i = k then x else f i := rfl
theorem RP.set {n k : Nat} {f : Nat → Int32} {g h : Nat → Int64} {L : List Cf} {x : Cf} (hP : RP n f g h L) (hk : k < L.length) (hn : n ≤ L.length) : RP n (upd f k (nI x.1)) (vp_updL g k (e1 x.2.1)) (vp_updL h k (e1 x.2.2)) (L.set k x) := by
  intro i hi
  rw [upd_at, updL_at, updL_at]
  by_cases e : i = k
  · subst e
    rw [if_pos rfl, if_pos rfl, if_pos rfl]
    have : cg (L.set i x) i = x := by
      rw [cg_get (by rw [List.length_set]; exact hk)]
      exact List.getElem_set_self _
    rw [this]; exact ⟨rfl, rfl, rfl⟩
  · rw [if_neg e, if_neg e, if_neg e]
    have : cg (L.set k x) i = cg L i := by
      rw [cg_get (by rw [List.length_set]; omega), cg_get (by omega)]
      exact List.getElem_set_ne (fun q => e q.symm) _
    rw [this]; exact hP i hi
theorem RP.push {f : Nat → Int32} {g h : Nat → Int64} {L : List Cf} {x : Cf} (hP : RP L.length f g h L) : RP (L ++ [x]).length (upd f L.length (nI x.1)) (vp_updL g L.length (e1 x.2.1)) (vp_updL h L.length (e1 x.2.2)) (L ++ [x]) := by
  intro i hi
  rw [List.length_append, List.length_singleton] at hi
  rw [upd_at, updL_at, updL_at]
  by_cases e : i = L.length
  · subst e
    rw [if_pos rfl, if_pos rfl, if_pos rfl]
    have : cg (L ++ [x]) L.length = x := cg_app_r (i := 0)
    rw [this]; exact ⟨rfl, rfl, rfl⟩
  · rw [if_neg e, if_neg e, if_neg e, cg_app_l (by omega)]
    exact hP i (by omega)
theorem RP.sub {n m : Nat} {f : Nat → Int32} {g h : Nat → Int64} {L L' : List Cf} (hP : RP n f g h L) (hm : m ≤ n) (he : ∀ i, i < m → cg L' i = cg L i) : RP m f g h L' := fun i hi => by rw [he i hi]; exact hP i (by omega)
theorem cg_dropLast {L : List Cf} {i : Nat} (h : i < L.dropLast.length) : cg L.dropLast i = cg L i := by
  rw [cg_get h, cg_get (by rw [List.length_dropLast] at h; omega), List.getElem_dropLast]
theorem cg_tail {L : List Cf} {i : Nat} : cg L.tail i = cg L (i + 1) := by
  unfold cg
  rw [List.getD_eq_getElem?_getD, List.getD_eq_getElem?_getD, List.getElem?_tail]
theorem cg_take {L : List Cf} {i n : Nat} (h : i < n) : cg (L.take n) i = cg L i := by
  unfold cg
  rw [List.getD_eq_getElem?_getD, List.getD_eq_getElem?_getD, List.getElem?_take_of_lt h]
set_option maxHeartbeats 4000000 in
set_option maxRecDepth 100000 in
theorem c_X1_word0 {l : Launch} (hl : l.stackTraces = false) {M : ev_M} (c : Nat) (x : Cf) (hF : RF M c x) : ev_Mt l m_X1_word [.ref (c), .int (nI 0)] M (ev_q (.inl (some (.long (e1 x.2.1)))) M) := by
  refine ev_body hl rfl (by decide +kernel) (Nat.le_of_ble_eq_true rfl) ?_
  show ev_ l m_X1_word 0 0 0 [some (.ref (c)), some (.int (nI 0))] [] M _
  refine ev_blk (B := [(.iload_n 1, 1)]) (pe := 1) (ls' := [some (.ref (c)), some (.int (nI 0))]) (st' := [.int (nI 0)]) ⟨dX1_word_0, rfl⟩ rfl ?_
  refine ev_fN_ne dX1_word_1 (tgt := 11) (by decide) (by omega) (fun h1 => ?_) (fun h1 => ?_)
  · exact absurd h1 (by decide)
  · refine ev_blk (B := [(.aload_n 0, 1)]) (pe := 5) (ls' := [some (.ref (c)), some (.int (nI 0))]) (st' := [.ref (c)]) ⟨dX1_word_4, rfl⟩ rfl ?_
    refine ev_getf (v := .long (e1 x.2.1)) F_RX1_15 dX1_word_5 hF rfl ?_
    refine ev_goto (tgt := 15) dX1_word_8 (by decide) ?_
    refine ev_lret dX1_word_15 rfl ⟨Nat.le_of_ble_eq_true rfl, Nat.le_of_ble_eq_true rfl⟩ ?_
    exact ⟨rfl, rfl⟩

set_option maxHeartbeats 4000000 in
set_option maxRecDepth 100000 in
theorem c_X1_word1 {l : Launch} (hl : l.stackTraces = false) {M : ev_M} (c : Nat) (x : Cf) (hF : RF M c x) : ev_Mt l m_X1_word [.ref (c), .int (nI 1)] M (ev_q (.inl (some (.long (e1 x.2.2)))) M) := by
  refine ev_body hl rfl (by decide +kernel) (Nat.le_of_ble_eq_true rfl) ?_
  show ev_ l m_X1_word 0 0 0 [some (.ref (c)), some (.int (nI 1))] [] M _
  refine ev_blk (B := [(.iload_n 1, 1)]) (pe := 1) (ls' := [some (.ref (c)), some (.int (nI 1))]) (st' := [.int (nI 1)]) ⟨dX1_word_0, rfl⟩ rfl ?_
  refine ev_fN_ne dX1_word_1 (tgt := 11) (by decide) (by omega) (fun h1 => ?_) (fun h1 => ?_)
  · refine ev_blk (B := [(.aload_n 0, 1)]) (pe := 12) (ls' := [some (.ref (c)), some (.int (nI 1))]) (st' := [.ref (c)]) ⟨dX1_word_11, rfl⟩ rfl ?_
    refine ev_getf (v := .long (e1 x.2.2)) F_RX1_19 dX1_word_12 hF rfl ?_
    refine ev_lret dX1_word_15 rfl ⟨Nat.le_of_ble_eq_true rfl, Nat.le_of_ble_eq_true rfl⟩ ?_
    exact ⟨rfl, rfl⟩
  · exact absurd h1 (by decide)

def cw (x : Cf) (ch : Nat) : List Nat := if ch = 0 then x.2.1 else x.2.2
def cset (x : Cf) (ch : Nat) (w : List Nat) : Cf := if ch = 0 then (x.1, w, x.2.2) else (x.1, x.2.1, w)
theorem c_X1_word {l : Launch} (hl : l.stackTraces = false) {M : ev_M} (c : Nat) (x : Cf) (hF : RF M c x) (ch : Nat) (hch : ch < 2) : ev_Mt l m_X1_word [.ref c, .int (nI ch)] M (ev_q (.inl (some (.long (e1 (cw x ch))))) M) := by
  match ch, hch with
  | 0, _ => exact c_X1_word0 hl c x hF
  | 1, _ => exact c_X1_word1 hl c x hF
set_option maxHeartbeats 4000000 in
set_option maxRecDepth 100000 in
theorem c_X1_setWord0 {l : Launch} (hl : l.stackTraces = false) {M : ev_M} (c : Nat) (x : Cf) (hF : RF M c x) (w : List Nat) : ev_Mt l m_X1_setWord [.ref (c), .int (nI 0), .long (e1 w)] M (fun r M1 => r = .inl none ∧ RF M1 c (x.1, w, x.2.2) ∧ Fr c (c + 1) M M1) := by
  refine ev_body hl rfl (by decide +kernel) (Nat.le_of_ble_eq_true rfl) ?_
  show ev_ l m_X1_setWord 0 0 0 [some (.ref (c)), some (.int (nI 0)), some (.long (e1 w)), none] [] M _
  refine ev_blk (B := [(.iload_n 1, 1)]) (pe := 1) (ls' := [some (.ref (c)), some (.int (nI 0)), some (.long (e1 w)), none]) (st' := [.int (nI 0)]) ⟨dX1_setWord_0, rfl⟩ rfl ?_
  refine ev_fN_ne dX1_setWord_1 (tgt := 12) (by decide) (by omega) (fun h1 => ?_) (fun h1 => ?_)
  · exact absurd h1 (by decide)
  · refine ev_blk (B := [(.aload_n 0, 1), (.lload_n 2, 1)]) (pe := 6) (ls' := [some (.ref (c)), some (.int (nI 0)), some (.long (e1 w)), none]) (st' := [.long (e1 w), .ref (c)]) ⟨dX1_setWord_4, dX1_setWord_5, rfl⟩ rfl ?_
    refine ev_put F_RX1_15 dX1_setWord_6 hF (Nat.le_of_ble_eq_true rfl) (fun _ _ => ⟨rfl, rfl⟩) ?_
    refine ev_nm (M0 := M.set (c) (.inr (1, [.int (nI (x.1)), .long (e1 w), .long (e1 x.2.2)]))) (fun M2 eM2 => ?_)
    have f3 : M2[c]? = some (.inr (1, [.int (nI (x.1)), .long (e1 w), .long (e1 x.2.2)])) := by rw [eM2]; exact ev_sg hF
    refine ev_goto (tgt := 17) dX1_setWord_9 (by decide) ?_
    refine ev_vret dX1_setWord_17 rfl ⟨Nat.le_of_ble_eq_true rfl, Nat.le_of_ble_eq_true rfl⟩ ?_
    exact ⟨rfl, f3, ⟨by rw [eM2]; simp only [List.length_set], fun j hj => by rw [eM2, ev_sn (by omega)]⟩⟩

set_option maxHeartbeats 4000000 in
set_option maxRecDepth 100000 in
theorem c_X1_setWord1 {l : Launch} (hl : l.stackTraces = false) {M : ev_M} (c : Nat) (x : Cf) (hF : RF M c x) (w : List Nat) : ev_Mt l m_X1_setWord [.ref (c), .int (nI 1), .long (e1 w)] M (fun r M1 => r = .inl none ∧ RF M1 c (x.1, x.2.1, w) ∧ Fr c (c + 1) M M1) := by
  refine ev_body hl rfl (by decide +kernel) (Nat.le_of_ble_eq_true rfl) ?_
  show ev_ l m_X1_setWord 0 0 0 [some (.ref (c)), some (.int (nI 1)), some (.long (e1 w)), none] [] M _
  refine ev_blk (B := [(.iload_n 1, 1)]) (pe := 1) (ls' := [some (.ref (c)), some (.int (nI 1)), some (.long (e1 w)), none]) (st' := [.int (nI 1)]) ⟨dX1_setWord_0, rfl⟩ rfl ?_
  refine ev_fN_ne dX1_setWord_1 (tgt := 12) (by decide) (by omega) (fun h1 => ?_) (fun h1 => ?_)
  · refine ev_blk (B := [(.aload_n 0, 1), (.lload_n 2, 1)]) (pe := 14) (ls' := [some (.ref (c)), some (.int (nI 1)), some (.long (e1 w)), none]) (st' := [.long (e1 w), .ref (c)]) ⟨dX1_setWord_12, dX1_setWord_13, rfl⟩ rfl ?_
    refine ev_put F_RX1_19 dX1_setWord_14 hF (Nat.le_of_ble_eq_true rfl) (fun _ _ => ⟨rfl, rfl⟩) ?_
    refine ev_nm (M0 := M.set (c) (.inr (1, [.int (nI (x.1)), .long (e1 x.2.1), .long (e1 w)]))) (fun M2 eM2 => ?_)
    have f3 : M2[c]? = some (.inr (1, [.int (nI (x.1)), .long (e1 x.2.1), .long (e1 w)])) := by rw [eM2]; exact ev_sg hF
    refine ev_vret dX1_setWord_17 rfl ⟨Nat.le_of_ble_eq_true rfl, Nat.le_of_ble_eq_true rfl⟩ ?_
    exact ⟨rfl, f3, ⟨by rw [eM2]; simp only [List.length_set], fun j hj => by rw [eM2, ev_sn (by omega)]⟩⟩
  · exact absurd h1 (by decide)

theorem c_X1_setWord {l : Launch} (hl : l.stackTraces = false) {M : ev_M} (c : Nat) (x : Cf) (hF : RF M c x) (ch : Nat) (hch : ch < 2) (w : List Nat) : ev_Mt l m_X1_setWord [.ref c, .int (nI ch), .long (e1 w)] M (fun r M1 => r = .inl none ∧ RF M1 c (cset x ch w) ∧ Fr c (c + 1) M M1) := by
  match ch, hch with
  | 0, _ => exact c_X1_setWord0 hl c x hF w
  | 1, _ => exact c_X1_setWord1 hl c x hF w
set_option maxHeartbeats 4000000 in
set_option maxRecDepth 100000 in
theorem c_X1_copyFrom {l : Launch} (hl : l.stackTraces = false) {M : ev_M} (c : Nat) (x : Cf) (hF : RF M c x) (d : Nat) (y : Cf) (hG : RF M d y) (hcd : c ≠ d) : ev_Mt l m_X1_copyFrom [.ref (c), .ref (d)] M (fun r M1 => r = .inl none ∧ RF M1 c y ∧ Fr c (c + 1) M M1) := by
  refine ev_body hl rfl (by decide +kernel) (Nat.le_of_ble_eq_true rfl) ?_
  show ev_ l m_X1_copyFrom 0 0 0 [some (.ref (c)), some (.ref (d))] [] M _
  refine ev_blk (B := [(.aload_n 0, 1), (.aload_n 1, 1)]) (pe := 2) (ls' := [some (.ref (c)), some (.ref (d))]) (st' := [.ref (d), .ref (c)]) ⟨dX1_copyFrom_0, dX1_copyFrom_1, rfl⟩ rfl ?_
  refine ev_getf (v := .int (nI (y.1))) F_RX1_7 dX1_copyFrom_2 hG rfl ?_
  refine ev_put F_RX1_7 dX1_copyFrom_5 hF (Nat.le_of_ble_eq_true rfl) (fun _ _ => ⟨rfl, rfl⟩) ?_
  refine ev_nm (M0 := M.set (c) (.inr (1, [.int (nI (y.1)), .long (e1 x.2.1), .long (e1 x.2.2)]))) (fun M1 eM1 => ?_)
  have f2 : M1[c]? = some (.inr (1, [.int (nI (y.1)), .long (e1 x.2.1), .long (e1 x.2.2)])) := by rw [eM1]; exact ev_sg hF
  have f3 : M1[d]? = some (.inr (1, [.int (nI (y.1)), .long (e1 y.2.1), .long (e1 y.2.2)])) := by rw [eM1, ev_sn (by omega)]; exact hG
  refine ev_blk (B := [(.aload_n 0, 1), (.aload_n 1, 1)]) (pe := 10) (ls' := [some (.ref (c)), some (.ref (d))]) (st' := [.ref (d), .ref (c)]) ⟨dX1_copyFrom_8, dX1_copyFrom_9, rfl⟩ rfl ?_
  refine ev_getf (v := .long (e1 y.2.1)) F_RX1_15 dX1_copyFrom_10 f3 rfl ?_
  refine ev_put F_RX1_15 dX1_copyFrom_13 f2 (Nat.le_of_ble_eq_true rfl) (fun _ _ => ⟨rfl, rfl⟩) ?_
  refine ev_nm (M0 := M1.set (c) (.inr (1, [.int (nI (y.1)), .long (e1 y.2.1), .long (e1 x.2.2)]))) (fun M4 eM4 => ?_)
  have f5 : M4[c]? = some (.inr (1, [.int (nI (y.1)), .long (e1 y.2.1), .long (e1 x.2.2)])) := by rw [eM4]; exact ev_sg f2
  have f6 : M4[d]? = some (.inr (1, [.int (nI (y.1)), .long (e1 y.2.1), .long (e1 y.2.2)])) := by rw [eM4, ev_sn (by omega)]; exact f3
  refine ev_blk (B := [(.aload_n 0, 1), (.aload_n 1, 1)]) (pe := 18) (ls' := [some (.ref (c)), some (.ref (d))]) (st' := [.ref (d), .ref (c)]) ⟨dX1_copyFrom_16, dX1_copyFrom_17, rfl⟩ rfl ?_
  refine ev_getf (v := .long (e1 y.2.2)) F_RX1_19 dX1_copyFrom_18 f6 rfl ?_
  refine ev_put F_RX1_19 dX1_copyFrom_21 f5 (Nat.le_of_ble_eq_true rfl) (fun _ _ => ⟨rfl, rfl⟩) ?_
  refine ev_nm (M0 := M4.set (c) (.inr (1, [.int (nI (y.1)), .long (e1 y.2.1), .long (e1 y.2.2)]))) (fun M7 eM7 => ?_)
  have f8 : M7[c]? = some (.inr (1, [.int (nI (y.1)), .long (e1 y.2.1), .long (e1 y.2.2)])) := by rw [eM7]; exact ev_sg f5
  have f9 : M7[d]? = some (.inr (1, [.int (nI (y.1)), .long (e1 y.2.1), .long (e1 y.2.2)])) := by rw [eM7, ev_sn (by omega)]; exact f6
  refine ev_vret dX1_copyFrom_24 rfl ⟨Nat.le_of_ble_eq_true rfl, Nat.le_of_ble_eq_true rfl⟩ ?_
  exact ⟨rfl, f8, ⟨by rw [eM7, eM4, eM1]; simp only [List.length_set], fun j hj => by rw [eM7, ev_sn (by omega), eM4, ev_sn (by omega), eM1, ev_sn (by omega)]⟩⟩

set_option maxHeartbeats 4000000 in
set_option maxRecDepth 100000 in
theorem c_X2_size {l : Launch} (hl : l.stackTraces = false) {M : ev_M} (o cap : Nat) (L : List Cf) (hR : RQ M o cap L) : ev_Mt l m_X2_size [.ref (o)] M (ev_q (.inl (some (.int (nI L.length)))) M) := by
  obtain ⟨hcap, hlen, f, g, h, ⟨hC0, hC1, hC2, hC3⟩, hP⟩ := hR
  refine ev_body hl rfl (by decide +kernel) (Nat.le_of_ble_eq_true rfl) ?_
  show ev_ l m_X2_size 0 0 0 [some (.ref (o))] [] M _
  refine ev_blk (B := [(.aload_n 0, 1)]) (pe := 1) (ls' := [some (.ref (o))]) (st' := [.ref (o)]) ⟨dX2_size_0, rfl⟩ rfl ?_
  refine ev_getf (v := .int (nI (L.length))) F_RX2_26 dX2_size_1 hC0 rfl ?_
  refine ev_iret dX2_size_4 rfl (rfl) ⟨Nat.le_of_ble_eq_true rfl, Nat.le_of_ble_eq_true rfl⟩ ?_
  exact ⟨rfl, rfl⟩

set_option maxHeartbeats 4000000 in
set_option maxRecDepth 100000 in
theorem c_X2_hasN {l : Launch} (hl : l.stackTraces = false) {M : ev_M} (o cap : Nat) (n : Nat) (f : Nat → Int32) (g h : Nat → Int64) (hR : RC M o cap n f g h) (hn : n < 2000) (i : Nat) (hi : i < 2 ^ 31) : ev_Mt l m_X2_has [.ref (o), .int (nI i)] M (ev_q (.inl (some (.int (ev_b (decide (i < n)))))) M) := by
  obtain ⟨hC0, hC1, hC2, hC3⟩ := hR
  refine ev_body hl rfl (by decide +kernel) (Nat.le_of_ble_eq_true rfl) ?_
  show ev_ l m_X2_has 0 0 0 [some (.ref (o)), some (.int (nI i))] [] M _
  refine ev_blk (B := [(.iload_n 1, 1)]) (pe := 1) (ls' := [some (.ref (o)), some (.int (nI i))]) (st' := [.int (nI i)]) ⟨dX2_has_0, rfl⟩ rfl ?_
  refine ev_fN_lt dX2_has_1 (tgt := 16) (by decide) (by omega) ?_
  refine ev_blk (B := [(.iload_n 1, 1), (.aload_n 0, 1)]) (pe := 6) (ls' := [some (.ref (o)), some (.int (nI i))]) (st' := [.ref (o), .int (nI i)]) ⟨dX2_has_4, dX2_has_5, rfl⟩ rfl ?_
  refine ev_getf (v := .int (nI n)) F_RX2_26 dX2_has_6 hC0 rfl ?_
  refine ev_iN_ge dX2_has_9 (tgt := 16) (by decide) (by omega) (by omega) (fun h2 => ?_) (fun h2 => ?_)
  · refine ev_blk (B := [(.iconst 0, 1)]) (pe := 17) (ls' := [some (.ref (o)), some (.int (nI i))]) (st' := [.int (nI 0)]) ⟨dX2_has_16, rfl⟩ rfl ?_
    refine ev_iret dX2_has_17 rfl (rfl) ⟨Nat.le_of_ble_eq_true rfl, Nat.le_of_ble_eq_true rfl⟩ ?_
    exact ev_q_e (by rw [decide_eq_false (by omega)]; rfl)
  · refine ev_blk (B := [(.iconst 1, 1)]) (pe := 13) (ls' := [some (.ref (o)), some (.int (nI i))]) (st' := [.int (nI 1)]) ⟨dX2_has_12, rfl⟩ rfl ?_
    refine ev_goto (tgt := 17) dX2_has_13 (by decide) ?_
    refine ev_iret dX2_has_17 rfl (rfl) ⟨Nat.le_of_ble_eq_true rfl, Nat.le_of_ble_eq_true rfl⟩ ?_
    exact ev_q_e (by rw [decide_eq_true (by omega)]; rfl)

set_option maxHeartbeats 4000000 in
set_option maxRecDepth 100000 in
theorem c_X2_stateAt {l : Launch} (hl : l.stackTraces = false) {M : ev_M} (o cap : Nat) (L : List Cf) (hR : RQ M o cap L) (i : Nat) (hi : i < L.length) : ev_Mt l m_X2_stateAt [.ref (o), .int (nI i)] M (ev_q (.inl (some (.int (nI (cg L i).1)))) M) := by
  obtain ⟨hcap, hlen, f, g, h, ⟨hC0, hC1, hC2, hC3⟩, hP⟩ := hR
  refine ev_body hl rfl (by decide +kernel) (Nat.le_of_ble_eq_true rfl) ?_
  show ev_ l m_X2_stateAt 0 0 0 [some (.ref (o)), some (.int (nI i))] [] M _
  refine ev_blk (B := [(.aload_n 0, 1), (.iload_n 1, 1)]) (pe := 2) (ls' := [some (.ref (o)), some (.int (nI i))]) (st' := [.int (nI i), .ref (o)]) ⟨dX2_stateAt_0, dX2_stateAt_1, rfl⟩ rfl ?_
  refine ev_cVv Y_X2_has L_RX2_30 dX2_stateAt_2 ⟨Nat.le_of_ble_eq_true rfl, Nat.le_of_ble_eq_true rfl, Nat.le_of_ble_eq_true rfl, Nat.le_of_ble_eq_true rfl, Nat.le_of_ble_eq_true rfl⟩ hC0 (as := [.int (nI i)]) rfl rfl (c_X2_hasN hl _ _ _ _ _ _ ⟨hC0, hC1, hC2, hC3⟩ (by omega) (i) (by omega)) ?_
  refine ev_ifB_eq dX2_stateAt_5 (tgt := 17) (by decide) (fun h1 => ?_) (fun h1 => ?_)
  · exact absurd h1 (by rw [decide_eq_true hi]; decide)
  · refine ev_blk (B := [(.aload_n 0, 1)]) (pe := 9) (ls' := [some (.ref (o)), some (.int (nI i))]) (st' := [.ref (o)]) ⟨dX2_stateAt_8, rfl⟩ rfl ?_
    refine ev_getf (v := .ref (o + 1)) F_RX2_13 dX2_stateAt_9 hC0 rfl ?_
    refine ev_blk (B := [(.iload_n 1, 1)]) (pe := 13) (ls' := [some (.ref (o)), some (.int (nI i))]) (st' := [.int (nI i), .ref (o + 1)]) ⟨dX2_stateAt_12, rfl⟩ rfl ?_
    refine ev_iald dX2_stateAt_13 hC1 (vp_in_nI (show i < cap by omega) (by omega)) ?_
    rw [nI_clamp (show i < 2 ^ 31 by omega)]
    rw [show f i = nI ((cg L i).1) from (hP i hi).1]
    refine ev_goto (tgt := 18) dX2_stateAt_14 (by decide) ?_
    refine ev_iret dX2_stateAt_18 rfl (rfl) ⟨Nat.le_of_ble_eq_true rfl, Nat.le_of_ble_eq_true rfl⟩ ?_
    exact ⟨rfl, rfl⟩

set_option maxHeartbeats 4000000 in
set_option maxRecDepth 100000 in
theorem c_X2_wordAt0 {l : Launch} (hl : l.stackTraces = false) {M : ev_M} (o cap : Nat) (L : List Cf) (hR : RQ M o cap L) (i : Nat) (hi : i < L.length) : ev_Mt l m_X2_wordAt [.ref (o), .int (nI i), .int (nI 0)] M (ev_q (.inl (some (.long (e1 (cg L i).2.1)))) M) := by
  obtain ⟨hcap, hlen, f, g, h, ⟨hC0, hC1, hC2, hC3⟩, hP⟩ := hR
  refine ev_body hl rfl (by decide +kernel) (Nat.le_of_ble_eq_true rfl) ?_
  show ev_ l m_X2_wordAt 0 0 0 [some (.ref (o)), some (.int (nI i)), some (.int (nI 0))] [] M _
  refine ev_blk (B := [(.aload_n 0, 1), (.iload_n 1, 1)]) (pe := 2) (ls' := [some (.ref (o)), some (.int (nI i)), some (.int (nI 0))]) (st' := [.int (nI i), .ref (o)]) ⟨dX2_wordAt_0, dX2_wordAt_1, rfl⟩ rfl ?_
  refine ev_cVv Y_X2_has L_RX2_30 dX2_wordAt_2 ⟨Nat.le_of_ble_eq_true rfl, Nat.le_of_ble_eq_true rfl, Nat.le_of_ble_eq_true rfl, Nat.le_of_ble_eq_true rfl, Nat.le_of_ble_eq_true rfl⟩ hC0 (as := [.int (nI i)]) rfl rfl (c_X2_hasN hl _ _ _ _ _ _ ⟨hC0, hC1, hC2, hC3⟩ (by omega) (i) (by omega)) ?_
  refine ev_ifB_ne dX2_wordAt_5 (tgt := 10) (by decide) (fun h1 => ?_) (fun h1 => ?_)
  · refine ev_blk (B := [(.iload_n 2, 1)]) (pe := 11) (ls' := [some (.ref (o)), some (.int (nI i)), some (.int (nI 0))]) (st' := [.int (nI 0)]) ⟨dX2_wordAt_10, rfl⟩ rfl ?_
    refine ev_fN_ne dX2_wordAt_11 (tgt := 23) (by decide) (by omega) (fun h2 => ?_) (fun h2 => ?_)
    · exact absurd h2 (by decide)
    · refine ev_blk (B := [(.aload_n 0, 1)]) (pe := 15) (ls' := [some (.ref (o)), some (.int (nI i)), some (.int (nI 0))]) (st' := [.ref (o)]) ⟨dX2_wordAt_14, rfl⟩ rfl ?_
      refine ev_getf (v := .ref (o + 2)) F_RX2_19 dX2_wordAt_15 hC0 rfl ?_
      refine ev_blk (B := [(.iload_n 1, 1)]) (pe := 19) (ls' := [some (.ref (o)), some (.int (nI i)), some (.int (nI 0))]) (st' := [.int (nI i), .ref (o + 2)]) ⟨dX2_wordAt_18, rfl⟩ rfl ?_
      refine ev_lald dX2_wordAt_19 hC2 (vp_in_nI (show i < cap by omega) (by omega)) ?_
      rw [nI_clamp (show i < 2 ^ 31 by omega)]
      rw [show g i = e1 (cg L i).2.1 from (hP i hi).2.1]
      refine ev_goto (tgt := 29) dX2_wordAt_20 (by decide) ?_
      refine ev_lret dX2_wordAt_29 rfl ⟨Nat.le_of_ble_eq_true rfl, Nat.le_of_ble_eq_true rfl⟩ ?_
      exact ⟨rfl, rfl⟩
  · exact absurd h1 (by rw [decide_eq_true hi]; decide)

set_option maxHeartbeats 4000000 in
set_option maxRecDepth 100000 in
theorem c_X2_wordAt1 {l : Launch} (hl : l.stackTraces = false) {M : ev_M} (o cap : Nat) (L : List Cf) (hR : RQ M o cap L) (i : Nat) (hi : i < L.length) : ev_Mt l m_X2_wordAt [.ref (o), .int (nI i), .int (nI 1)] M (ev_q (.inl (some (.long (e1 (cg L i).2.2)))) M) := by
  obtain ⟨hcap, hlen, f, g, h, ⟨hC0, hC1, hC2, hC3⟩, hP⟩ := hR
  refine ev_body hl rfl (by decide +kernel) (Nat.le_of_ble_eq_true rfl) ?_
  show ev_ l m_X2_wordAt 0 0 0 [some (.ref (o)), some (.int (nI i)), some (.int (nI 1))] [] M _
  refine ev_blk (B := [(.aload_n 0, 1), (.iload_n 1, 1)]) (pe := 2) (ls' := [some (.ref (o)), some (.int (nI i)), some (.int (nI 1))]) (st' := [.int (nI i), .ref (o)]) ⟨dX2_wordAt_0, dX2_wordAt_1, rfl⟩ rfl ?_
  refine ev_cVv Y_X2_has L_RX2_30 dX2_wordAt_2 ⟨Nat.le_of_ble_eq_true rfl, Nat.le_of_ble_eq_true rfl, Nat.le_of_ble_eq_true rfl, Nat.le_of_ble_eq_true rfl, Nat.le_of_ble_eq_true rfl⟩ hC0 (as := [.int (nI i)]) rfl rfl (c_X2_hasN hl _ _ _ _ _ _ ⟨hC0, hC1, hC2, hC3⟩ (by omega) (i) (by omega)) ?_
  refine ev_ifB_ne dX2_wordAt_5 (tgt := 10) (by decide) (fun h1 => ?_) (fun h1 => ?_)
  · refine ev_blk (B := [(.iload_n 2, 1)]) (pe := 11) (ls' := [some (.ref (o)), some (.int (nI i)), some (.int (nI 1))]) (st' := [.int (nI 1)]) ⟨dX2_wordAt_10, rfl⟩ rfl ?_
    refine ev_fN_ne dX2_wordAt_11 (tgt := 23) (by decide) (by omega) (fun h2 => ?_) (fun h2 => ?_)
    · refine ev_blk (B := [(.aload_n 0, 1)]) (pe := 24) (ls' := [some (.ref (o)), some (.int (nI i)), some (.int (nI 1))]) (st' := [.ref (o)]) ⟨dX2_wordAt_23, rfl⟩ rfl ?_
      refine ev_getf (v := .ref (o + 3)) F_RX2_23 dX2_wordAt_24 hC0 rfl ?_
      refine ev_blk (B := [(.iload_n 1, 1)]) (pe := 28) (ls' := [some (.ref (o)), some (.int (nI i)), some (.int (nI 1))]) (st' := [.int (nI i), .ref (o + 3)]) ⟨dX2_wordAt_27, rfl⟩ rfl ?_
      refine ev_lald dX2_wordAt_28 hC3 (vp_in_nI (show i < cap by omega) (by omega)) ?_
      rw [nI_clamp (show i < 2 ^ 31 by omega)]
      rw [show h i = e1 (cg L i).2.2 from (hP i hi).2.2]
      refine ev_lret dX2_wordAt_29 rfl ⟨Nat.le_of_ble_eq_true rfl, Nat.le_of_ble_eq_true rfl⟩ ?_
      exact ⟨rfl, rfl⟩
    · exact absurd h2 (by decide)
  · exact absurd h1 (by rw [decide_eq_true hi]; decide)

theorem c_X2_wordAt {l : Launch} (hl : l.stackTraces = false) {M : ev_M} (o cap : Nat) (L : List Cf) (hR : RQ M o cap L) (i : Nat) (hi : i < L.length) (ch : Nat) (hch : ch < 2) : ev_Mt l m_X2_wordAt [.ref o, .int (nI i), .int (nI ch)] M (ev_q (.inl (some (.long (e1 (cw (cg L i) ch))))) M) := by
  match ch, hch with
  | 0, _ => exact c_X2_wordAt0 hl o cap L hR i hi
  | 1, _ => exact c_X2_wordAt1 hl o cap L hR i hi
set_option maxHeartbeats 4000000 in
set_option maxRecDepth 100000 in
theorem c_X2_load {l : Launch} (hl : l.stackTraces = false) {M : ev_M} (o cap : Nat) (L : List Cf) (hR : RQ M o cap L) (i : Nat) (hi : i < 2 ^ 31) (c : Nat) (x : Cf) (hF : RF M c x) (hco : c < o ∨ o + 4 ≤ c) (hi2 : i < L.length) : ev_Mt l m_X2_load [.ref (o), .int (nI i), .ref (c)] M (fun r M1 => r = .inl none ∧ RF M1 c (cg L i) ∧ Fr c (c + 1) M M1) := by
  obtain ⟨hcap, hlen, f, g, h, ⟨hC0, hC1, hC2, hC3⟩, hP⟩ := hR
  refine ev_body hl rfl (by decide +kernel) (Nat.le_of_ble_eq_true rfl) ?_
  show ev_ l m_X2_load 0 0 0 [some (.ref (o)), some (.int (nI i)), some (.ref (c))] [] M _
  refine ev_blk (B := [(.aload_n 0, 1), (.iload_n 1, 1)]) (pe := 2) (ls' := [some (.ref (o)), some (.int (nI i)), some (.ref (c))]) (st' := [.int (nI i), .ref (o)]) ⟨dX2_load_0, dX2_load_1, rfl⟩ rfl ?_
  refine ev_cVv Y_X2_has L_RX2_30 dX2_load_2 ⟨Nat.le_of_ble_eq_true rfl, Nat.le_of_ble_eq_true rfl, Nat.le_of_ble_eq_true rfl, Nat.le_of_ble_eq_true rfl, Nat.le_of_ble_eq_true rfl⟩ hC0 (as := [.int (nI i)]) rfl rfl (c_X2_hasN hl _ _ _ _ _ _ ⟨hC0, hC1, hC2, hC3⟩ (by omega) (i) (by omega)) ?_
  refine ev_ifB_eq dX2_load_5 (tgt := 38) (by decide) (fun h1 => ?_) (fun h1 => ?_)
  · exact absurd h1 (by rw [decide_eq_true hi2]; decide)
  · refine ev_blk (B := [(.aload_n 2, 1), (.aload_n 0, 1)]) (pe := 10) (ls' := [some (.ref (o)), some (.int (nI i)), some (.ref (c))]) (st' := [.ref (o), .ref (c)]) ⟨dX2_load_8, dX2_load_9, rfl⟩ rfl ?_
    refine ev_getf (v := .ref (o + 1)) F_RX2_13 dX2_load_10 hC0 rfl ?_
    refine ev_blk (B := [(.iload_n 1, 1)]) (pe := 14) (ls' := [some (.ref (o)), some (.int (nI i)), some (.ref (c))]) (st' := [.int (nI i), .ref (o + 1), .ref (c)]) ⟨dX2_load_13, rfl⟩ rfl ?_
    refine ev_iald dX2_load_14 hC1 (vp_in_nI (show i < cap by omega) (by omega)) ?_
    rw [nI_clamp (show i < 2 ^ 31 by omega)]
    rw [show f i = nI ((cg L i).1) from (hP i hi2).1]
    refine ev_put F_RX2_36 dX2_load_15 hF (Nat.le_of_ble_eq_true rfl) (fun _ _ => ⟨rfl, rfl⟩) ?_
    refine ev_nm (M0 := M.set (c) (.inr (1, [.int (nI ((cg L i).1)), .long (e1 x.2.1), .long (e1 x.2.2)]))) (fun M2 eM2 => ?_)
    have f3 : M2[o]? = some (.inr (2, [.ref (o + 1), .ref (o + 2), .ref (o + 3), .int (nI (L.length))])) := by rw [eM2, ev_sn (by omega)]; exact hC0
    have f4 : M2[o + 1]? = some (.inl (0, cap, .inl (f))) := by rw [eM2, ev_sn (by omega)]; exact hC1
    have f5 : M2[o + 2]? = some (.inl (1, cap, .inr (.inl (g)))) := by rw [eM2, ev_sn (by omega)]; exact hC2
    have f6 : M2[o + 3]? = some (.inl (1, cap, .inr (.inl (h)))) := by rw [eM2, ev_sn (by omega)]; exact hC3
    have f7 : M2[c]? = some (.inr (1, [.int (nI ((cg L i).1)), .long (e1 x.2.1), .long (e1 x.2.2)])) := by rw [eM2]; exact ev_sg hF
    refine ev_blk (B := [(.aload_n 2, 1), (.aload_n 0, 1)]) (pe := 20) (ls' := [some (.ref (o)), some (.int (nI i)), some (.ref (c))]) (st' := [.ref (o), .ref (c)]) ⟨dX2_load_18, dX2_load_19, rfl⟩ rfl ?_
    refine ev_getf (v := .ref (o + 2)) F_RX2_19 dX2_load_20 f3 rfl ?_
    refine ev_blk (B := [(.iload_n 1, 1)]) (pe := 24) (ls' := [some (.ref (o)), some (.int (nI i)), some (.ref (c))]) (st' := [.int (nI i), .ref (o + 2), .ref (c)]) ⟨dX2_load_23, rfl⟩ rfl ?_
    refine ev_lald dX2_load_24 f5 (vp_in_nI (show i < cap by omega) (by omega)) ?_
    rw [nI_clamp (show i < 2 ^ 31 by omega)]
    rw [show g i = e1 (cg L i).2.1 from (hP i hi2).2.1]
    refine ev_put F_RX2_41 dX2_load_25 f7 (Nat.le_of_ble_eq_true rfl) (fun _ _ => ⟨rfl, rfl⟩) ?_
    refine ev_nm (M0 := M2.set (c) (.inr (1, [.int (nI ((cg L i).1)), .long (e1 (cg L i).2.1), .long (e1 x.2.2)]))) (fun M8 eM8 => ?_)
    have f9 : M8[o]? = some (.inr (2, [.ref (o + 1), .ref (o + 2), .ref (o + 3), .int (nI (L.length))])) := by rw [eM8, ev_sn (by omega)]; exact f3
    have f10 : M8[o + 1]? = some (.inl (0, cap, .inl (f))) := by rw [eM8, ev_sn (by omega)]; exact f4
    have f11 : M8[o + 2]? = some (.inl (1, cap, .inr (.inl (g)))) := by rw [eM8, ev_sn (by omega)]; exact f5
    have f12 : M8[o + 3]? = some (.inl (1, cap, .inr (.inl (h)))) := by rw [eM8, ev_sn (by omega)]; exact f6
    have f13 : M8[c]? = some (.inr (1, [.int (nI ((cg L i).1)), .long (e1 (cg L i).2.1), .long (e1 x.2.2)])) := by rw [eM8]; exact ev_sg f7
    refine ev_blk (B := [(.aload_n 2, 1), (.aload_n 0, 1)]) (pe := 30) (ls' := [some (.ref (o)), some (.int (nI i)), some (.ref (c))]) (st' := [.ref (o), .ref (c)]) ⟨dX2_load_28, dX2_load_29, rfl⟩ rfl ?_
    refine ev_getf (v := .ref (o + 3)) F_RX2_23 dX2_load_30 f9 rfl ?_
    refine ev_blk (B := [(.iload_n 1, 1)]) (pe := 34) (ls' := [some (.ref (o)), some (.int (nI i)), some (.ref (c))]) (st' := [.int (nI i), .ref (o + 3), .ref (c)]) ⟨dX2_load_33, rfl⟩ rfl ?_
    refine ev_lald dX2_load_34 f12 (vp_in_nI (show i < cap by omega) (by omega)) ?_
    rw [nI_clamp (show i < 2 ^ 31 by omega)]
    rw [show h i = e1 (cg L i).2.2 from (hP i hi2).2.2]
    refine ev_put F_RX2_45 dX2_load_35 f13 (Nat.le_of_ble_eq_true rfl) (fun _ _ => ⟨rfl, rfl⟩) ?_
    refine ev_nm (M0 := M8.set (c) (.inr (1, [.int (nI ((cg L i).1)), .long (e1 (cg L i).2.1), .long (e1 (cg L i).2.2)]))) (fun M14 eM14 => ?_)
    have f15 : M14[o]? = some (.inr (2, [.ref (o + 1), .ref (o + 2), .ref (o + 3), .int (nI (L.length))])) := by rw [eM14, ev_sn (by omega)]; exact f9
    have f16 : M14[o + 1]? = some (.inl (0, cap, .inl (f))) := by rw [eM14, ev_sn (by omega)]; exact f10
    have f17 : M14[o + 2]? = some (.inl (1, cap, .inr (.inl (g)))) := by rw [eM14, ev_sn (by omega)]; exact f11
    have f18 : M14[o + 3]? = some (.inl (1, cap, .inr (.inl (h)))) := by rw [eM14, ev_sn (by omega)]; exact f12
    have f19 : M14[c]? = some (.inr (1, [.int (nI ((cg L i).1)), .long (e1 (cg L i).2.1), .long (e1 (cg L i).2.2)])) := by rw [eM14]; exact ev_sg f13
    refine ev_vret dX2_load_38 rfl ⟨Nat.le_of_ble_eq_true rfl, Nat.le_of_ble_eq_true rfl⟩ ?_
    exact ⟨rfl, f19, ⟨by rw [eM14, eM8, eM2]; simp only [List.length_set], fun j hj => by rw [eM14, ev_sn (by omega), eM8, ev_sn (by omega), eM2, ev_sn (by omega)]⟩⟩

set_option maxHeartbeats 4000000 in
set_option maxRecDepth 100000 in
theorem c_X2_loadN {l : Launch} (hl : l.stackTraces = false) {M : ev_M} (o cap : Nat) (L : List Cf) (hR : RQ M o cap L) (i : Nat) (hi : i < 2 ^ 31) (c : Nat) (x : Cf) (hF : RF M c x) (hco : c < o ∨ o + 4 ≤ c) (hi2 : L.length ≤ i) : ev_Mt l m_X2_load [.ref (o), .int (nI i), .ref (c)] M (ev_q (.inl none) M) := by
  obtain ⟨hcap, hlen, f, g, h, ⟨hC0, hC1, hC2, hC3⟩, hP⟩ := hR
  refine ev_body hl rfl (by decide +kernel) (Nat.le_of_ble_eq_true rfl) ?_
  show ev_ l m_X2_load 0 0 0 [some (.ref (o)), some (.int (nI i)), some (.ref (c))] [] M _
  refine ev_blk (B := [(.aload_n 0, 1), (.iload_n 1, 1)]) (pe := 2) (ls' := [some (.ref (o)), some (.int (nI i)), some (.ref (c))]) (st' := [.int (nI i), .ref (o)]) ⟨dX2_load_0, dX2_load_1, rfl⟩ rfl ?_
  refine ev_cVv Y_X2_has L_RX2_30 dX2_load_2 ⟨Nat.le_of_ble_eq_true rfl, Nat.le_of_ble_eq_true rfl, Nat.le_of_ble_eq_true rfl, Nat.le_of_ble_eq_true rfl, Nat.le_of_ble_eq_true rfl⟩ hC0 (as := [.int (nI i)]) rfl rfl (c_X2_hasN hl _ _ _ _ _ _ ⟨hC0, hC1, hC2, hC3⟩ (by omega) (i) (by omega)) ?_
  refine ev_ifB_eq dX2_load_5 (tgt := 38) (by decide) (fun h1 => ?_) (fun h1 => ?_)
  · refine ev_vret dX2_load_38 rfl ⟨Nat.le_of_ble_eq_true rfl, Nat.le_of_ble_eq_true rfl⟩ ?_
    exact ⟨rfl, rfl⟩
  · exact absurd h1 (by rw [decide_eq_false (by omega)]; decide)

set_option maxHeartbeats 4000000 in
set_option maxRecDepth 100000 in
theorem c_X2_store {l : Launch} (hl : l.stackTraces = false) {M : ev_M} (o cap n : Nat) (f : Nat → Int32) (g h : Nat → Int64) (hR : RC M o cap n f g h) (hn : n ≤ cap) (hcap : cap < 2000) (i : Nat) (hi : i < cap) (c : Nat) (x : Cf) (hF : RF M c x) (hco : c < o ∨ o + 4 ≤ c) : ev_Mt l m_X2_store [.ref (o), .int (nI i), .ref (c)] M (fun r M1 => r = .inl none ∧ RC M1 o cap n (upd f i (nI x.1)) (vp_updL g i (e1 x.2.1)) (vp_updL h i (e1 x.2.2)) ∧ Fr o (o + 4) M M1) := by
  obtain ⟨hC0, hC1, hC2, hC3⟩ := hR
  refine ev_body hl rfl (by decide +kernel) (Nat.le_of_ble_eq_true rfl) ?_
  show ev_ l m_X2_store 0 0 0 [some (.ref (o)), some (.int (nI i)), some (.ref (c))] [] M _
  refine ev_blk (B := [(.iload_n 1, 1)]) (pe := 1) (ls' := [some (.ref (o)), some (.int (nI i)), some (.ref (c))]) (st' := [.int (nI i)]) ⟨dX2_store_0, rfl⟩ rfl ?_
  refine ev_fN_lt dX2_store_1 (tgt := 43) (by decide) (by omega) ?_
  refine ev_blk (B := [(.iload_n 1, 1), (.aload_n 0, 1)]) (pe := 6) (ls' := [some (.ref (o)), some (.int (nI i)), some (.ref (c))]) (st' := [.ref (o), .int (nI i)]) ⟨dX2_store_4, dX2_store_5, rfl⟩ rfl ?_
  refine ev_getf (v := .ref (o + 1)) F_RX2_13 dX2_store_6 hC0 rfl ?_
  refine ev_alen (v := nI (cap)) dX2_store_9 hC1 (by decide) rfl ?_
  refine ev_iN_ge dX2_store_10 (tgt := 43) (by decide) (by omega) (by omega) (fun h2 => ?_) (fun h2 => ?_)
  · exfalso; omega
  · refine ev_blk (B := [(.aload_n 0, 1)]) (pe := 14) (ls' := [some (.ref (o)), some (.int (nI i)), some (.ref (c))]) (st' := [.ref (o)]) ⟨dX2_store_13, rfl⟩ rfl ?_
    refine ev_getf (v := .ref (o + 1)) F_RX2_13 dX2_store_14 hC0 rfl ?_
    refine ev_blk (B := [(.iload_n 1, 1), (.aload_n 2, 1)]) (pe := 19) (ls' := [some (.ref (o)), some (.int (nI i)), some (.ref (c))]) (st' := [.ref (c), .int (nI i), .ref (o + 1)]) ⟨dX2_store_17, dX2_store_18, rfl⟩ rfl ?_
    refine ev_getf (v := .int (nI (x.1))) F_RX2_36 dX2_store_19 hF rfl ?_
    refine ev_iast dX2_store_22 hC1 (vp_in_nI (show i < cap by omega) (by omega)) ?_
    rw [nI_clamp (show i < 2 ^ 31 by omega)]
    refine ev_nm (M0 := M.set (o + 1) (.inl (0, cap, .inl (upd f i (nI (x.1)))))) (fun M3 eM3 => ?_)
    have f4 : M3[o]? = some (.inr (2, [.ref (o + 1), .ref (o + 2), .ref (o + 3), .int (nI n)])) := by rw [eM3, ev_sn (by omega)]; exact hC0
    have f5 : M3[o + 1]? = some (.inl (0, cap, .inl (upd f i (nI (x.1))))) := by rw [eM3]; exact ev_sg hC1
    have f6 : M3[o + 2]? = some (.inl (1, cap, .inr (.inl (g)))) := by rw [eM3, ev_sn (by omega)]; exact hC2
    have f7 : M3[o + 3]? = some (.inl (1, cap, .inr (.inl (h)))) := by rw [eM3, ev_sn (by omega)]; exact hC3
    have f8 : M3[c]? = some (.inr (1, [.int (nI (x.1)), .long (e1 x.2.1), .long (e1 x.2.2)])) := by rw [eM3, ev_sn (by omega)]; exact hF
    refine ev_blk (B := [(.aload_n 0, 1)]) (pe := 24) (ls' := [some (.ref (o)), some (.int (nI i)), some (.ref (c))]) (st' := [.ref (o)]) ⟨dX2_store_23, rfl⟩ rfl ?_
    refine ev_getf (v := .ref (o + 2)) F_RX2_19 dX2_store_24 f4 rfl ?_
    refine ev_blk (B := [(.iload_n 1, 1), (.aload_n 2, 1)]) (pe := 29) (ls' := [some (.ref (o)), some (.int (nI i)), some (.ref (c))]) (st' := [.ref (c), .int (nI i), .ref (o + 2)]) ⟨dX2_store_27, dX2_store_28, rfl⟩ rfl ?_
    refine ev_getf (v := .long (e1 x.2.1)) F_RX2_41 dX2_store_29 f8 rfl ?_
    refine ev_last dX2_store_32 f6 (vp_in_nI (show i < cap by omega) (by omega)) ?_
    rw [nI_clamp (show i < 2 ^ 31 by omega)]
    refine ev_nm (M0 := M3.set (o + 2) (.inl (1, cap, .inr (.inl (vp_updL g i (e1 x.2.1)))))) (fun M9 eM9 => ?_)
    have f10 : M9[o]? = some (.inr (2, [.ref (o + 1), .ref (o + 2), .ref (o + 3), .int (nI n)])) := by rw [eM9, ev_sn (by omega)]; exact f4
    have f11 : M9[o + 1]? = some (.inl (0, cap, .inl (upd f i (nI (x.1))))) := by rw [eM9, ev_sn (by omega)]; exact f5
    have f12 : M9[o + 2]? = some (.inl (1, cap, .inr (.inl (vp_updL g i (e1 x.2.1))))) := by rw [eM9]; exact ev_sg f6
    have f13 : M9[o + 3]? = some (.inl (1, cap, .inr (.inl (h)))) := by rw [eM9, ev_sn (by omega)]; exact f7
    have f14 : M9[c]? = some (.inr (1, [.int (nI (x.1)), .long (e1 x.2.1), .long (e1 x.2.2)])) := by rw [eM9, ev_sn (by omega)]; exact f8
    refine ev_blk (B := [(.aload_n 0, 1)]) (pe := 34) (ls' := [some (.ref (o)), some (.int (nI i)), some (.ref (c))]) (st' := [.ref (o)]) ⟨dX2_store_33, rfl⟩ rfl ?_
    refine ev_getf (v := .ref (o + 3)) F_RX2_23 dX2_store_34 f10 rfl ?_
    refine ev_blk (B := [(.iload_n 1, 1), (.aload_n 2, 1)]) (pe := 39) (ls' := [some (.ref (o)), some (.int (nI i)), some (.ref (c))]) (st' := [.ref (c), .int (nI i), .ref (o + 3)]) ⟨dX2_store_37, dX2_store_38, rfl⟩ rfl ?_
    refine ev_getf (v := .long (e1 x.2.2)) F_RX2_45 dX2_store_39 f14 rfl ?_
    refine ev_last dX2_store_42 f13 (vp_in_nI (show i < cap by omega) (by omega)) ?_
    rw [nI_clamp (show i < 2 ^ 31 by omega)]
    refine ev_nm (M0 := M9.set (o + 3) (.inl (1, cap, .inr (.inl (vp_updL h i (e1 x.2.2)))))) (fun M15 eM15 => ?_)
    have f16 : M15[o]? = some (.inr (2, [.ref (o + 1), .ref (o + 2), .ref (o + 3), .int (nI n)])) := by rw [eM15, ev_sn (by omega)]; exact f10
    have f17 : M15[o + 1]? = some (.inl (0, cap, .inl (upd f i (nI (x.1))))) := by rw [eM15, ev_sn (by omega)]; exact f11
    have f18 : M15[o + 2]? = some (.inl (1, cap, .inr (.inl (vp_updL g i (e1 x.2.1))))) := by rw [eM15, ev_sn (by omega)]; exact f12
    have f19 : M15[o + 3]? = some (.inl (1, cap, .inr (.inl (vp_updL h i (e1 x.2.2))))) := by rw [eM15]; exact ev_sg f13
    have f20 : M15[c]? = some (.inr (1, [.int (nI (x.1)), .long (e1 x.2.1), .long (e1 x.2.2)])) := by rw [eM15, ev_sn (by omega)]; exact f14
    refine ev_vret dX2_store_43 rfl ⟨Nat.le_of_ble_eq_true rfl, Nat.le_of_ble_eq_true rfl⟩ ?_
    exact ⟨rfl, ⟨f16, f17, f18, f19⟩, ⟨by rw [eM15, eM9, eM3]; simp only [List.length_set], fun j hj => by rw [eM15, ev_sn (by omega), eM9, ev_sn (by omega), eM3, ev_sn (by omega)]⟩⟩

set_option maxHeartbeats 4000000 in
set_option maxRecDepth 100000 in
theorem c_X2_move {l : Launch} (hl : l.stackTraces = false) {M : ev_M} (o cap n : Nat) (f : Nat → Int32) (g h : Nat → Int64) (hR : RC M o cap n f g h) (hn : n ≤ cap) (hcap : cap < 2000) (i k : Nat) (hi : i < n) (hk : k < n) : ev_Mt l m_X2_move [.ref (o), .int (nI i), .int (nI k)] M (fun r M1 => r = .inl none ∧ RC M1 o cap n (upd f k (f i)) (vp_updL g k (g i)) (vp_updL h k (h i)) ∧ Fr o (o + 4) M M1) := by
  obtain ⟨hC0, hC1, hC2, hC3⟩ := hR
  refine ev_body hl rfl (by decide +kernel) (Nat.le_of_ble_eq_true rfl) ?_
  show ev_ l m_X2_move 0 0 0 [some (.ref (o)), some (.int (nI i)), some (.int (nI k))] [] M _
  refine ev_blk (B := [(.iload_n 1, 1)]) (pe := 1) (ls' := [some (.ref (o)), some (.int (nI i)), some (.int (nI k))]) (st' := [.int (nI i)]) ⟨dX2_move_0, rfl⟩ rfl ?_
  refine ev_fN_lt dX2_move_1 (tgt := 60) (by decide) (by omega) ?_
  refine ev_blk (B := [(.iload_n 1, 1), (.aload_n 0, 1)]) (pe := 6) (ls' := [some (.ref (o)), some (.int (nI i)), some (.int (nI k))]) (st' := [.ref (o), .int (nI i)]) ⟨dX2_move_4, dX2_move_5, rfl⟩ rfl ?_
  refine ev_getf (v := .int (nI n)) F_RX2_26 dX2_move_6 hC0 rfl ?_
  refine ev_iN_ge dX2_move_9 (tgt := 60) (by decide) (by omega) (by omega) (fun h2 => ?_) (fun h2 => ?_)
  · exfalso; omega
  · refine ev_blk (B := [(.iload_n 2, 1)]) (pe := 13) (ls' := [some (.ref (o)), some (.int (nI i)), some (.int (nI k))]) (st' := [.int (nI k)]) ⟨dX2_move_12, rfl⟩ rfl ?_
    refine ev_fN_lt dX2_move_13 (tgt := 60) (by decide) (by omega) ?_
    refine ev_blk (B := [(.iload_n 2, 1), (.aload_n 0, 1)]) (pe := 18) (ls' := [some (.ref (o)), some (.int (nI i)), some (.int (nI k))]) (st' := [.ref (o), .int (nI k)]) ⟨dX2_move_16, dX2_move_17, rfl⟩ rfl ?_
    refine ev_getf (v := .int (nI n)) F_RX2_26 dX2_move_18 hC0 rfl ?_
    refine ev_iN_ge dX2_move_21 (tgt := 60) (by decide) (by omega) (by omega) (fun h4 => ?_) (fun h4 => ?_)
    · exfalso; omega
    · refine ev_blk (B := [(.aload_n 0, 1)]) (pe := 25) (ls' := [some (.ref (o)), some (.int (nI i)), some (.int (nI k))]) (st' := [.ref (o)]) ⟨dX2_move_24, rfl⟩ rfl ?_
      refine ev_getf (v := .ref (o + 1)) F_RX2_13 dX2_move_25 hC0 rfl ?_
      refine ev_blk (B := [(.iload_n 2, 1), (.aload_n 0, 1)]) (pe := 30) (ls' := [some (.ref (o)), some (.int (nI i)), some (.int (nI k))]) (st' := [.ref (o), .int (nI k), .ref (o + 1)]) ⟨dX2_move_28, dX2_move_29, rfl⟩ rfl ?_
      refine ev_getf (v := .ref (o + 1)) F_RX2_13 dX2_move_30 hC0 rfl ?_
      refine ev_blk (B := [(.iload_n 1, 1)]) (pe := 34) (ls' := [some (.ref (o)), some (.int (nI i)), some (.int (nI k))]) (st' := [.int (nI i), .ref (o + 1), .int (nI k), .ref (o + 1)]) ⟨dX2_move_33, rfl⟩ rfl ?_
      refine ev_iald dX2_move_34 hC1 (vp_in_nI (show i < cap by omega) (by omega)) ?_
      rw [nI_clamp (show i < 2 ^ 31 by omega)]
      refine ev_iast dX2_move_35 hC1 (vp_in_nI (show k < cap by omega) (by omega)) ?_
      rw [nI_clamp (show k < 2 ^ 31 by omega)]
      refine ev_nm (M0 := M.set (o + 1) (.inl (0, cap, .inl (upd f k (f i))))) (fun M5 eM5 => ?_)
      have f6 : M5[o]? = some (.inr (2, [.ref (o + 1), .ref (o + 2), .ref (o + 3), .int (nI n)])) := by rw [eM5, ev_sn (by omega)]; exact hC0
      have f7 : M5[o + 1]? = some (.inl (0, cap, .inl (upd f k (f i)))) := by rw [eM5]; exact ev_sg hC1
      have f8 : M5[o + 2]? = some (.inl (1, cap, .inr (.inl (g)))) := by rw [eM5, ev_sn (by omega)]; exact hC2
      have f9 : M5[o + 3]? = some (.inl (1, cap, .inr (.inl (h)))) := by rw [eM5, ev_sn (by omega)]; exact hC3
      refine ev_blk (B := [(.aload_n 0, 1)]) (pe := 37) (ls' := [some (.ref (o)), some (.int (nI i)), some (.int (nI k))]) (st' := [.ref (o)]) ⟨dX2_move_36, rfl⟩ rfl ?_
      refine ev_getf (v := .ref (o + 2)) F_RX2_19 dX2_move_37 f6 rfl ?_
      refine ev_blk (B := [(.iload_n 2, 1), (.aload_n 0, 1)]) (pe := 42) (ls' := [some (.ref (o)), some (.int (nI i)), some (.int (nI k))]) (st' := [.ref (o), .int (nI k), .ref (o + 2)]) ⟨dX2_move_40, dX2_move_41, rfl⟩ rfl ?_
      refine ev_getf (v := .ref (o + 2)) F_RX2_19 dX2_move_42 f6 rfl ?_
      refine ev_blk (B := [(.iload_n 1, 1)]) (pe := 46) (ls' := [some (.ref (o)), some (.int (nI i)), some (.int (nI k))]) (st' := [.int (nI i), .ref (o + 2), .int (nI k), .ref (o + 2)]) ⟨dX2_move_45, rfl⟩ rfl ?_
      refine ev_lald dX2_move_46 f8 (vp_in_nI (show i < cap by omega) (by omega)) ?_
      rw [nI_clamp (show i < 2 ^ 31 by omega)]
      refine ev_last dX2_move_47 f8 (vp_in_nI (show k < cap by omega) (by omega)) ?_
      rw [nI_clamp (show k < 2 ^ 31 by omega)]
      refine ev_nm (M0 := M5.set (o + 2) (.inl (1, cap, .inr (.inl (vp_updL g k (g i)))))) (fun M10 eM10 => ?_)
      have f11 : M10[o]? = some (.inr (2, [.ref (o + 1), .ref (o + 2), .ref (o + 3), .int (nI n)])) := by rw [eM10, ev_sn (by omega)]; exact f6
      have f12 : M10[o + 1]? = some (.inl (0, cap, .inl (upd f k (f i)))) := by rw [eM10, ev_sn (by omega)]; exact f7
      have f13 : M10[o + 2]? = some (.inl (1, cap, .inr (.inl (vp_updL g k (g i))))) := by rw [eM10]; exact ev_sg f8
      have f14 : M10[o + 3]? = some (.inl (1, cap, .inr (.inl (h)))) := by rw [eM10, ev_sn (by omega)]; exact f9
      refine ev_blk (B := [(.aload_n 0, 1)]) (pe := 49) (ls' := [some (.ref (o)), some (.int (nI i)), some (.int (nI k))]) (st' := [.ref (o)]) ⟨dX2_move_48, rfl⟩ rfl ?_
      refine ev_getf (v := .ref (o + 3)) F_RX2_23 dX2_move_49 f11 rfl ?_
      refine ev_blk (B := [(.iload_n 2, 1), (.aload_n 0, 1)]) (pe := 54) (ls' := [some (.ref (o)), some (.int (nI i)), some (.int (nI k))]) (st' := [.ref (o), .int (nI k), .ref (o + 3)]) ⟨dX2_move_52, dX2_move_53, rfl⟩ rfl ?_
      refine ev_getf (v := .ref (o + 3)) F_RX2_23 dX2_move_54 f11 rfl ?_
      refine ev_blk (B := [(.iload_n 1, 1)]) (pe := 58) (ls' := [some (.ref (o)), some (.int (nI i)), some (.int (nI k))]) (st' := [.int (nI i), .ref (o + 3), .int (nI k), .ref (o + 3)]) ⟨dX2_move_57, rfl⟩ rfl ?_
      refine ev_lald dX2_move_58 f14 (vp_in_nI (show i < cap by omega) (by omega)) ?_
      rw [nI_clamp (show i < 2 ^ 31 by omega)]
      refine ev_last dX2_move_59 f14 (vp_in_nI (show k < cap by omega) (by omega)) ?_
      rw [nI_clamp (show k < 2 ^ 31 by omega)]
      refine ev_nm (M0 := M10.set (o + 3) (.inl (1, cap, .inr (.inl (vp_updL h k (h i)))))) (fun M15 eM15 => ?_)
      have f16 : M15[o]? = some (.inr (2, [.ref (o + 1), .ref (o + 2), .ref (o + 3), .int (nI n)])) := by rw [eM15, ev_sn (by omega)]; exact f11
      have f17 : M15[o + 1]? = some (.inl (0, cap, .inl (upd f k (f i)))) := by rw [eM15, ev_sn (by omega)]; exact f12
      have f18 : M15[o + 2]? = some (.inl (1, cap, .inr (.inl (vp_updL g k (g i))))) := by rw [eM15, ev_sn (by omega)]; exact f13
      have f19 : M15[o + 3]? = some (.inl (1, cap, .inr (.inl (vp_updL h k (h i))))) := by rw [eM15]; exact ev_sg f14
      refine ev_vret dX2_move_60 rfl ⟨Nat.le_of_ble_eq_true rfl, Nat.le_of_ble_eq_true rfl⟩ ?_
      exact ⟨rfl, ⟨f16, f17, f18, f19⟩, ⟨by rw [eM15, eM10, eM5]; simp only [List.length_set], fun j hj => by rw [eM15, ev_sn (by omega), eM10, ev_sn (by omega), eM5, ev_sn (by omega)]⟩⟩

set_option maxHeartbeats 4000000 in
set_option maxRecDepth 100000 in
theorem c_X2_removeAll {l : Launch} (hl : l.stackTraces = false) {M : ev_M} (o cap : Nat) (L : List Cf) (hR : RQ M o cap L) : ev_Mt l m_X2_removeAll [.ref (o)] M (fun r M1 => r = .inl none ∧ RQ M1 o cap [] ∧ Fr o (o + 4) M M1) := by
  obtain ⟨hcap, hlen, f, g, h, ⟨hC0, hC1, hC2, hC3⟩, hP⟩ := hR
  refine ev_body hl rfl (by decide +kernel) (Nat.le_of_ble_eq_true rfl) ?_
  show ev_ l m_X2_removeAll 0 0 0 [some (.ref (o))] [] M _
  refine ev_blk (B := [(.aload_n 0, 1), (.iconst 0, 1)]) (pe := 2) (ls' := [some (.ref (o))]) (st' := [.int (nI 0), .ref (o)]) ⟨dX2_removeAll_0, dX2_removeAll_1, rfl⟩ rfl ?_
  refine ev_put F_RX2_26 dX2_removeAll_2 hC0 (Nat.le_of_ble_eq_true rfl) (fun _ _ => ⟨rfl, rfl⟩) ?_
  refine ev_nm (M0 := M.set (o) (.inr (2, [.ref (o + 1), .ref (o + 2), .ref (o + 3), .int (nI 0)]))) (fun M1 eM1 => ?_)
  have f2 : M1[o]? = some (.inr (2, [.ref (o + 1), .ref (o + 2), .ref (o + 3), .int (nI 0)])) := by rw [eM1]; exact ev_sg hC0
  have f3 : M1[o + 1]? = some (.inl (0, cap, .inl (f))) := by rw [eM1, ev_sn (by omega)]; exact hC1
  have f4 : M1[o + 2]? = some (.inl (1, cap, .inr (.inl (g)))) := by rw [eM1, ev_sn (by omega)]; exact hC2
  have f5 : M1[o + 3]? = some (.inl (1, cap, .inr (.inl (h)))) := by rw [eM1, ev_sn (by omega)]; exact hC3
  refine ev_vret dX2_removeAll_5 rfl ⟨Nat.le_of_ble_eq_true rfl, Nat.le_of_ble_eq_true rfl⟩ ?_
  exact ⟨rfl, ⟨hcap, Nat.zero_le _, _, _, _, ⟨f2, f3, f4, f5⟩, fun i hi => absurd hi (Nat.not_lt_zero _)⟩, ⟨by rw [eM1]; simp only [List.length_set], fun j hj => by rw [eM1, ev_sn (by omega)]⟩⟩

set_option maxHeartbeats 4000000 in
set_option maxRecDepth 100000 in
theorem c_X2_removeLast {l : Launch} (hl : l.stackTraces = false) {M : ev_M} (o cap : Nat) (L : List Cf) (hR : RQ M o cap L) (hne : 0 < L.length) : ev_Mt l m_X2_removeLast [.ref (o)] M (fun r M1 => r = .inl none ∧ RQ M1 o cap L.dropLast ∧ Fr o (o + 4) M M1) := by
  obtain ⟨hcap, hlen, f, g, h, ⟨hC0, hC1, hC2, hC3⟩, hP⟩ := hR
  refine ev_body hl rfl (by decide +kernel) (Nat.le_of_ble_eq_true rfl) ?_
  show ev_ l m_X2_removeLast 0 0 0 [some (.ref (o))] [] M _
  refine ev_blk (B := [(.aload_n 0, 1)]) (pe := 1) (ls' := [some (.ref (o))]) (st' := [.ref (o)]) ⟨dX2_removeLast_0, rfl⟩ rfl ?_
  refine ev_getf (v := .int (nI (L.length))) F_RX2_26 dX2_removeLast_1 hC0 rfl ?_
  refine ev_fN_le dX2_removeLast_4 (tgt := 17) (by decide) (by omega) (fun h1 => ?_) (fun h1 => ?_)
  · exfalso; omega
  · refine ev_blk (B := [(.aload_n 0, 1), (.dup, 1)]) (pe := 9) (ls' := [some (.ref (o))]) (st' := [.ref (o), .ref (o)]) ⟨dX2_removeLast_7, dX2_removeLast_8, rfl⟩ rfl ?_
    refine ev_getf (v := .int (nI (L.length))) F_RX2_26 dX2_removeLast_9 hC0 rfl ?_
    refine ev_blk (B := [(.iconst 1, 1), (.isub, 1)]) (pe := 14) (ls' := [some (.ref (o))]) (st' := [.int (nI ((L.length) - 1)), .ref (o)]) ⟨dX2_removeLast_12, dX2_removeLast_13, rfl⟩ (by show some (([some (.ref (o))] : ev_L), ([.int ((nI (L.length)) - (nI 1)), .ref (o)] : List Value)) = _; rw [pk_sub (show 1 ≤ (L.length) by omega)]) ?_
    refine ev_put F_RX2_26 dX2_removeLast_14 hC0 (Nat.le_of_ble_eq_true rfl) (fun _ _ => ⟨rfl, rfl⟩) ?_
    refine ev_nm (M0 := M.set (o) (.inr (2, [.ref (o + 1), .ref (o + 2), .ref (o + 3), .int (nI ((L.length) - 1))]))) (fun M2 eM2 => ?_)
    have f3 : M2[o]? = some (.inr (2, [.ref (o + 1), .ref (o + 2), .ref (o + 3), .int (nI ((L.length) - 1))])) := by rw [eM2]; exact ev_sg hC0
    have f4 : M2[o + 1]? = some (.inl (0, cap, .inl (f))) := by rw [eM2, ev_sn (by omega)]; exact hC1
    have f5 : M2[o + 2]? = some (.inl (1, cap, .inr (.inl (g)))) := by rw [eM2, ev_sn (by omega)]; exact hC2
    have f6 : M2[o + 3]? = some (.inl (1, cap, .inr (.inl (h)))) := by rw [eM2, ev_sn (by omega)]; exact hC3
    refine ev_vret dX2_removeLast_17 rfl ⟨Nat.le_of_ble_eq_true rfl, Nat.le_of_ble_eq_true rfl⟩ ?_
    rw [show nI (L.length - 1) = nI L.dropLast.length by rw [List.length_dropLast]] at f3
    exact ⟨rfl, ⟨hcap, by rw [List.length_dropLast]; omega, _, _, _, ⟨f3, f4, f5, f6⟩, hP.sub (by rw [List.length_dropLast]; omega) (fun i hi => cg_dropLast hi)⟩, ⟨by rw [eM2]; simp only [List.length_set], fun j hj => by rw [eM2, ev_sn (by omega)]⟩⟩

set_option maxHeartbeats 4000000 in
set_option maxRecDepth 100000 in
theorem c_X2_add {l : Launch} (hl : l.stackTraces = false) {M : ev_M} (o cap : Nat) (L : List Cf) (hR : RQ M o cap L) (c : Nat) (x : Cf) (hF : RF M c x) (hco : c < o ∨ o + 4 ≤ c) (hlt : L.length < cap) : ev_Mt l m_X2_add [.ref (o), .ref (c)] M (fun r M1 => r = .inl none ∧ RQ M1 o cap (L ++ [x]) ∧ Fr o (o + 4) M M1) := by
  obtain ⟨hcap, hlen, f, g, h, ⟨hC0, hC1, hC2, hC3⟩, hP⟩ := hR
  refine ev_body hl rfl (by decide +kernel) (Nat.le_of_ble_eq_true rfl) ?_
  show ev_ l m_X2_add 0 0 0 [some (.ref (o)), some (.ref (c))] [] M _
  refine ev_blk (B := [(.aload_n 0, 1)]) (pe := 1) (ls' := [some (.ref (o)), some (.ref (c))]) (st' := [.ref (o)]) ⟨dX2_add_0, rfl⟩ rfl ?_
  refine ev_getf (v := .int (nI (L.length))) F_RX2_26 dX2_add_1 hC0 rfl ?_
  refine ev_blk (B := [(.aload_n 0, 1)]) (pe := 5) (ls' := [some (.ref (o)), some (.ref (c))]) (st' := [.ref (o), .int (nI (L.length))]) ⟨dX2_add_4, rfl⟩ rfl ?_
  refine ev_getf (v := .ref (o + 1)) F_RX2_13 dX2_add_5 hC0 rfl ?_
  refine ev_alen (v := nI (cap)) dX2_add_8 hC1 (by decide) rfl ?_
  refine ev_iN_ge dX2_add_9 (tgt := 31) (by decide) (by omega) (by omega) (fun h1 => ?_) (fun h1 => ?_)
  · exfalso; omega
  · refine ev_blk (B := [(.aload_n 0, 1), (.aload_n 0, 1)]) (pe := 14) (ls' := [some (.ref (o)), some (.ref (c))]) (st' := [.ref (o), .ref (o)]) ⟨dX2_add_12, dX2_add_13, rfl⟩ rfl ?_
    refine ev_getf (v := .int (nI (L.length))) F_RX2_26 dX2_add_14 hC0 rfl ?_
    refine ev_blk (B := [(.aload_n 1, 1)]) (pe := 18) (ls' := [some (.ref (o)), some (.ref (c))]) (st' := [.ref (c), .int (nI (L.length)), .ref (o)]) ⟨dX2_add_17, rfl⟩ rfl ?_
    refine ev_cVn Y_X2_store L_RX2_48 dX2_add_18 ⟨Nat.le_of_ble_eq_true rfl, Nat.le_of_ble_eq_true rfl, Nat.le_of_ble_eq_true rfl, Nat.le_of_ble_eq_true rfl, Nat.le_of_ble_eq_true rfl⟩ hC0 (as := [.int (nI (L.length)), .ref (c)]) rfl rfl (c_X2_store hl _ _ _ _ _ _ ⟨hC0, hC1, hC2, hC3⟩ (by omega) hcap (L.length) (by omega) _ _ hF hco) (fun M2 hL2 hB2 => ?_)
    obtain ⟨⟨k0, k1, k2, k3⟩, hFr⟩ := hB2
    have hF2 := RF.fr hF hFr (by omega)
    refine ev_blk (B := [(.aload_n 0, 1), (.dup, 1)]) (pe := 23) (ls' := [some (.ref (o)), some (.ref (c))]) (st' := [.ref (o), .ref (o)]) ⟨dX2_add_21, dX2_add_22, rfl⟩ rfl ?_
    refine ev_getf (v := .int (nI (L.length))) F_RX2_26 dX2_add_23 k0 rfl ?_
    refine ev_blk (B := [(.iconst 1, 1), (.iadd, 1)]) (pe := 28) (ls' := [some (.ref (o)), some (.ref (c))]) (st' := [.int (nI ((L.length) + 1)), .ref (o)]) ⟨dX2_add_26, dX2_add_27, rfl⟩ (by show some (([some (.ref (o)), some (.ref (c))] : ev_L), ([.int ((nI (L.length)) + (nI 1)), .ref (o)] : List Value)) = _; rw [nI_add]) ?_
    refine ev_put F_RX2_26 dX2_add_28 k0 (Nat.le_of_ble_eq_true rfl) (fun _ _ => ⟨rfl, rfl⟩) ?_
    refine ev_nm (M0 := M2.set (o) (.inr (2, [.ref (o + 1), .ref (o + 2), .ref (o + 3), .int (nI ((L.length) + 1))]))) (fun M3 eM3 => ?_)
    have f4 : M3[o]? = some (.inr (2, [.ref (o + 1), .ref (o + 2), .ref (o + 3), .int (nI ((L.length) + 1))])) := by rw [eM3]; exact ev_sg k0
    have f5 : M3[o + 1]? = some (.inl (0, cap, .inl (upd f L.length (nI x.1)))) := by rw [eM3, ev_sn (by omega)]; exact k1
    have f6 : M3[o + 2]? = some (.inl (1, cap, .inr (.inl (vp_updL g L.length (e1 x.2.1))))) := by rw [eM3, ev_sn (by omega)]; exact k2
    have f7 : M3[o + 3]? = some (.inl (1, cap, .inr (.inl (vp_updL h L.length (e1 x.2.2))))) := by rw [eM3, ev_sn (by omega)]; exact k3
    have f8 : M3[c]? = some (.inr (1, [.int (nI (x.1)), .long (e1 x.2.1), .long (e1 x.2.2)])) := by rw [eM3, ev_sn (by omega)]; exact hF2
    refine ev_vret dX2_add_31 rfl ⟨Nat.le_of_ble_eq_true rfl, Nat.le_of_ble_eq_true rfl⟩ ?_
    rw [show nI (L.length + 1) = nI (L ++ [x]).length by rw [List.length_append]; rfl] at f4
    exact ⟨rfl, ⟨hcap, by rw [List.length_append]; exact hlt, _, _, _, ⟨f4, f5, f6, f7⟩, hP.push⟩, hFr.tr ⟨by rw [eM3]; simp only [List.length_set], fun j hj => by rw [eM3, ev_sn (by omega)]⟩⟩

