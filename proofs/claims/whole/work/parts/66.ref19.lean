/-! ===== the reference: runs, one after another ===== -/
/-- what is reached by k firings, in the order of the transitions -/
def lv (T : List Tr) : Nat → Cf → List Cf
  | 0, x => [x]
  | k + 1, x => (List.range T.length).flatMap (fun t => if mf x (tg T t) true = true then lv T k (ap (tg T t) x).2 else [])
/-- the same from a transition on; nothing, if no firing is left -/
def lvf (T : List Tr) : Nat → Cf → Nat → List Cf
  | 0, _, _ => []
  | k + 1, x, n => ((List.range T.length).drop n).flatMap (fun t => if mf x (tg T t) true = true then lv T k (ap (tg T t) x).2 else [])
theorem lv_0 (T : List Tr) (x : Cf) : lv T 0 x = [x] := rfl
theorem lv_f (T : List Tr) (k : Nat) (x : Cf) : lv T (k + 1) x = lvf T (k + 1) x 0 := rfl
theorem lvf_e {T : List Tr} {k : Nat} {x : Cf} {n : Nat} (h : T.length ≤ n) : lvf T k x n = [] := by
  cases k with
  | zero => rfl
  | succ k =>
    show ((List.range T.length).drop n).flatMap _ = []
    rw [List.drop_eq_nil_of_le (by rw [List.length_range]; exact h)]; rfl
theorem lvf_s {T : List Tr} {k : Nat} {x : Cf} {n : Nat} (h : n < T.length) : lvf T (k + 1) x n = (if mf x (tg T n) true = true then lv T k (ap (tg T n) x).2 else []) ++ lvf T (k + 1) x (n + 1) := by
  show ((List.range T.length).drop n).flatMap _ = _
  rw [List.drop_eq_getElem_cons (by rw [List.length_range]; exact h), List.flatMap_cons, List.getElem_range]; rfl
/-- what is still to come; the top is ahead -/
def rmT (T : List Tr) (f : Nat) : List (Cf × Nat) → List Cf
  | [] => []
  | p :: r => lvf T (f - r.length) p.1 p.2 ++ rmT T f r
def Wc : Nat → Nat
  | 0 => 1
  | k + 1 => 2 + 10 * Wc k
def mz (T : List Tr) (f : Nat) : List (Cf × Nat) → Nat
  | [] => 0
  | p :: r => (T.length - p.2) * Wc (f - r.length) + 1 + mz T f r
theorem Wc_pos (k : Nat) : 1 ≤ Wc k := by cases k with | zero => exact Nat.le_refl _ | succ k => show 1 ≤ 2 + 10 * Wc k; omega
theorem mz_pop {T : List Tr} {f : Nat} {p : Cf × Nat} {r : List (Cf × Nat)} : mz T f r < mz T f (p :: r) := by
  show _ < (T.length - p.2) * Wc (f - r.length) + 1 + mz T f r
  generalize (T.length - p.2) * Wc (f - r.length) = z
  omega
theorem mz_nx {T : List Tr} {f n : Nat} {x : Cf} {r : List (Cf × Nat)} (h : n < T.length) : mz T f ((x, n + 1) :: r) < mz T f ((x, n) :: r) := by
  show (T.length - (n + 1)) * Wc (f - r.length) + 1 + mz T f r < (T.length - n) * Wc (f - r.length) + 1 + mz T f r
  rw [show T.length - n = T.length - (n + 1) + 1 by omega, Nat.succ_mul]
  have := Wc_pos (f - r.length)
  omega
theorem mz_push {T : List Tr} {f n : Nat} {x y : Cf} {r : List (Cf × Nat)} (h : n < T.length) (hT : T.length ≤ 10) (hr : r.length < f) : mz T f ((y, 0) :: (x, n + 1) :: r) < mz T f ((x, n) :: r) := by
  show (T.length - 0) * Wc (f - (r.length + 1)) + 1 + ((T.length - (n + 1)) * Wc (f - r.length) + 1 + mz T f r) < (T.length - n) * Wc (f - r.length) + 1 + mz T f r
  rw [show T.length - n = T.length - (n + 1) + 1 by omega, Nat.succ_mul]
  obtain ⟨k, hk⟩ : ∃ k, f - r.length = k + 1 := ⟨f - r.length - 1, by omega⟩
  rw [show f - (r.length + 1) = k by omega, hk]
  have h1 : T.length * Wc k ≤ 10 * Wc k := Nat.mul_le_mul_right _ hT
  have h2 : Wc (k + 1) = 2 + 10 * Wc k := rfl
  rw [Nat.sub_zero]
  omega
/-- the depth: -1 without a level -/
def dI : Nat → Int32
  | 0 => -1
  | k + 1 => nI k
theorem dI_s (n : Nat) : nI n - nI 1 = dI n := by
  cases n with
  | zero => decide
  | succ k => exact pk_sub (show 1 ≤ k + 1 by omega)
/-- the levels of a run, as the rows hold them -/
def PLv (M : ev_M) (o : Nat) (T : List Tr) (st : List (Cf × Nat)) : Prop := ∃ s nx g h, M[o + 18]? = some (.inl (0, 6, .inl s)) ∧ M[o + 19]? = some (.inl (0, 6, .inl nx)) ∧ M[o + 20]? = some (.inl (1, 6, .inr (.inl g))) ∧ M[o + 21]? = some (.inl (1, 6, .inr (.inl h))) ∧ ∀ j p, st[j]? = some p → s j = nI p.1.1 ∧ g j = e2 p.1.2.1 ∧ h j = e2 p.1.2.2 ∧ nx j = nI p.2 ∧ cfW (10 + j) p.1 ∧ p.2 ≤ T.length
theorem PLv.fx {M M1 : ev_M} {o lo hi : Nat} {T : List Tr} {st : List (Cf × Nat)} (h : PLv M o T st) (hf : FX o lo hi M M1) (h2 : o + 22 ≤ lo ∨ hi ≤ o + 18) : PLv M1 o T st := by
  obtain ⟨s, nx, g, h, a1, a2, a3, a4, a5⟩ := h
  exact ⟨s, nx, g, h, hf.at a1 (by omega) (by omega), hf.at a2 (by omega) (by omega), hf.at a3 (by omega) (by omega), hf.at a4 (by omega) (by omega), a5⟩
theorem PLv.pop {M : ev_M} {o : Nat} {T : List Tr} {r : List (Cf × Nat)} {p : Cf × Nat} (h : PLv M o T (r ++ [p])) : PLv M o T r := by
  obtain ⟨s, nx, g, h, a1, a2, a3, a4, a5⟩ := h
  refine ⟨s, nx, g, h, a1, a2, a3, a4, fun j q hj => a5 j q ?_⟩
  rw [List.getElem?_append_left (List.getElem?_eq_some_iff.mp hj).1]; exact hj
theorem RR.ku {M M1 : ev_M} {o : Nat} {S : St} {zi zi' : Nat → Int32} {zl zl' : Nat → Int64} (h : RR M o S zi zl) (h1 : M1[o]? = some (.inr (10, zo o zi' zl'))) (hk : SK zi zi' zl zl') (hf : FX o (o + 18) (o + 22) M M1) (hu : PU M1 o) : RR M1 o S zi' zl' := by
  refine ⟨h1, h.p.keep hk, h.T.fx hf (by omega) (by omega), h.H.fx hf (by omega), h.y.fx hf (by omega), h.G.fx hf (by omega) (by omega), ?_, hu, h.x.fx hf (by omega), h.k.fx hf (by omega), h.s.fx hf (by omega)⟩
  rw [hk.1 29 (by decide), hk.1 30 (by decide), hk.1 31 (by decide)]
  exact h.a.fx hf (by omega)
theorem PLv.u {M : ev_M} {o : Nat} {T : List Tr} {st : List (Cf × Nat)} (h : PLv M o T st) : PU M o := by
  obtain ⟨s, nx, g, h, a1, a2, a3, a4, a5⟩ := h
  exact ⟨s, nx, g, h, a1, a2, a3, a4⟩
set_option maxHeartbeats 4000000 in
set_option maxRecDepth 100000 in
theorem c_R_rests {l : Launch} (hl : l.stackTraces = false) {M : ev_M} (o : Nat) (zi : Nat → Int32) (zl : Nat → Int64) (hO : M[o]? = some (.inr (10, zo o zi zl))) (T : List Tr) (r : List (Cf × Nat)) (hr : r.length < 6) (hd : zi 36 = nI r.length) (y : Cf) (hy : cfW (10 + r.length) y) (h11 : zi 11 = nI y.1) (h13 : zl 13 = e2 y.2.1) (h14 : zl 14 = e2 y.2.2) (hL : PLv M o T r) : ev_Mt l m_X11_rests [.ref (o)] M (fun r9 M1 => r9 = .inl none ∧ M1[o]? = some (.inr (10, zo o zi zl)) ∧ PLv M1 o T (r ++ [(y, 0)]) ∧ FX o (o + 18) (o + 22) M M1) := by
  obtain ⟨s, nx, g, h, u18, u19, u20, u21, hrow⟩ := hL
  refine ev_body hl rfl (by decide +kernel) (Nat.le_of_ble_eq_true rfl) ?_
  show ev_ l m_X11_rests 0 0 0 [some (.ref (o))] [] M _
  refine ev_blk (B := [(.aload_n 0, 1)]) (pe := 1) (ls' := [some (.ref (o))]) (st' := [.ref (o)]) ⟨dX11_rests_0, rfl⟩ rfl ?_
  refine ev_getf (v := .ref (o + 18)) F_RX11_62 dX11_rests_1 hO rfl ?_
  refine ev_blk (B := [(.aload_n 0, 1)]) (pe := 5) (ls' := [some (.ref (o))]) (st' := [.ref (o), .ref (o + 18)]) ⟨dX11_rests_4, rfl⟩ rfl ?_
  refine ev_getf (v := .int (nI (r.length))) F_RX11_284 dX11_rests_5 hO (congrArg (fun q => some (Value.int q)) hd) ?_
  refine ev_blk (B := [(.aload_n 0, 1)]) (pe := 9) (ls' := [some (.ref (o))]) (st' := [.ref (o), .int (nI (r.length)), .ref (o + 18)]) ⟨dX11_rests_8, rfl⟩ rfl ?_
  refine ev_getf (v := .int (nI (y.1))) F_RX11_179 dX11_rests_9 hO (congrArg (fun q => some (Value.int q)) h11) ?_
  refine ev_iast dX11_rests_12 u18 (vp_in_nI (show r.length < 6 by omega) (by omega)) ?_
  rw [nI_clamp (show r.length < 2 ^ 31 by omega)]
  refine ev_nm (M0 := M.set (o + 18) (.inl (0, 6, .inl (upd s r.length (nI (y.1)))))) (fun M1 eM1 => ?_)
  have f2 : M1[o]? = some (.inr (10, zo o (zi) (zl))) := by rw [eM1, ev_sn (by omega)]; exact hO
  have f3 : M1[o + 18]? = some (.inl (0, 6, .inl (upd s r.length (nI (y.1))))) := by rw [eM1]; exact ev_sg u18
  have f4 : M1[o + 19]? = some (.inl (0, 6, .inl (nx))) := by rw [eM1, ev_sn (by omega)]; exact u19
  have f5 : M1[o + 20]? = some (.inl (1, 6, .inr (.inl (g)))) := by rw [eM1, ev_sn (by omega)]; exact u20
  have f6 : M1[o + 21]? = some (.inl (1, 6, .inr (.inl (h)))) := by rw [eM1, ev_sn (by omega)]; exact u21
  refine ev_blk (B := [(.aload_n 0, 1)]) (pe := 14) (ls' := [some (.ref (o))]) (st' := [.ref (o)]) ⟨dX11_rests_13, rfl⟩ rfl ?_
  refine ev_getf (v := .ref (o + 20)) F_RX11_68 dX11_rests_14 f2 rfl ?_
  refine ev_blk (B := [(.aload_n 0, 1)]) (pe := 18) (ls' := [some (.ref (o))]) (st' := [.ref (o), .ref (o + 20)]) ⟨dX11_rests_17, rfl⟩ rfl ?_
  refine ev_getf (v := .int (nI (r.length))) F_RX11_284 dX11_rests_18 f2 (congrArg (fun q => some (Value.int q)) hd) ?_
  refine ev_blk (B := [(.aload_n 0, 1)]) (pe := 22) (ls' := [some (.ref (o))]) (st' := [.ref (o), .int (nI (r.length)), .ref (o + 20)]) ⟨dX11_rests_21, rfl⟩ rfl ?_
  refine ev_getf (v := .long (e2 y.2.1)) F_RX11_182 dX11_rests_22 f2 (congrArg (fun q => some (Value.long q)) h13) ?_
  refine ev_last dX11_rests_25 f5 (vp_in_nI (show r.length < 6 by omega) (by omega)) ?_
  rw [nI_clamp (show r.length < 2 ^ 31 by omega)]
  refine ev_nm (M0 := M1.set (o + 20) (.inl (1, 6, .inr (.inl (vp_updL g r.length (e2 y.2.1)))))) (fun M7 eM7 => ?_)
  have f8 : M7[o]? = some (.inr (10, zo o (zi) (zl))) := by rw [eM7, ev_sn (by omega)]; exact f2
  have f9 : M7[o + 18]? = some (.inl (0, 6, .inl (upd s r.length (nI (y.1))))) := by rw [eM7, ev_sn (by omega)]; exact f3
  have f10 : M7[o + 19]? = some (.inl (0, 6, .inl (nx))) := by rw [eM7, ev_sn (by omega)]; exact f4
  have f11 : M7[o + 20]? = some (.inl (1, 6, .inr (.inl (vp_updL g r.length (e2 y.2.1))))) := by rw [eM7]; exact ev_sg f5
  have f12 : M7[o + 21]? = some (.inl (1, 6, .inr (.inl (h)))) := by rw [eM7, ev_sn (by omega)]; exact f6
  refine ev_blk (B := [(.aload_n 0, 1)]) (pe := 27) (ls' := [some (.ref (o))]) (st' := [.ref (o)]) ⟨dX11_rests_26, rfl⟩ rfl ?_
  refine ev_getf (v := .ref (o + 21)) F_RX11_71 dX11_rests_27 f8 rfl ?_
  refine ev_blk (B := [(.aload_n 0, 1)]) (pe := 31) (ls' := [some (.ref (o))]) (st' := [.ref (o), .ref (o + 21)]) ⟨dX11_rests_30, rfl⟩ rfl ?_
  refine ev_getf (v := .int (nI (r.length))) F_RX11_284 dX11_rests_31 f8 (congrArg (fun q => some (Value.int q)) hd) ?_
  refine ev_blk (B := [(.aload_n 0, 1)]) (pe := 35) (ls' := [some (.ref (o))]) (st' := [.ref (o), .int (nI (r.length)), .ref (o + 21)]) ⟨dX11_rests_34, rfl⟩ rfl ?_
  refine ev_getf (v := .long (e2 y.2.2)) F_RX11_185 dX11_rests_35 f8 (congrArg (fun q => some (Value.long q)) h14) ?_
  refine ev_last dX11_rests_38 f12 (vp_in_nI (show r.length < 6 by omega) (by omega)) ?_
  rw [nI_clamp (show r.length < 2 ^ 31 by omega)]
  refine ev_nm (M0 := M7.set (o + 21) (.inl (1, 6, .inr (.inl (vp_updL h r.length (e2 y.2.2)))))) (fun M13 eM13 => ?_)
  have f14 : M13[o]? = some (.inr (10, zo o (zi) (zl))) := by rw [eM13, ev_sn (by omega)]; exact f8
  have f15 : M13[o + 18]? = some (.inl (0, 6, .inl (upd s r.length (nI (y.1))))) := by rw [eM13, ev_sn (by omega)]; exact f9
  have f16 : M13[o + 19]? = some (.inl (0, 6, .inl (nx))) := by rw [eM13, ev_sn (by omega)]; exact f10
  have f17 : M13[o + 20]? = some (.inl (1, 6, .inr (.inl (vp_updL g r.length (e2 y.2.1))))) := by rw [eM13, ev_sn (by omega)]; exact f11
  have f18 : M13[o + 21]? = some (.inl (1, 6, .inr (.inl (vp_updL h r.length (e2 y.2.2))))) := by rw [eM13]; exact ev_sg f12
  refine ev_blk (B := [(.aload_n 0, 1)]) (pe := 40) (ls' := [some (.ref (o))]) (st' := [.ref (o)]) ⟨dX11_rests_39, rfl⟩ rfl ?_
  refine ev_getf (v := .ref (o + 19)) F_RX11_65 dX11_rests_40 f14 rfl ?_
  refine ev_blk (B := [(.aload_n 0, 1)]) (pe := 44) (ls' := [some (.ref (o))]) (st' := [.ref (o), .ref (o + 19)]) ⟨dX11_rests_43, rfl⟩ rfl ?_
  refine ev_getf (v := .int (nI (r.length))) F_RX11_284 dX11_rests_44 f14 (congrArg (fun q => some (Value.int q)) hd) ?_
  refine ev_blk (B := [(.iconst 0, 1)]) (pe := 48) (ls' := [some (.ref (o))]) (st' := [.int (nI 0), .int (nI (r.length)), .ref (o + 19)]) ⟨dX11_rests_47, rfl⟩ rfl ?_
  refine ev_iast dX11_rests_48 f16 (vp_in_nI (show r.length < 6 by omega) (by omega)) ?_
  rw [nI_clamp (show r.length < 2 ^ 31 by omega)]
  refine ev_nm (M0 := M13.set (o + 19) (.inl (0, 6, .inl (upd nx r.length (nI 0))))) (fun M19 eM19 => ?_)
  have f20 : M19[o]? = some (.inr (10, zo o (zi) (zl))) := by rw [eM19, ev_sn (by omega)]; exact f14
  have f21 : M19[o + 18]? = some (.inl (0, 6, .inl (upd s r.length (nI (y.1))))) := by rw [eM19, ev_sn (by omega)]; exact f15
  have f22 : M19[o + 19]? = some (.inl (0, 6, .inl (upd nx r.length (nI 0)))) := by rw [eM19]; exact ev_sg f16
  have f23 : M19[o + 20]? = some (.inl (1, 6, .inr (.inl (vp_updL g r.length (e2 y.2.1))))) := by rw [eM19, ev_sn (by omega)]; exact f17
  have f24 : M19[o + 21]? = some (.inl (1, 6, .inr (.inl (vp_updL h r.length (e2 y.2.2))))) := by rw [eM19, ev_sn (by omega)]; exact f18
  refine ev_vret dX11_rests_49 rfl ⟨Nat.le_of_ble_eq_true rfl, Nat.le_of_ble_eq_true rfl⟩ ?_
  refine ⟨rfl, f20, ⟨_, _, _, _, f21, f22, f23, f24, fun j p hj => ?_⟩, ⟨by rw [eM19, eM13, eM7, eM1]; simp only [List.length_set], fun j hj1 hj2 => by rw [eM19, ev_sn (by omega), eM13, ev_sn (by omega), eM7, ev_sn (by omega), eM1, ev_sn (by omega)]⟩⟩
  rw [upd_at, upd_at, updL_at, updL_at]
  by_cases e : j < r.length
  · rw [if_neg (by omega), if_neg (by omega), if_neg (by omega), if_neg (by omega)]
    rw [List.getElem?_append_left e] at hj
    exact hrow j p hj
  · rw [List.getElem?_append_right (by omega)] at hj
    have e2 : j = r.length := by
      have := (List.getElem?_eq_some_iff.mp hj).1
      rw [List.length_singleton] at this; omega
    subst e2
    rw [Nat.sub_self] at hj
    cases hj
    rw [if_pos rfl, if_pos rfl, if_pos rfl, if_pos rfl]
    exact ⟨rfl, rfl, rfl, rfl, hy, Nat.zero_le _⟩

set_option maxHeartbeats 4000000 in
set_option maxRecDepth 100000 in
theorem c_R_goesOn_l {l : Launch} (hl : l.stackTraces = false) (o : Nat) (S : St) (hS : okS S) (hT10 : S.T.length ≤ 10) (f : Nat) (hf : f < 5) (L0 : List Cf) (zi0 : Nat → Int32) (M0 : ev_M) : ∀ (n9 : Nat) (st : List (Cf × Nat)) (M : ev_M) (zi : Nat → Int32) (zl : Nat → Int64), M[o]? = some (.inr (10, zo o zi zl)) → RR M o S zi zl → zi 36 = dI st.length → st.length ≤ f + 1 → PLv M o S.T st → zi 0 = zi0 0 → FX o (o + 18) (o + 22) M0 M → rmT S.T f st.reverse = L0 →  mz S.T f st.reverse < n9 → ev_ l m_X11_goesOn 0 0 0 [some (.ref (o)), some (.int (nI f)), none] [] M (fun r9 M1 => (L0 = [] ∧ r9 = .inl (some (.int (ev_b false))) ∨ ∃ y rest, L0 = y :: rest ∧ r9 = .inl (some (.int (ev_b true))) ∧ ∃ st' zi' zl', rmT S.T f st'.reverse = rest ∧ PLv M1 o S.T st' ∧ st'.length ≤ f + 1 ∧ RR M1 o S zi' zl' ∧ zi' 0 = zi0 0 ∧ zi' 36 = dI st'.length ∧ zi' 11 = nI y.1 ∧ zl' 13 = e2 y.2.1 ∧ zl' 14 = e2 y.2.2 ∧ cfW 14 y) ∧ (∃ zi' zl', RR M1 o S zi' zl' ∧ zi' 0 = zi0 0) ∧ FX o (o + 18) (o + 22) M0 M1) := by
  intro n9
  induction n9 with
  | zero => intro st M zi zl hO hR hd hl5 hL h0 hF hrm hm9; exact absurd hm9 (by omega)
  | succ n9 ih =>
    intro st M zi zl hO hR hd hl5 hL h0 hF hrm hm9
    have hm9 := Nat.le_of_lt_succ hm9
    rcases List.eq_nil_or_concat st with rfl | ⟨r, p, rfl⟩
    · have y9 : True := trivial
      refine ev_blk (B := [(.aload_n 0, 1)]) (pe := 1) (ls' := [some (.ref (o)), some (.int (nI f)), none]) (st' := [.ref (o)]) ⟨dX11_goesOn_0, rfl⟩ rfl ?_
      refine ev_getf (v := .int ((-1))) F_RX11_284 dX11_goesOn_1 hO (congrArg (fun q => some (Value.int q)) hd) ?_
      refine ev_if_lt dX11_goesOn_4 (tgt := 141) (by decide) (fun q4 => ?_) (fun q4 => ?_)
      · refine ev_blk (B := [(.iconst 0, 1)]) (pe := 142) (ls' := [some (.ref (o)), some (.int (nI f)), none]) (st' := [.int (nI 0)]) ⟨dX11_goesOn_141, rfl⟩ rfl ?_
        refine ev_iret dX11_goesOn_142 rfl (rfl) ⟨Nat.le_of_ble_eq_true rfl, Nat.le_of_ble_eq_true rfl⟩ ?_
        exact ⟨Or.inl ⟨hrm.symm, rfl⟩, ⟨zi, zl, hR, h0⟩, hF⟩
      · exact absurd (by decide) q4
    · rw [List.concat_eq_append] at *
      have hmz : mz S.T f r.reverse < mz S.T f (r ++ [p]).reverse := by rw [List.reverse_append]; exact mz_pop
      rw [List.length_append, List.length_singleton] at hd hl5
      rw [List.reverse_append] at hrm
      have hrm : lvf S.T (f - r.length) p.1 p.2 ++ rmT S.T f r.reverse = L0 := by
        rw [← hrm]
        show _ = lvf S.T (f - r.reverse.length) p.1 p.2 ++ rmT S.T f r.reverse
        rw [List.length_reverse]
      have hL0 := hL
      obtain ⟨s, nx, g, h, u18, u19, u20, u21, hrow⟩ := hL
      obtain ⟨hp1, hp3, hp4, hp6, hp5, hp7⟩ := hrow r.length p (by rw [List.getElem?_append_right (Nat.le_refl _), Nat.sub_self]; rfl)
      have hp8 := hp5.1
      obtain ⟨fT, hfT, hPT⟩ := hR.T
      refine ev_blk (B := [(.aload_n 0, 1)]) (pe := 1) (ls' := [some (.ref (o)), some (.int (nI f)), none]) (st' := [.ref (o)]) ⟨dX11_goesOn_0, rfl⟩ rfl ?_
      refine ev_getf (v := .int (nI (r.length))) F_RX11_284 dX11_goesOn_1 hO (congrArg (fun q => some (Value.int q)) hd) ?_
      refine ev_fN_lt dX11_goesOn_4 (tgt := 141) (by decide) (by omega) ?_
      refine ev_blk (B := [(.aload_n 0, 1)]) (pe := 8) (ls' := [some (.ref (o)), some (.int (nI f)), none]) (st' := [.ref (o)]) ⟨dX11_goesOn_7, rfl⟩ rfl ?_
      refine ev_getf (v := .int (nI (r.length))) F_RX11_284 dX11_goesOn_8 hO (congrArg (fun q => some (Value.int q)) hd) ?_
      refine ev_blk (B := [(.iload_n 1, 1)]) (pe := 12) (ls' := [some (.ref (o)), some (.int (nI f)), none]) (st' := [.int (nI f), .int (nI (r.length))]) ⟨dX11_goesOn_11, rfl⟩ rfl ?_
      refine ev_iN_eq dX11_goesOn_12 (tgt := 31) (by decide) (by omega) (by omega) (fun q12 => ?_) (fun q12 => ?_)
      · refine ev_blk (B := [(.aload_n 0, 1), (.dup, 1)]) (pe := 33) (ls' := [some (.ref (o)), some (.int (nI f)), none]) (st' := [.ref (o), .ref (o)]) ⟨dX11_goesOn_31, dX11_goesOn_32, rfl⟩ rfl ?_
        refine ev_getf (v := .int (nI (r.length))) F_RX11_284 dX11_goesOn_33 hO (congrArg (fun q => some (Value.int q)) hd) ?_
        refine ev_blk (B := [(.iconst 1, 1), (.isub, 1)]) (pe := 38) (ls' := [some (.ref (o)), some (.int (nI f)), none]) (st' := [.int (dI r.length), .ref (o)]) ⟨dX11_goesOn_36, dX11_goesOn_37, rfl⟩ (by show some (([some (.ref (o)), some (.int (nI f)), none] : ev_L), ([.int ((nI (r.length)) - (nI 1)), .ref (o)] : List Value)) = _; rw [show (nI (r.length)) - (nI 1) = dI r.length from dI_s _]) ?_
        refine ev_put F_RX11_284 dX11_goesOn_38 hO (Nat.le_of_ble_eq_true rfl) (fun _ _ => ⟨rfl, rfl⟩) ?_
        rw [zs_36]
        refine ev_nm (M0 := M.set (o) (.inr (10, zo o (ui (zi) 36 (dI r.length)) (zl)))) (fun M1 eM1 => ?_)
        have f2 : M1[o]? = some (.inr (10, zo o (ui (zi) 36 (dI r.length)) (zl))) := by rw [eM1]; exact ev_sg hO
        have f3 : M1[o + 1]? = some (.inl (0, 50, .inl (fT))) := by rw [eM1, ev_sn (by omega)]; exact hfT
        have f4 : M1[o + 18]? = some (.inl (0, 6, .inl (s))) := by rw [eM1, ev_sn (by omega)]; exact u18
        have f5 : M1[o + 19]? = some (.inl (0, 6, .inl (nx))) := by rw [eM1, ev_sn (by omega)]; exact u19
        have f6 : M1[o + 20]? = some (.inl (1, 6, .inr (.inl (g)))) := by rw [eM1, ev_sn (by omega)]; exact u20
        have f7 : M1[o + 21]? = some (.inl (1, 6, .inr (.inl (h)))) := by rw [eM1, ev_sn (by omega)]; exact u21
        refine ev_goto (tgt := 0) dX11_goesOn_41 (by decide) ?_
        have W8 : FX o (o + 31) (o + 31) M M1 := ⟨by rw [eM1]; simp only [List.length_set], fun j hj1 hj2 => by rw [eM1, ev_sn (by omega)]⟩
        have hlv : lvf S.T (f - r.length) p.1 p.2 = [] := by rw [q12, Nat.sub_self]; rfl
        refine ih r _ _ _ f2 (hR.keep f2 ⟨fun k hk => ui_ne (nm hk (by decide)), fun k hk => rfl⟩ W8) rfl (by omega) ((hL0.pop).fx W8 (by omega)) h0 (hF.tr (W8.em (by omega))) (by rw [← hrm, hlv]; rfl) (Nat.lt_of_lt_of_le hmz hm9)
      · refine ev_blk (B := [(.aload_n 0, 1)]) (pe := 16) (ls' := [some (.ref (o)), some (.int (nI f)), none]) (st' := [.ref (o)]) ⟨dX11_goesOn_15, rfl⟩ rfl ?_
        refine ev_getf (v := .ref (o + 19)) F_RX11_65 dX11_goesOn_16 hO rfl ?_
        refine ev_blk (B := [(.aload_n 0, 1)]) (pe := 20) (ls' := [some (.ref (o)), some (.int (nI f)), none]) (st' := [.ref (o), .ref (o + 19)]) ⟨dX11_goesOn_19, rfl⟩ rfl ?_
        refine ev_getf (v := .int (nI (r.length))) F_RX11_284 dX11_goesOn_20 hO (congrArg (fun q => some (Value.int q)) hd) ?_
        refine ev_iald dX11_goesOn_23 u19 (vp_in_nI (show r.length < 6 by omega) (by omega)) ?_
        rw [nI_clamp (show r.length < 2 ^ 31 by omega)]
        rw [show nx r.length = nI (p.2) from hp6]
        refine ev_blk (B := [(.aload_n 0, 1)]) (pe := 25) (ls' := [some (.ref (o)), some (.int (nI f)), none]) (st' := [.ref (o), .int (nI (p.2))]) ⟨dX11_goesOn_24, rfl⟩ rfl ?_
        refine ev_getf (v := .int (nI (S.T.length))) F_RX11_123 dX11_goesOn_25 hO (congrArg (fun q => some (Value.int q)) hR.p.1) ?_
        refine ev_iN_ne dX11_goesOn_28 (tgt := 44) (by decide) (by omega) (by omega) (fun q28 => ?_) (fun q28 => ?_)
        · have hp2 : p.2 < S.T.length := by omega
          refine ev_blk (B := [(.aload_n 0, 1)]) (pe := 45) (ls' := [some (.ref (o)), some (.int (nI f)), none]) (st' := [.ref (o)]) ⟨dX11_goesOn_44, rfl⟩ rfl ?_
          refine ev_getf (v := .ref (o + 19)) F_RX11_65 dX11_goesOn_45 hO rfl ?_
          refine ev_blk (B := [(.aload_n 0, 1)]) (pe := 49) (ls' := [some (.ref (o)), some (.int (nI f)), none]) (st' := [.ref (o), .ref (o + 19)]) ⟨dX11_goesOn_48, rfl⟩ rfl ?_
          refine ev_getf (v := .int (nI (r.length))) F_RX11_284 dX11_goesOn_49 hO (congrArg (fun q => some (Value.int q)) hd) ?_
          refine ev_iald dX11_goesOn_52 u19 (vp_in_nI (show r.length < 6 by omega) (by omega)) ?_
          rw [nI_clamp (show r.length < 2 ^ 31 by omega)]
          rw [show nx r.length = nI (p.2) from hp6]
          refine ev_blk (B := [(.istore_n 2, 1), (.aload_n 0, 1)]) (pe := 55) (ls' := [some (.ref (o)), some (.int (nI f)), some (.int (nI (p.2)))]) (st' := [.ref (o)]) ⟨dX11_goesOn_53, dX11_goesOn_54, rfl⟩ rfl ?_
          refine ev_getf (v := .ref (o + 19)) F_RX11_65 dX11_goesOn_55 hO rfl ?_
          refine ev_blk (B := [(.aload_n 0, 1)]) (pe := 59) (ls' := [some (.ref (o)), some (.int (nI f)), some (.int (nI (p.2)))]) (st' := [.ref (o), .ref (o + 19)]) ⟨dX11_goesOn_58, rfl⟩ rfl ?_
          refine ev_getf (v := .int (nI (r.length))) F_RX11_284 dX11_goesOn_59 hO (congrArg (fun q => some (Value.int q)) hd) ?_
          refine ev_blk (B := [(.dup2, 1)]) (pe := 63) (ls' := [some (.ref (o)), some (.int (nI f)), some (.int (nI (p.2)))]) (st' := [.int (nI (r.length)), .ref (o + 19), .int (nI (r.length)), .ref (o + 19)]) ⟨dX11_goesOn_62, rfl⟩ rfl ?_
          refine ev_iald dX11_goesOn_63 u19 (vp_in_nI (show r.length < 6 by omega) (by omega)) ?_
          rw [nI_clamp (show r.length < 2 ^ 31 by omega)]
          rw [show nx r.length = nI (p.2) from hp6]
          refine ev_blk (B := [(.iconst 1, 1), (.iadd, 1)]) (pe := 66) (ls' := [some (.ref (o)), some (.int (nI f)), some (.int (nI (p.2)))]) (st' := [.int (nI ((p.2) + 1)), .int (nI (r.length)), .ref (o + 19)]) ⟨dX11_goesOn_64, dX11_goesOn_65, rfl⟩ (by show some (([some (.ref (o)), some (.int (nI f)), some (.int (nI (p.2)))] : ev_L), ([.int ((nI (p.2)) + (nI 1)), .int (nI (r.length)), .ref (o + 19)] : List Value)) = _; rw [nI_add (p.2) 1]) ?_
          refine ev_iast dX11_goesOn_66 u19 (vp_in_nI (show r.length < 6 by omega) (by omega)) ?_
          rw [nI_clamp (show r.length < 2 ^ 31 by omega)]
          refine ev_nm (M0 := M.set (o + 19) (.inl (0, 6, .inl (upd nx r.length (nI ((p.2) + 1)))))) (fun M9 eM9 => ?_)
          have f10 : M9[o]? = some (.inr (10, zo o (zi) (zl))) := by rw [eM9, ev_sn (by omega)]; exact hO
          have f11 : M9[o + 1]? = some (.inl (0, 50, .inl (fT))) := by rw [eM9, ev_sn (by omega)]; exact hfT
          have f12 : M9[o + 18]? = some (.inl (0, 6, .inl (s))) := by rw [eM9, ev_sn (by omega)]; exact u18
          have f13 : M9[o + 19]? = some (.inl (0, 6, .inl (upd nx r.length (nI ((p.2) + 1))))) := by rw [eM9]; exact ev_sg u19
          have f14 : M9[o + 20]? = some (.inl (1, 6, .inr (.inl (g)))) := by rw [eM9, ev_sn (by omega)]; exact u20
          have f15 : M9[o + 21]? = some (.inl (1, 6, .inr (.inl (h)))) := by rw [eM9, ev_sn (by omega)]; exact u21
          have hnew : ∀ j q, (r ++ [(p.1, p.2 + 1)])[j]? = some q → s j = nI q.1.1 ∧ g j = e2 q.1.2.1 ∧ h j = e2 q.1.2.2 ∧ (upd nx r.length (nI (p.2 + 1))) j = nI q.2 ∧ cfW (10 + j) q.1 ∧ q.2 ≤ S.T.length := by
            intro j q hj
            rw [upd_at]
            by_cases e : j < r.length
            · rw [if_neg (by omega)]
              rw [List.getElem?_append_left e] at hj
              exact hrow j q (by rw [List.getElem?_append_left e]; exact hj)
            · rw [List.getElem?_append_right (by omega)] at hj
              have e2 : j = r.length := by
                have := (List.getElem?_eq_some_iff.mp hj).1
                rw [List.length_singleton] at this; omega
              subst e2
              rw [Nat.sub_self] at hj
              cases hj
              rw [if_pos rfl]
              exact ⟨hp1, hp3, hp4, rfl, hp5, hp2⟩
          refine ev_blk (B := [(.aload_n 0, 1), (.aload_n 0, 1)]) (pe := 69) (ls' := [some (.ref (o)), some (.int (nI f)), some (.int (nI (p.2)))]) (st' := [.ref (o), .ref (o)]) ⟨dX11_goesOn_67, dX11_goesOn_68, rfl⟩ rfl ?_
          refine ev_getf (v := .ref (o + 18)) F_RX11_62 dX11_goesOn_69 f10 rfl ?_
          refine ev_blk (B := [(.aload_n 0, 1)]) (pe := 73) (ls' := [some (.ref (o)), some (.int (nI f)), some (.int (nI (p.2)))]) (st' := [.ref (o), .ref (o + 18), .ref (o)]) ⟨dX11_goesOn_72, rfl⟩ rfl ?_
          refine ev_getf (v := .int (nI (r.length))) F_RX11_284 dX11_goesOn_73 f10 (congrArg (fun q => some (Value.int q)) hd) ?_
          refine ev_iald dX11_goesOn_76 f12 (vp_in_nI (show r.length < 6 by omega) (by omega)) ?_
          rw [nI_clamp (show r.length < 2 ^ 31 by omega)]
          rw [show s r.length = nI (p.1.1) from hp1]
          refine ev_blk (B := [(.aload_n 0, 1)]) (pe := 78) (ls' := [some (.ref (o)), some (.int (nI f)), some (.int (nI (p.2)))]) (st' := [.ref (o), .int (nI (p.1.1)), .ref (o)]) ⟨dX11_goesOn_77, rfl⟩ rfl ?_
          refine ev_getf (v := .ref (o + 20)) F_RX11_68 dX11_goesOn_78 f10 rfl ?_
          refine ev_blk (B := [(.aload_n 0, 1)]) (pe := 82) (ls' := [some (.ref (o)), some (.int (nI f)), some (.int (nI (p.2)))]) (st' := [.ref (o), .ref (o + 20), .int (nI (p.1.1)), .ref (o)]) ⟨dX11_goesOn_81, rfl⟩ rfl ?_
          refine ev_getf (v := .int (nI (r.length))) F_RX11_284 dX11_goesOn_82 f10 (congrArg (fun q => some (Value.int q)) hd) ?_
          refine ev_lald dX11_goesOn_85 f14 (vp_in_nI (show r.length < 6 by omega) (by omega)) ?_
          rw [nI_clamp (show r.length < 2 ^ 31 by omega)]
          rw [show g r.length = e2 p.1.2.1 from hp3]
          refine ev_blk (B := [(.aload_n 0, 1)]) (pe := 87) (ls' := [some (.ref (o)), some (.int (nI f)), some (.int (nI (p.2)))]) (st' := [.ref (o), .long (e2 p.1.2.1), .int (nI (p.1.1)), .ref (o)]) ⟨dX11_goesOn_86, rfl⟩ rfl ?_
          refine ev_getf (v := .ref (o + 21)) F_RX11_71 dX11_goesOn_87 f10 rfl ?_
          refine ev_blk (B := [(.aload_n 0, 1)]) (pe := 91) (ls' := [some (.ref (o)), some (.int (nI f)), some (.int (nI (p.2)))]) (st' := [.ref (o), .ref (o + 21), .long (e2 p.1.2.1), .int (nI (p.1.1)), .ref (o)]) ⟨dX11_goesOn_90, rfl⟩ rfl ?_
          refine ev_getf (v := .int (nI (r.length))) F_RX11_284 dX11_goesOn_91 f10 (congrArg (fun q => some (Value.int q)) hd) ?_
          refine ev_lald dX11_goesOn_94 f15 (vp_in_nI (show r.length < 6 by omega) (by omega)) ?_
          rw [nI_clamp (show r.length < 2 ^ 31 by omega)]
          rw [show h r.length = e2 p.1.2.2 from hp4]
          have W16 : FX o (o + 18) (o + 22) M M9 := ⟨by rw [eM9]; simp only [List.length_set], fun j hj1 hj2 => by rw [eM9, ev_sn (by omega)]⟩
          refine ev_cVn Y_X11_takes L_RX11_198 dX11_goesOn_95 ⟨Nat.le_of_ble_eq_true rfl, Nat.le_of_ble_eq_true rfl, Nat.le_of_ble_eq_true rfl, Nat.le_of_ble_eq_true rfl, Nat.le_of_ble_eq_true rfl⟩ f10 (as := [.int (nI (p.1.1)), .long (e2 p.1.2.1), .long (e2 p.1.2.2)]) rfl rfl (c_R_takes hl o (zi) (zl) f10 p.1) (fun M17 hL17 hB17 => ?_)
          obtain ⟨T18z, T18f⟩ := hB17
          refine ev_blk (B := [(.aload_n 0, 1), (.iload_n 2, 1)]) (pe := 100) (ls' := [some (.ref (o)), some (.int (nI f)), some (.int (nI (p.2)))]) (st' := [.int (nI (p.2)), .ref (o)]) ⟨dX11_goesOn_98, dX11_goesOn_99, rfl⟩ rfl ?_
          refine ev_cVv Y_X11_mayFire L_RX11_202 dX11_goesOn_100 ⟨Nat.le_of_ble_eq_true rfl, Nat.le_of_ble_eq_true rfl, Nat.le_of_ble_eq_true rfl, Nat.le_of_ble_eq_true rfl, Nat.le_of_ble_eq_true rfl⟩ T18z (as := [.int (nI (p.2))]) rfl rfl (c_R_mayFire hl o (ui (zi) 11 (nI p.1.1)) (ul (ul (zl) 13 (e2 p.1.2.1)) 14 (e2 p.1.2.2)) T18z _ (T18f.at f11 (by omega) (by omega)) S.T hPT hT10 hS.T p.2 (by omega) p.1 (hp5.le (by omega) : cfW 25 p.1) rfl rfl rfl) ?_
          refine ev_ifB_ne dX11_goesOn_103 (tgt := 109) (by decide) (fun q103 => ?_) (fun q103 => ?_)
          · refine ev_blk (B := [(.aload_n 0, 1), (.iload_n 2, 1)]) (pe := 111) (ls' := [some (.ref (o)), some (.int (nI f)), some (.int (nI (p.2)))]) (st' := [.int (nI (p.2)), .ref (o)]) ⟨dX11_goesOn_109, dX11_goesOn_110, rfl⟩ rfl ?_
            refine ev_cVn Y_X11_fires L_RX11_212 dX11_goesOn_111 ⟨Nat.le_of_ble_eq_true rfl, Nat.le_of_ble_eq_true rfl, Nat.le_of_ble_eq_true rfl, Nat.le_of_ble_eq_true rfl, Nat.le_of_ble_eq_true rfl⟩ T18z (as := [.int (nI (p.2))]) rfl rfl (c_R_fires hl o (ui (zi) 11 (nI p.1.1)) (ul (ul (zl) 13 (e2 p.1.2.1)) 14 (e2 p.1.2.2)) T18z _ (T18f.at f11 (by omega) (by omega)) S.T hPT hT10 hS.T p.2 hp2 p.1 (hp5.le (by omega)) rfl rfl rfl q103) (fun M19 hL19 hB19 => ?_)
            obtain ⟨Xi, Xl, Xz, XD, XF⟩ := hB19
            refine ev_blk (B := [(.aload_n 0, 1), (.dup, 1)]) (pe := 116) (ls' := [some (.ref (o)), some (.int (nI f)), some (.int (nI (p.2)))]) (st' := [.ref (o), .ref (o)]) ⟨dX11_goesOn_114, dX11_goesOn_115, rfl⟩ rfl ?_
            refine ev_getf (v := .int (nI (r.length))) F_RX11_284 dX11_goesOn_116 Xz (congrArg (fun q => some (Value.int q)) ((XD.2.2.2.2.1 36 (by decide) (by decide)).trans hd)) ?_
            refine ev_blk (B := [(.iconst 1, 1), (.iadd, 1)]) (pe := 121) (ls' := [some (.ref (o)), some (.int (nI f)), some (.int (nI (p.2)))]) (st' := [.int (nI ((r.length) + 1)), .ref (o)]) ⟨dX11_goesOn_119, dX11_goesOn_120, rfl⟩ (by show some (([some (.ref (o)), some (.int (nI f)), some (.int (nI (p.2)))] : ev_L), ([.int ((nI (r.length)) + (nI 1)), .ref (o)] : List Value)) = _; rw [nI_add (r.length) 1]) ?_
            refine ev_put F_RX11_284 dX11_goesOn_121 Xz (Nat.le_of_ble_eq_true rfl) (fun _ _ => ⟨rfl, rfl⟩) ?_
            rw [zs_36]
            refine ev_nm (M0 := M19.set (o) (.inr (10, zo o (ui (Xi) 36 (nI ((r.length) + 1))) (Xl)))) (fun M20 eM20 => ?_)
            have f21 : M20[o]? = some (.inr (10, zo o (ui (Xi) 36 (nI ((r.length) + 1))) (Xl))) := by rw [eM20]; exact ev_sg Xz
            have f22 : M20[o + 1]? = some (.inl (0, 50, .inl (fT))) := by rw [eM20, ev_sn (by omega)]; exact (XF.at (T18f.at f11 (by omega) (by omega)) (by omega) (by omega))
            have f23 : M20[o + 18]? = some (.inl (0, 6, .inl (s))) := by rw [eM20, ev_sn (by omega)]; exact (XF.at (T18f.at f12 (by omega) (by omega)) (by omega) (by omega))
            have f24 : M20[o + 19]? = some (.inl (0, 6, .inl (upd nx r.length (nI ((p.2) + 1))))) := by rw [eM20, ev_sn (by omega)]; exact (XF.at (T18f.at f13 (by omega) (by omega)) (by omega) (by omega))
            have f25 : M20[o + 20]? = some (.inl (1, 6, .inr (.inl (g)))) := by rw [eM20, ev_sn (by omega)]; exact (XF.at (T18f.at f14 (by omega) (by omega)) (by omega) (by omega))
            have f26 : M20[o + 21]? = some (.inl (1, 6, .inr (.inl (h)))) := by rw [eM20, ev_sn (by omega)]; exact (XF.at (T18f.at f15 (by omega) (by omega)) (by omega) (by omega))
            refine ev_blk (B := [(.aload_n 0, 1)]) (pe := 125) (ls' := [some (.ref (o)), some (.int (nI f)), some (.int (nI (p.2)))]) (st' := [.ref (o)]) ⟨dX11_goesOn_124, rfl⟩ rfl ?_
            have W27 : FX o (o + 31) (o + 31) M19 M20 := ⟨by rw [eM20]; simp only [List.length_set], fun j hj1 hj2 => by rw [eM20, ev_sn (by omega)]⟩
            have hPL2 : PLv M20 o S.T (r ++ [(p.1, p.2 + 1)]) := ⟨_, _, _, _, f23, f24, f25, f26, hnew⟩
            have hrl : (r ++ [(p.1, p.2 + 1)]).length = r.length + 1 := by rw [List.length_append]; rfl
            refine ev_cVn Y_X11_rests L_RX11_287 dX11_goesOn_125 ⟨Nat.le_of_ble_eq_true rfl, Nat.le_of_ble_eq_true rfl, Nat.le_of_ble_eq_true rfl, Nat.le_of_ble_eq_true rfl, Nat.le_of_ble_eq_true rfl⟩ f21 (as := []) rfl rfl (c_R_rests hl o (ui (Xi) 36 (nI ((r.length) + 1))) (Xl) f21 S.T (r ++ [(p.1, p.2 + 1)]) (by omega) (by rw [hrl]; rfl) (ap (tg S.T p.2) p.1).2 (by rw [hrl]; exact (ap_ok hp5 (trs_tg hS.T hp2)).le (by omega)) XD.1 XD.2.2.1 XD.2.2.2.1 hPL2) (fun M28 hL28 hB28 => ?_)
            obtain ⟨Yz, YL, YF⟩ := hB28
            refine ev_blk (B := [(.aload_n 0, 1)]) (pe := 129) (ls' := [some (.ref (o)), some (.int (nI f)), some (.int (nI (p.2)))]) (st' := [.ref (o)]) ⟨dX11_goesOn_128, rfl⟩ rfl ?_
            refine ev_getf (v := .int (nI ((r.length) + 1))) F_RX11_284 dX11_goesOn_129 Yz rfl ?_
            refine ev_blk (B := [(.iload_n 1, 1)]) (pe := 133) (ls' := [some (.ref (o)), some (.int (nI f)), some (.int (nI (p.2)))]) (st' := [.int (nI f), .int (nI ((r.length) + 1))]) ⟨dX11_goesOn_132, rfl⟩ rfl ?_
            refine ev_iN_ne dX11_goesOn_133 (tgt := 138) (by decide) (by omega) (by omega) (fun q133 => ?_) (fun q133 => ?_)
            · refine ev_goto (tgt := 0) dX11_goesOn_138 (by decide) ?_
              refine ev_fgt (ls' := [some (.ref (o)), some (.int (nI f)), none]) ⟨Or.inr rfl, Or.inr rfl, Or.inl rfl, trivial⟩ ?_
              have hlv : lvf S.T (f - r.length) p.1 p.2 = lv S.T (f - r.length - 1) (ap (tg S.T p.2) p.1).2 ++ lvf S.T (f - r.length) p.1 (p.2 + 1) := by
                obtain ⟨k, hk⟩ : ∃ k, f - r.length = k + 1 := ⟨f - r.length - 1, by omega⟩
                rw [hk, lvf_s hp2, if_pos q103]; rfl
              have hl2 : lv S.T (f - r.length - 1) (ap (tg S.T p.2) p.1).2 = lvf S.T (f - r.length - 1) (ap (tg S.T p.2) p.1).2 0 := by
                obtain ⟨k, hk⟩ : ∃ k, f - r.length - 1 = k + 1 := ⟨f - r.length - 2, by omega⟩
                rw [hk]; rfl
              refine ih ((r ++ [(p.1, p.2 + 1)]) ++ [((ap (tg S.T p.2) p.1).2, 0)]) _ _ _ Yz (hR.ku Yz (⟨fun k hk => (ui_ne (nm hk (by decide))).trans ((XD.2.2.2.2.1 k (nm hk (by decide)) (nm hk (by decide))).trans (ui_ne (nm hk (by decide)))), fun k hk => (XD.2.2.2.2.2 k (nm hk (by decide)) (nm hk (by decide))).trans ((ul_ne (nm hk (by decide))).trans (ul_ne (nm hk (by decide))))⟩) ((W16.tr (T18f.em (by omega))).tr ((XF.em (by omega)).tr ((W27.em (by omega)).tr YF))) YL.u) (by rw [List.length_append, hrl]; rfl) (by rw [List.length_append, hrl, List.length_singleton]; omega) YL ((XD.2.2.2.2.1 0 (by decide) (by decide)).trans h0) (hF.tr ((W16.tr (T18f.em (by omega))).tr ((XF.em (by omega)).tr ((W27.em (by omega)).tr YF)))) ?_ (Nat.lt_of_lt_of_le ?_ hm9)
              · rw [List.reverse_append, List.reverse_append, ← hrm, hlv, hl2]
                show lvf S.T (f - ([(p.1, p.2 + 1)].reverse ++ r.reverse).length) (ap (tg S.T p.2) p.1).2 0 ++ (lvf S.T (f - r.reverse.length) p.1 (p.2 + 1) ++ rmT S.T f r.reverse) = _
                rw [List.length_append, List.length_reverse, List.length_reverse, List.length_singleton, List.append_assoc, show f - (1 + r.length) = f - r.length - 1 by omega]
              · rw [List.reverse_append, List.reverse_append, List.reverse_append]
                exact mz_push (f := f) (x := p.1) (r := r.reverse) hp2 hT10 (by rw [List.length_reverse]; omega)
            · refine ev_blk (B := [(.iconst 1, 1)]) (pe := 137) (ls' := [some (.ref (o)), some (.int (nI f)), some (.int (nI (p.2)))]) (st' := [.int (nI 1)]) ⟨dX11_goesOn_136, rfl⟩ rfl ?_
              refine ev_iret dX11_goesOn_137 rfl (rfl) ⟨Nat.le_of_ble_eq_true rfl, Nat.le_of_ble_eq_true rfl⟩ ?_
              have hlv : lvf S.T (f - r.length) p.1 p.2 = [(ap (tg S.T p.2) p.1).2] ++ lvf S.T (f - r.length) p.1 (p.2 + 1) := by
                rw [show f - r.length = 0 + 1 by omega, lvf_s hp2, if_pos q103]; rfl
              have hRn := hR.ku Yz (⟨fun k hk => (ui_ne (nm hk (by decide))).trans ((XD.2.2.2.2.1 k (nm hk (by decide)) (nm hk (by decide))).trans (ui_ne (nm hk (by decide)))), fun k hk => (XD.2.2.2.2.2 k (nm hk (by decide)) (nm hk (by decide))).trans ((ul_ne (nm hk (by decide))).trans (ul_ne (nm hk (by decide))))⟩) ((W16.tr (T18f.em (by omega))).tr ((XF.em (by omega)).tr ((W27.em (by omega)).tr YF))) YL.u
              refine ⟨Or.inr ⟨(ap (tg S.T p.2) p.1).2, lvf S.T (f - r.length) p.1 (p.2 + 1) ++ rmT S.T f r.reverse, by rw [← hrm, hlv]; rfl, rfl, (r ++ [(p.1, p.2 + 1)]) ++ [((ap (tg S.T p.2) p.1).2, 0)], _, _, ?_, YL, by rw [List.length_append, hrl, List.length_singleton]; omega, hRn, (XD.2.2.2.2.1 0 (by decide) (by decide)).trans h0, by rw [List.length_append, hrl]; rfl, XD.1, XD.2.2.1, XD.2.2.2.1, (ap_ok hp5 (trs_tg hS.T hp2)).le (by omega)⟩, ⟨_, _, hRn, (XD.2.2.2.2.1 0 (by decide) (by decide)).trans h0⟩, hF.tr ((W16.tr (T18f.em (by omega))).tr ((XF.em (by omega)).tr ((W27.em (by omega)).tr YF)))⟩
              rw [List.reverse_append, List.reverse_append]
              show lvf S.T (f - ([(p.1, p.2 + 1)].reverse ++ r.reverse).length) (ap (tg S.T p.2) p.1).2 0 ++ (lvf S.T (f - r.reverse.length) p.1 (p.2 + 1) ++ rmT S.T f r.reverse) = _
              rw [List.length_append, List.length_reverse, List.length_reverse, List.length_singleton, show f - (1 + r.length) = 0 by omega]; rfl
          · refine ev_goto (tgt := 0) dX11_goesOn_106 (by decide) ?_
            refine ev_fgt (ls' := [some (.ref (o)), some (.int (nI f)), none]) ⟨Or.inr rfl, Or.inr rfl, Or.inl rfl, trivial⟩ ?_
            have hlv : lvf S.T (f - r.length) p.1 p.2 = lvf S.T (f - r.length) p.1 (p.2 + 1) := by
              obtain ⟨k, hk⟩ : ∃ k, f - r.length = k + 1 := ⟨f - r.length - 1, by omega⟩
              rw [hk, lvf_s hp2, if_neg (by rw [q103]; decide)]; rfl
            have hPL2 : PLv M17 o S.T (r ++ [(p.1, p.2 + 1)]) := ⟨_, _, _, _, (T18f.at f12 (by omega) (by omega)), (T18f.at f13 (by omega) (by omega)), (T18f.at f14 (by omega) (by omega)), (T18f.at f15 (by omega) (by omega)), hnew⟩
            refine ih (r ++ [(p.1, p.2 + 1)]) _ _ _ T18z (hR.ku T18z ⟨fun k hk => ui_ne (nm hk (by decide)), fun k hk => (ul_ne (nm hk (by decide))).trans (ul_ne (nm hk (by decide)))⟩ (W16.tr (T18f.em (by omega))) hPL2.u) (by rw [List.length_append]; exact hd) (by rw [List.length_append, List.length_singleton]; omega) hPL2 h0 (hF.tr (W16.tr (T18f.em (by omega)))) ?_ (Nat.lt_of_lt_of_le ?_ hm9)
            · rw [List.reverse_append, ← hrm, hlv]
              show lvf S.T (f - r.reverse.length) p.1 (p.2 + 1) ++ rmT S.T f r.reverse = _
              rw [List.length_reverse]
            · rw [List.reverse_append, List.reverse_append]
              exact mz_nx (f := f) (x := p.1) (r := r.reverse) hp2
        · refine ev_blk (B := [(.aload_n 0, 1), (.dup, 1)]) (pe := 33) (ls' := [some (.ref (o)), some (.int (nI f)), none]) (st' := [.ref (o), .ref (o)]) ⟨dX11_goesOn_31, dX11_goesOn_32, rfl⟩ rfl ?_
          refine ev_getf (v := .int (nI (r.length))) F_RX11_284 dX11_goesOn_33 hO (congrArg (fun q => some (Value.int q)) hd) ?_
          refine ev_blk (B := [(.iconst 1, 1), (.isub, 1)]) (pe := 38) (ls' := [some (.ref (o)), some (.int (nI f)), none]) (st' := [.int (dI r.length), .ref (o)]) ⟨dX11_goesOn_36, dX11_goesOn_37, rfl⟩ (by show some (([some (.ref (o)), some (.int (nI f)), none] : ev_L), ([.int ((nI (r.length)) - (nI 1)), .ref (o)] : List Value)) = _; rw [show (nI (r.length)) - (nI 1) = dI r.length from dI_s _]) ?_
          refine ev_put F_RX11_284 dX11_goesOn_38 hO (Nat.le_of_ble_eq_true rfl) (fun _ _ => ⟨rfl, rfl⟩) ?_
          rw [zs_36]
          refine ev_nm (M0 := M.set (o) (.inr (10, zo o (ui (zi) 36 (dI r.length)) (zl)))) (fun M29 eM29 => ?_)
          have f30 : M29[o]? = some (.inr (10, zo o (ui (zi) 36 (dI r.length)) (zl))) := by rw [eM29]; exact ev_sg hO
          have f31 : M29[o + 1]? = some (.inl (0, 50, .inl (fT))) := by rw [eM29, ev_sn (by omega)]; exact hfT
          have f32 : M29[o + 18]? = some (.inl (0, 6, .inl (s))) := by rw [eM29, ev_sn (by omega)]; exact u18
          have f33 : M29[o + 19]? = some (.inl (0, 6, .inl (nx))) := by rw [eM29, ev_sn (by omega)]; exact u19
          have f34 : M29[o + 20]? = some (.inl (1, 6, .inr (.inl (g)))) := by rw [eM29, ev_sn (by omega)]; exact u20
          have f35 : M29[o + 21]? = some (.inl (1, 6, .inr (.inl (h)))) := by rw [eM29, ev_sn (by omega)]; exact u21
          refine ev_goto (tgt := 0) dX11_goesOn_41 (by decide) ?_
          have W36 : FX o (o + 31) (o + 31) M M29 := ⟨by rw [eM29]; simp only [List.length_set], fun j hj1 hj2 => by rw [eM29, ev_sn (by omega)]⟩
          have hlv : lvf S.T (f - r.length) p.1 p.2 = [] := lvf_e (by omega)
          refine ih r _ _ _ f30 (hR.keep f30 ⟨fun k hk => ui_ne (nm hk (by decide)), fun k hk => rfl⟩ W36) rfl (by omega) ((hL0.pop).fx W36 (by omega)) h0 (hF.tr (W36.em (by omega))) (by rw [← hrm, hlv]; rfl) (Nat.lt_of_lt_of_le hmz hm9)

