/-! ===== the reference: a configuration is put in ===== -/
/-- nothing changed but the object and the rows of what is made -/
def FM (o : Nat) (M M1 : ev_M) : Prop := M1.length = M.length ∧ ∀ j, j ≠ o → j ≠ o + 13 → j ≠ o + 16 → j ≠ o + 17 → M1[j]? = M[j]?
theorem FM.rf {o : Nat} {M : ev_M} : FM o M M := ⟨rfl, fun _ _ _ _ _ => rfl⟩
theorem FM.tr {o : Nat} {M M1 M2 : ev_M} (h1 : FM o M M1) (h2 : FM o M1 M2) : FM o M M2 := ⟨h2.1.trans h1.1, fun j a b c d => (h2.2 j a b c d).trans (h1.2 j a b c d)⟩
theorem FM.at {o : Nat} {M M1 : ev_M} (h : FM o M M1) {j : Nat} {c : va_E} (hj : M[j]? = some c) (h1 : j ≠ o) (h2 : j ≠ o + 13) (h3 : j ≠ o + 16) (h4 : j ≠ o + 17) : M1[j]? = some c := (h.2 j h1 h2 h3 h4).trans hj
theorem FM.fx {o : Nat} {M M1 : ev_M} (h : FM o M M1) : FX o (o + 11) (o + 18) M M1 := ⟨h.1, fun j a b => h.2 j a (by omega) (by omega) (by omega)⟩
theorem FM.of {o lo hi : Nat} {M M1 : ev_M} (h : FX o lo hi M M1) (h1 : hi ≤ lo) : FM o M M1 := ⟨h.1, fun j a _ _ _ => h.2 j a (by omega)⟩
theorem n2_iff {u v : List Nat} (hu : wk u) (hv : wk v) : n1 u = n1 v ↔ n2 u = n2 v := ⟨fun h => by rw [n1_inj hu hv h], fun h => by rw [n2_inj hu hv h]⟩
theorem cl2 {x y : Cf} (hx : cfO x) (hy : cfO y) : cl x y = if x.1 = y.1 then (if n2 x.2.1 = n2 y.2.1 then decide (n2 x.2.2 < n2 y.2.2) else decide (n2 x.2.1 < n2 y.2.1)) else decide (x.1 < y.1) := by
  unfold cl
  simp only [n2_iff hx.2.1 hy.2.1, n12_lt hx.2.1 hy.2.1, n12_lt hx.2.2.2.1 hy.2.2.2.1]
theorem QP.ins {n p : Nat} {f : Nat → Int32} {g h : Nat → Int64} {L : List Cf} {x : Cf} (hn : n = L.length) (hp : p ≤ n) (h1 : ∀ i, i < p → f i = nI (cg L i).1 ∧ g i = e2 (cg L i).2.1 ∧ h i = e2 (cg L i).2.2) (h2 : ∀ i, p < i → i ≤ n → f i = nI (cg L (i - 1)).1 ∧ g i = e2 (cg L (i - 1)).2.1 ∧ h i = e2 (cg L (i - 1)).2.2) :
    QP 0 (n + 1) (upd f p (nI x.1)) (vp_updL g p (e2 x.2.1)) (vp_updL h p (e2 x.2.2)) (L.take p ++ x :: L.drop p) := by
  subst hn
  refine QP.of fun i hi => ?_
  have ht : (L.take p).length = p := by rw [List.length_take]; omega
  rw [upd_at, updL_at, updL_at]
  rcases Nat.lt_trichotomy i p with q | q | q
  · rw [if_neg (by omega), if_neg (by omega), if_neg (by omega), cg_app_l (by omega), cg_take q]
    exact h1 i q
  · subst q
    rw [if_pos rfl, if_pos rfl, if_pos rfl]
    have := cg_app_r (L := L.take i) (R := x :: L.drop i) (i := 0)
    rw [ht, Nat.add_zero] at this
    rw [this]; exact ⟨rfl, rfl, rfl⟩
  · rw [if_neg (by omega), if_neg (by omega), if_neg (by omega)]
    have := cg_app_r (L := L.take p) (R := x :: L.drop p) (i := i - p)
    rw [ht, show p + (i - p) = i by omega] at this
    rw [this]
    have e : cg (x :: L.drop p) (i - p) = cg L (i - 1) := by
      obtain ⟨k, hk⟩ : ∃ k, i - p = k + 1 := ⟨i - p - 1, by omega⟩
      rw [hk]
      unfold cg
      rw [List.getD_eq_getElem?_getD, List.getD_eq_getElem?_getD, List.getElem?_cons_succ, List.getElem?_drop, show p + k = i - 1 by omega]
    rw [e]
    exact h2 i q (by omega)
/-- the rows of what is made hold a list -/
def PM (M : ev_M) (o : Nat) (L : List Cf) : Prop := ∃ f g h, M[o + 13]? = some (.inl (0, 400, .inl f)) ∧ M[o + 16]? = some (.inl (1, 400, .inr (.inl g))) ∧ M[o + 17]? = some (.inl (1, 400, .inr (.inl h))) ∧ QP 0 L.length f g h L
set_option maxHeartbeats 4000000 in
set_option maxRecDepth 100000 in
theorem c_R_isAhead {l : Launch} (hl : l.stackTraces = false) {M : ev_M} (o : Nat) (zi : Nat → Int32) (zl : Nat → Int64) (hO : M[o]? = some (.inr (10, zo o zi zl))) (f : Nat → Int32) (g h : Nat → Int64) (h13 : M[o + 13]? = some (.inl (0, 400, .inl f))) (h16 : M[o + 16]? = some (.inl (1, 400, .inr (.inl g)))) (h17 : M[o + 17]? = some (.inl (1, 400, .inr (.inl h)))) (i : Nat) (hi : i < 400) (x : Cf) (hx : cfO x) (y : Cf) (hy : cfO y) (hrow : f i = nI y.1 ∧ g i = e2 y.2.1 ∧ h i = e2 y.2.2) : ev_Mt l m_X11_isAhead [.ref (o), .int (nI (x.1)), .long (e2 x.2.1), .long (e2 x.2.2), .int (nI i)] M (ev_q (.inl (some (.int (ev_b (cl x y))))) M) := by
  have b1 : y.1 < 6 := hy.1
  have b2 : x.1 < 6 := hx.1
  refine ev_body hl rfl (by decide +kernel) (Nat.le_of_ble_eq_true rfl) ?_
  show ev_ l m_X11_isAhead 0 0 0 [some (.ref (o)), some (.int (nI (x.1))), some (.long (e2 x.2.1)), none, some (.long (e2 x.2.2)), none, some (.int (nI i))] [] M _
  refine ev_blk (B := [(.iload_n 1, 1), (.aload_n 0, 1)]) (pe := 2) (ls' := [some (.ref (o)), some (.int (nI (x.1))), some (.long (e2 x.2.1)), none, some (.long (e2 x.2.2)), none, some (.int (nI i))]) (st' := [.ref (o), .int (nI (x.1))]) ⟨dX11_isAhead_0, dX11_isAhead_1, rfl⟩ rfl ?_
  refine ev_getf (v := .ref (o + 13)) F_RX11_47 dX11_isAhead_2 hO rfl ?_
  refine ev_blk (B := [(.iload 6, 2)]) (pe := 7) (ls' := [some (.ref (o)), some (.int (nI (x.1))), some (.long (e2 x.2.1)), none, some (.long (e2 x.2.2)), none, some (.int (nI i))]) (st' := [.int (nI i), .ref (o + 13), .int (nI (x.1))]) ⟨dX11_isAhead_5, rfl⟩ rfl ?_
  refine ev_iald dX11_isAhead_7 h13 (vp_in_nI (show i < 400 by omega) (by omega)) ?_
  rw [nI_clamp (show i < 2 ^ 31 by omega)]
  rw [show f i = nI (y.1) from hrow.1]
  refine ev_iN_eq dX11_isAhead_8 (tgt := 28) (by decide) (by omega) (by omega) (fun q8 => ?_) (fun q8 => ?_)
  · refine ev_blk (B := [(.lload_n 2, 1), (.aload_n 0, 1)]) (pe := 30) (ls' := [some (.ref (o)), some (.int (nI (x.1))), some (.long (e2 x.2.1)), none, some (.long (e2 x.2.2)), none, some (.int (nI i))]) (st' := [.ref (o), .long (e2 x.2.1)]) ⟨dX11_isAhead_28, dX11_isAhead_29, rfl⟩ rfl ?_
    refine ev_getf (v := .ref (o + 16)) F_RX11_56 dX11_isAhead_30 hO rfl ?_
    refine ev_blk (B := [(.iload 6, 2)]) (pe := 35) (ls' := [some (.ref (o)), some (.int (nI (x.1))), some (.long (e2 x.2.1)), none, some (.long (e2 x.2.2)), none, some (.int (nI i))]) (st' := [.int (nI i), .ref (o + 16), .long (e2 x.2.1)]) ⟨dX11_isAhead_33, rfl⟩ rfl ?_
    refine ev_lald dX11_isAhead_35 h16 (vp_in_nI (show i < 400 by omega) (by omega)) ?_
    rw [nI_clamp (show i < 2 ^ 31 by omega)]
    rw [show g i = e2 y.2.1 from hrow.2.1]
    refine ev_blk (B := [(.lcmp, 1)]) (pe := 37) (ls' := [some (.ref (o)), some (.int (nI (x.1))), some (.long (e2 x.2.1)), none, some (.long (e2 x.2.2)), none, some (.int (nI i))]) (st' := [.int (lg_cmp (e2 x.2.1) (e2 y.2.1))]) ⟨dX11_isAhead_36, rfl⟩ rfl ?_
    refine ev_lc_eq dX11_isAhead_37 (tgt := 60) (by decide) (fun q37 => ?_) (fun q37 => ?_)
    · have q37 := (wl_eq (q2_62 hx.2.1 hx.2.2.1) (q2_62 hy.2.1 hy.2.2.1)).mp q37
      refine ev_blk (B := [(.lload 4, 2), (.aload_n 0, 1)]) (pe := 63) (ls' := [some (.ref (o)), some (.int (nI (x.1))), some (.long (e2 x.2.1)), none, some (.long (e2 x.2.2)), none, some (.int (nI i))]) (st' := [.ref (o), .long (e2 x.2.2)]) ⟨dX11_isAhead_60, dX11_isAhead_62, rfl⟩ rfl ?_
      refine ev_getf (v := .ref (o + 17)) F_RX11_59 dX11_isAhead_63 hO rfl ?_
      refine ev_blk (B := [(.iload 6, 2)]) (pe := 68) (ls' := [some (.ref (o)), some (.int (nI (x.1))), some (.long (e2 x.2.1)), none, some (.long (e2 x.2.2)), none, some (.int (nI i))]) (st' := [.int (nI i), .ref (o + 17), .long (e2 x.2.2)]) ⟨dX11_isAhead_66, rfl⟩ rfl ?_
      refine ev_lald dX11_isAhead_68 h17 (vp_in_nI (show i < 400 by omega) (by omega)) ?_
      rw [nI_clamp (show i < 2 ^ 31 by omega)]
      rw [show h i = e2 y.2.2 from hrow.2.2]
      refine ev_blk (B := [(.lcmp, 1)]) (pe := 70) (ls' := [some (.ref (o)), some (.int (nI (x.1))), some (.long (e2 x.2.1)), none, some (.long (e2 x.2.2)), none, some (.int (nI i))]) (st' := [.int (lg_cmp (e2 x.2.2) (e2 y.2.2))]) ⟨dX11_isAhead_69, rfl⟩ rfl ?_
      refine ev_lc_ge dX11_isAhead_70 (tgt := 77) (by decide) (fun q70 => ?_) (fun q70 => ?_)
      · have q70 := (wl_le (q2_62 hy.2.2.2.1 hy.2.2.2.2) (q2_62 hx.2.2.2.1 hx.2.2.2.2)).mp q70
        refine ev_blk (B := [(.iconst 0, 1)]) (pe := 78) (ls' := [some (.ref (o)), some (.int (nI (x.1))), some (.long (e2 x.2.1)), none, some (.long (e2 x.2.2)), none, some (.int (nI i))]) (st' := [.int (nI 0)]) ⟨dX11_isAhead_77, rfl⟩ rfl ?_
        refine ev_iret dX11_isAhead_78 rfl (rfl) ⟨Nat.le_of_ble_eq_true rfl, Nat.le_of_ble_eq_true rfl⟩ ?_
        exact ev_q_e (by rw [cl2 hx hy]; (repeat' split) <;> first | (exfalso; omega) | (rw [decide_eq_true (by omega)]; rfl) | (rw [decide_eq_false (by omega)]; rfl))
      · have q70 := mt (wl_le (q2_62 hy.2.2.2.1 hy.2.2.2.2) (q2_62 hx.2.2.2.1 hx.2.2.2.2)).mpr q70
        refine ev_blk (B := [(.iconst 1, 1)]) (pe := 74) (ls' := [some (.ref (o)), some (.int (nI (x.1))), some (.long (e2 x.2.1)), none, some (.long (e2 x.2.2)), none, some (.int (nI i))]) (st' := [.int (nI 1)]) ⟨dX11_isAhead_73, rfl⟩ rfl ?_
        refine ev_goto (tgt := 78) dX11_isAhead_74 (by decide) ?_
        refine ev_iret dX11_isAhead_78 rfl (rfl) ⟨Nat.le_of_ble_eq_true rfl, Nat.le_of_ble_eq_true rfl⟩ ?_
        exact ev_q_e (by rw [cl2 hx hy]; (repeat' split) <;> first | (exfalso; omega) | (rw [decide_eq_true (by omega)]; rfl) | (rw [decide_eq_false (by omega)]; rfl))
    · have q37 := mt (wl_eq (q2_62 hx.2.1 hx.2.2.1) (q2_62 hy.2.1 hy.2.2.1)).mpr q37
      refine ev_blk (B := [(.lload_n 2, 1), (.aload_n 0, 1)]) (pe := 42) (ls' := [some (.ref (o)), some (.int (nI (x.1))), some (.long (e2 x.2.1)), none, some (.long (e2 x.2.2)), none, some (.int (nI i))]) (st' := [.ref (o), .long (e2 x.2.1)]) ⟨dX11_isAhead_40, dX11_isAhead_41, rfl⟩ rfl ?_
      refine ev_getf (v := .ref (o + 16)) F_RX11_56 dX11_isAhead_42 hO rfl ?_
      refine ev_blk (B := [(.iload 6, 2)]) (pe := 47) (ls' := [some (.ref (o)), some (.int (nI (x.1))), some (.long (e2 x.2.1)), none, some (.long (e2 x.2.2)), none, some (.int (nI i))]) (st' := [.int (nI i), .ref (o + 16), .long (e2 x.2.1)]) ⟨dX11_isAhead_45, rfl⟩ rfl ?_
      refine ev_lald dX11_isAhead_47 h16 (vp_in_nI (show i < 400 by omega) (by omega)) ?_
      rw [nI_clamp (show i < 2 ^ 31 by omega)]
      rw [show g i = e2 y.2.1 from hrow.2.1]
      refine ev_blk (B := [(.lcmp, 1)]) (pe := 49) (ls' := [some (.ref (o)), some (.int (nI (x.1))), some (.long (e2 x.2.1)), none, some (.long (e2 x.2.2)), none, some (.int (nI i))]) (st' := [.int (lg_cmp (e2 x.2.1) (e2 y.2.1))]) ⟨dX11_isAhead_48, rfl⟩ rfl ?_
      refine ev_lc_ge dX11_isAhead_49 (tgt := 56) (by decide) (fun q49 => ?_) (fun q49 => ?_)
      · have q49 := (wl_le (q2_62 hy.2.1 hy.2.2.1) (q2_62 hx.2.1 hx.2.2.1)).mp q49
        refine ev_blk (B := [(.iconst 0, 1)]) (pe := 57) (ls' := [some (.ref (o)), some (.int (nI (x.1))), some (.long (e2 x.2.1)), none, some (.long (e2 x.2.2)), none, some (.int (nI i))]) (st' := [.int (nI 0)]) ⟨dX11_isAhead_56, rfl⟩ rfl ?_
        refine ev_goto (tgt := 78) dX11_isAhead_57 (by decide) ?_
        refine ev_iret dX11_isAhead_78 rfl (rfl) ⟨Nat.le_of_ble_eq_true rfl, Nat.le_of_ble_eq_true rfl⟩ ?_
        exact ev_q_e (by rw [cl2 hx hy]; (repeat' split) <;> first | (exfalso; omega) | (rw [decide_eq_true (by omega)]; rfl) | (rw [decide_eq_false (by omega)]; rfl))
      · have q49 := mt (wl_le (q2_62 hy.2.1 hy.2.2.1) (q2_62 hx.2.1 hx.2.2.1)).mpr q49
        refine ev_blk (B := [(.iconst 1, 1)]) (pe := 53) (ls' := [some (.ref (o)), some (.int (nI (x.1))), some (.long (e2 x.2.1)), none, some (.long (e2 x.2.2)), none, some (.int (nI i))]) (st' := [.int (nI 1)]) ⟨dX11_isAhead_52, rfl⟩ rfl ?_
        refine ev_goto (tgt := 78) dX11_isAhead_53 (by decide) ?_
        refine ev_iret dX11_isAhead_78 rfl (rfl) ⟨Nat.le_of_ble_eq_true rfl, Nat.le_of_ble_eq_true rfl⟩ ?_
        exact ev_q_e (by rw [cl2 hx hy]; (repeat' split) <;> first | (exfalso; omega) | (rw [decide_eq_true (by omega)]; rfl) | (rw [decide_eq_false (by omega)]; rfl))
  · refine ev_blk (B := [(.iload_n 1, 1), (.aload_n 0, 1)]) (pe := 13) (ls' := [some (.ref (o)), some (.int (nI (x.1))), some (.long (e2 x.2.1)), none, some (.long (e2 x.2.2)), none, some (.int (nI i))]) (st' := [.ref (o), .int (nI (x.1))]) ⟨dX11_isAhead_11, dX11_isAhead_12, rfl⟩ rfl ?_
    refine ev_getf (v := .ref (o + 13)) F_RX11_47 dX11_isAhead_13 hO rfl ?_
    refine ev_blk (B := [(.iload 6, 2)]) (pe := 18) (ls' := [some (.ref (o)), some (.int (nI (x.1))), some (.long (e2 x.2.1)), none, some (.long (e2 x.2.2)), none, some (.int (nI i))]) (st' := [.int (nI i), .ref (o + 13), .int (nI (x.1))]) ⟨dX11_isAhead_16, rfl⟩ rfl ?_
    refine ev_iald dX11_isAhead_18 h13 (vp_in_nI (show i < 400 by omega) (by omega)) ?_
    rw [nI_clamp (show i < 2 ^ 31 by omega)]
    rw [show f i = nI (y.1) from hrow.1]
    refine ev_iN_ge dX11_isAhead_19 (tgt := 26) (by decide) (by omega) (by omega) (fun q19 => ?_) (fun q19 => ?_)
    · refine ev_blk (B := [(.iconst 0, 1)]) (pe := 27) (ls' := [some (.ref (o)), some (.int (nI (x.1))), some (.long (e2 x.2.1)), none, some (.long (e2 x.2.2)), none, some (.int (nI i))]) (st' := [.int (nI 0)]) ⟨dX11_isAhead_26, rfl⟩ rfl ?_
      refine ev_iret dX11_isAhead_27 rfl (rfl) ⟨Nat.le_of_ble_eq_true rfl, Nat.le_of_ble_eq_true rfl⟩ ?_
      exact ev_q_e (by rw [cl2 hx hy]; (repeat' split) <;> first | (exfalso; omega) | (rw [decide_eq_true (by omega)]; rfl) | (rw [decide_eq_false (by omega)]; rfl))
    · refine ev_blk (B := [(.iconst 1, 1)]) (pe := 23) (ls' := [some (.ref (o)), some (.int (nI (x.1))), some (.long (e2 x.2.1)), none, some (.long (e2 x.2.2)), none, some (.int (nI i))]) (st' := [.int (nI 1)]) ⟨dX11_isAhead_22, rfl⟩ rfl ?_
      refine ev_goto (tgt := 27) dX11_isAhead_23 (by decide) ?_
      refine ev_iret dX11_isAhead_27 rfl (rfl) ⟨Nat.le_of_ble_eq_true rfl, Nat.le_of_ble_eq_true rfl⟩ ?_
      exact ev_q_e (by rw [cl2 hx hy]; (repeat' split) <;> first | (exfalso; omega) | (rw [decide_eq_true (by omega)]; rfl) | (rw [decide_eq_false (by omega)]; rfl))

set_option maxHeartbeats 4000000 in
set_option maxRecDepth 100000 in
theorem c_R_makes_a {l : Launch} (hl : l.stackTraces = false) {M : ev_M} (o : Nat) (zi : Nat → Int32) (zl : Nat → Int64) (hO : M[o]? = some (.inr (10, zo o zi zl))) (f : Nat → Int32) (g h : Nat → Int64) (h13 : M[o + 13]? = some (.inl (0, 400, .inl f))) (h16 : M[o + 16]? = some (.inl (1, 400, .inr (.inl g)))) (h17 : M[o + 17]? = some (.inl (1, 400, .inr (.inl h)))) (L : List Cf) (hlt : L.length < 400) (hL : cfs 25 L) (h28 : zi 28 = nI L.length) (hQ : QP 0 L.length f g h L) (x : Cf) (hx : cfO x) (Q : ev_R → ev_M → Prop) (hf : L.any (fun y => cb y x) = true → Q (.inl none) M) (hk : ∀ i, L.any (fun y => cb y x) = false → ev_ l m_X11_makes 0 0 59 [some (.ref (o)), some (.int (nI (x.1))), some (.long (e2 x.2.1)), none, some (.long (e2 x.2.2)), none, some (.int (nI i)), none] [] M Q) : ∀ (n9 : Nat) (i : Nat), i ≤ L.length → (∀ j, j < i → cb (cg L j) x = false) → L.length - i < n9 → ev_ l m_X11_makes 0 0 3 [some (.ref (o)), some (.int (nI (x.1))), some (.long (e2 x.2.1)), none, some (.long (e2 x.2.2)), none, some (.int (nI i)), none] [] M (Q) := by
  intro n9
  induction n9 with
  | zero => intro i hi ha hm9; exact absurd hm9 (by omega)
  | succ n9 ih =>
    intro i hi ha hm9
    refine ev_blk (B := [(.iload 6, 2), (.aload_n 0, 1)]) (pe := 6) (ls' := [some (.ref (o)), some (.int (nI (x.1))), some (.long (e2 x.2.1)), none, some (.long (e2 x.2.2)), none, some (.int (nI i)), none]) (st' := [.ref (o), .int (nI i)]) ⟨dX11_makes_3, dX11_makes_5, rfl⟩ rfl ?_
    refine ev_getf (v := .int (nI (L.length))) F_RX11_231 dX11_makes_6 hO (congrArg (fun q => some (Value.int q)) h28) ?_
    refine ev_iN_ge dX11_makes_9 (tgt := 59) (by decide) (by omega) (by omega) (fun q9 => ?_) (fun q9 => ?_)
    · refine hk i ?_
      rw [List.any_eq_false]
      intro y hy
      obtain ⟨j, hj, rfl⟩ := List.getElem_of_mem hy
      rw [← cg_get hj, ha j (by omega)]
      decide
    · have b1 : (cg L i).1 < 6 := (cfs_cg hL (by omega)).1
      have b2 : x.1 < 6 := hx.1
      refine ev_blk (B := [(.aload_n 0, 1)]) (pe := 13) (ls' := [some (.ref (o)), some (.int (nI (x.1))), some (.long (e2 x.2.1)), none, some (.long (e2 x.2.2)), none, some (.int (nI i)), none]) (st' := [.ref (o)]) ⟨dX11_makes_12, rfl⟩ rfl ?_
      refine ev_getf (v := .ref (o + 13)) F_RX11_47 dX11_makes_13 hO rfl ?_
      refine ev_blk (B := [(.iload 6, 2)]) (pe := 18) (ls' := [some (.ref (o)), some (.int (nI (x.1))), some (.long (e2 x.2.1)), none, some (.long (e2 x.2.2)), none, some (.int (nI i)), none]) (st' := [.int (nI i), .ref (o + 13)]) ⟨dX11_makes_16, rfl⟩ rfl ?_
      refine ev_iald dX11_makes_18 h13 (vp_in_nI (show i < 400 by omega) (by omega)) ?_
      rw [nI_clamp (show i < 2 ^ 31 by omega)]
      rw [show f i = nI ((cg L i).1) from (hQ.at (by omega)).1]
      refine ev_blk (B := [(.iload_n 1, 1)]) (pe := 20) (ls' := [some (.ref (o)), some (.int (nI (x.1))), some (.long (e2 x.2.1)), none, some (.long (e2 x.2.2)), none, some (.int (nI i)), none]) (st' := [.int (nI (x.1)), .int (nI ((cg L i).1))]) ⟨dX11_makes_19, rfl⟩ rfl ?_
      refine ev_iN_ne dX11_makes_20 (tgt := 53) (by decide) (by omega) (by omega) (fun q20 => ?_) (fun q20 => ?_)
      · refine ev_blk (B := [(.iinc 6 1, 3)]) (pe := 56) (ls' := [some (.ref (o)), some (.int (nI (x.1))), some (.long (e2 x.2.1)), none, some (.long (e2 x.2.2)), none, some (.int (nI (i + 1))), none]) (st' := []) ⟨dX11_makes_53, rfl⟩ (by show some (([some (.ref (o)), some (.int (nI (x.1))), some (.long (e2 x.2.1)), none, some (.long (e2 x.2.2)), none, some (.int ((nI i) + Int32.ofInt (1))), none] : ev_L), ([] : List Value)) = _; rw [ev_inc1 i]) ?_
        refine ev_goto (tgt := 3) dX11_makes_56 (by decide) ?_
        refine ih (i + 1) (by omega) (fun j hj => ?_) (by omega)
        by_cases e : j = i
        · subst e
          unfold cb
          first
            | (rw [q49, Bool.and_false, Bool.and_false]; done)
            | (rw [q34, Bool.false_and, Bool.and_false]; done)
            | (rw [beq_eq_false_iff_ne.mpr q20, Bool.false_and]; done)
        · exact ha j (by omega)
      · refine ev_blk (B := [(.aload_n 0, 1)]) (pe := 24) (ls' := [some (.ref (o)), some (.int (nI (x.1))), some (.long (e2 x.2.1)), none, some (.long (e2 x.2.2)), none, some (.int (nI i)), none]) (st' := [.ref (o)]) ⟨dX11_makes_23, rfl⟩ rfl ?_
        refine ev_getf (v := .ref (o + 16)) F_RX11_56 dX11_makes_24 hO rfl ?_
        refine ev_blk (B := [(.iload 6, 2)]) (pe := 29) (ls' := [some (.ref (o)), some (.int (nI (x.1))), some (.long (e2 x.2.1)), none, some (.long (e2 x.2.2)), none, some (.int (nI i)), none]) (st' := [.int (nI i), .ref (o + 16)]) ⟨dX11_makes_27, rfl⟩ rfl ?_
        refine ev_lald dX11_makes_29 h16 (vp_in_nI (show i < 400 by omega) (by omega)) ?_
        rw [nI_clamp (show i < 2 ^ 31 by omega)]
        rw [show g i = e2 (cg L i).2.1 from (hQ.at (by omega)).2.1]
        refine ev_blk (B := [(.lload_n 2, 1)]) (pe := 31) (ls' := [some (.ref (o)), some (.int (nI (x.1))), some (.long (e2 x.2.1)), none, some (.long (e2 x.2.2)), none, some (.int (nI i)), none]) (st' := [.long (e2 x.2.1), .long (e2 (cg L i).2.1)]) ⟨dX11_makes_30, rfl⟩ rfl ?_
        refine ev_cSv Y_X11_isWordBelow L_RX11_218 dX11_makes_31 ⟨Nat.le_of_ble_eq_true rfl, Nat.le_of_ble_eq_true rfl, Nat.le_of_ble_eq_true rfl, Nat.le_of_ble_eq_true rfl, Nat.le_of_ble_eq_true rfl⟩ (as := [.long (e2 (cg L i).2.1), .long (e2 x.2.1)]) rfl rfl (c_R_isWordBelow hl ((cg L i).2.1) x.2.1 (cfs_cg hL (by omega)).2.1 (cfs_cg hL (by omega)).2.2.1 hx.2.1 hx.2.2.1) ?_
        refine ev_ifB_eq dX11_makes_34 (tgt := 53) (by decide) (fun q34 => ?_) (fun q34 => ?_)
        · refine ev_blk (B := [(.iinc 6 1, 3)]) (pe := 56) (ls' := [some (.ref (o)), some (.int (nI (x.1))), some (.long (e2 x.2.1)), none, some (.long (e2 x.2.2)), none, some (.int (nI (i + 1))), none]) (st' := []) ⟨dX11_makes_53, rfl⟩ (by show some (([some (.ref (o)), some (.int (nI (x.1))), some (.long (e2 x.2.1)), none, some (.long (e2 x.2.2)), none, some (.int ((nI i) + Int32.ofInt (1))), none] : ev_L), ([] : List Value)) = _; rw [ev_inc1 i]) ?_
          refine ev_goto (tgt := 3) dX11_makes_56 (by decide) ?_
          refine ih (i + 1) (by omega) (fun j hj => ?_) (by omega)
          by_cases e : j = i
          · subst e
            unfold cb
            first
              | (rw [q49, Bool.and_false, Bool.and_false]; done)
              | (rw [q34, Bool.false_and, Bool.and_false]; done)
              | (rw [beq_eq_false_iff_ne.mpr q20, Bool.false_and]; done)
          · exact ha j (by omega)
        · refine ev_blk (B := [(.aload_n 0, 1)]) (pe := 38) (ls' := [some (.ref (o)), some (.int (nI (x.1))), some (.long (e2 x.2.1)), none, some (.long (e2 x.2.2)), none, some (.int (nI i)), none]) (st' := [.ref (o)]) ⟨dX11_makes_37, rfl⟩ rfl ?_
          refine ev_getf (v := .ref (o + 17)) F_RX11_59 dX11_makes_38 hO rfl ?_
          refine ev_blk (B := [(.iload 6, 2)]) (pe := 43) (ls' := [some (.ref (o)), some (.int (nI (x.1))), some (.long (e2 x.2.1)), none, some (.long (e2 x.2.2)), none, some (.int (nI i)), none]) (st' := [.int (nI i), .ref (o + 17)]) ⟨dX11_makes_41, rfl⟩ rfl ?_
          refine ev_lald dX11_makes_43 h17 (vp_in_nI (show i < 400 by omega) (by omega)) ?_
          rw [nI_clamp (show i < 2 ^ 31 by omega)]
          rw [show h i = e2 (cg L i).2.2 from (hQ.at (by omega)).2.2]
          refine ev_blk (B := [(.lload 4, 2)]) (pe := 46) (ls' := [some (.ref (o)), some (.int (nI (x.1))), some (.long (e2 x.2.1)), none, some (.long (e2 x.2.2)), none, some (.int (nI i)), none]) (st' := [.long (e2 x.2.2), .long (e2 (cg L i).2.2)]) ⟨dX11_makes_44, rfl⟩ rfl ?_
          refine ev_cSv Y_X11_isWordBelow L_RX11_218 dX11_makes_46 ⟨Nat.le_of_ble_eq_true rfl, Nat.le_of_ble_eq_true rfl, Nat.le_of_ble_eq_true rfl, Nat.le_of_ble_eq_true rfl, Nat.le_of_ble_eq_true rfl⟩ (as := [.long (e2 (cg L i).2.2), .long (e2 x.2.2)]) rfl rfl (c_R_isWordBelow hl ((cg L i).2.2) x.2.2 (cfs_cg hL (by omega)).2.2.2.1 (cfs_cg hL (by omega)).2.2.2.2 hx.2.2.2.1 hx.2.2.2.2) ?_
          refine ev_ifB_eq dX11_makes_49 (tgt := 53) (by decide) (fun q49 => ?_) (fun q49 => ?_)
          · refine ev_blk (B := [(.iinc 6 1, 3)]) (pe := 56) (ls' := [some (.ref (o)), some (.int (nI (x.1))), some (.long (e2 x.2.1)), none, some (.long (e2 x.2.2)), none, some (.int (nI (i + 1))), none]) (st' := []) ⟨dX11_makes_53, rfl⟩ (by show some (([some (.ref (o)), some (.int (nI (x.1))), some (.long (e2 x.2.1)), none, some (.long (e2 x.2.2)), none, some (.int ((nI i) + Int32.ofInt (1))), none] : ev_L), ([] : List Value)) = _; rw [ev_inc1 i]) ?_
            refine ev_goto (tgt := 3) dX11_makes_56 (by decide) ?_
            refine ih (i + 1) (by omega) (fun j hj => ?_) (by omega)
            by_cases e : j = i
            · subst e
              unfold cb
              first
                | (rw [q49, Bool.and_false, Bool.and_false]; done)
                | (rw [q34, Bool.false_and, Bool.and_false]; done)
                | (rw [beq_eq_false_iff_ne.mpr q20, Bool.false_and]; done)
            · exact ha j (by omega)
          · refine ev_vret dX11_makes_52 rfl ⟨Nat.le_of_ble_eq_true rfl, Nat.le_of_ble_eq_true rfl⟩ ?_
            refine hf (List.any_eq_true.mpr ⟨cg L i, cg_mem (by omega), ?_⟩)
            unfold cb
            rw [q49, q34, beq_iff_eq.mpr q20]; rfl

set_option maxHeartbeats 4000000 in
set_option maxRecDepth 100000 in
theorem c_R_makes_b {l : Launch} (hl : l.stackTraces = false)  (o : Nat) (zi : Nat → Int32) (zl : Nat → Int64) (M0 : ev_M) (L : List Cf) (hlt : L.length < 400) (hL : cfs 25 L) (h28 : zi 28 = nI L.length) (x : Cf) (hx : cfO x) (Q : ev_R → ev_M → Prop) (hk : ∀ (M : ev_M) (f : Nat → Int32) (g h : Nat → Int64) (i : Nat), M[o]? = some (.inr (10, zo o zi zl)) → M[o + 13]? = some (.inl (0, 400, .inl f)) → M[o + 16]? = some (.inl (1, 400, .inr (.inl g))) → M[o + 17]? = some (.inl (1, 400, .inr (.inl h))) → FM o M0 M → QP 0 (L.filter (fun y => !cb x y)).length f g h (L.filter (fun y => !cb x y)) → ev_ l m_X11_makes 0 0 168 [some (.ref (o)), some (.int (nI (x.1))), some (.long (e2 x.2.1)), none, some (.long (e2 x.2.2)), none, some (.int (nI ((L.filter (fun y => !cb x y)).length))), some (.int (nI i))] [] M Q) : ∀ (n9 : Nat) (k : Nat) (i : Nat) (M : ev_M) (f : Nat → Int32) (g : Nat → Int64) (h : Nat → Int64), k ≤ i → i ≤ L.length → k = ((L.take i).filter (fun y => !cb x y)).length → M[o]? = some (.inr (10, zo o zi zl)) → M[o + 13]? = some (.inl (0, 400, .inl f)) → M[o + 16]? = some (.inl (1, 400, .inr (.inl g))) → M[o + 17]? = some (.inl (1, 400, .inr (.inl h))) → FM o M0 M → QP 0 k f g h ((L.take i).filter (fun y => !cb x y)) → (∀ j, i ≤ j → j < L.length → f j = nI (cg L j).1 ∧ g j = e2 (cg L j).2.1 ∧ h j = e2 (cg L j).2.2) → L.length - i < n9 → ev_ l m_X11_makes 0 0 65 [some (.ref (o)), some (.int (nI (x.1))), some (.long (e2 x.2.1)), none, some (.long (e2 x.2.2)), none, some (.int (nI k)), some (.int (nI i))] [] M (Q) := by
  intro n9
  induction n9 with
  | zero => intro k i M f g h hki hi hk9 hO h13 h16 h17 hF hP hrow hm9; exact absurd hm9 (by omega)
  | succ n9 ih =>
    intro k i M f g h hki hi hk9 hO h13 h16 h17 hF hP hrow hm9
    refine ev_blk (B := [(.iload 7, 2), (.aload_n 0, 1)]) (pe := 68) (ls' := [some (.ref (o)), some (.int (nI (x.1))), some (.long (e2 x.2.1)), none, some (.long (e2 x.2.2)), none, some (.int (nI k)), some (.int (nI i))]) (st' := [.ref (o), .int (nI i)]) ⟨dX11_makes_65, dX11_makes_67, rfl⟩ rfl ?_
    refine ev_getf (v := .int (nI (L.length))) F_RX11_231 dX11_makes_68 hO (congrArg (fun q => some (Value.int q)) h28) ?_
    refine ev_iN_ge dX11_makes_71 (tgt := 168) (by decide) (by omega) (by omega) (fun q71 => ?_) (fun q71 => ?_)
    · have e7 : i = L.length := by omega
      subst e7
      rw [List.take_length] at hk9 hP
      rw [hk9]
      exact hk M f g h _ hO h13 h16 h17 hF (by rw [← hk9]; exact hP)
    · have b1 : (cg L i).1 < 6 := (cfs_cg hL (by omega)).1
      have b2 : x.1 < 6 := hx.1
      refine ev_blk (B := [(.aload_n 0, 1)]) (pe := 75) (ls' := [some (.ref (o)), some (.int (nI (x.1))), some (.long (e2 x.2.1)), none, some (.long (e2 x.2.2)), none, some (.int (nI k)), some (.int (nI i))]) (st' := [.ref (o)]) ⟨dX11_makes_74, rfl⟩ rfl ?_
      refine ev_getf (v := .ref (o + 13)) F_RX11_47 dX11_makes_75 hO rfl ?_
      refine ev_blk (B := [(.iload 7, 2)]) (pe := 80) (ls' := [some (.ref (o)), some (.int (nI (x.1))), some (.long (e2 x.2.1)), none, some (.long (e2 x.2.2)), none, some (.int (nI k)), some (.int (nI i))]) (st' := [.int (nI i), .ref (o + 13)]) ⟨dX11_makes_78, rfl⟩ rfl ?_
      refine ev_iald dX11_makes_80 h13 (vp_in_nI (show i < 400 by omega) (by omega)) ?_
      rw [nI_clamp (show i < 2 ^ 31 by omega)]
      rw [show f i = nI ((cg L i).1) from (hrow i (by omega) (by omega)).1]
      refine ev_blk (B := [(.iload_n 1, 1)]) (pe := 82) (ls' := [some (.ref (o)), some (.int (nI (x.1))), some (.long (e2 x.2.1)), none, some (.long (e2 x.2.2)), none, some (.int (nI k)), some (.int (nI i))]) (st' := [.int (nI (x.1)), .int (nI ((cg L i).1))]) ⟨dX11_makes_81, rfl⟩ rfl ?_
      refine ev_iN_ne dX11_makes_82 (tgt := 117) (by decide) (by omega) (by omega) (fun q82 => ?_) (fun q82 => ?_)
      · refine ev_blk (B := [(.aload_n 0, 1)]) (pe := 118) (ls' := [some (.ref (o)), some (.int (nI (x.1))), some (.long (e2 x.2.1)), none, some (.long (e2 x.2.2)), none, some (.int (nI k)), some (.int (nI i))]) (st' := [.ref (o)]) ⟨dX11_makes_117, rfl⟩ rfl ?_
        refine ev_getf (v := .ref (o + 13)) F_RX11_47 dX11_makes_118 hO rfl ?_
        refine ev_blk (B := [(.iload 6, 2), (.aload_n 0, 1)]) (pe := 124) (ls' := [some (.ref (o)), some (.int (nI (x.1))), some (.long (e2 x.2.1)), none, some (.long (e2 x.2.2)), none, some (.int (nI k)), some (.int (nI i))]) (st' := [.ref (o), .int (nI k), .ref (o + 13)]) ⟨dX11_makes_121, dX11_makes_123, rfl⟩ rfl ?_
        refine ev_getf (v := .ref (o + 13)) F_RX11_47 dX11_makes_124 hO rfl ?_
        refine ev_blk (B := [(.iload 7, 2)]) (pe := 129) (ls' := [some (.ref (o)), some (.int (nI (x.1))), some (.long (e2 x.2.1)), none, some (.long (e2 x.2.2)), none, some (.int (nI k)), some (.int (nI i))]) (st' := [.int (nI i), .ref (o + 13), .int (nI k), .ref (o + 13)]) ⟨dX11_makes_127, rfl⟩ rfl ?_
        refine ev_iald dX11_makes_129 h13 (vp_in_nI (show i < 400 by omega) (by omega)) ?_
        rw [nI_clamp (show i < 2 ^ 31 by omega)]
        rw [show f i = nI ((cg L i).1) from (hrow i (by omega) (by omega)).1]
        refine ev_iast dX11_makes_130 h13 (vp_in_nI (show k < 400 by omega) (by omega)) ?_
        rw [nI_clamp (show k < 2 ^ 31 by omega)]
        refine ev_nm (M0 := M.set (o + 13) (.inl (0, 400, .inl (upd f k (nI ((cg L i).1)))))) (fun M1 eM1 => ?_)
        have f2 : M1[o]? = some (.inr (10, zo o (zi) (zl))) := by rw [eM1, ev_sn (by omega)]; exact hO
        have f3 : M1[o + 13]? = some (.inl (0, 400, .inl (upd f k (nI ((cg L i).1))))) := by rw [eM1]; exact ev_sg h13
        have f4 : M1[o + 16]? = some (.inl (1, 400, .inr (.inl (g)))) := by rw [eM1, ev_sn (by omega)]; exact h16
        have f5 : M1[o + 17]? = some (.inl (1, 400, .inr (.inl (h)))) := by rw [eM1, ev_sn (by omega)]; exact h17
        refine ev_blk (B := [(.aload_n 0, 1)]) (pe := 132) (ls' := [some (.ref (o)), some (.int (nI (x.1))), some (.long (e2 x.2.1)), none, some (.long (e2 x.2.2)), none, some (.int (nI k)), some (.int (nI i))]) (st' := [.ref (o)]) ⟨dX11_makes_131, rfl⟩ rfl ?_
        refine ev_getf (v := .ref (o + 16)) F_RX11_56 dX11_makes_132 f2 rfl ?_
        refine ev_blk (B := [(.iload 6, 2), (.aload_n 0, 1)]) (pe := 138) (ls' := [some (.ref (o)), some (.int (nI (x.1))), some (.long (e2 x.2.1)), none, some (.long (e2 x.2.2)), none, some (.int (nI k)), some (.int (nI i))]) (st' := [.ref (o), .int (nI k), .ref (o + 16)]) ⟨dX11_makes_135, dX11_makes_137, rfl⟩ rfl ?_
        refine ev_getf (v := .ref (o + 16)) F_RX11_56 dX11_makes_138 f2 rfl ?_
        refine ev_blk (B := [(.iload 7, 2)]) (pe := 143) (ls' := [some (.ref (o)), some (.int (nI (x.1))), some (.long (e2 x.2.1)), none, some (.long (e2 x.2.2)), none, some (.int (nI k)), some (.int (nI i))]) (st' := [.int (nI i), .ref (o + 16), .int (nI k), .ref (o + 16)]) ⟨dX11_makes_141, rfl⟩ rfl ?_
        refine ev_lald dX11_makes_143 f4 (vp_in_nI (show i < 400 by omega) (by omega)) ?_
        rw [nI_clamp (show i < 2 ^ 31 by omega)]
        rw [show g i = e2 (cg L i).2.1 from (hrow i (by omega) (by omega)).2.1]
        refine ev_last dX11_makes_144 f4 (vp_in_nI (show k < 400 by omega) (by omega)) ?_
        rw [nI_clamp (show k < 2 ^ 31 by omega)]
        refine ev_nm (M0 := M1.set (o + 16) (.inl (1, 400, .inr (.inl (vp_updL g k (e2 (cg L i).2.1)))))) (fun M6 eM6 => ?_)
        have f7 : M6[o]? = some (.inr (10, zo o (zi) (zl))) := by rw [eM6, ev_sn (by omega)]; exact f2
        have f8 : M6[o + 13]? = some (.inl (0, 400, .inl (upd f k (nI ((cg L i).1))))) := by rw [eM6, ev_sn (by omega)]; exact f3
        have f9 : M6[o + 16]? = some (.inl (1, 400, .inr (.inl (vp_updL g k (e2 (cg L i).2.1))))) := by rw [eM6]; exact ev_sg f4
        have f10 : M6[o + 17]? = some (.inl (1, 400, .inr (.inl (h)))) := by rw [eM6, ev_sn (by omega)]; exact f5
        refine ev_blk (B := [(.aload_n 0, 1)]) (pe := 146) (ls' := [some (.ref (o)), some (.int (nI (x.1))), some (.long (e2 x.2.1)), none, some (.long (e2 x.2.2)), none, some (.int (nI k)), some (.int (nI i))]) (st' := [.ref (o)]) ⟨dX11_makes_145, rfl⟩ rfl ?_
        refine ev_getf (v := .ref (o + 17)) F_RX11_59 dX11_makes_146 f7 rfl ?_
        refine ev_blk (B := [(.iload 6, 2), (.aload_n 0, 1)]) (pe := 152) (ls' := [some (.ref (o)), some (.int (nI (x.1))), some (.long (e2 x.2.1)), none, some (.long (e2 x.2.2)), none, some (.int (nI k)), some (.int (nI i))]) (st' := [.ref (o), .int (nI k), .ref (o + 17)]) ⟨dX11_makes_149, dX11_makes_151, rfl⟩ rfl ?_
        refine ev_getf (v := .ref (o + 17)) F_RX11_59 dX11_makes_152 f7 rfl ?_
        refine ev_blk (B := [(.iload 7, 2)]) (pe := 157) (ls' := [some (.ref (o)), some (.int (nI (x.1))), some (.long (e2 x.2.1)), none, some (.long (e2 x.2.2)), none, some (.int (nI k)), some (.int (nI i))]) (st' := [.int (nI i), .ref (o + 17), .int (nI k), .ref (o + 17)]) ⟨dX11_makes_155, rfl⟩ rfl ?_
        refine ev_lald dX11_makes_157 f10 (vp_in_nI (show i < 400 by omega) (by omega)) ?_
        rw [nI_clamp (show i < 2 ^ 31 by omega)]
        rw [show h i = e2 (cg L i).2.2 from (hrow i (by omega) (by omega)).2.2]
        refine ev_last dX11_makes_158 f10 (vp_in_nI (show k < 400 by omega) (by omega)) ?_
        rw [nI_clamp (show k < 2 ^ 31 by omega)]
        refine ev_nm (M0 := M6.set (o + 17) (.inl (1, 400, .inr (.inl (vp_updL h k (e2 (cg L i).2.2)))))) (fun M11 eM11 => ?_)
        have f12 : M11[o]? = some (.inr (10, zo o (zi) (zl))) := by rw [eM11, ev_sn (by omega)]; exact f7
        have f13 : M11[o + 13]? = some (.inl (0, 400, .inl (upd f k (nI ((cg L i).1))))) := by rw [eM11, ev_sn (by omega)]; exact f8
        have f14 : M11[o + 16]? = some (.inl (1, 400, .inr (.inl (vp_updL g k (e2 (cg L i).2.1))))) := by rw [eM11, ev_sn (by omega)]; exact f9
        have f15 : M11[o + 17]? = some (.inl (1, 400, .inr (.inl (vp_updL h k (e2 (cg L i).2.2))))) := by rw [eM11]; exact ev_sg f10
        refine ev_blk (B := [(.iinc 6 1, 3), (.iinc 7 1, 3)]) (pe := 165) (ls' := [some (.ref (o)), some (.int (nI (x.1))), some (.long (e2 x.2.1)), none, some (.long (e2 x.2.2)), none, some (.int (nI (k + 1))), some (.int (nI (i + 1)))]) (st' := []) ⟨dX11_makes_159, dX11_makes_162, rfl⟩ (by show some (([some (.ref (o)), some (.int (nI (x.1))), some (.long (e2 x.2.1)), none, some (.long (e2 x.2.2)), none, some (.int ((nI k) + Int32.ofInt (1))), some (.int ((nI i) + Int32.ofInt (1)))] : ev_L), ([] : List Value)) = _; rw [ev_inc1 k, ev_inc1 i]) ?_
        refine ev_goto (tgt := 65) dX11_makes_165 (by decide) ?_
        have e9 : cb x (cg L i) = false := by unfold cb; first | (rw [q111, Bool.and_false, Bool.and_false]; done) | (rw [q96, Bool.false_and, Bool.and_false]; done) | (rw [beq_eq_false_iff_ne.mpr (fun q => q82 q.symm), Bool.false_and]; done)
        have e8 : (L.take (i + 1)).filter (fun y => !cb x y) = (L.take i).filter (fun y => !cb x y) ++ [cg L i] := by rw [take_filter_succ (by omega), if_pos (by rw [e9]; rfl)]
        refine ih (k + 1) (i + 1) _ _ _ _ (by omega) (by omega) (by rw [e8, List.length_append, ← hk9]; rfl) f12 f13 f14 f15 (hF.tr ⟨by rw [eM11, eM6, eM1]; simp only [List.length_set], fun j hj1 hj2 hj3 hj4 => by rw [eM11, ev_sn (by omega), eM6, ev_sn (by omega), eM1, ev_sn (by omega)]⟩) (by rw [e8]; exact QP.push hk9 hP) (fun j h1 h2 => ?_) (by omega)
        rw [upd_at, updL_at, updL_at, if_neg (by omega), if_neg (by omega), if_neg (by omega)]
        exact hrow j (by omega) h2
      · refine ev_blk (B := [(.lload_n 2, 1), (.aload_n 0, 1)]) (pe := 87) (ls' := [some (.ref (o)), some (.int (nI (x.1))), some (.long (e2 x.2.1)), none, some (.long (e2 x.2.2)), none, some (.int (nI k)), some (.int (nI i))]) (st' := [.ref (o), .long (e2 x.2.1)]) ⟨dX11_makes_85, dX11_makes_86, rfl⟩ rfl ?_
        refine ev_getf (v := .ref (o + 16)) F_RX11_56 dX11_makes_87 hO rfl ?_
        refine ev_blk (B := [(.iload 7, 2)]) (pe := 92) (ls' := [some (.ref (o)), some (.int (nI (x.1))), some (.long (e2 x.2.1)), none, some (.long (e2 x.2.2)), none, some (.int (nI k)), some (.int (nI i))]) (st' := [.int (nI i), .ref (o + 16), .long (e2 x.2.1)]) ⟨dX11_makes_90, rfl⟩ rfl ?_
        refine ev_lald dX11_makes_92 h16 (vp_in_nI (show i < 400 by omega) (by omega)) ?_
        rw [nI_clamp (show i < 2 ^ 31 by omega)]
        rw [show g i = e2 (cg L i).2.1 from (hrow i (by omega) (by omega)).2.1]
        refine ev_cSv Y_X11_isWordBelow L_RX11_218 dX11_makes_93 ⟨Nat.le_of_ble_eq_true rfl, Nat.le_of_ble_eq_true rfl, Nat.le_of_ble_eq_true rfl, Nat.le_of_ble_eq_true rfl, Nat.le_of_ble_eq_true rfl⟩ (as := [.long (e2 x.2.1), .long (e2 (cg L i).2.1)]) rfl rfl (c_R_isWordBelow hl x.2.1 ((cg L i).2.1) hx.2.1 hx.2.2.1 (cfs_cg hL (by omega)).2.1 (cfs_cg hL (by omega)).2.2.1) ?_
        refine ev_ifB_eq dX11_makes_96 (tgt := 117) (by decide) (fun q96 => ?_) (fun q96 => ?_)
        · refine ev_blk (B := [(.aload_n 0, 1)]) (pe := 118) (ls' := [some (.ref (o)), some (.int (nI (x.1))), some (.long (e2 x.2.1)), none, some (.long (e2 x.2.2)), none, some (.int (nI k)), some (.int (nI i))]) (st' := [.ref (o)]) ⟨dX11_makes_117, rfl⟩ rfl ?_
          refine ev_getf (v := .ref (o + 13)) F_RX11_47 dX11_makes_118 hO rfl ?_
          refine ev_blk (B := [(.iload 6, 2), (.aload_n 0, 1)]) (pe := 124) (ls' := [some (.ref (o)), some (.int (nI (x.1))), some (.long (e2 x.2.1)), none, some (.long (e2 x.2.2)), none, some (.int (nI k)), some (.int (nI i))]) (st' := [.ref (o), .int (nI k), .ref (o + 13)]) ⟨dX11_makes_121, dX11_makes_123, rfl⟩ rfl ?_
          refine ev_getf (v := .ref (o + 13)) F_RX11_47 dX11_makes_124 hO rfl ?_
          refine ev_blk (B := [(.iload 7, 2)]) (pe := 129) (ls' := [some (.ref (o)), some (.int (nI (x.1))), some (.long (e2 x.2.1)), none, some (.long (e2 x.2.2)), none, some (.int (nI k)), some (.int (nI i))]) (st' := [.int (nI i), .ref (o + 13), .int (nI k), .ref (o + 13)]) ⟨dX11_makes_127, rfl⟩ rfl ?_
          refine ev_iald dX11_makes_129 h13 (vp_in_nI (show i < 400 by omega) (by omega)) ?_
          rw [nI_clamp (show i < 2 ^ 31 by omega)]
          rw [show f i = nI ((cg L i).1) from (hrow i (by omega) (by omega)).1]
          refine ev_iast dX11_makes_130 h13 (vp_in_nI (show k < 400 by omega) (by omega)) ?_
          rw [nI_clamp (show k < 2 ^ 31 by omega)]
          refine ev_nm (M0 := M.set (o + 13) (.inl (0, 400, .inl (upd f k (nI ((cg L i).1)))))) (fun M16 eM16 => ?_)
          have f17 : M16[o]? = some (.inr (10, zo o (zi) (zl))) := by rw [eM16, ev_sn (by omega)]; exact hO
          have f18 : M16[o + 13]? = some (.inl (0, 400, .inl (upd f k (nI ((cg L i).1))))) := by rw [eM16]; exact ev_sg h13
          have f19 : M16[o + 16]? = some (.inl (1, 400, .inr (.inl (g)))) := by rw [eM16, ev_sn (by omega)]; exact h16
          have f20 : M16[o + 17]? = some (.inl (1, 400, .inr (.inl (h)))) := by rw [eM16, ev_sn (by omega)]; exact h17
          refine ev_blk (B := [(.aload_n 0, 1)]) (pe := 132) (ls' := [some (.ref (o)), some (.int (nI (x.1))), some (.long (e2 x.2.1)), none, some (.long (e2 x.2.2)), none, some (.int (nI k)), some (.int (nI i))]) (st' := [.ref (o)]) ⟨dX11_makes_131, rfl⟩ rfl ?_
          refine ev_getf (v := .ref (o + 16)) F_RX11_56 dX11_makes_132 f17 rfl ?_
          refine ev_blk (B := [(.iload 6, 2), (.aload_n 0, 1)]) (pe := 138) (ls' := [some (.ref (o)), some (.int (nI (x.1))), some (.long (e2 x.2.1)), none, some (.long (e2 x.2.2)), none, some (.int (nI k)), some (.int (nI i))]) (st' := [.ref (o), .int (nI k), .ref (o + 16)]) ⟨dX11_makes_135, dX11_makes_137, rfl⟩ rfl ?_
          refine ev_getf (v := .ref (o + 16)) F_RX11_56 dX11_makes_138 f17 rfl ?_
          refine ev_blk (B := [(.iload 7, 2)]) (pe := 143) (ls' := [some (.ref (o)), some (.int (nI (x.1))), some (.long (e2 x.2.1)), none, some (.long (e2 x.2.2)), none, some (.int (nI k)), some (.int (nI i))]) (st' := [.int (nI i), .ref (o + 16), .int (nI k), .ref (o + 16)]) ⟨dX11_makes_141, rfl⟩ rfl ?_
          refine ev_lald dX11_makes_143 f19 (vp_in_nI (show i < 400 by omega) (by omega)) ?_
          rw [nI_clamp (show i < 2 ^ 31 by omega)]
          rw [show g i = e2 (cg L i).2.1 from (hrow i (by omega) (by omega)).2.1]
          refine ev_last dX11_makes_144 f19 (vp_in_nI (show k < 400 by omega) (by omega)) ?_
          rw [nI_clamp (show k < 2 ^ 31 by omega)]
          refine ev_nm (M0 := M16.set (o + 16) (.inl (1, 400, .inr (.inl (vp_updL g k (e2 (cg L i).2.1)))))) (fun M21 eM21 => ?_)
          have f22 : M21[o]? = some (.inr (10, zo o (zi) (zl))) := by rw [eM21, ev_sn (by omega)]; exact f17
          have f23 : M21[o + 13]? = some (.inl (0, 400, .inl (upd f k (nI ((cg L i).1))))) := by rw [eM21, ev_sn (by omega)]; exact f18
          have f24 : M21[o + 16]? = some (.inl (1, 400, .inr (.inl (vp_updL g k (e2 (cg L i).2.1))))) := by rw [eM21]; exact ev_sg f19
          have f25 : M21[o + 17]? = some (.inl (1, 400, .inr (.inl (h)))) := by rw [eM21, ev_sn (by omega)]; exact f20
          refine ev_blk (B := [(.aload_n 0, 1)]) (pe := 146) (ls' := [some (.ref (o)), some (.int (nI (x.1))), some (.long (e2 x.2.1)), none, some (.long (e2 x.2.2)), none, some (.int (nI k)), some (.int (nI i))]) (st' := [.ref (o)]) ⟨dX11_makes_145, rfl⟩ rfl ?_
          refine ev_getf (v := .ref (o + 17)) F_RX11_59 dX11_makes_146 f22 rfl ?_
          refine ev_blk (B := [(.iload 6, 2), (.aload_n 0, 1)]) (pe := 152) (ls' := [some (.ref (o)), some (.int (nI (x.1))), some (.long (e2 x.2.1)), none, some (.long (e2 x.2.2)), none, some (.int (nI k)), some (.int (nI i))]) (st' := [.ref (o), .int (nI k), .ref (o + 17)]) ⟨dX11_makes_149, dX11_makes_151, rfl⟩ rfl ?_
          refine ev_getf (v := .ref (o + 17)) F_RX11_59 dX11_makes_152 f22 rfl ?_
          refine ev_blk (B := [(.iload 7, 2)]) (pe := 157) (ls' := [some (.ref (o)), some (.int (nI (x.1))), some (.long (e2 x.2.1)), none, some (.long (e2 x.2.2)), none, some (.int (nI k)), some (.int (nI i))]) (st' := [.int (nI i), .ref (o + 17), .int (nI k), .ref (o + 17)]) ⟨dX11_makes_155, rfl⟩ rfl ?_
          refine ev_lald dX11_makes_157 f25 (vp_in_nI (show i < 400 by omega) (by omega)) ?_
          rw [nI_clamp (show i < 2 ^ 31 by omega)]
          rw [show h i = e2 (cg L i).2.2 from (hrow i (by omega) (by omega)).2.2]
          refine ev_last dX11_makes_158 f25 (vp_in_nI (show k < 400 by omega) (by omega)) ?_
          rw [nI_clamp (show k < 2 ^ 31 by omega)]
          refine ev_nm (M0 := M21.set (o + 17) (.inl (1, 400, .inr (.inl (vp_updL h k (e2 (cg L i).2.2)))))) (fun M26 eM26 => ?_)
          have f27 : M26[o]? = some (.inr (10, zo o (zi) (zl))) := by rw [eM26, ev_sn (by omega)]; exact f22
          have f28 : M26[o + 13]? = some (.inl (0, 400, .inl (upd f k (nI ((cg L i).1))))) := by rw [eM26, ev_sn (by omega)]; exact f23
          have f29 : M26[o + 16]? = some (.inl (1, 400, .inr (.inl (vp_updL g k (e2 (cg L i).2.1))))) := by rw [eM26, ev_sn (by omega)]; exact f24
          have f30 : M26[o + 17]? = some (.inl (1, 400, .inr (.inl (vp_updL h k (e2 (cg L i).2.2))))) := by rw [eM26]; exact ev_sg f25
          refine ev_blk (B := [(.iinc 6 1, 3), (.iinc 7 1, 3)]) (pe := 165) (ls' := [some (.ref (o)), some (.int (nI (x.1))), some (.long (e2 x.2.1)), none, some (.long (e2 x.2.2)), none, some (.int (nI (k + 1))), some (.int (nI (i + 1)))]) (st' := []) ⟨dX11_makes_159, dX11_makes_162, rfl⟩ (by show some (([some (.ref (o)), some (.int (nI (x.1))), some (.long (e2 x.2.1)), none, some (.long (e2 x.2.2)), none, some (.int ((nI k) + Int32.ofInt (1))), some (.int ((nI i) + Int32.ofInt (1)))] : ev_L), ([] : List Value)) = _; rw [ev_inc1 k, ev_inc1 i]) ?_
          refine ev_goto (tgt := 65) dX11_makes_165 (by decide) ?_
          have e9 : cb x (cg L i) = false := by unfold cb; first | (rw [q111, Bool.and_false, Bool.and_false]; done) | (rw [q96, Bool.false_and, Bool.and_false]; done) | (rw [beq_eq_false_iff_ne.mpr (fun q => q82 q.symm), Bool.false_and]; done)
          have e8 : (L.take (i + 1)).filter (fun y => !cb x y) = (L.take i).filter (fun y => !cb x y) ++ [cg L i] := by rw [take_filter_succ (by omega), if_pos (by rw [e9]; rfl)]
          refine ih (k + 1) (i + 1) _ _ _ _ (by omega) (by omega) (by rw [e8, List.length_append, ← hk9]; rfl) f27 f28 f29 f30 (hF.tr ⟨by rw [eM26, eM21, eM16]; simp only [List.length_set], fun j hj1 hj2 hj3 hj4 => by rw [eM26, ev_sn (by omega), eM21, ev_sn (by omega), eM16, ev_sn (by omega)]⟩) (by rw [e8]; exact QP.push hk9 hP) (fun j h1 h2 => ?_) (by omega)
          rw [upd_at, updL_at, updL_at, if_neg (by omega), if_neg (by omega), if_neg (by omega)]
          exact hrow j (by omega) h2
        · refine ev_blk (B := [(.lload 4, 2), (.aload_n 0, 1)]) (pe := 102) (ls' := [some (.ref (o)), some (.int (nI (x.1))), some (.long (e2 x.2.1)), none, some (.long (e2 x.2.2)), none, some (.int (nI k)), some (.int (nI i))]) (st' := [.ref (o), .long (e2 x.2.2)]) ⟨dX11_makes_99, dX11_makes_101, rfl⟩ rfl ?_
          refine ev_getf (v := .ref (o + 17)) F_RX11_59 dX11_makes_102 hO rfl ?_
          refine ev_blk (B := [(.iload 7, 2)]) (pe := 107) (ls' := [some (.ref (o)), some (.int (nI (x.1))), some (.long (e2 x.2.1)), none, some (.long (e2 x.2.2)), none, some (.int (nI k)), some (.int (nI i))]) (st' := [.int (nI i), .ref (o + 17), .long (e2 x.2.2)]) ⟨dX11_makes_105, rfl⟩ rfl ?_
          refine ev_lald dX11_makes_107 h17 (vp_in_nI (show i < 400 by omega) (by omega)) ?_
          rw [nI_clamp (show i < 2 ^ 31 by omega)]
          rw [show h i = e2 (cg L i).2.2 from (hrow i (by omega) (by omega)).2.2]
          refine ev_cSv Y_X11_isWordBelow L_RX11_218 dX11_makes_108 ⟨Nat.le_of_ble_eq_true rfl, Nat.le_of_ble_eq_true rfl, Nat.le_of_ble_eq_true rfl, Nat.le_of_ble_eq_true rfl, Nat.le_of_ble_eq_true rfl⟩ (as := [.long (e2 x.2.2), .long (e2 (cg L i).2.2)]) rfl rfl (c_R_isWordBelow hl x.2.2 ((cg L i).2.2) hx.2.2.2.1 hx.2.2.2.2 (cfs_cg hL (by omega)).2.2.2.1 (cfs_cg hL (by omega)).2.2.2.2) ?_
          refine ev_ifB_eq dX11_makes_111 (tgt := 117) (by decide) (fun q111 => ?_) (fun q111 => ?_)
          · refine ev_blk (B := [(.aload_n 0, 1)]) (pe := 118) (ls' := [some (.ref (o)), some (.int (nI (x.1))), some (.long (e2 x.2.1)), none, some (.long (e2 x.2.2)), none, some (.int (nI k)), some (.int (nI i))]) (st' := [.ref (o)]) ⟨dX11_makes_117, rfl⟩ rfl ?_
            refine ev_getf (v := .ref (o + 13)) F_RX11_47 dX11_makes_118 hO rfl ?_
            refine ev_blk (B := [(.iload 6, 2), (.aload_n 0, 1)]) (pe := 124) (ls' := [some (.ref (o)), some (.int (nI (x.1))), some (.long (e2 x.2.1)), none, some (.long (e2 x.2.2)), none, some (.int (nI k)), some (.int (nI i))]) (st' := [.ref (o), .int (nI k), .ref (o + 13)]) ⟨dX11_makes_121, dX11_makes_123, rfl⟩ rfl ?_
            refine ev_getf (v := .ref (o + 13)) F_RX11_47 dX11_makes_124 hO rfl ?_
            refine ev_blk (B := [(.iload 7, 2)]) (pe := 129) (ls' := [some (.ref (o)), some (.int (nI (x.1))), some (.long (e2 x.2.1)), none, some (.long (e2 x.2.2)), none, some (.int (nI k)), some (.int (nI i))]) (st' := [.int (nI i), .ref (o + 13), .int (nI k), .ref (o + 13)]) ⟨dX11_makes_127, rfl⟩ rfl ?_
            refine ev_iald dX11_makes_129 h13 (vp_in_nI (show i < 400 by omega) (by omega)) ?_
            rw [nI_clamp (show i < 2 ^ 31 by omega)]
            rw [show f i = nI ((cg L i).1) from (hrow i (by omega) (by omega)).1]
            refine ev_iast dX11_makes_130 h13 (vp_in_nI (show k < 400 by omega) (by omega)) ?_
            rw [nI_clamp (show k < 2 ^ 31 by omega)]
            refine ev_nm (M0 := M.set (o + 13) (.inl (0, 400, .inl (upd f k (nI ((cg L i).1)))))) (fun M31 eM31 => ?_)
            have f32 : M31[o]? = some (.inr (10, zo o (zi) (zl))) := by rw [eM31, ev_sn (by omega)]; exact hO
            have f33 : M31[o + 13]? = some (.inl (0, 400, .inl (upd f k (nI ((cg L i).1))))) := by rw [eM31]; exact ev_sg h13
            have f34 : M31[o + 16]? = some (.inl (1, 400, .inr (.inl (g)))) := by rw [eM31, ev_sn (by omega)]; exact h16
            have f35 : M31[o + 17]? = some (.inl (1, 400, .inr (.inl (h)))) := by rw [eM31, ev_sn (by omega)]; exact h17
            refine ev_blk (B := [(.aload_n 0, 1)]) (pe := 132) (ls' := [some (.ref (o)), some (.int (nI (x.1))), some (.long (e2 x.2.1)), none, some (.long (e2 x.2.2)), none, some (.int (nI k)), some (.int (nI i))]) (st' := [.ref (o)]) ⟨dX11_makes_131, rfl⟩ rfl ?_
            refine ev_getf (v := .ref (o + 16)) F_RX11_56 dX11_makes_132 f32 rfl ?_
            refine ev_blk (B := [(.iload 6, 2), (.aload_n 0, 1)]) (pe := 138) (ls' := [some (.ref (o)), some (.int (nI (x.1))), some (.long (e2 x.2.1)), none, some (.long (e2 x.2.2)), none, some (.int (nI k)), some (.int (nI i))]) (st' := [.ref (o), .int (nI k), .ref (o + 16)]) ⟨dX11_makes_135, dX11_makes_137, rfl⟩ rfl ?_
            refine ev_getf (v := .ref (o + 16)) F_RX11_56 dX11_makes_138 f32 rfl ?_
            refine ev_blk (B := [(.iload 7, 2)]) (pe := 143) (ls' := [some (.ref (o)), some (.int (nI (x.1))), some (.long (e2 x.2.1)), none, some (.long (e2 x.2.2)), none, some (.int (nI k)), some (.int (nI i))]) (st' := [.int (nI i), .ref (o + 16), .int (nI k), .ref (o + 16)]) ⟨dX11_makes_141, rfl⟩ rfl ?_
            refine ev_lald dX11_makes_143 f34 (vp_in_nI (show i < 400 by omega) (by omega)) ?_
            rw [nI_clamp (show i < 2 ^ 31 by omega)]
            rw [show g i = e2 (cg L i).2.1 from (hrow i (by omega) (by omega)).2.1]
            refine ev_last dX11_makes_144 f34 (vp_in_nI (show k < 400 by omega) (by omega)) ?_
            rw [nI_clamp (show k < 2 ^ 31 by omega)]
            refine ev_nm (M0 := M31.set (o + 16) (.inl (1, 400, .inr (.inl (vp_updL g k (e2 (cg L i).2.1)))))) (fun M36 eM36 => ?_)
            have f37 : M36[o]? = some (.inr (10, zo o (zi) (zl))) := by rw [eM36, ev_sn (by omega)]; exact f32
            have f38 : M36[o + 13]? = some (.inl (0, 400, .inl (upd f k (nI ((cg L i).1))))) := by rw [eM36, ev_sn (by omega)]; exact f33
            have f39 : M36[o + 16]? = some (.inl (1, 400, .inr (.inl (vp_updL g k (e2 (cg L i).2.1))))) := by rw [eM36]; exact ev_sg f34
            have f40 : M36[o + 17]? = some (.inl (1, 400, .inr (.inl (h)))) := by rw [eM36, ev_sn (by omega)]; exact f35
            refine ev_blk (B := [(.aload_n 0, 1)]) (pe := 146) (ls' := [some (.ref (o)), some (.int (nI (x.1))), some (.long (e2 x.2.1)), none, some (.long (e2 x.2.2)), none, some (.int (nI k)), some (.int (nI i))]) (st' := [.ref (o)]) ⟨dX11_makes_145, rfl⟩ rfl ?_
            refine ev_getf (v := .ref (o + 17)) F_RX11_59 dX11_makes_146 f37 rfl ?_
            refine ev_blk (B := [(.iload 6, 2), (.aload_n 0, 1)]) (pe := 152) (ls' := [some (.ref (o)), some (.int (nI (x.1))), some (.long (e2 x.2.1)), none, some (.long (e2 x.2.2)), none, some (.int (nI k)), some (.int (nI i))]) (st' := [.ref (o), .int (nI k), .ref (o + 17)]) ⟨dX11_makes_149, dX11_makes_151, rfl⟩ rfl ?_
            refine ev_getf (v := .ref (o + 17)) F_RX11_59 dX11_makes_152 f37 rfl ?_
            refine ev_blk (B := [(.iload 7, 2)]) (pe := 157) (ls' := [some (.ref (o)), some (.int (nI (x.1))), some (.long (e2 x.2.1)), none, some (.long (e2 x.2.2)), none, some (.int (nI k)), some (.int (nI i))]) (st' := [.int (nI i), .ref (o + 17), .int (nI k), .ref (o + 17)]) ⟨dX11_makes_155, rfl⟩ rfl ?_
            refine ev_lald dX11_makes_157 f40 (vp_in_nI (show i < 400 by omega) (by omega)) ?_
            rw [nI_clamp (show i < 2 ^ 31 by omega)]
            rw [show h i = e2 (cg L i).2.2 from (hrow i (by omega) (by omega)).2.2]
            refine ev_last dX11_makes_158 f40 (vp_in_nI (show k < 400 by omega) (by omega)) ?_
            rw [nI_clamp (show k < 2 ^ 31 by omega)]
            refine ev_nm (M0 := M36.set (o + 17) (.inl (1, 400, .inr (.inl (vp_updL h k (e2 (cg L i).2.2)))))) (fun M41 eM41 => ?_)
            have f42 : M41[o]? = some (.inr (10, zo o (zi) (zl))) := by rw [eM41, ev_sn (by omega)]; exact f37
            have f43 : M41[o + 13]? = some (.inl (0, 400, .inl (upd f k (nI ((cg L i).1))))) := by rw [eM41, ev_sn (by omega)]; exact f38
            have f44 : M41[o + 16]? = some (.inl (1, 400, .inr (.inl (vp_updL g k (e2 (cg L i).2.1))))) := by rw [eM41, ev_sn (by omega)]; exact f39
            have f45 : M41[o + 17]? = some (.inl (1, 400, .inr (.inl (vp_updL h k (e2 (cg L i).2.2))))) := by rw [eM41]; exact ev_sg f40
            refine ev_blk (B := [(.iinc 6 1, 3), (.iinc 7 1, 3)]) (pe := 165) (ls' := [some (.ref (o)), some (.int (nI (x.1))), some (.long (e2 x.2.1)), none, some (.long (e2 x.2.2)), none, some (.int (nI (k + 1))), some (.int (nI (i + 1)))]) (st' := []) ⟨dX11_makes_159, dX11_makes_162, rfl⟩ (by show some (([some (.ref (o)), some (.int (nI (x.1))), some (.long (e2 x.2.1)), none, some (.long (e2 x.2.2)), none, some (.int ((nI k) + Int32.ofInt (1))), some (.int ((nI i) + Int32.ofInt (1)))] : ev_L), ([] : List Value)) = _; rw [ev_inc1 k, ev_inc1 i]) ?_
            refine ev_goto (tgt := 65) dX11_makes_165 (by decide) ?_
            have e9 : cb x (cg L i) = false := by unfold cb; first | (rw [q111, Bool.and_false, Bool.and_false]; done) | (rw [q96, Bool.false_and, Bool.and_false]; done) | (rw [beq_eq_false_iff_ne.mpr (fun q => q82 q.symm), Bool.false_and]; done)
            have e8 : (L.take (i + 1)).filter (fun y => !cb x y) = (L.take i).filter (fun y => !cb x y) ++ [cg L i] := by rw [take_filter_succ (by omega), if_pos (by rw [e9]; rfl)]
            refine ih (k + 1) (i + 1) _ _ _ _ (by omega) (by omega) (by rw [e8, List.length_append, ← hk9]; rfl) f42 f43 f44 f45 (hF.tr ⟨by rw [eM41, eM36, eM31]; simp only [List.length_set], fun j hj1 hj2 hj3 hj4 => by rw [eM41, ev_sn (by omega), eM36, ev_sn (by omega), eM31, ev_sn (by omega)]⟩) (by rw [e8]; exact QP.push hk9 hP) (fun j h1 h2 => ?_) (by omega)
            rw [upd_at, updL_at, updL_at, if_neg (by omega), if_neg (by omega), if_neg (by omega)]
            exact hrow j (by omega) h2
          · refine ev_goto (tgt := 162) dX11_makes_114 (by decide) ?_
            refine ev_blk (B := [(.iinc 7 1, 3)]) (pe := 165) (ls' := [some (.ref (o)), some (.int (nI (x.1))), some (.long (e2 x.2.1)), none, some (.long (e2 x.2.2)), none, some (.int (nI k)), some (.int (nI (i + 1)))]) (st' := []) ⟨dX11_makes_162, rfl⟩ (by show some (([some (.ref (o)), some (.int (nI (x.1))), some (.long (e2 x.2.1)), none, some (.long (e2 x.2.2)), none, some (.int (nI k)), some (.int ((nI i) + Int32.ofInt (1)))] : ev_L), ([] : List Value)) = _; rw [ev_inc1 i]) ?_
            refine ev_goto (tgt := 65) dX11_makes_165 (by decide) ?_
            have e9 : cb x (cg L i) = true := by unfold cb; rw [q111, q96, beq_iff_eq.mpr q82.symm]; rfl
            have e8 : (L.take (i + 1)).filter (fun y => !cb x y) = (L.take i).filter (fun y => !cb x y) := by rw [take_filter_succ (by omega), if_neg (by rw [e9]; decide), List.append_nil]
            exact ih k (i + 1) M f g h (by omega) (by omega) (by rw [e8]; exact hk9) hO h13 h16 h17 hF (by rw [e8]; exact hP) (fun j h1 h2 => hrow j (by omega) h2) (by omega)

set_option maxHeartbeats 4000000 in
set_option maxRecDepth 100000 in
theorem c_R_makes_c {l : Launch} (hl : l.stackTraces = false)  (o : Nat) (zi : Nat → Int32) (zl : Nat → Int64) (M0 : ev_M) (L : List Cf) (hlt : L.length < 399) (hL : cfs 25 L) (x : Cf) (hx : cfO x) : ∀ (n9 : Nat) (p : Nat) (M : ev_M) (f : Nat → Int32) (g : Nat → Int64) (h : Nat → Int64), p ≤ L.length → (∀ j, p ≤ j → j < L.length → cl x (cg L j) = true) → M[o]? = some (.inr (10, zo o zi zl)) → M[o + 13]? = some (.inl (0, 400, .inl f)) → M[o + 16]? = some (.inl (1, 400, .inr (.inl g))) → M[o + 17]? = some (.inl (1, 400, .inr (.inl h))) → FM o M0 M → (∀ j, j < p → f j = nI (cg L j).1 ∧ g j = e2 (cg L j).2.1 ∧ h j = e2 (cg L j).2.2) → (∀ j, p < j → j ≤ L.length → f j = nI (cg L (j - 1)).1 ∧ g j = e2 (cg L (j - 1)).2.1 ∧ h j = e2 (cg L (j - 1)).2.2) → p < n9 → ev_ l m_X11_makes 0 0 172 [some (.ref (o)), some (.int (nI (x.1))), some (.long (e2 x.2.1)), none, some (.long (e2 x.2.2)), none, some (.int (nI (L.length))), some (.int (nI p))] [] M (fun r M1 => r = .inl none ∧ ∃ zi', M1[o]? = some (.inr (10, zo o zi' zl)) ∧ zi' 28 = nI (ins x L).length ∧ (∀ j, j ≠ 28 → zi' j = zi j) ∧ PM M1 o (ins x L) ∧ FM o M0 M1) := by
  intro n9
  induction n9 with
  | zero => intro p M f g h hp hcl hO h13 h16 h17 hF hlo hhi hm9; exact absurd hm9 (by omega)
  | succ n9 ih =>
    intro p M f g h hp hcl hO h13 h16 h17 hF hlo hhi hm9
    refine ev_blk (B := [(.iload 7, 2)]) (pe := 174) (ls' := [some (.ref (o)), some (.int (nI (x.1))), some (.long (e2 x.2.1)), none, some (.long (e2 x.2.2)), none, some (.int (nI (L.length))), some (.int (nI p))]) (st' := [.int (nI p)]) ⟨dX11_makes_172, rfl⟩ rfl ?_
    refine ev_fN_le dX11_makes_174 (tgt := 246) (by decide) (by omega) (fun q174 => ?_) (fun q174 => ?_)
    · refine ev_blk (B := [(.aload_n 0, 1)]) (pe := 247) (ls' := [some (.ref (o)), some (.int (nI (x.1))), some (.long (e2 x.2.1)), none, some (.long (e2 x.2.2)), none, some (.int (nI (L.length))), some (.int (nI p))]) (st' := [.ref (o)]) ⟨dX11_makes_246, rfl⟩ rfl ?_
      refine ev_getf (v := .ref (o + 13)) F_RX11_47 dX11_makes_247 hO rfl ?_
      refine ev_blk (B := [(.iload 7, 2), (.iload_n 1, 1)]) (pe := 253) (ls' := [some (.ref (o)), some (.int (nI (x.1))), some (.long (e2 x.2.1)), none, some (.long (e2 x.2.2)), none, some (.int (nI (L.length))), some (.int (nI p))]) (st' := [.int (nI (x.1)), .int (nI p), .ref (o + 13)]) ⟨dX11_makes_250, dX11_makes_252, rfl⟩ rfl ?_
      refine ev_iast dX11_makes_253 h13 (vp_in_nI (show p < 400 by omega) (by omega)) ?_
      rw [nI_clamp (show p < 2 ^ 31 by omega)]
      refine ev_nm (M0 := M.set (o + 13) (.inl (0, 400, .inl (upd f p (nI (x.1)))))) (fun M1 eM1 => ?_)
      have f2 : M1[o]? = some (.inr (10, zo o (zi) (zl))) := by rw [eM1, ev_sn (by omega)]; exact hO
      have f3 : M1[o + 13]? = some (.inl (0, 400, .inl (upd f p (nI (x.1))))) := by rw [eM1]; exact ev_sg h13
      have f4 : M1[o + 16]? = some (.inl (1, 400, .inr (.inl (g)))) := by rw [eM1, ev_sn (by omega)]; exact h16
      have f5 : M1[o + 17]? = some (.inl (1, 400, .inr (.inl (h)))) := by rw [eM1, ev_sn (by omega)]; exact h17
      refine ev_blk (B := [(.aload_n 0, 1)]) (pe := 255) (ls' := [some (.ref (o)), some (.int (nI (x.1))), some (.long (e2 x.2.1)), none, some (.long (e2 x.2.2)), none, some (.int (nI (L.length))), some (.int (nI p))]) (st' := [.ref (o)]) ⟨dX11_makes_254, rfl⟩ rfl ?_
      refine ev_getf (v := .ref (o + 16)) F_RX11_56 dX11_makes_255 f2 rfl ?_
      refine ev_blk (B := [(.iload 7, 2), (.lload_n 2, 1)]) (pe := 261) (ls' := [some (.ref (o)), some (.int (nI (x.1))), some (.long (e2 x.2.1)), none, some (.long (e2 x.2.2)), none, some (.int (nI (L.length))), some (.int (nI p))]) (st' := [.long (e2 x.2.1), .int (nI p), .ref (o + 16)]) ⟨dX11_makes_258, dX11_makes_260, rfl⟩ rfl ?_
      refine ev_last dX11_makes_261 f4 (vp_in_nI (show p < 400 by omega) (by omega)) ?_
      rw [nI_clamp (show p < 2 ^ 31 by omega)]
      refine ev_nm (M0 := M1.set (o + 16) (.inl (1, 400, .inr (.inl (vp_updL g p (e2 x.2.1)))))) (fun M6 eM6 => ?_)
      have f7 : M6[o]? = some (.inr (10, zo o (zi) (zl))) := by rw [eM6, ev_sn (by omega)]; exact f2
      have f8 : M6[o + 13]? = some (.inl (0, 400, .inl (upd f p (nI (x.1))))) := by rw [eM6, ev_sn (by omega)]; exact f3
      have f9 : M6[o + 16]? = some (.inl (1, 400, .inr (.inl (vp_updL g p (e2 x.2.1))))) := by rw [eM6]; exact ev_sg f4
      have f10 : M6[o + 17]? = some (.inl (1, 400, .inr (.inl (h)))) := by rw [eM6, ev_sn (by omega)]; exact f5
      refine ev_blk (B := [(.aload_n 0, 1)]) (pe := 263) (ls' := [some (.ref (o)), some (.int (nI (x.1))), some (.long (e2 x.2.1)), none, some (.long (e2 x.2.2)), none, some (.int (nI (L.length))), some (.int (nI p))]) (st' := [.ref (o)]) ⟨dX11_makes_262, rfl⟩ rfl ?_
      refine ev_getf (v := .ref (o + 17)) F_RX11_59 dX11_makes_263 f7 rfl ?_
      refine ev_blk (B := [(.iload 7, 2), (.lload 4, 2)]) (pe := 270) (ls' := [some (.ref (o)), some (.int (nI (x.1))), some (.long (e2 x.2.1)), none, some (.long (e2 x.2.2)), none, some (.int (nI (L.length))), some (.int (nI p))]) (st' := [.long (e2 x.2.2), .int (nI p), .ref (o + 17)]) ⟨dX11_makes_266, dX11_makes_268, rfl⟩ rfl ?_
      refine ev_last dX11_makes_270 f10 (vp_in_nI (show p < 400 by omega) (by omega)) ?_
      rw [nI_clamp (show p < 2 ^ 31 by omega)]
      refine ev_nm (M0 := M6.set (o + 17) (.inl (1, 400, .inr (.inl (vp_updL h p (e2 x.2.2)))))) (fun M11 eM11 => ?_)
      have f12 : M11[o]? = some (.inr (10, zo o (zi) (zl))) := by rw [eM11, ev_sn (by omega)]; exact f7
      have f13 : M11[o + 13]? = some (.inl (0, 400, .inl (upd f p (nI (x.1))))) := by rw [eM11, ev_sn (by omega)]; exact f8
      have f14 : M11[o + 16]? = some (.inl (1, 400, .inr (.inl (vp_updL g p (e2 x.2.1))))) := by rw [eM11, ev_sn (by omega)]; exact f9
      have f15 : M11[o + 17]? = some (.inl (1, 400, .inr (.inl (vp_updL h p (e2 x.2.2))))) := by rw [eM11]; exact ev_sg f10
      refine ev_blk (B := [(.aload_n 0, 1), (.iload 6, 2), (.iconst 1, 1), (.iadd, 1)]) (pe := 276) (ls' := [some (.ref (o)), some (.int (nI (x.1))), some (.long (e2 x.2.1)), none, some (.long (e2 x.2.2)), none, some (.int (nI (L.length))), some (.int (nI p))]) (st' := [.int (nI ((L.length) + 1)), .ref (o)]) ⟨dX11_makes_271, dX11_makes_272, dX11_makes_274, dX11_makes_275, rfl⟩ (by show some (([some (.ref (o)), some (.int (nI (x.1))), some (.long (e2 x.2.1)), none, some (.long (e2 x.2.2)), none, some (.int (nI (L.length))), some (.int (nI p))] : ev_L), ([.int ((nI (L.length)) + (nI 1)), .ref (o)] : List Value)) = _; rw [nI_add (L.length) 1]) ?_
      refine ev_put F_RX11_231 dX11_makes_276 f12 (Nat.le_of_ble_eq_true rfl) (fun _ _ => ⟨rfl, rfl⟩) ?_
      rw [zs_28]
      refine ev_nm (M0 := M11.set (o) (.inr (10, zo o (ui (zi) 28 (nI ((L.length) + 1))) (zl)))) (fun M16 eM16 => ?_)
      have f17 : M16[o]? = some (.inr (10, zo o (ui (zi) 28 (nI ((L.length) + 1))) (zl))) := by rw [eM16]; exact ev_sg f12
      have f18 : M16[o + 13]? = some (.inl (0, 400, .inl (upd f p (nI (x.1))))) := by rw [eM16, ev_sn (by omega)]; exact f13
      have f19 : M16[o + 16]? = some (.inl (1, 400, .inr (.inl (vp_updL g p (e2 x.2.1))))) := by rw [eM16, ev_sn (by omega)]; exact f14
      have f20 : M16[o + 17]? = some (.inl (1, 400, .inr (.inl (vp_updL h p (e2 x.2.2))))) := by rw [eM16, ev_sn (by omega)]; exact f15
      refine ev_vret dX11_makes_279 rfl ⟨Nat.le_of_ble_eq_true rfl, Nat.le_of_ble_eq_true rfl⟩ ?_
      have e9 := ins_at hp hcl (by first | exact Or.inl q174 | exact Or.inr q189)
      have e8 : (ins x L).length = L.length + 1 := by rw [e9, List.length_append, List.length_take, List.length_cons, List.length_drop]; omega
      refine ⟨rfl, _, f17, by rw [e8]; rfl, fun j hj => ui_ne hj, ⟨_, _, _, f18, f19, f20, ?_⟩, hF.tr ⟨by rw [eM16, eM11, eM6, eM1]; simp only [List.length_set], fun j hj1 hj2 hj3 hj4 => by rw [eM16, ev_sn (by omega), eM11, ev_sn (by omega), eM6, ev_sn (by omega), eM1, ev_sn (by omega)]⟩⟩
      rw [e8, e9]
      exact QP.ins rfl hp hlo hhi
    · refine ev_blk (B := [(.aload_n 0, 1), (.iload_n 1, 1), (.lload_n 2, 1), (.lload 4, 2), (.iload 7, 2), (.iconst 1, 1), (.isub, 1)]) (pe := 186) (ls' := [some (.ref (o)), some (.int (nI (x.1))), some (.long (e2 x.2.1)), none, some (.long (e2 x.2.2)), none, some (.int (nI (L.length))), some (.int (nI p))]) (st' := [.int (nI (p - 1)), .long (e2 x.2.2), .long (e2 x.2.1), .int (nI (x.1)), .ref (o)]) ⟨dX11_makes_177, dX11_makes_178, dX11_makes_179, dX11_makes_180, dX11_makes_182, dX11_makes_184, dX11_makes_185, rfl⟩ (by show some (([some (.ref (o)), some (.int (nI (x.1))), some (.long (e2 x.2.1)), none, some (.long (e2 x.2.2)), none, some (.int (nI (L.length))), some (.int (nI p))] : ev_L), ([.int ((nI p) - (nI 1)), .long (e2 x.2.2), .long (e2 x.2.1), .int (nI (x.1)), .ref (o)] : List Value)) = _; rw [pk_sub (show 1 ≤ p by omega)]) ?_
      refine ev_cVv Y_X11_isAhead L_RX11_234 dX11_makes_186 ⟨Nat.le_of_ble_eq_true rfl, Nat.le_of_ble_eq_true rfl, Nat.le_of_ble_eq_true rfl, Nat.le_of_ble_eq_true rfl, Nat.le_of_ble_eq_true rfl⟩ hO (as := [.int (nI (x.1)), .long (e2 x.2.1), .long (e2 x.2.2), .int (nI (p - 1))]) rfl rfl (c_R_isAhead hl o (zi) (zl) hO f g h h13 h16 h17 (p - 1) (by omega) x hx (cg L (p - 1)) (cfs_cg hL (by omega)) (hlo (p - 1) (by omega))) ?_
      refine ev_ifB_eq dX11_makes_189 (tgt := 246) (by decide) (fun q189 => ?_) (fun q189 => ?_)
      · refine ev_blk (B := [(.aload_n 0, 1)]) (pe := 247) (ls' := [some (.ref (o)), some (.int (nI (x.1))), some (.long (e2 x.2.1)), none, some (.long (e2 x.2.2)), none, some (.int (nI (L.length))), some (.int (nI p))]) (st' := [.ref (o)]) ⟨dX11_makes_246, rfl⟩ rfl ?_
        refine ev_getf (v := .ref (o + 13)) F_RX11_47 dX11_makes_247 hO rfl ?_
        refine ev_blk (B := [(.iload 7, 2), (.iload_n 1, 1)]) (pe := 253) (ls' := [some (.ref (o)), some (.int (nI (x.1))), some (.long (e2 x.2.1)), none, some (.long (e2 x.2.2)), none, some (.int (nI (L.length))), some (.int (nI p))]) (st' := [.int (nI (x.1)), .int (nI p), .ref (o + 13)]) ⟨dX11_makes_250, dX11_makes_252, rfl⟩ rfl ?_
        refine ev_iast dX11_makes_253 h13 (vp_in_nI (show p < 400 by omega) (by omega)) ?_
        rw [nI_clamp (show p < 2 ^ 31 by omega)]
        refine ev_nm (M0 := M.set (o + 13) (.inl (0, 400, .inl (upd f p (nI (x.1)))))) (fun M21 eM21 => ?_)
        have f22 : M21[o]? = some (.inr (10, zo o (zi) (zl))) := by rw [eM21, ev_sn (by omega)]; exact hO
        have f23 : M21[o + 13]? = some (.inl (0, 400, .inl (upd f p (nI (x.1))))) := by rw [eM21]; exact ev_sg h13
        have f24 : M21[o + 16]? = some (.inl (1, 400, .inr (.inl (g)))) := by rw [eM21, ev_sn (by omega)]; exact h16
        have f25 : M21[o + 17]? = some (.inl (1, 400, .inr (.inl (h)))) := by rw [eM21, ev_sn (by omega)]; exact h17
        refine ev_blk (B := [(.aload_n 0, 1)]) (pe := 255) (ls' := [some (.ref (o)), some (.int (nI (x.1))), some (.long (e2 x.2.1)), none, some (.long (e2 x.2.2)), none, some (.int (nI (L.length))), some (.int (nI p))]) (st' := [.ref (o)]) ⟨dX11_makes_254, rfl⟩ rfl ?_
        refine ev_getf (v := .ref (o + 16)) F_RX11_56 dX11_makes_255 f22 rfl ?_
        refine ev_blk (B := [(.iload 7, 2), (.lload_n 2, 1)]) (pe := 261) (ls' := [some (.ref (o)), some (.int (nI (x.1))), some (.long (e2 x.2.1)), none, some (.long (e2 x.2.2)), none, some (.int (nI (L.length))), some (.int (nI p))]) (st' := [.long (e2 x.2.1), .int (nI p), .ref (o + 16)]) ⟨dX11_makes_258, dX11_makes_260, rfl⟩ rfl ?_
        refine ev_last dX11_makes_261 f24 (vp_in_nI (show p < 400 by omega) (by omega)) ?_
        rw [nI_clamp (show p < 2 ^ 31 by omega)]
        refine ev_nm (M0 := M21.set (o + 16) (.inl (1, 400, .inr (.inl (vp_updL g p (e2 x.2.1)))))) (fun M26 eM26 => ?_)
        have f27 : M26[o]? = some (.inr (10, zo o (zi) (zl))) := by rw [eM26, ev_sn (by omega)]; exact f22
        have f28 : M26[o + 13]? = some (.inl (0, 400, .inl (upd f p (nI (x.1))))) := by rw [eM26, ev_sn (by omega)]; exact f23
        have f29 : M26[o + 16]? = some (.inl (1, 400, .inr (.inl (vp_updL g p (e2 x.2.1))))) := by rw [eM26]; exact ev_sg f24
        have f30 : M26[o + 17]? = some (.inl (1, 400, .inr (.inl (h)))) := by rw [eM26, ev_sn (by omega)]; exact f25
        refine ev_blk (B := [(.aload_n 0, 1)]) (pe := 263) (ls' := [some (.ref (o)), some (.int (nI (x.1))), some (.long (e2 x.2.1)), none, some (.long (e2 x.2.2)), none, some (.int (nI (L.length))), some (.int (nI p))]) (st' := [.ref (o)]) ⟨dX11_makes_262, rfl⟩ rfl ?_
        refine ev_getf (v := .ref (o + 17)) F_RX11_59 dX11_makes_263 f27 rfl ?_
        refine ev_blk (B := [(.iload 7, 2), (.lload 4, 2)]) (pe := 270) (ls' := [some (.ref (o)), some (.int (nI (x.1))), some (.long (e2 x.2.1)), none, some (.long (e2 x.2.2)), none, some (.int (nI (L.length))), some (.int (nI p))]) (st' := [.long (e2 x.2.2), .int (nI p), .ref (o + 17)]) ⟨dX11_makes_266, dX11_makes_268, rfl⟩ rfl ?_
        refine ev_last dX11_makes_270 f30 (vp_in_nI (show p < 400 by omega) (by omega)) ?_
        rw [nI_clamp (show p < 2 ^ 31 by omega)]
        refine ev_nm (M0 := M26.set (o + 17) (.inl (1, 400, .inr (.inl (vp_updL h p (e2 x.2.2)))))) (fun M31 eM31 => ?_)
        have f32 : M31[o]? = some (.inr (10, zo o (zi) (zl))) := by rw [eM31, ev_sn (by omega)]; exact f27
        have f33 : M31[o + 13]? = some (.inl (0, 400, .inl (upd f p (nI (x.1))))) := by rw [eM31, ev_sn (by omega)]; exact f28
        have f34 : M31[o + 16]? = some (.inl (1, 400, .inr (.inl (vp_updL g p (e2 x.2.1))))) := by rw [eM31, ev_sn (by omega)]; exact f29
        have f35 : M31[o + 17]? = some (.inl (1, 400, .inr (.inl (vp_updL h p (e2 x.2.2))))) := by rw [eM31]; exact ev_sg f30
        refine ev_blk (B := [(.aload_n 0, 1), (.iload 6, 2), (.iconst 1, 1), (.iadd, 1)]) (pe := 276) (ls' := [some (.ref (o)), some (.int (nI (x.1))), some (.long (e2 x.2.1)), none, some (.long (e2 x.2.2)), none, some (.int (nI (L.length))), some (.int (nI p))]) (st' := [.int (nI ((L.length) + 1)), .ref (o)]) ⟨dX11_makes_271, dX11_makes_272, dX11_makes_274, dX11_makes_275, rfl⟩ (by show some (([some (.ref (o)), some (.int (nI (x.1))), some (.long (e2 x.2.1)), none, some (.long (e2 x.2.2)), none, some (.int (nI (L.length))), some (.int (nI p))] : ev_L), ([.int ((nI (L.length)) + (nI 1)), .ref (o)] : List Value)) = _; rw [nI_add (L.length) 1]) ?_
        refine ev_put F_RX11_231 dX11_makes_276 f32 (Nat.le_of_ble_eq_true rfl) (fun _ _ => ⟨rfl, rfl⟩) ?_
        rw [zs_28]
        refine ev_nm (M0 := M31.set (o) (.inr (10, zo o (ui (zi) 28 (nI ((L.length) + 1))) (zl)))) (fun M36 eM36 => ?_)
        have f37 : M36[o]? = some (.inr (10, zo o (ui (zi) 28 (nI ((L.length) + 1))) (zl))) := by rw [eM36]; exact ev_sg f32
        have f38 : M36[o + 13]? = some (.inl (0, 400, .inl (upd f p (nI (x.1))))) := by rw [eM36, ev_sn (by omega)]; exact f33
        have f39 : M36[o + 16]? = some (.inl (1, 400, .inr (.inl (vp_updL g p (e2 x.2.1))))) := by rw [eM36, ev_sn (by omega)]; exact f34
        have f40 : M36[o + 17]? = some (.inl (1, 400, .inr (.inl (vp_updL h p (e2 x.2.2))))) := by rw [eM36, ev_sn (by omega)]; exact f35
        refine ev_vret dX11_makes_279 rfl ⟨Nat.le_of_ble_eq_true rfl, Nat.le_of_ble_eq_true rfl⟩ ?_
        have e9 := ins_at hp hcl (by first | exact Or.inl q174 | exact Or.inr q189)
        have e8 : (ins x L).length = L.length + 1 := by rw [e9, List.length_append, List.length_take, List.length_cons, List.length_drop]; omega
        refine ⟨rfl, _, f37, by rw [e8]; rfl, fun j hj => ui_ne hj, ⟨_, _, _, f38, f39, f40, ?_⟩, hF.tr ⟨by rw [eM36, eM31, eM26, eM21]; simp only [List.length_set], fun j hj1 hj2 hj3 hj4 => by rw [eM36, ev_sn (by omega), eM31, ev_sn (by omega), eM26, ev_sn (by omega), eM21, ev_sn (by omega)]⟩⟩
        rw [e8, e9]
        exact QP.ins rfl hp hlo hhi
      · refine ev_blk (B := [(.aload_n 0, 1)]) (pe := 193) (ls' := [some (.ref (o)), some (.int (nI (x.1))), some (.long (e2 x.2.1)), none, some (.long (e2 x.2.2)), none, some (.int (nI (L.length))), some (.int (nI p))]) (st' := [.ref (o)]) ⟨dX11_makes_192, rfl⟩ rfl ?_
        refine ev_getf (v := .ref (o + 13)) F_RX11_47 dX11_makes_193 hO rfl ?_
        refine ev_blk (B := [(.iload 7, 2), (.aload_n 0, 1)]) (pe := 199) (ls' := [some (.ref (o)), some (.int (nI (x.1))), some (.long (e2 x.2.1)), none, some (.long (e2 x.2.2)), none, some (.int (nI (L.length))), some (.int (nI p))]) (st' := [.ref (o), .int (nI p), .ref (o + 13)]) ⟨dX11_makes_196, dX11_makes_198, rfl⟩ rfl ?_
        refine ev_getf (v := .ref (o + 13)) F_RX11_47 dX11_makes_199 hO rfl ?_
        refine ev_blk (B := [(.iload 7, 2), (.iconst 1, 1), (.isub, 1)]) (pe := 206) (ls' := [some (.ref (o)), some (.int (nI (x.1))), some (.long (e2 x.2.1)), none, some (.long (e2 x.2.2)), none, some (.int (nI (L.length))), some (.int (nI p))]) (st' := [.int (nI (p - 1)), .ref (o + 13), .int (nI p), .ref (o + 13)]) ⟨dX11_makes_202, dX11_makes_204, dX11_makes_205, rfl⟩ (by show some (([some (.ref (o)), some (.int (nI (x.1))), some (.long (e2 x.2.1)), none, some (.long (e2 x.2.2)), none, some (.int (nI (L.length))), some (.int (nI p))] : ev_L), ([.int ((nI p) - (nI 1)), .ref (o + 13), .int (nI p), .ref (o + 13)] : List Value)) = _; rw [pk_sub (show 1 ≤ p by omega)]) ?_
        refine ev_iald dX11_makes_206 h13 (vp_in_nI (show p - 1 < 400 by omega) (by omega)) ?_
        rw [nI_clamp (show p - 1 < 2 ^ 31 by omega)]
        refine ev_iast dX11_makes_207 h13 (vp_in_nI (show p < 400 by omega) (by omega)) ?_
        rw [nI_clamp (show p < 2 ^ 31 by omega)]
        refine ev_nm (M0 := M.set (o + 13) (.inl (0, 400, .inl (upd f p (f (p - 1)))))) (fun M41 eM41 => ?_)
        have f42 : M41[o]? = some (.inr (10, zo o (zi) (zl))) := by rw [eM41, ev_sn (by omega)]; exact hO
        have f43 : M41[o + 13]? = some (.inl (0, 400, .inl (upd f p (f (p - 1))))) := by rw [eM41]; exact ev_sg h13
        have f44 : M41[o + 16]? = some (.inl (1, 400, .inr (.inl (g)))) := by rw [eM41, ev_sn (by omega)]; exact h16
        have f45 : M41[o + 17]? = some (.inl (1, 400, .inr (.inl (h)))) := by rw [eM41, ev_sn (by omega)]; exact h17
        refine ev_blk (B := [(.aload_n 0, 1)]) (pe := 209) (ls' := [some (.ref (o)), some (.int (nI (x.1))), some (.long (e2 x.2.1)), none, some (.long (e2 x.2.2)), none, some (.int (nI (L.length))), some (.int (nI p))]) (st' := [.ref (o)]) ⟨dX11_makes_208, rfl⟩ rfl ?_
        refine ev_getf (v := .ref (o + 16)) F_RX11_56 dX11_makes_209 f42 rfl ?_
        refine ev_blk (B := [(.iload 7, 2), (.aload_n 0, 1)]) (pe := 215) (ls' := [some (.ref (o)), some (.int (nI (x.1))), some (.long (e2 x.2.1)), none, some (.long (e2 x.2.2)), none, some (.int (nI (L.length))), some (.int (nI p))]) (st' := [.ref (o), .int (nI p), .ref (o + 16)]) ⟨dX11_makes_212, dX11_makes_214, rfl⟩ rfl ?_
        refine ev_getf (v := .ref (o + 16)) F_RX11_56 dX11_makes_215 f42 rfl ?_
        refine ev_blk (B := [(.iload 7, 2), (.iconst 1, 1), (.isub, 1)]) (pe := 222) (ls' := [some (.ref (o)), some (.int (nI (x.1))), some (.long (e2 x.2.1)), none, some (.long (e2 x.2.2)), none, some (.int (nI (L.length))), some (.int (nI p))]) (st' := [.int (nI (p - 1)), .ref (o + 16), .int (nI p), .ref (o + 16)]) ⟨dX11_makes_218, dX11_makes_220, dX11_makes_221, rfl⟩ (by show some (([some (.ref (o)), some (.int (nI (x.1))), some (.long (e2 x.2.1)), none, some (.long (e2 x.2.2)), none, some (.int (nI (L.length))), some (.int (nI p))] : ev_L), ([.int ((nI p) - (nI 1)), .ref (o + 16), .int (nI p), .ref (o + 16)] : List Value)) = _; rw [pk_sub (show 1 ≤ p by omega)]) ?_
        refine ev_lald dX11_makes_222 f44 (vp_in_nI (show p - 1 < 400 by omega) (by omega)) ?_
        rw [nI_clamp (show p - 1 < 2 ^ 31 by omega)]
        refine ev_last dX11_makes_223 f44 (vp_in_nI (show p < 400 by omega) (by omega)) ?_
        rw [nI_clamp (show p < 2 ^ 31 by omega)]
        refine ev_nm (M0 := M41.set (o + 16) (.inl (1, 400, .inr (.inl (vp_updL g p (g (p - 1))))))) (fun M46 eM46 => ?_)
        have f47 : M46[o]? = some (.inr (10, zo o (zi) (zl))) := by rw [eM46, ev_sn (by omega)]; exact f42
        have f48 : M46[o + 13]? = some (.inl (0, 400, .inl (upd f p (f (p - 1))))) := by rw [eM46, ev_sn (by omega)]; exact f43
        have f49 : M46[o + 16]? = some (.inl (1, 400, .inr (.inl (vp_updL g p (g (p - 1)))))) := by rw [eM46]; exact ev_sg f44
        have f50 : M46[o + 17]? = some (.inl (1, 400, .inr (.inl (h)))) := by rw [eM46, ev_sn (by omega)]; exact f45
        refine ev_blk (B := [(.aload_n 0, 1)]) (pe := 225) (ls' := [some (.ref (o)), some (.int (nI (x.1))), some (.long (e2 x.2.1)), none, some (.long (e2 x.2.2)), none, some (.int (nI (L.length))), some (.int (nI p))]) (st' := [.ref (o)]) ⟨dX11_makes_224, rfl⟩ rfl ?_
        refine ev_getf (v := .ref (o + 17)) F_RX11_59 dX11_makes_225 f47 rfl ?_
        refine ev_blk (B := [(.iload 7, 2), (.aload_n 0, 1)]) (pe := 231) (ls' := [some (.ref (o)), some (.int (nI (x.1))), some (.long (e2 x.2.1)), none, some (.long (e2 x.2.2)), none, some (.int (nI (L.length))), some (.int (nI p))]) (st' := [.ref (o), .int (nI p), .ref (o + 17)]) ⟨dX11_makes_228, dX11_makes_230, rfl⟩ rfl ?_
        refine ev_getf (v := .ref (o + 17)) F_RX11_59 dX11_makes_231 f47 rfl ?_
        refine ev_blk (B := [(.iload 7, 2), (.iconst 1, 1), (.isub, 1)]) (pe := 238) (ls' := [some (.ref (o)), some (.int (nI (x.1))), some (.long (e2 x.2.1)), none, some (.long (e2 x.2.2)), none, some (.int (nI (L.length))), some (.int (nI p))]) (st' := [.int (nI (p - 1)), .ref (o + 17), .int (nI p), .ref (o + 17)]) ⟨dX11_makes_234, dX11_makes_236, dX11_makes_237, rfl⟩ (by show some (([some (.ref (o)), some (.int (nI (x.1))), some (.long (e2 x.2.1)), none, some (.long (e2 x.2.2)), none, some (.int (nI (L.length))), some (.int (nI p))] : ev_L), ([.int ((nI p) - (nI 1)), .ref (o + 17), .int (nI p), .ref (o + 17)] : List Value)) = _; rw [pk_sub (show 1 ≤ p by omega)]) ?_
        refine ev_lald dX11_makes_238 f50 (vp_in_nI (show p - 1 < 400 by omega) (by omega)) ?_
        rw [nI_clamp (show p - 1 < 2 ^ 31 by omega)]
        refine ev_last dX11_makes_239 f50 (vp_in_nI (show p < 400 by omega) (by omega)) ?_
        rw [nI_clamp (show p < 2 ^ 31 by omega)]
        refine ev_nm (M0 := M46.set (o + 17) (.inl (1, 400, .inr (.inl (vp_updL h p (h (p - 1))))))) (fun M51 eM51 => ?_)
        have f52 : M51[o]? = some (.inr (10, zo o (zi) (zl))) := by rw [eM51, ev_sn (by omega)]; exact f47
        have f53 : M51[o + 13]? = some (.inl (0, 400, .inl (upd f p (f (p - 1))))) := by rw [eM51, ev_sn (by omega)]; exact f48
        have f54 : M51[o + 16]? = some (.inl (1, 400, .inr (.inl (vp_updL g p (g (p - 1)))))) := by rw [eM51, ev_sn (by omega)]; exact f49
        have f55 : M51[o + 17]? = some (.inl (1, 400, .inr (.inl (vp_updL h p (h (p - 1)))))) := by rw [eM51]; exact ev_sg f50
        refine ev_blk (B := [(.iinc 7 (-1), 3)]) (pe := 243) (ls' := [some (.ref (o)), some (.int (nI (x.1))), some (.long (e2 x.2.1)), none, some (.long (e2 x.2.2)), none, some (.int (nI (L.length))), some (.int (nI (p - 1)))]) (st' := []) ⟨dX11_makes_240, rfl⟩ (by show some (([some (.ref (o)), some (.int (nI (x.1))), some (.long (e2 x.2.1)), none, some (.long (e2 x.2.2)), none, some (.int (nI (L.length))), some (.int ((nI p) + Int32.ofInt (-1)))] : ev_L), ([] : List Value)) = _; rw [ev_incm (show 0 < p by omega)]) ?_
        refine ev_goto (tgt := 172) dX11_makes_243 (by decide) ?_
        refine ih (p - 1) _ _ _ _ (by omega) (fun j h1 h2 => ?_) f52 f53 f54 f55 (hF.tr ⟨by rw [eM51, eM46, eM41]; simp only [List.length_set], fun j hj1 hj2 hj3 hj4 => by rw [eM51, ev_sn (by omega), eM46, ev_sn (by omega), eM41, ev_sn (by omega)]⟩) (fun j hj => ?_) (fun j h1 h2 => ?_) (by omega)
        · by_cases e : j = p - 1
          · subst e; exact q189
          · exact hcl j (by omega) h2
        · rw [upd_at, updL_at, updL_at, if_neg (by omega), if_neg (by omega), if_neg (by omega)]
          exact hlo j (by omega)
        · rw [upd_at, updL_at, updL_at]
          by_cases e : j = p
          · subst e
            rw [if_pos rfl, if_pos rfl, if_pos rfl]
            exact hlo (j - 1) (by omega)
          · rw [if_neg e, if_neg e, if_neg e]
            exact hhi j (by omega) h2

set_option maxHeartbeats 4000000 in
set_option maxRecDepth 100000 in
theorem c_R_makes {l : Launch} (hl : l.stackTraces = false) {M : ev_M} (o : Nat) (zi : Nat → Int32) (zl : Nat → Int64) (hO : M[o]? = some (.inr (10, zo o zi zl))) (L : List Cf) (hlt : L.length < 399) (hL : cfs 25 L) (h28 : zi 28 = nI L.length) (hPM : PM M o L) (x : Cf) (hx : cfO x) : ev_Mt l m_X11_makes [.ref (o), .int (nI (x.1)), .long (e2 x.2.1), .long (e2 x.2.2)] M (fun r M1 => r = .inl none ∧ ∃ zi', M1[o]? = some (.inr (10, zo o zi' zl)) ∧ zi' 28 = nI ((im L x).2).length ∧ (∀ j, j ≠ 28 → zi' j = zi j) ∧ PM M1 o ((im L x).2) ∧ FM o M M1) := by
  obtain ⟨f, g, h, h13, h16, h17, hQ⟩ := hPM
  replace hlt : L.length < 400 ∧ L.length < 399 := ⟨by omega, hlt⟩
  obtain ⟨hlt, hlt9⟩ := hlt
  refine ev_body hl rfl (by decide +kernel) (Nat.le_of_ble_eq_true rfl) ?_
  show ev_ l m_X11_makes 0 0 0 [some (.ref (o)), some (.int (nI (x.1))), some (.long (e2 x.2.1)), none, some (.long (e2 x.2.2)), none, none, none] [] M _
  refine ev_blk (B := [(.iconst 0, 1), (.istore 6, 2)]) (pe := 3) (ls' := [some (.ref (o)), some (.int (nI (x.1))), some (.long (e2 x.2.1)), none, some (.long (e2 x.2.2)), none, some (.int (nI 0)), none]) (st' := []) ⟨dX11_makes_0, dX11_makes_1, rfl⟩ rfl ?_
  refine c_R_makes_a hl o zi zl hO f g h h13 h16 h17 L hlt hL h28 hQ x hx _ (fun q => ?_) (fun i0 q => ?_) _ 0 (Nat.zero_le _) (fun j hj => absurd hj (Nat.not_lt_zero _)) (Nat.lt_succ_self _)
  · have z1 : im L x = (false, L) := by unfold im; rw [if_pos q]
    rw [z1]
    exact ⟨rfl, zi, hO, h28, fun _ _ => rfl, ⟨f, g, h, h13, h16, h17, hQ⟩, FM.rf⟩
  have z1 : im L x = (true, ins x (L.filter (fun y => !cb x y))) := by unfold im; rw [if_neg (by rw [q]; decide)]
  rw [z1]
  refine ev_blk (B := [(.iconst 0, 1), (.istore 6, 2), (.iconst 0, 1), (.istore 7, 2)]) (pe := 65) (ls' := [some (.ref (o)), some (.int (nI (x.1))), some (.long (e2 x.2.1)), none, some (.long (e2 x.2.2)), none, some (.int (nI 0)), some (.int (nI 0))]) (st' := []) ⟨dX11_makes_59, dX11_makes_60, dX11_makes_62, dX11_makes_63, rfl⟩ rfl ?_
  refine c_R_makes_b hl o zi zl M L hlt hL h28 x hx _ (fun M2 f2 g2 h2 i2 a1 a2 a3 a4 a5 a6 => ?_) _ 0 0 M f g h (Nat.le_refl _) (Nat.zero_le _) rfl hO h13 h16 h17 FM.rf (fun i hi => absurd hi (Nat.not_lt_zero _)) (fun j _ hj => hQ.at hj) (Nat.lt_succ_self _)
  have hL2 : cfs 25 (L.filter (fun y => !cb x y)) := fun y hy => hL y (List.mem_filter.mp hy).1
  have hz := List.length_filter_le (fun y => !cb x y) L
  generalize L.filter (fun y => !cb x y) = L2 at *
  refine ev_blk (B := [(.iload 6, 2), (.istore 7, 2)]) (pe := 172) (ls' := [some (.ref (o)), some (.int (nI (x.1))), some (.long (e2 x.2.1)), none, some (.long (e2 x.2.2)), none, some (.int (nI (L2.length))), some (.int (nI (L2.length)))]) (st' := []) ⟨dX11_makes_168, dX11_makes_170, rfl⟩ rfl ?_
  exact c_R_makes_c hl o zi zl M L2 (by omega) hL2 x hx _ L2.length _ f2 g2 h2 (Nat.le_refl _) (fun j h1 h2 => absurd h2 (by omega)) a1 a2 a3 a4 a5 (fun j hj => a6.at hj) (fun j h1 h2 => absurd h1 (by omega)) (Nat.lt_succ_self _)

