/-! ===== the reference: reading ===== -/
theorem ps_t {t : Nat → Nat} {n : Nat} {s : Nat × Bool} {lo c : Nat} (h : s.2 = true) : ps t n s lo c = s := by
  unfold ps nxt
  rw [h]
  exact (if_neg (fun z => by rw [Bool.not_true, Bool.false_and] at z; cases z)).trans (Prod.ext rfl h.symm)
theorem ps_y {t : Nat → Nat} {n p : Nat} {lo c : Nat} (h : nxt t n p false lo c = true) : ps t n (p, false) lo c = (p + 1, false) := if_pos h
theorem ps_n {t : Nat → Nat} {n p : Nat} {lo c : Nat} (h : nxt t n p false lo c = false) : ps t n (p, false) lo c = (p, true) := if_neg (by rw [h]; decide)
theorem sv_y {t : Nat → Nat} {n p : Nat} {lo c : Nat} (h : nxt t n p false lo c = true) : sv t n (p, false) lo c = t p - lo := if_pos h
theorem pwS_t {t : Nat → Nat} {n : Nat} {s : Nat × Bool} (h : s.2 = true) : (pwS t n s).2 = s := by
  unfold pwS
  rw [h]
  have : pw t n true 10 s.1 = ([], s.1) := by
    unfold pw nxt
    rfl
  rw [this]
  exact Prod.ext rfl h.symm
theorem gl_t {t : Nat → Nat} {n : Nat} {s : Nat × Bool} (h : s.2 = true) : (gl t n s).2.2 = s := by
  unfold gl
  show ps t n (ps t n (pwS t n (ps t n (pwS t n s).2 44 1)).2 41 1) 59 1 = s
  rw [pwS_t h, ps_t h, pwS_t h, ps_t h, ps_t h]
theorem tl_t {t : Nat → Nat} {n : Nat} {k : Option Nat} {s : Nat × Bool} (h : s.2 = true) : (tl t n k s).2.2.2 = s := by
  unfold tl
  split
  · show ps t n (ps t n (ps t n s 48 6) 41 1) 59 1 = s
    rw [ps_t h, ps_t h, ps_t h]
  · show ps t n (ps t n (t5 t n (ps t n s 48 6)) 41 1) 59 1 = s
    unfold t5
    rw [ps_t h, ps_t h, ps_t h, ps_t h, ps_t h, ps_t h, ps_t h]
theorem cm_t {t : Nat → Nat} {n p : Nat} (h : (hs t n p).2 = true) : (cm t n p).1 = hs t n p := by
  unfold cm
  split
  · exact gl_t h
  · exact tl_t h
/-- the reference's number of a name -/
def kq : Option Nat → Int32
  | none => -1
  | some 0 => 2
  | some 1 => 0
  | some 2 => 1
  | some _ => 3
def kc (a : Nat) : Nat := if a = 0 then 2 else if a = 1 then 0 else 1
/-- the rows hold a command at a place -/
def CR (x : Tr ⊕ Cf) (c : Nat) (kd tld : Nat → Int32) (tf t2 : Nat → Int64) : Prop := match x with
  | .inl t => kd c = nI (kc t.2.2.1) ∧ tld (4 * c) = nI t.1 ∧ tld (4 * c + 1) = nI t.2.1 ∧ (t.2.2.1 ≠ 0 → tld (4 * c + 2) = nI t.2.2.2.1 ∧ tld (4 * c + 3) = nI t.2.2.2.2)
  | .inr g => kd c = nI 3 ∧ tld (4 * c) = nI g.1 ∧ tf c = e2 g.2.1 ∧ t2 c = e2 g.2.2
theorem CR.eq {x : Tr ⊕ Cf} {c : Nat} {kd kd' tld tld' : Nat → Int32} {tf tf' t2 t2' : Nat → Int64} (h : CR x c kd tld tf t2) (h1 : kd' c = kd c) (h2 : ∀ j, j < 4 * c + 4 → tld' j = tld j) (h3 : tf' c = tf c) (h4 : t2' c = t2 c) : CR x c kd' tld' tf' t2' := by
  cases x with
  | inl t =>
    obtain ⟨a, b, d, e⟩ := h
    exact ⟨h1.trans a, (h2 _ (by omega)).trans b, (h2 _ (by omega)).trans d, fun z => ⟨(h2 _ (by omega)).trans (e z).1, (h2 _ (by omega)).trans (e z).2⟩⟩
  | inr g =>
    obtain ⟨a, b, d, e⟩ := h
    exact ⟨h1.trans a, (h2 _ (by omega)).trans b, h3.trans d, h4.trans e⟩
theorem nxt_r {t : Nat → Nat} {n p lo hi c : Nat} (h : lo + c = hi + 1) : decide (p < n ∧ lo ≤ t p ∧ t p ≤ hi) = nxt t n p false lo c := by
  unfold nxt
  rw [Bool.not_false, Bool.true_and]
  exact decide_eq_decide.mpr ⟨fun z => ⟨z.1, z.2.1, by omega⟩, fun z => ⟨z.1, z.2.1, by omega⟩⟩
theorem c_R_isBN {l : Launch} (hl : l.stackTraces = false) {M : ev_M} (a lo hi : Nat) (ha : a < 65536) (hlo : lo < 65536) (hhi : hi < 65536) : ev_Mt l m_X11_isBetween [.int (nI a), .int (nI lo), .int (nI hi)] M (ev_q (.inl (some (.int (ev_b (decide (lo ≤ a ∧ a ≤ hi)))))) M) := by
  have h := c_R_isBetween (M := M) hl (nI a) (nI lo) (nI hi)
  have e : decide (nI lo ≤ nI a ∧ nI a ≤ nI hi) = decide (lo ≤ a ∧ a ≤ hi) := decide_eq_decide.mpr (by rw [nI_leI (by omega) (by omega), nI_leI (by omega) (by omega)])
  rw [e] at h; exact h
set_option maxHeartbeats 4000000 in
set_option maxRecDepth 100000 in
theorem c_R_isAt {l : Launch} (hl : l.stackTraces = false) {M : ev_M} (o : Nat) (zi : Nat → Int32) (zl : Nat → Int64) (hO : M[o]? = some (.inr (10, zo o zi zl))) (t : Nat → Nat) (ht : tOk t) (n p : Nat) (hn : n ≤ 80) (hp : p ≤ n) (h42 : zi 42 = nI n) (h43 : zi 43 = nI p) (hx : Px M o t) (lo hi : Nat) (hlo : lo < 65536) (hhi : hi < 65536) : ev_Mt l m_X11_isAt [.ref (o), .int (nI lo), .int (nI hi)] M (ev_q (.inl (some (.int (ev_b (decide (p < n ∧ lo ≤ t p ∧ t p ≤ hi)))))) M) := by
  refine ev_body hl rfl (by decide +kernel) (Nat.le_of_ble_eq_true rfl) ?_
  show ev_ l m_X11_isAt 0 0 0 [some (.ref (o)), some (.int (nI lo)), some (.int (nI hi))] [] M _
  refine ev_blk (B := [(.aload_n 0, 1)]) (pe := 1) (ls' := [some (.ref (o)), some (.int (nI lo)), some (.int (nI hi))]) (st' := [.ref (o)]) ⟨dX11_isAt_0, rfl⟩ rfl ?_
  refine ev_getf (v := .int (nI p)) F_RX11_299 dX11_isAt_1 hO (congrArg (fun q => some (Value.int q)) h43) ?_
  refine ev_blk (B := [(.aload_n 0, 1)]) (pe := 5) (ls' := [some (.ref (o)), some (.int (nI lo)), some (.int (nI hi))]) (st' := [.ref (o), .int (nI p)]) ⟨dX11_isAt_4, rfl⟩ rfl ?_
  refine ev_getf (v := .int (nI n)) F_RX11_296 dX11_isAt_5 hO (congrArg (fun q => some (Value.int q)) h42) ?_
  refine ev_iN_ge dX11_isAt_8 (tgt := 32) (by decide) (by omega) (by omega) (fun q8 => ?_) (fun q8 => ?_)
  · refine ev_blk (B := [(.iconst 0, 1)]) (pe := 33) (ls' := [some (.ref (o)), some (.int (nI lo)), some (.int (nI hi))]) (st' := [.int (nI 0)]) ⟨dX11_isAt_32, rfl⟩ rfl ?_
    refine ev_iret dX11_isAt_33 rfl (rfl) ⟨Nat.le_of_ble_eq_true rfl, Nat.le_of_ble_eq_true rfl⟩ ?_
    have e9 : decide (p < n ∧ lo ≤ t p ∧ t p ≤ hi) = false := decide_eq_false (fun z => absurd z.1 (by omega))
    rw [e9]
    exact ⟨rfl, rfl⟩
  · refine ev_blk (B := [(.aload_n 0, 1)]) (pe := 12) (ls' := [some (.ref (o)), some (.int (nI lo)), some (.int (nI hi))]) (st' := [.ref (o)]) ⟨dX11_isAt_11, rfl⟩ rfl ?_
    refine ev_getf (v := .ref (o + 22)) F_RX11_74 dX11_isAt_12 hO rfl ?_
    refine ev_blk (B := [(.aload_n 0, 1)]) (pe := 16) (ls' := [some (.ref (o)), some (.int (nI lo)), some (.int (nI hi))]) (st' := [.ref (o), .ref (o + 22)]) ⟨dX11_isAt_15, rfl⟩ rfl ?_
    refine ev_getf (v := .int (nI p)) F_RX11_299 dX11_isAt_16 hO (congrArg (fun q => some (Value.int q)) h43) ?_
    refine ev_cald dX11_isAt_19 hx (vp_in_nI (show p < 80 by omega) (by omega)) ?_
    rw [nI_clamp (show p < 2 ^ 31 by omega)]
    refine ev_blk (B := [(.iload_n 1, 1), (.iload_n 2, 1)]) (pe := 22) (ls' := [some (.ref (o)), some (.int (nI lo)), some (.int (nI hi))]) (st' := [.int (nI hi), .int (nI lo), .int (nI (t p))]) ⟨dX11_isAt_20, dX11_isAt_21, rfl⟩ rfl ?_
    refine ev_cSv Y_X11_isBetween L_RX11_134 dX11_isAt_22 ⟨Nat.le_of_ble_eq_true rfl, Nat.le_of_ble_eq_true rfl, Nat.le_of_ble_eq_true rfl, Nat.le_of_ble_eq_true rfl, Nat.le_of_ble_eq_true rfl⟩ (as := [.int (nI (t p)), .int (nI lo), .int (nI hi)]) rfl rfl (c_R_isBN hl (t p) lo hi (ht p) hlo hhi) ?_
    refine ev_ifB_eq dX11_isAt_25 (tgt := 32) (by decide) (fun q25 => ?_) (fun q25 => ?_)
    · refine ev_blk (B := [(.iconst 0, 1)]) (pe := 33) (ls' := [some (.ref (o)), some (.int (nI lo)), some (.int (nI hi))]) (st' := [.int (nI 0)]) ⟨dX11_isAt_32, rfl⟩ rfl ?_
      refine ev_iret dX11_isAt_33 rfl (rfl) ⟨Nat.le_of_ble_eq_true rfl, Nat.le_of_ble_eq_true rfl⟩ ?_
      have e9 : decide (p < n ∧ lo ≤ t p ∧ t p ≤ hi) = false := decide_eq_false (fun z => (of_decide_eq_false q25) z.2)
      rw [e9]
      exact ⟨rfl, rfl⟩
    · refine ev_blk (B := [(.iconst 1, 1)]) (pe := 29) (ls' := [some (.ref (o)), some (.int (nI lo)), some (.int (nI hi))]) (st' := [.int (nI 1)]) ⟨dX11_isAt_28, rfl⟩ rfl ?_
      refine ev_goto (tgt := 33) dX11_isAt_29 (by decide) ?_
      refine ev_iret dX11_isAt_33 rfl (rfl) ⟨Nat.le_of_ble_eq_true rfl, Nat.le_of_ble_eq_true rfl⟩ ?_
      have e9 : decide (p < n ∧ lo ≤ t p ∧ t p ≤ hi) = true := decide_eq_true ⟨q8, of_decide_eq_true q25⟩
      rw [e9]
      exact ⟨rfl, rfl⟩

theorem c_R_isAtN {l : Launch} (hl : l.stackTraces = false) {M : ev_M} (o : Nat) (zi : Nat → Int32) (zl : Nat → Int64) (hO : M[o]? = some (.inr (10, zo o zi zl))) (t : Nat → Nat) (ht : tOk t) (n p : Nat) (hn : n ≤ 80) (hp : p ≤ n) (h42 : zi 42 = nI n) (h43 : zi 43 = nI p) (hx : Px M o t) (lo hi : Nat) (hlo : lo < 65536) (hhi : hi < 65536) (c : Nat) (hc : lo + c = hi + 1) : ev_Mt l m_X11_isAt [.ref (o), .int (nI lo), .int (nI hi)] M (ev_q (.inl (some (.int (ev_b (nxt t n p false lo c))))) M) := by
  have h := c_R_isAt hl o zi zl hO t ht n p hn hp h42 h43 hx lo hi hlo hhi
  rw [nxt_r hc] at h; exact h
set_option maxHeartbeats 4000000 in
set_option maxRecDepth 100000 in
theorem c_R_skips {l : Launch} (hl : l.stackTraces = false) {M : ev_M} (o : Nat) (zi : Nat → Int32) (zl : Nat → Int64) (hO : M[o]? = some (.inr (10, zo o zi zl))) (t : Nat → Nat) (ht : tOk t) (n p : Nat) (hn : n ≤ 80) (hp : p ≤ n) (h42 : zi 42 = nI n) (h43 : zi 43 = nI p) (hx : Px M o t) (c : Nat) (hc : c < 65535) : ev_Mt l m_X11_skips [.ref (o), .int (nI c)] M (fun r M1 => r = .inl (some (.int (ev_b (nxt t n p false c 1)))) ∧ (∃ zi', M1[o]? = some (.inr (10, zo o zi' zl)) ∧ zi' 43 = nI (ps t n (p, false) c 1).1 ∧ (∀ j, j ≠ 43 → zi' j = zi j)) ∧ FX o (o + 1) (o + 1) M M1) := by
  refine ev_body hl rfl (by decide +kernel) (Nat.le_of_ble_eq_true rfl) ?_
  show ev_ l m_X11_skips 0 0 0 [some (.ref (o)), some (.int (nI c))] [] M _
  refine ev_blk (B := [(.aload_n 0, 1), (.iload_n 1, 1), (.iload_n 1, 1)]) (pe := 3) (ls' := [some (.ref (o)), some (.int (nI c))]) (st' := [.int (nI c), .int (nI c), .ref (o)]) ⟨dX11_skips_0, dX11_skips_1, dX11_skips_2, rfl⟩ rfl ?_
  refine ev_cVv Y_X11_isAt L_RX11_302 dX11_skips_3 ⟨Nat.le_of_ble_eq_true rfl, Nat.le_of_ble_eq_true rfl, Nat.le_of_ble_eq_true rfl, Nat.le_of_ble_eq_true rfl, Nat.le_of_ble_eq_true rfl⟩ hO (as := [.int (nI c), .int (nI c)]) rfl rfl (c_R_isAtN hl o (zi) (zl) hO t ht n p hn hp h42 h43 hx c c (by omega) (by omega) (1) (by omega)) ?_
  refine ev_ifB_ne dX11_skips_6 (tgt := 11) (by decide) (fun q6 => ?_) (fun q6 => ?_)
  · refine ev_blk (B := [(.aload_n 0, 1), (.dup, 1)]) (pe := 13) (ls' := [some (.ref (o)), some (.int (nI c))]) (st' := [.ref (o), .ref (o)]) ⟨dX11_skips_11, dX11_skips_12, rfl⟩ rfl ?_
    refine ev_getf (v := .int (nI p)) F_RX11_299 dX11_skips_13 hO (congrArg (fun q => some (Value.int q)) h43) ?_
    refine ev_blk (B := [(.iconst 1, 1), (.iadd, 1)]) (pe := 18) (ls' := [some (.ref (o)), some (.int (nI c))]) (st' := [.int (nI (p + 1)), .ref (o)]) ⟨dX11_skips_16, dX11_skips_17, rfl⟩ (by show some (([some (.ref (o)), some (.int (nI c))] : ev_L), ([.int ((nI p) + (nI 1)), .ref (o)] : List Value)) = _; rw [nI_add p 1]) ?_
    refine ev_put F_RX11_299 dX11_skips_18 hO (Nat.le_of_ble_eq_true rfl) (fun _ _ => ⟨rfl, rfl⟩) ?_
    rw [zs_43]
    refine ev_nm (M0 := M.set (o) (.inr (10, zo o (ui (zi) 43 (nI (p + 1))) (zl)))) (fun M1 eM1 => ?_)
    have f2 : M1[o]? = some (.inr (10, zo o (ui (zi) 43 (nI (p + 1))) (zl))) := by rw [eM1]; exact ev_sg hO
    have f3 : M1[o + 22]? = some (.inl (2, 80, .inl (fun i => nI (t i)))) := by rw [eM1, ev_sn (by omega)]; exact hx
    refine ev_blk (B := [(.iconst 1, 1)]) (pe := 22) (ls' := [some (.ref (o)), some (.int (nI c))]) (st' := [.int (nI 1)]) ⟨dX11_skips_21, rfl⟩ rfl ?_
    refine ev_iret dX11_skips_22 rfl (rfl) ⟨Nat.le_of_ble_eq_true rfl, Nat.le_of_ble_eq_true rfl⟩ ?_
    rw [ps_y q6, q6]
    exact ⟨rfl, ⟨_, f2, rfl, fun j hj => ui_ne hj⟩, ⟨by rw [eM1]; simp only [List.length_set], fun j hj1 hj2 => by rw [eM1, ev_sn (by omega)]⟩⟩
  · refine ev_blk (B := [(.iconst 0, 1)]) (pe := 10) (ls' := [some (.ref (o)), some (.int (nI c))]) (st' := [.int (nI 0)]) ⟨dX11_skips_9, rfl⟩ rfl ?_
    refine ev_iret dX11_skips_10 rfl (rfl) ⟨Nat.le_of_ble_eq_true rfl, Nat.le_of_ble_eq_true rfl⟩ ?_
    rw [ps_n q6, q6]
    exact ⟨rfl, ⟨_, hO, h43, fun _ _ => rfl⟩, FX.rf⟩

set_option maxHeartbeats 4000000 in
set_option maxRecDepth 100000 in
theorem c_R_takesSign {l : Launch} (hl : l.stackTraces = false) {M : ev_M} (o : Nat) (zi : Nat → Int32) (zl : Nat → Int64) (hO : M[o]? = some (.inr (10, zo o zi zl))) (t : Nat → Nat) (ht : tOk t) (n p : Nat) (hn : n ≤ 80) (hp : p ≤ n) (h42 : zi 42 = nI n) (h43 : zi 43 = nI p) (hx : Px M o t) (c : Nat) (hc : c < 10) (h44 : zi 44 = nI c) (tld : Nat → Int32) (h24 : M[o + 24]? = some (.inl (0, 48, .inl tld))) (k : Nat) (hk : k < 4) (lo hi w : Nat) (hlo : lo < 65536) (hhi : hi < 65536) (hw : lo + w = hi + 1) : ev_Mt l m_X11_takesSign [.ref (o), .int (nI k), .int (nI lo), .int (nI hi)] M (fun r M1 => r = .inl (some (.int (ev_b (nxt t n p false lo w)))) ∧ (∃ zi', M1[o]? = some (.inr (10, zo o zi' zl)) ∧ zi' 43 = nI (ps t n (p, false) lo w).1 ∧ (∀ j, j ≠ 43 → zi' j = zi j)) ∧ ∃ tld', M1[o + 24]? = some (.inl (0, 48, .inl tld')) ∧ (nxt t n p false lo w = true → tld' (4 * c + k) = nI (sv t n (p, false) lo w)) ∧ (∀ j, j ≠ 4 * c + k → tld' j = tld j) ∧ FX o (o + 24) (o + 25) M M1) := by
  refine ev_body hl rfl (by decide +kernel) (Nat.le_of_ble_eq_true rfl) ?_
  show ev_ l m_X11_takesSign 0 0 0 [some (.ref (o)), some (.int (nI k)), some (.int (nI lo)), some (.int (nI hi))] [] M _
  refine ev_blk (B := [(.aload_n 0, 1), (.iload_n 2, 1), (.iload_n 3, 1)]) (pe := 3) (ls' := [some (.ref (o)), some (.int (nI k)), some (.int (nI lo)), some (.int (nI hi))]) (st' := [.int (nI hi), .int (nI lo), .ref (o)]) ⟨dX11_takesSign_0, dX11_takesSign_1, dX11_takesSign_2, rfl⟩ rfl ?_
  refine ev_cVv Y_X11_isAt L_RX11_302 dX11_takesSign_3 ⟨Nat.le_of_ble_eq_true rfl, Nat.le_of_ble_eq_true rfl, Nat.le_of_ble_eq_true rfl, Nat.le_of_ble_eq_true rfl, Nat.le_of_ble_eq_true rfl⟩ hO (as := [.int (nI lo), .int (nI hi)]) rfl rfl (c_R_isAtN hl o (zi) (zl) hO t ht n p hn hp h42 h43 hx lo hi (by omega) (by omega) (w) (by omega)) ?_
  refine ev_ifB_ne dX11_takesSign_6 (tgt := 11) (by decide) (fun q6 => ?_) (fun q6 => ?_)
  · have hnx := nxt_iff.mp q6
    have htp := ht p
    have hnx2 := hnx.2.1
    have hnx3 := hnx.2.2.1
    have hnx4 := hnx.2.2.2
    refine ev_blk (B := [(.aload_n 0, 1)]) (pe := 12) (ls' := [some (.ref (o)), some (.int (nI k)), some (.int (nI lo)), some (.int (nI hi))]) (st' := [.ref (o)]) ⟨dX11_takesSign_11, rfl⟩ rfl ?_
    refine ev_getf (v := .int (nI c)) F_RX11_322 dX11_takesSign_12 hO (congrArg (fun q => some (Value.int q)) h44) ?_
    refine ev_blk (B := [(.bipush 10, 2)]) (pe := 17) (ls' := [some (.ref (o)), some (.int (nI k)), some (.int (nI lo)), some (.int (nI hi))]) (st' := [.int (nI 10), .int (nI c)]) ⟨dX11_takesSign_15, rfl⟩ rfl ?_
    refine ev_iN_ge dX11_takesSign_17 (tgt := 44) (by decide) (by omega) (by omega) (fun q17 => ?_) (fun q17 => ?_)
    · exfalso; omega
    · refine ev_blk (B := [(.aload_n 0, 1)]) (pe := 21) (ls' := [some (.ref (o)), some (.int (nI k)), some (.int (nI lo)), some (.int (nI hi))]) (st' := [.ref (o)]) ⟨dX11_takesSign_20, rfl⟩ rfl ?_
      refine ev_getf (v := .ref (o + 24)) F_RX11_81 dX11_takesSign_21 hO rfl ?_
      refine ev_blk (B := [(.iconst 4, 1), (.aload_n 0, 1)]) (pe := 26) (ls' := [some (.ref (o)), some (.int (nI k)), some (.int (nI lo)), some (.int (nI hi))]) (st' := [.ref (o), .int (nI 4), .ref (o + 24)]) ⟨dX11_takesSign_24, dX11_takesSign_25, rfl⟩ rfl ?_
      refine ev_getf (v := .int (nI c)) F_RX11_322 dX11_takesSign_26 hO (congrArg (fun q => some (Value.int q)) h44) ?_
      refine ev_blk (B := [(.imul, 1), (.iload_n 1, 1), (.iadd, 1), (.aload_n 0, 1)]) (pe := 33) (ls' := [some (.ref (o)), some (.int (nI k)), some (.int (nI lo)), some (.int (nI hi))]) (st' := [.ref (o), .int (nI ((4 * c) + k)), .ref (o + 24)]) ⟨dX11_takesSign_29, dX11_takesSign_30, dX11_takesSign_31, dX11_takesSign_32, rfl⟩ (by show some (([some (.ref (o)), some (.int (nI k)), some (.int (nI lo)), some (.int (nI hi))] : ev_L), ([.ref (o), .int (((nI 4) * (nI c)) + (nI k)), .ref (o + 24)] : List Value)) = _; rw [pk_mul 4 c, nI_add (4 * c) k]) ?_
      refine ev_getf (v := .ref (o + 22)) F_RX11_74 dX11_takesSign_33 hO rfl ?_
      refine ev_blk (B := [(.aload_n 0, 1)]) (pe := 37) (ls' := [some (.ref (o)), some (.int (nI k)), some (.int (nI lo)), some (.int (nI hi))]) (st' := [.ref (o), .ref (o + 22), .int (nI ((4 * c) + k)), .ref (o + 24)]) ⟨dX11_takesSign_36, rfl⟩ rfl ?_
      refine ev_getf (v := .int (nI p)) F_RX11_299 dX11_takesSign_37 hO (congrArg (fun q => some (Value.int q)) h43) ?_
      refine ev_cald dX11_takesSign_40 hx (vp_in_nI (show p < 80 by omega) (by omega)) ?_
      rw [nI_clamp (show p < 2 ^ 31 by omega)]
      refine ev_blk (B := [(.iload_n 2, 1), (.isub, 1)]) (pe := 43) (ls' := [some (.ref (o)), some (.int (nI k)), some (.int (nI lo)), some (.int (nI hi))]) (st' := [.int (nI ((t p) - lo)), .int (nI ((4 * c) + k)), .ref (o + 24)]) ⟨dX11_takesSign_41, dX11_takesSign_42, rfl⟩ (by show some (([some (.ref (o)), some (.int (nI k)), some (.int (nI lo)), some (.int (nI hi))] : ev_L), ([.int ((nI (t p)) - (nI lo)), .int (nI ((4 * c) + k)), .ref (o + 24)] : List Value)) = _; rw [pk_sub (show lo ≤ (t p) by omega)]) ?_
      refine ev_iast dX11_takesSign_43 h24 (vp_in_nI (show (4 * c) + k < 48 by omega) (by omega)) ?_
      rw [nI_clamp (show (4 * c) + k < 2 ^ 31 by omega)]
      refine ev_nm (M0 := M.set (o + 24) (.inl (0, 48, .inl (upd tld ((4 * c) + k) (nI ((t p) - lo)))))) (fun M1 eM1 => ?_)
      have f2 : M1[o]? = some (.inr (10, zo o (zi) (zl))) := by rw [eM1, ev_sn (by omega)]; exact hO
      have f3 : M1[o + 22]? = some (.inl (2, 80, .inl (fun i => nI (t i)))) := by rw [eM1, ev_sn (by omega)]; exact hx
      have f4 : M1[o + 24]? = some (.inl (0, 48, .inl (upd tld ((4 * c) + k) (nI ((t p) - lo))))) := by rw [eM1]; exact ev_sg h24
      refine ev_blk (B := [(.aload_n 0, 1), (.dup, 1)]) (pe := 46) (ls' := [some (.ref (o)), some (.int (nI k)), some (.int (nI lo)), some (.int (nI hi))]) (st' := [.ref (o), .ref (o)]) ⟨dX11_takesSign_44, dX11_takesSign_45, rfl⟩ rfl ?_
      refine ev_getf (v := .int (nI p)) F_RX11_299 dX11_takesSign_46 f2 (congrArg (fun q => some (Value.int q)) h43) ?_
      refine ev_blk (B := [(.iconst 1, 1), (.iadd, 1)]) (pe := 51) (ls' := [some (.ref (o)), some (.int (nI k)), some (.int (nI lo)), some (.int (nI hi))]) (st' := [.int (nI (p + 1)), .ref (o)]) ⟨dX11_takesSign_49, dX11_takesSign_50, rfl⟩ (by show some (([some (.ref (o)), some (.int (nI k)), some (.int (nI lo)), some (.int (nI hi))] : ev_L), ([.int ((nI p) + (nI 1)), .ref (o)] : List Value)) = _; rw [nI_add p 1]) ?_
      refine ev_put F_RX11_299 dX11_takesSign_51 f2 (Nat.le_of_ble_eq_true rfl) (fun _ _ => ⟨rfl, rfl⟩) ?_
      rw [zs_43]
      refine ev_nm (M0 := M1.set (o) (.inr (10, zo o (ui (zi) 43 (nI (p + 1))) (zl)))) (fun M5 eM5 => ?_)
      have f6 : M5[o]? = some (.inr (10, zo o (ui (zi) 43 (nI (p + 1))) (zl))) := by rw [eM5]; exact ev_sg f2
      have f7 : M5[o + 22]? = some (.inl (2, 80, .inl (fun i => nI (t i)))) := by rw [eM5, ev_sn (by omega)]; exact f3
      have f8 : M5[o + 24]? = some (.inl (0, 48, .inl (upd tld ((4 * c) + k) (nI ((t p) - lo))))) := by rw [eM5, ev_sn (by omega)]; exact f4
      refine ev_blk (B := [(.iconst 1, 1)]) (pe := 55) (ls' := [some (.ref (o)), some (.int (nI k)), some (.int (nI lo)), some (.int (nI hi))]) (st' := [.int (nI 1)]) ⟨dX11_takesSign_54, rfl⟩ rfl ?_
      refine ev_iret dX11_takesSign_55 rfl (rfl) ⟨Nat.le_of_ble_eq_true rfl, Nat.le_of_ble_eq_true rfl⟩ ?_
      rw [ps_y q6, q6]
      exact ⟨rfl, ⟨_, f6, rfl, fun j hj => ui_ne hj⟩, _, f8, (fun _ => by rw [upd_at, if_pos rfl, sv_y q6]), (fun j hj => by rw [upd_at, if_neg hj]), ⟨by rw [eM5, eM1]; simp only [List.length_set], fun j hj1 hj2 => by rw [eM5, ev_sn (by omega), eM1, ev_sn (by omega)]⟩⟩
  · refine ev_blk (B := [(.iconst 0, 1)]) (pe := 10) (ls' := [some (.ref (o)), some (.int (nI k)), some (.int (nI lo)), some (.int (nI hi))]) (st' := [.int (nI 0)]) ⟨dX11_takesSign_9, rfl⟩ rfl ?_
    refine ev_iret dX11_takesSign_10 rfl (rfl) ⟨Nat.le_of_ble_eq_true rfl, Nat.le_of_ble_eq_true rfl⟩ ?_
    rw [ps_n q6, q6]
    exact ⟨rfl, ⟨_, hO, h43, fun _ _ => rfl⟩, tld, h24, (fun z => by cases z), (fun _ _ => rfl), FX.rf⟩

theorem tw_c {w : List Nat} {x : Nat} : 4 * e2 w + lN (97 + x) - 97 + 1 = e2 (w ++ [x]) := by
  show 4 * lN (n2 w) + lN (97 + x) - 97 + 1 = lN (n2 (w ++ [x]))
  rw [show (4 : Int64) = lN 4 from rfl, show (1 : Int64) = lN 1 from rfl, show (97 : Int64) = lN 97 from rfl, lN_mul, lN_add, lN_sub (by omega), lN_add, n2_snoc, show 4 * n2 w + (97 + x) - 97 + 1 = 4 * n2 w + x + 1 by omega]
set_option maxHeartbeats 4000000 in
set_option maxRecDepth 100000 in
theorem c_R_word_l {l : Launch} (hl : l.stackTraces = false)  (o : Nat) (zl : Nat → Int64) (zi0 : Nat → Int32) (t : Nat → Nat) (ht : tOk t) (n : Nat) (hn : n ≤ 80) (W0 : List Nat) (P0 : Nat) (M0 : ev_M) : ∀ (n9 : Nat) (i : Nat) (p : Nat) (w : List Nat) (M : ev_M) (zi : Nat → Int32), i ≤ 10 → p ≤ n → M[o]? = some (.inr (10, zo o zi zl)) → zi 42 = nI n → zi 43 = nI p → Px M o t → (∀ j, j ≠ 43 → zi j = zi0 j) → FX o (o + 1) (o + 1) M0 M → w ++ (pw t n false (10 - i) p).1 = W0 → (pw t n false (10 - i) p).2 = P0 → 10 - i < n9 → ev_ l m_X11_takesWord 0 0 4 [some (.ref (o)), some (.long (e2 w)), none, some (.int (nI i))] [] M (fun r M1 => r = .inl (some (.long (e2 W0))) ∧ ∃ zi', M1[o]? = some (.inr (10, zo o zi' zl)) ∧ zi' 43 = nI P0 ∧ (∀ j, j ≠ 43 → zi' j = zi0 j) ∧ FX o (o + 1) (o + 1) M0 M1) := by
  intro n9
  induction n9 with
  | zero => intro i p w M zi hi hp hO h42 h43 hx hz hF hA hB hm9; exact absurd hm9 (by omega)
  | succ n9 ih =>
    intro i p w M zi hi hp hO h42 h43 hx hz hF hA hB hm9
    refine ev_blk (B := [(.iload_n 3, 1), (.bipush 10, 2)]) (pe := 7) (ls' := [some (.ref (o)), some (.long (e2 w)), none, some (.int (nI i))]) (st' := [.int (nI 10), .int (nI i)]) ⟨dX11_takesWord_4, dX11_takesWord_5, rfl⟩ rfl ?_
    refine ev_iN_ge dX11_takesWord_7 (tgt := 60) (by decide) (by omega) (by omega) (fun q7 => ?_) (fun q7 => ?_)
    · refine ev_blk (B := [(.lload_n 1, 1)]) (pe := 61) (ls' := [some (.ref (o)), some (.long (e2 w)), none, some (.int (nI i))]) (st' := [.long (e2 w)]) ⟨dX11_takesWord_60, rfl⟩ rfl ?_
      refine ev_lret dX11_takesWord_61 rfl ⟨Nat.le_of_ble_eq_true rfl, Nat.le_of_ble_eq_true rfl⟩ ?_
      have hpw : pw t n false (10 - i) p = ([], p) := by
        rw [show 10 - i = 0 by omega]; rfl
      rw [hpw] at hA hB
      rw [List.append_nil] at hA
      subst hA
      subst hB
      exact ⟨rfl, zi, hO, h43, hz, hF⟩
    · refine ev_blk (B := [(.aload_n 0, 1), (.bipush 97, 2), (.bipush 99, 2)]) (pe := 15) (ls' := [some (.ref (o)), some (.long (e2 w)), none, some (.int (nI i))]) (st' := [.int (nI 99), .int (nI 97), .ref (o)]) ⟨dX11_takesWord_10, dX11_takesWord_11, dX11_takesWord_13, rfl⟩ rfl ?_
      refine ev_cVv Y_X11_isAt L_RX11_302 dX11_takesWord_15 ⟨Nat.le_of_ble_eq_true rfl, Nat.le_of_ble_eq_true rfl, Nat.le_of_ble_eq_true rfl, Nat.le_of_ble_eq_true rfl, Nat.le_of_ble_eq_true rfl⟩ hO (as := [.int (nI 97), .int (nI 99)]) rfl rfl (c_R_isAtN hl o (zi) (zl) hO t ht n p hn hp h42 h43 hx 97 99 (by omega) (by omega) (3) (by omega)) ?_
      refine ev_ifB_eq dX11_takesWord_18 (tgt := 60) (by decide) (fun q18 => ?_) (fun q18 => ?_)
      · refine ev_blk (B := [(.lload_n 1, 1)]) (pe := 61) (ls' := [some (.ref (o)), some (.long (e2 w)), none, some (.int (nI i))]) (st' := [.long (e2 w)]) ⟨dX11_takesWord_60, rfl⟩ rfl ?_
        refine ev_lret dX11_takesWord_61 rfl ⟨Nat.le_of_ble_eq_true rfl, Nat.le_of_ble_eq_true rfl⟩ ?_
        have hpw : pw t n false (10 - i) p = ([], p) := by
          obtain ⟨j, hj⟩ : ∃ j, 10 - i = j + 1 := ⟨9 - i, by omega⟩
          rw [hj, pw, q18]; rfl
        rw [hpw] at hA hB
        rw [List.append_nil] at hA
        subst hA
        subst hB
        exact ⟨rfl, zi, hO, h43, hz, hF⟩
      · have hnx := nxt_iff.mp q18
        have htp := ht p
        have hnx2 := hnx.2.1
        have hnx3 := hnx.2.2.1
        have hnx4 := hnx.2.2.2
        refine ev_ldc2 K_RX11_109 dX11_takesWord_21 ?_
        refine ev_blk (B := [(.lload_n 1, 1), (.lmul, 1), (.aload_n 0, 1)]) (pe := 27) (ls' := [some (.ref (o)), some (.long (e2 w)), none, some (.int (nI i))]) (st' := [.ref (o), .long ((4) * (e2 w))]) ⟨dX11_takesWord_24, dX11_takesWord_25, dX11_takesWord_26, rfl⟩ rfl ?_
        refine ev_getf (v := .ref (o + 22)) F_RX11_74 dX11_takesWord_27 hO rfl ?_
        refine ev_blk (B := [(.aload_n 0, 1)]) (pe := 31) (ls' := [some (.ref (o)), some (.long (e2 w)), none, some (.int (nI i))]) (st' := [.ref (o), .ref (o + 22), .long ((4) * (e2 w))]) ⟨dX11_takesWord_30, rfl⟩ rfl ?_
        refine ev_getf (v := .int (nI p)) F_RX11_299 dX11_takesWord_31 hO (congrArg (fun q => some (Value.int q)) h43) ?_
        refine ev_cald dX11_takesWord_34 hx (vp_in_nI (show p < 80 by omega) (by omega)) ?_
        rw [nI_clamp (show p < 2 ^ 31 by omega)]
        rw [show nI (t p) = nI (97 + (t p - 97)) from congrArg nI (by omega)]
        refine ev_blk (B := [(.i2l, 1), (.ladd, 1)]) (pe := 37) (ls' := [some (.ref (o)), some (.long (e2 w)), none, some (.int (nI i))]) (st' := [.long (((4) * (e2 w)) + (lN (97 + (t p - 97))))]) ⟨dX11_takesWord_35, dX11_takesWord_36, rfl⟩ (by show some (([some (.ref (o)), some (.long (e2 w)), none, some (.int (nI i))] : ev_L), ([.long (((4) * (e2 w)) + ((nI (97 + (t p - 97))).toInt64))] : List Value)) = _; rw [nI_l (show 97 + (t p - 97) < 2 ^ 31 by omega)]) ?_
        refine ev_ldc2 K_RX11_325 dX11_takesWord_37 ?_
        refine ev_blk (B := [(.lsub, 1), (.lconst 1, 1), (.ladd, 1), (.lstore_n 1, 1), (.aload_n 0, 1), (.dup, 1)]) (pe := 46) (ls' := [some (.ref (o)), some (.long (e2 (w ++ [t p - 97]))), none, some (.int (nI i))]) (st' := [.ref (o), .ref (o)]) ⟨dX11_takesWord_40, dX11_takesWord_41, dX11_takesWord_42, dX11_takesWord_43, dX11_takesWord_44, dX11_takesWord_45, rfl⟩ (by show some (([some (.ref (o)), some (.long (((((4) * (e2 w)) + (lN (97 + (t p - 97)))) - (97)) + (1))), none, some (.int (nI i))] : ev_L), ([.ref (o), .ref (o)] : List Value)) = _; rw [show ((((4) * (e2 w)) + (lN (97 + (t p - 97)))) - (97)) + (1) = e2 (w ++ [t p - 97]) from tw_c]) ?_
        refine ev_getf (v := .int (nI p)) F_RX11_299 dX11_takesWord_46 hO (congrArg (fun q => some (Value.int q)) h43) ?_
        refine ev_blk (B := [(.iconst 1, 1), (.iadd, 1)]) (pe := 51) (ls' := [some (.ref (o)), some (.long (e2 (w ++ [t p - 97]))), none, some (.int (nI i))]) (st' := [.int (nI (p + 1)), .ref (o)]) ⟨dX11_takesWord_49, dX11_takesWord_50, rfl⟩ (by show some (([some (.ref (o)), some (.long (e2 (w ++ [t p - 97]))), none, some (.int (nI i))] : ev_L), ([.int ((nI p) + (nI 1)), .ref (o)] : List Value)) = _; rw [nI_add p 1]) ?_
        refine ev_put F_RX11_299 dX11_takesWord_51 hO (Nat.le_of_ble_eq_true rfl) (fun _ _ => ⟨rfl, rfl⟩) ?_
        rw [zs_43]
        refine ev_nm (M0 := M.set (o) (.inr (10, zo o (ui (zi) 43 (nI (p + 1))) (zl)))) (fun M1 eM1 => ?_)
        have f2 : M1[o]? = some (.inr (10, zo o (ui (zi) 43 (nI (p + 1))) (zl))) := by rw [eM1]; exact ev_sg hO
        have f3 : M1[o + 22]? = some (.inl (2, 80, .inl (fun i => nI (t i)))) := by rw [eM1, ev_sn (by omega)]; exact hx
        refine ev_blk (B := [(.iinc 3 1, 3)]) (pe := 57) (ls' := [some (.ref (o)), some (.long (e2 (w ++ [t p - 97]))), none, some (.int (nI (i + 1)))]) (st' := []) ⟨dX11_takesWord_54, rfl⟩ (by show some (([some (.ref (o)), some (.long (e2 (w ++ [t p - 97]))), none, some (.int ((nI i) + Int32.ofInt (1)))] : ev_L), ([] : List Value)) = _; rw [ev_inc1 i]) ?_
        refine ev_goto (tgt := 4) dX11_takesWord_57 (by decide) ?_
        obtain ⟨j, hj⟩ : ∃ j, 10 - i = j + 1 := ⟨9 - i, by omega⟩
        have hpw : pw t n false (10 - i) p = ((t p - 97) :: (pw t n false (10 - (i + 1)) (p + 1)).1, (pw t n false (10 - (i + 1)) (p + 1)).2) := by
          rw [hj, show 10 - (i + 1) = j by omega, pw, q18]; rfl
        have W4 : FX o (o + 31) (o + 31) M M1 := ⟨by rw [eM1]; simp only [List.length_set], fun j hj1 hj2 => by rw [eM1, ev_sn (by omega)]⟩
        exact ih (i + 1) (p + 1) (w ++ [t p - 97]) _ _ (by omega) (by omega) f2 ((ui_ne (by decide)).trans h42) rfl (hx.fx W4 (by omega)) (fun j hj => (ui_ne hj).trans (hz j hj)) (hF.tr (W4.em (by omega))) (by rw [← hA, hpw, List.append_assoc]; rfl) (by rw [← hB, hpw]) (by omega)

set_option maxHeartbeats 4000000 in
set_option maxRecDepth 100000 in
theorem c_R_takesWord {l : Launch} (hl : l.stackTraces = false) {M : ev_M} (o : Nat) (zi : Nat → Int32) (zl : Nat → Int64) (hO : M[o]? = some (.inr (10, zo o zi zl))) (t : Nat → Nat) (ht : tOk t) (n p : Nat) (hn : n ≤ 80) (hp : p ≤ n) (h42 : zi 42 = nI n) (h43 : zi 43 = nI p) (hx : Px M o t) : ev_Mt l m_X11_takesWord [.ref (o)] M (fun r M1 => r = .inl (some (.long (e2 (pw t n false 10 p).1))) ∧ ∃ zi', M1[o]? = some (.inr (10, zo o zi' zl)) ∧ zi' 43 = nI (pw t n false 10 p).2 ∧ (∀ j, j ≠ 43 → zi' j = zi j) ∧ FX o (o + 1) (o + 1) M M1) := by
  refine ev_body hl rfl (by decide +kernel) (Nat.le_of_ble_eq_true rfl) ?_
  show ev_ l m_X11_takesWord 0 0 0 [some (.ref (o)), none, none, none] [] M _
  refine ev_blk (B := [(.lconst 0, 1), (.lstore_n 1, 1), (.iconst 0, 1), (.istore_n 3, 1)]) (pe := 4) (ls' := [some (.ref (o)), some (.long (0)), none, some (.int (nI 0))]) (st' := []) ⟨dX11_takesWord_0, dX11_takesWord_1, dX11_takesWord_2, dX11_takesWord_3, rfl⟩ rfl ?_
  have e0 : (0 : Int64) = e2 [] := by decide
  rw [e0]
  exact c_R_word_l hl o zl zi t ht n hn _ _ M _ 0 p [] M zi (by omega) hp hO h42 h43 hx (fun _ _ => rfl) FX.rf rfl rfl (Nat.lt_succ_self _)

theorem nI_inj {a b : Nat} (ha : a < 2 ^ 31) (hb : b < 2 ^ 31) : nI a = nI b ↔ a = b := ⟨fun q => by have := congrArg Int32.toNatClampNeg q; rwa [nI_clamp ha, nI_clamp hb] at this, fun q => by rw [q]⟩
set_option maxHeartbeats 4000000 in
set_option maxRecDepth 100000 in
theorem c_R_isWord_l {l : Launch}  {M : ev_M} (o : Nat) (zi : Nat → Int32) (zl : Nat → Int64) (hO : M[o]? = some (.inr (10, zo o zi zl))) (t : Nat → Nat) (ht : tOk t) (hx : Px M o t) (k : Nat) (hk : k < 4) (b e : Nat) (hb : b ≤ e) (he : e ≤ 80) : ∀ (n9 : Nat) (i : Nat) (z : Bool), i ≤ 4 → (z = true ↔ e = b + 4 ∧ ∀ j, j < i → t (b + j) = xw k j) → 4 - i < n9 → ev_ l m_X11_isWord 0 0 18 [some (.ref (o)), some (.retAddr (k)), some (.int (nI b)), some (.int (nI e)), some (.int (ev_b (z))), some (.int (nI i))] [] M (ev_q (.inl (some (.int (ev_b (rk t b e k))))) M) := by
  intro n9
  induction n9 with
  | zero => intro i z hi hz hm9; exact absurd hm9 (by omega)
  | succ n9 ih =>
    intro i z hi hz hm9
    refine ev_blk (B := [(.iload 5, 2), (.aload_n 1, 1)]) (pe := 21) (ls' := [some (.ref (o)), some (.retAddr (k)), some (.int (nI b)), some (.int (nI e)), some (.int (ev_b (z))), some (.int (nI i))]) (st' := [.retAddr (k), .int (nI i)]) ⟨dX11_isWord_18, dX11_isWord_20, rfl⟩ rfl ?_
    refine ev_tlen (by omega) dX11_isWord_21 ?_
    refine ev_eqst (st := [.int (nI 4), .int (nI i)]) rfl ?_
    refine ev_iN_ge dX11_isWord_22 (tgt := 59) (by decide) (by omega) (by omega) (fun q22 => ?_) (fun q22 => ?_)
    · refine ev_blk (B := [(.iload 4, 2)]) (pe := 61) (ls' := [some (.ref (o)), some (.retAddr (k)), some (.int (nI b)), some (.int (nI e)), some (.int (ev_b (z))), some (.int (nI i))]) (st' := [.int (ev_b (z))]) ⟨dX11_isWord_59, rfl⟩ rfl ?_
      refine ev_iret dX11_isWord_61 rfl (ev_b_nar _) ⟨Nat.le_of_ble_eq_true rfl, Nat.le_of_ble_eq_true rfl⟩ ?_
      have e9 : rk t b e k = z := by
        cases z with
        | true => exact rk_iff.mpr ⟨(hz.mp rfl).1, fun j hj => (hz.mp rfl).2 j (by omega)⟩
        | false =>
          cases q : rk t b e k with
          | false => rfl
          | true => have := hz.mpr ⟨(rk_iff.mp q).1, fun j hj => (rk_iff.mp q).2 j (by omega)⟩; cases this
      rw [e9]
      exact ⟨rfl, rfl⟩
    · refine ev_blk (B := [(.iload 4, 2)]) (pe := 27) (ls' := [some (.ref (o)), some (.retAddr (k)), some (.int (nI b)), some (.int (nI e)), some (.int (ev_b (z))), some (.int (nI i))]) (st' := [.int (ev_b (z))]) ⟨dX11_isWord_25, rfl⟩ rfl ?_
      refine ev_ifB_eq dX11_isWord_27 (tgt := 59) (by decide) (fun q27 => ?_) (fun q27 => ?_)
      · refine ev_blk (B := [(.iload 4, 2)]) (pe := 61) (ls' := [some (.ref (o)), some (.retAddr (k)), some (.int (nI b)), some (.int (nI e)), some (.int (ev_b (z))), some (.int (nI i))]) (st' := [.int (ev_b (z))]) ⟨dX11_isWord_59, rfl⟩ rfl ?_
        refine ev_iret dX11_isWord_61 rfl (ev_b_nar _) ⟨Nat.le_of_ble_eq_true rfl, Nat.le_of_ble_eq_true rfl⟩ ?_
        subst q27
        have e9 : rk t b e k = false := by
          cases q : rk t b e k with
          | false => rfl
          | true => have := hz.mpr ⟨(rk_iff.mp q).1, fun j hj => (rk_iff.mp q).2 j (by omega)⟩; cases this
        rw [e9]
        exact ⟨rfl, rfl⟩
      · have hln := (hz.mp q27).1
        refine ev_blk (B := [(.aload_n 0, 1)]) (pe := 31) (ls' := [some (.ref (o)), some (.retAddr (k)), some (.int (nI b)), some (.int (nI e)), some (.int (ev_b (z))), some (.int (nI i))]) (st' := [.ref (o)]) ⟨dX11_isWord_30, rfl⟩ rfl ?_
        refine ev_getf (v := .ref (o + 22)) F_RX11_74 dX11_isWord_31 hO rfl ?_
        refine ev_blk (B := [(.iload_n 2, 1), (.iload 5, 2), (.iadd, 1)]) (pe := 38) (ls' := [some (.ref (o)), some (.retAddr (k)), some (.int (nI b)), some (.int (nI e)), some (.int (ev_b (z))), some (.int (nI i))]) (st' := [.int (nI (b + i)), .ref (o + 22)]) ⟨dX11_isWord_34, dX11_isWord_35, dX11_isWord_37, rfl⟩ (by show some (([some (.ref (o)), some (.retAddr (k)), some (.int (nI b)), some (.int (nI e)), some (.int (ev_b (z))), some (.int (nI i))] : ev_L), ([.int ((nI b) + (nI i)), .ref (o + 22)] : List Value)) = _; rw [nI_add b i]) ?_
        refine ev_cald dX11_isWord_38 hx (vp_in_nI (show b + i < 80 by omega) (by omega)) ?_
        rw [nI_clamp (show b + i < 2 ^ 31 by omega)]
        refine ev_blk (B := [(.aload_n 1, 1), (.iload 5, 2)]) (pe := 42) (ls' := [some (.ref (o)), some (.retAddr (k)), some (.int (nI b)), some (.int (nI e)), some (.int (ev_b (z))), some (.int (nI i))]) (st' := [.int (nI i), .retAddr (k), .int (nI (t (b + i)))]) ⟨dX11_isWord_39, dX11_isWord_40, rfl⟩ rfl ?_
        refine ev_tcald (by omega) (vp_in_nI (show i < 4 by omega) (by omega)) dX11_isWord_42 ?_
        rw [nI_clamp (show i < 2 ^ 31 by omega), (xw_b k hk i (by omega)).2.2.1]
        refine ev_ic_ne dX11_isWord_43 (tgt := 50) (by decide) (fun q43 => ?_) (fun q43 => ?_)
        · refine ev_blk (B := [(.iconst 0, 1), (.istore 4, 2), (.iinc 5 1, 3)]) (pe := 56) (ls' := [some (.ref (o)), some (.retAddr (k)), some (.int (nI b)), some (.int (nI e)), some (.int (nI 0)), some (.int (nI (i + 1)))]) (st' := []) ⟨dX11_isWord_50, dX11_isWord_51, dX11_isWord_53, rfl⟩ (by show some (([some (.ref (o)), some (.retAddr (k)), some (.int (nI b)), some (.int (nI e)), some (.int (nI 0)), some (.int ((nI i) + Int32.ofInt (1)))] : ev_L), ([] : List Value)) = _; rw [ev_inc1 i]) ?_
          refine ev_goto (tgt := 18) dX11_isWord_56 (by decide) ?_
          refine ih (i + 1) false (by omega) (iff_of_false (by decide) (fun z => ?_)) (by omega)
          exact q43 (congrArg nI (z.2 i (by omega)))
        · refine ev_blk (B := [(.iconst 1, 1)]) (pe := 47) (ls' := [some (.ref (o)), some (.retAddr (k)), some (.int (nI b)), some (.int (nI e)), some (.int (ev_b (z))), some (.int (nI i))]) (st' := [.int (nI 1)]) ⟨dX11_isWord_46, rfl⟩ rfl ?_
          refine ev_goto (tgt := 51) dX11_isWord_47 (by decide) ?_
          refine ev_blk (B := [(.istore 4, 2), (.iinc 5 1, 3)]) (pe := 56) (ls' := [some (.ref (o)), some (.retAddr (k)), some (.int (nI b)), some (.int (nI e)), some (.int (nI 1)), some (.int (nI (i + 1)))]) (st' := []) ⟨dX11_isWord_51, dX11_isWord_53, rfl⟩ (by show some (([some (.ref (o)), some (.retAddr (k)), some (.int (nI b)), some (.int (nI e)), some (.int (nI 1)), some (.int ((nI i) + Int32.ofInt (1)))] : ev_L), ([] : List Value)) = _; rw [ev_inc1 i]) ?_
          refine ev_goto (tgt := 18) dX11_isWord_56 (by decide) ?_
          refine ih (i + 1) true (by omega) (iff_of_true rfl ⟨hln, fun j hj => ?_⟩) (by omega)
          by_cases z : j = i
          · subst z
            exact (nI_inj (by have := ht (b + j); omega) (by have := (xw_b k hk j (by omega)).2.2.2; omega)).mp q43
          · exact (hz.mp q27).2 j (by omega)

set_option maxHeartbeats 4000000 in
set_option maxRecDepth 100000 in
theorem c_R_isWord {l : Launch} (hl : l.stackTraces = false) {M : ev_M} (o : Nat) (zi : Nat → Int32) (zl : Nat → Int64) (hO : M[o]? = some (.inr (10, zo o zi zl))) (t : Nat → Nat) (ht : tOk t) (hx : Px M o t) (k : Nat) (hk : k < 4) (b e : Nat) (hb : b ≤ e) (he : e ≤ 80) : ev_Mt l m_X11_isWord [.ref (o), .retAddr (k), .int (nI b), .int (nI e)] M (ev_q (.inl (some (.int (ev_b (rk t b e k))))) M) := by
  refine ev_body hl rfl (by decide +kernel) (Nat.le_of_ble_eq_true rfl) ?_
  show ev_ l m_X11_isWord 0 0 0 [some (.ref (o)), some (.retAddr (k)), some (.int (nI b)), some (.int (nI e)), none, none] [] M _
  refine ev_blk (B := [(.iload_n 3, 1), (.iload_n 2, 1), (.isub, 1), (.aload_n 1, 1)]) (pe := 4) (ls' := [some (.ref (o)), some (.retAddr (k)), some (.int (nI b)), some (.int (nI e)), none, none]) (st' := [.retAddr (k), .int (nI (e - b))]) ⟨dX11_isWord_0, dX11_isWord_1, dX11_isWord_2, dX11_isWord_3, rfl⟩ (by show some (([some (.ref (o)), some (.retAddr (k)), some (.int (nI b)), some (.int (nI e)), none, none] : ev_L), ([.retAddr (k), .int ((nI e) - (nI b))] : List Value)) = _; rw [pk_sub (show b ≤ e by omega)]) ?_
  refine ev_tlen (by omega) dX11_isWord_4 ?_
  refine ev_eqst (st := [.int (nI 4), .int (nI (e - b))]) rfl ?_
  refine ev_iN_ne dX11_isWord_5 (tgt := 12) (by decide) (by omega) (by omega) (fun q5 => ?_) (fun q5 => ?_)
  · refine ev_blk (B := [(.iconst 0, 1), (.istore 4, 2), (.iconst 0, 1), (.istore 5, 2)]) (pe := 18) (ls' := [some (.ref (o)), some (.retAddr (k)), some (.int (nI b)), some (.int (nI e)), some (.int (nI 0)), some (.int (nI 0))]) (st' := []) ⟨dX11_isWord_12, dX11_isWord_13, dX11_isWord_15, dX11_isWord_16, rfl⟩ rfl ?_
    exact c_R_isWord_l o zi zl hO t ht hx k hk b e hb he _ 0 false (by omega) (iff_of_false (by decide) (fun z => by omega)) (Nat.lt_succ_self _)
  · refine ev_blk (B := [(.iconst 1, 1)]) (pe := 9) (ls' := [some (.ref (o)), some (.retAddr (k)), some (.int (nI b)), some (.int (nI e)), none, none]) (st' := [.int (nI 1)]) ⟨dX11_isWord_8, rfl⟩ rfl ?_
    refine ev_goto (tgt := 13) dX11_isWord_9 (by decide) ?_
    refine ev_blk (B := [(.istore 4, 2), (.iconst 0, 1), (.istore 5, 2)]) (pe := 18) (ls' := [some (.ref (o)), some (.retAddr (k)), some (.int (nI b)), some (.int (nI e)), some (.int (nI 1)), some (.int (nI 0))]) (st' := []) ⟨dX11_isWord_13, dX11_isWord_15, dX11_isWord_16, rfl⟩ rfl ?_
    exact c_R_isWord_l o zi zl hO t ht hx k hk b e hb he _ 0 true (by omega) (iff_of_true rfl ⟨by omega, fun j hj => absurd hj (Nat.not_lt_zero _)⟩) (Nat.lt_succ_self _)

theorem rk_ne {t : Nat → Nat} {s p k j : Nat} (h : rk t s p k = true) (hkj : xw k 0 ≠ xw j 0) : rk t s p j = false := by
  cases q : rk t s p j with
  | false => rfl
  | true => exact absurd (((rk_iff.mp h).2 0 (by decide)).symm.trans ((rk_iff.mp q).2 0 (by decide))) hkj
set_option maxHeartbeats 4000000 in
set_option maxRecDepth 100000 in
theorem c_R_kind_l {l : Launch} (hl : l.stackTraces = false)  (o : Nat) (zl : Nat → Int64) (zi0 : Nat → Int32) (t : Nat → Nat) (ht : tOk t) (n : Nat) (hn : n ≤ 80) (b P0 : Nat) (M0 : ev_M) : ∀ (n9 : Nat) (p : Nat) (M : ev_M) (zi : Nat → Int32), b ≤ p → p ≤ n → M[o]? = some (.inr (10, zo o zi zl)) → zi 42 = nI n → zi 43 = nI p → Px M o t → (∀ j, j ≠ 43 → zi j = zi0 j) → FX o (o + 1) (o + 1) M0 M → nd t n (n - p) p = P0 → n - p < n9 → ev_ l m_X11_takesKind 0 0 5 [some (.ref (o)), some (.int (nI b)), none] [] M (fun r M1 => r = .inl (some (.int (kq (nk t b P0)))) ∧ ∃ zi', M1[o]? = some (.inr (10, zo o zi' zl)) ∧ zi' 43 = nI (match nk t b P0 with | none => b | some _ => P0) ∧ (∀ j, j ≠ 43 → zi' j = zi0 j) ∧ FX o (o + 1) (o + 1) M0 M1) := by
  intro n9
  induction n9 with
  | zero => intro p M zi hb hp hO h42 h43 hx hz hF hP hm9; exact absurd hm9 (by omega)
  | succ n9 ih =>
    intro p M zi hb hp hO h42 h43 hx hz hF hP hm9
    refine ev_blk (B := [(.aload_n 0, 1), (.bipush 97, 2), (.bipush 122, 2)]) (pe := 10) (ls' := [some (.ref (o)), some (.int (nI b)), none]) (st' := [.int (nI 122), .int (nI 97), .ref (o)]) ⟨dX11_takesKind_5, dX11_takesKind_6, dX11_takesKind_8, rfl⟩ rfl ?_
    refine ev_cVv Y_X11_isAt L_RX11_302 dX11_takesKind_10 ⟨Nat.le_of_ble_eq_true rfl, Nat.le_of_ble_eq_true rfl, Nat.le_of_ble_eq_true rfl, Nat.le_of_ble_eq_true rfl, Nat.le_of_ble_eq_true rfl⟩ hO (as := [.int (nI 97), .int (nI 122)]) rfl rfl (c_R_isAt hl o (zi) (zl) hO t ht n p hn hp h42 h43 hx 97 122 (by decide) (by decide)) ?_
    refine ev_ifB_eq dX11_takesKind_13 (tgt := 29) (by decide) (fun q13 => ?_) (fun q13 => ?_)
    · have hnd : nd t n (n - p) p = p := by
        cases z : n - p with
        | zero => rfl
        | succ j => rw [nd, q13]; rfl
      have hpP : p = P0 := by rw [← hP, hnd]
      subst hpP
      refine ev_blk (B := [(.aload_n 0, 1)]) (pe := 30) (ls' := [some (.ref (o)), some (.int (nI b)), none]) (st' := [.ref (o)]) ⟨dX11_takesKind_29, rfl⟩ rfl ?_
      refine ev_gets (k := 1) (by decide) F_RX11_306 dX11_takesKind_30 ?_
      refine ev_blk (B := [(.iload_n 1, 1), (.aload_n 0, 1)]) (pe := 35) (ls' := [some (.ref (o)), some (.int (nI b)), none]) (st' := [.ref (o), .int (nI b), .retAddr 1, .ref (o)]) ⟨dX11_takesKind_33, dX11_takesKind_34, rfl⟩ rfl ?_
      refine ev_getf (v := .int (nI p)) F_RX11_299 dX11_takesKind_35 hO (congrArg (fun q => some (Value.int q)) h43) ?_
      refine ev_cVv Y_X11_isWord L_RX11_309 dX11_takesKind_38 ⟨Nat.le_of_ble_eq_true rfl, Nat.le_of_ble_eq_true rfl, Nat.le_of_ble_eq_true rfl, Nat.le_of_ble_eq_true rfl, Nat.le_of_ble_eq_true rfl⟩ hO (as := [.retAddr 1, .int (nI b), .int (nI p)]) rfl rfl (c_R_isWord hl o (zi) (zl) hO t ht hx 1 (by decide) b p (by omega) (by omega)) ?_
      refine ev_ifB_eq dX11_takesKind_41 (tgt := 48) (by decide) (fun q41 => ?_) (fun q41 => ?_)
      · refine ev_blk (B := [(.aload_n 0, 1)]) (pe := 49) (ls' := [some (.ref (o)), some (.int (nI b)), none]) (st' := [.ref (o)]) ⟨dX11_takesKind_48, rfl⟩ rfl ?_
        refine ev_gets (k := 2) (by decide) F_RX11_313 dX11_takesKind_49 ?_
        refine ev_blk (B := [(.iload_n 1, 1), (.aload_n 0, 1)]) (pe := 54) (ls' := [some (.ref (o)), some (.int (nI b)), none]) (st' := [.ref (o), .int (nI b), .retAddr 2, .ref (o)]) ⟨dX11_takesKind_52, dX11_takesKind_53, rfl⟩ rfl ?_
        refine ev_getf (v := .int (nI p)) F_RX11_299 dX11_takesKind_54 hO (congrArg (fun q => some (Value.int q)) h43) ?_
        refine ev_cVv Y_X11_isWord L_RX11_309 dX11_takesKind_57 ⟨Nat.le_of_ble_eq_true rfl, Nat.le_of_ble_eq_true rfl, Nat.le_of_ble_eq_true rfl, Nat.le_of_ble_eq_true rfl, Nat.le_of_ble_eq_true rfl⟩ hO (as := [.retAddr 2, .int (nI b), .int (nI p)]) rfl rfl (c_R_isWord hl o (zi) (zl) hO t ht hx 2 (by decide) b p (by omega) (by omega)) ?_
        refine ev_ifB_eq dX11_takesKind_60 (tgt := 67) (by decide) (fun q60 => ?_) (fun q60 => ?_)
        · refine ev_blk (B := [(.aload_n 0, 1)]) (pe := 68) (ls' := [some (.ref (o)), some (.int (nI b)), none]) (st' := [.ref (o)]) ⟨dX11_takesKind_67, rfl⟩ rfl ?_
          refine ev_gets (k := 0) (by decide) F_RX11_316 dX11_takesKind_68 ?_
          refine ev_blk (B := [(.iload_n 1, 1), (.aload_n 0, 1)]) (pe := 73) (ls' := [some (.ref (o)), some (.int (nI b)), none]) (st' := [.ref (o), .int (nI b), .retAddr 0, .ref (o)]) ⟨dX11_takesKind_71, dX11_takesKind_72, rfl⟩ rfl ?_
          refine ev_getf (v := .int (nI p)) F_RX11_299 dX11_takesKind_73 hO (congrArg (fun q => some (Value.int q)) h43) ?_
          refine ev_cVv Y_X11_isWord L_RX11_309 dX11_takesKind_76 ⟨Nat.le_of_ble_eq_true rfl, Nat.le_of_ble_eq_true rfl, Nat.le_of_ble_eq_true rfl, Nat.le_of_ble_eq_true rfl, Nat.le_of_ble_eq_true rfl⟩ hO (as := [.retAddr 0, .int (nI b), .int (nI p)]) rfl rfl (c_R_isWord hl o (zi) (zl) hO t ht hx 0 (by decide) b p (by omega) (by omega)) ?_
          refine ev_ifB_eq dX11_takesKind_79 (tgt := 86) (by decide) (fun q79 => ?_) (fun q79 => ?_)
          · refine ev_blk (B := [(.aload_n 0, 1)]) (pe := 87) (ls' := [some (.ref (o)), some (.int (nI b)), none]) (st' := [.ref (o)]) ⟨dX11_takesKind_86, rfl⟩ rfl ?_
            refine ev_gets (k := 3) (by decide) F_RX11_319 dX11_takesKind_87 ?_
            refine ev_blk (B := [(.iload_n 1, 1), (.aload_n 0, 1)]) (pe := 92) (ls' := [some (.ref (o)), some (.int (nI b)), none]) (st' := [.ref (o), .int (nI b), .retAddr 3, .ref (o)]) ⟨dX11_takesKind_90, dX11_takesKind_91, rfl⟩ rfl ?_
            refine ev_getf (v := .int (nI p)) F_RX11_299 dX11_takesKind_92 hO (congrArg (fun q => some (Value.int q)) h43) ?_
            refine ev_cVv Y_X11_isWord L_RX11_309 dX11_takesKind_95 ⟨Nat.le_of_ble_eq_true rfl, Nat.le_of_ble_eq_true rfl, Nat.le_of_ble_eq_true rfl, Nat.le_of_ble_eq_true rfl, Nat.le_of_ble_eq_true rfl⟩ hO (as := [.retAddr 3, .int (nI b), .int (nI p)]) rfl rfl (c_R_isWord hl o (zi) (zl) hO t ht hx 3 (by decide) b p (by omega) (by omega)) ?_
            refine ev_ifB_eq dX11_takesKind_98 (tgt := 105) (by decide) (fun q98 => ?_) (fun q98 => ?_)
            · refine ev_blk (B := [(.iconst (-1), 1), (.istore_n 2, 1), (.iload_n 2, 1)]) (pe := 108) (ls' := [some (.ref (o)), some (.int (nI b)), some (.int ((-1)))]) (st' := [.int ((-1))]) ⟨dX11_takesKind_105, dX11_takesKind_106, dX11_takesKind_107, rfl⟩ rfl ?_
              refine ev_if_ge dX11_takesKind_108 (tgt := 116) (by decide) (fun q108 => ?_) (fun q108 => ?_)
              · exact absurd q108 (by decide)
              · refine ev_blk (B := [(.aload_n 0, 1), (.iload_n 1, 1)]) (pe := 113) (ls' := [some (.ref (o)), some (.int (nI b)), some (.int ((-1)))]) (st' := [.int (nI b), .ref (o)]) ⟨dX11_takesKind_111, dX11_takesKind_112, rfl⟩ rfl ?_
                refine ev_put F_RX11_299 dX11_takesKind_113 hO (Nat.le_of_ble_eq_true rfl) (fun _ _ => ⟨rfl, rfl⟩) ?_
                rw [zs_43]
                refine ev_nm (M0 := M.set (o) (.inr (10, zo o (ui (zi) 43 (nI b)) (zl)))) (fun M1 eM1 => ?_)
                have f2 : M1[o]? = some (.inr (10, zo o (ui (zi) 43 (nI b)) (zl))) := by rw [eM1]; exact ev_sg hO
                have f3 : M1[o + 22]? = some (.inl (2, 80, .inl (fun i => nI (t i)))) := by rw [eM1, ev_sn (by omega)]; exact hx
                refine ev_blk (B := [(.iload_n 2, 1)]) (pe := 117) (ls' := [some (.ref (o)), some (.int (nI b)), some (.int ((-1)))]) (st' := [.int ((-1))]) ⟨dX11_takesKind_116, rfl⟩ rfl ?_
                refine ev_iret dX11_takesKind_117 rfl (rfl) ⟨Nat.le_of_ble_eq_true rfl, Nat.le_of_ble_eq_true rfl⟩ ?_
                have e9 : nk t b p = none := by
                  unfold nk
                  rw [q79, q41, q60, q98]; rfl
                rw [e9]
                exact ⟨rfl, _, f2, rfl, fun j hj => (ui_ne hj).trans (hz j hj), hF.tr ⟨by rw [eM1]; simp only [List.length_set], fun j hj1 hj2 => by rw [eM1, ev_sn (by omega)]⟩⟩
            · refine ev_blk (B := [(.iconst 3, 1)]) (pe := 102) (ls' := [some (.ref (o)), some (.int (nI b)), none]) (st' := [.int (nI 3)]) ⟨dX11_takesKind_101, rfl⟩ rfl ?_
              refine ev_goto (tgt := 106) dX11_takesKind_102 (by decide) ?_
              refine ev_blk (B := [(.istore_n 2, 1), (.iload_n 2, 1)]) (pe := 108) (ls' := [some (.ref (o)), some (.int (nI b)), some (.int (nI 3))]) (st' := [.int (nI 3)]) ⟨dX11_takesKind_106, dX11_takesKind_107, rfl⟩ rfl ?_
              refine ev_fN_ge dX11_takesKind_108 (tgt := 116) (by decide) (by omega) ?_
              refine ev_blk (B := [(.iload_n 2, 1)]) (pe := 117) (ls' := [some (.ref (o)), some (.int (nI b)), some (.int (nI 3))]) (st' := [.int (nI 3)]) ⟨dX11_takesKind_116, rfl⟩ rfl ?_
              refine ev_iret dX11_takesKind_117 rfl (rfl) ⟨Nat.le_of_ble_eq_true rfl, Nat.le_of_ble_eq_true rfl⟩ ?_
              have e9 : nk t b p = some 3 := by
                unfold nk
                rw [q79, q41, q60, q98]; rfl
              rw [e9]
              exact ⟨rfl, _, hO, h43, hz, hF.tr FX.rf⟩
          · refine ev_blk (B := [(.iconst 2, 1)]) (pe := 83) (ls' := [some (.ref (o)), some (.int (nI b)), none]) (st' := [.int (nI 2)]) ⟨dX11_takesKind_82, rfl⟩ rfl ?_
            refine ev_goto (tgt := 106) dX11_takesKind_83 (by decide) ?_
            refine ev_blk (B := [(.istore_n 2, 1), (.iload_n 2, 1)]) (pe := 108) (ls' := [some (.ref (o)), some (.int (nI b)), some (.int (nI 2))]) (st' := [.int (nI 2)]) ⟨dX11_takesKind_106, dX11_takesKind_107, rfl⟩ rfl ?_
            refine ev_fN_ge dX11_takesKind_108 (tgt := 116) (by decide) (by omega) ?_
            refine ev_blk (B := [(.iload_n 2, 1)]) (pe := 117) (ls' := [some (.ref (o)), some (.int (nI b)), some (.int (nI 2))]) (st' := [.int (nI 2)]) ⟨dX11_takesKind_116, rfl⟩ rfl ?_
            refine ev_iret dX11_takesKind_117 rfl (rfl) ⟨Nat.le_of_ble_eq_true rfl, Nat.le_of_ble_eq_true rfl⟩ ?_
            have e9 : nk t b p = some 0 := by
              unfold nk
              rw [q79]; rfl
            rw [e9]
            exact ⟨rfl, _, hO, h43, hz, hF.tr FX.rf⟩
        · refine ev_blk (B := [(.iconst 1, 1)]) (pe := 64) (ls' := [some (.ref (o)), some (.int (nI b)), none]) (st' := [.int (nI 1)]) ⟨dX11_takesKind_63, rfl⟩ rfl ?_
          refine ev_goto (tgt := 106) dX11_takesKind_64 (by decide) ?_
          refine ev_blk (B := [(.istore_n 2, 1), (.iload_n 2, 1)]) (pe := 108) (ls' := [some (.ref (o)), some (.int (nI b)), some (.int (nI 1))]) (st' := [.int (nI 1)]) ⟨dX11_takesKind_106, dX11_takesKind_107, rfl⟩ rfl ?_
          refine ev_fN_ge dX11_takesKind_108 (tgt := 116) (by decide) (by omega) ?_
          refine ev_blk (B := [(.iload_n 2, 1)]) (pe := 117) (ls' := [some (.ref (o)), some (.int (nI b)), some (.int (nI 1))]) (st' := [.int (nI 1)]) ⟨dX11_takesKind_116, rfl⟩ rfl ?_
          refine ev_iret dX11_takesKind_117 rfl (rfl) ⟨Nat.le_of_ble_eq_true rfl, Nat.le_of_ble_eq_true rfl⟩ ?_
          have e9 : nk t b p = some 2 := by
            unfold nk
            rw [rk_ne q60 (by decide), q41, q60]; rfl
          rw [e9]
          exact ⟨rfl, _, hO, h43, hz, hF.tr FX.rf⟩
      · refine ev_blk (B := [(.iconst 0, 1)]) (pe := 45) (ls' := [some (.ref (o)), some (.int (nI b)), none]) (st' := [.int (nI 0)]) ⟨dX11_takesKind_44, rfl⟩ rfl ?_
        refine ev_goto (tgt := 106) dX11_takesKind_45 (by decide) ?_
        refine ev_blk (B := [(.istore_n 2, 1), (.iload_n 2, 1)]) (pe := 108) (ls' := [some (.ref (o)), some (.int (nI b)), some (.int (nI 0))]) (st' := [.int (nI 0)]) ⟨dX11_takesKind_106, dX11_takesKind_107, rfl⟩ rfl ?_
        refine ev_fN_ge dX11_takesKind_108 (tgt := 116) (by decide) (by omega) ?_
        refine ev_blk (B := [(.iload_n 2, 1)]) (pe := 117) (ls' := [some (.ref (o)), some (.int (nI b)), some (.int (nI 0))]) (st' := [.int (nI 0)]) ⟨dX11_takesKind_116, rfl⟩ rfl ?_
        refine ev_iret dX11_takesKind_117 rfl (rfl) ⟨Nat.le_of_ble_eq_true rfl, Nat.le_of_ble_eq_true rfl⟩ ?_
        have e9 : nk t b p = some 1 := by
          unfold nk
          rw [rk_ne q41 (by decide), q41]; rfl
        rw [e9]
        exact ⟨rfl, _, hO, h43, hz, hF.tr FX.rf⟩
    · refine ev_blk (B := [(.aload_n 0, 1), (.dup, 1)]) (pe := 18) (ls' := [some (.ref (o)), some (.int (nI b)), none]) (st' := [.ref (o), .ref (o)]) ⟨dX11_takesKind_16, dX11_takesKind_17, rfl⟩ rfl ?_
      refine ev_getf (v := .int (nI p)) F_RX11_299 dX11_takesKind_18 hO (congrArg (fun q => some (Value.int q)) h43) ?_
      refine ev_blk (B := [(.iconst 1, 1), (.iadd, 1)]) (pe := 23) (ls' := [some (.ref (o)), some (.int (nI b)), none]) (st' := [.int (nI (p + 1)), .ref (o)]) ⟨dX11_takesKind_21, dX11_takesKind_22, rfl⟩ (by show some (([some (.ref (o)), some (.int (nI b)), none] : ev_L), ([.int ((nI p) + (nI 1)), .ref (o)] : List Value)) = _; rw [nI_add p 1]) ?_
      refine ev_put F_RX11_299 dX11_takesKind_23 hO (Nat.le_of_ble_eq_true rfl) (fun _ _ => ⟨rfl, rfl⟩) ?_
      rw [zs_43]
      refine ev_nm (M0 := M.set (o) (.inr (10, zo o (ui (zi) 43 (nI (p + 1))) (zl)))) (fun M4 eM4 => ?_)
      have f5 : M4[o]? = some (.inr (10, zo o (ui (zi) 43 (nI (p + 1))) (zl))) := by rw [eM4]; exact ev_sg hO
      have f6 : M4[o + 22]? = some (.inl (2, 80, .inl (fun i => nI (t i)))) := by rw [eM4, ev_sn (by omega)]; exact hx
      refine ev_goto (tgt := 5) dX11_takesKind_26 (by decide) ?_
      obtain ⟨j, hj⟩ : ∃ j, n - p = j + 1 := ⟨n - p - 1, by have := (of_decide_eq_true q13).1; omega⟩
      have W7 : FX o (o + 31) (o + 31) M M4 := ⟨by rw [eM4]; simp only [List.length_set], fun j hj1 hj2 => by rw [eM4, ev_sn (by omega)]⟩
      have hnd : nd t n (n - p) p = nd t n (n - (p + 1)) (p + 1) := by
        rw [hj, show n - (p + 1) = j by omega, nd, q13]; rfl
      exact ih (p + 1) _ _ (by omega) (by have := (of_decide_eq_true q13).1; omega) f5 ((ui_ne (by decide)).trans h42) rfl (hx.fx W7 (by omega)) (fun j hj => (ui_ne hj).trans (hz j hj)) (hF.tr (W7.em (by omega))) (by rw [← hP, hnd]) (by have := (of_decide_eq_true q13).1; omega)

set_option maxHeartbeats 4000000 in
set_option maxRecDepth 100000 in
theorem c_R_takesKind {l : Launch} (hl : l.stackTraces = false) {M : ev_M} (o : Nat) (zi : Nat → Int32) (zl : Nat → Int64) (hO : M[o]? = some (.inr (10, zo o zi zl))) (t : Nat → Nat) (ht : tOk t) (n p : Nat) (hn : n ≤ 80) (hp : p ≤ n) (h42 : zi 42 = nI n) (h43 : zi 43 = nI p) (hx : Px M o t) : ev_Mt l m_X11_takesKind [.ref (o)] M (fun r M1 => r = .inl (some (.int (kq (nk t p (nd t n (n - p) p))))) ∧ ∃ zi', M1[o]? = some (.inr (10, zo o zi' zl)) ∧ zi' 43 = nI (ns t n p).1 ∧ (∀ j, j ≠ 43 → zi' j = zi j) ∧ FX o (o + 1) (o + 1) M M1) := by
  refine ev_body hl rfl (by decide +kernel) (Nat.le_of_ble_eq_true rfl) ?_
  show ev_ l m_X11_takesKind 0 0 0 [some (.ref (o)), none, none] [] M _
  refine ev_blk (B := [(.aload_n 0, 1)]) (pe := 1) (ls' := [some (.ref (o)), none, none]) (st' := [.ref (o)]) ⟨dX11_takesKind_0, rfl⟩ rfl ?_
  refine ev_getf (v := .int (nI p)) F_RX11_299 dX11_takesKind_1 hO (congrArg (fun q => some (Value.int q)) h43) ?_
  refine ev_blk (B := [(.istore_n 1, 1)]) (pe := 5) (ls' := [some (.ref (o)), some (.int (nI p)), none]) (st' := []) ⟨dX11_takesKind_4, rfl⟩ rfl ?_
  refine ev_mono (fun r M9 hq => ?_) (c_R_kind_l hl o zl zi t ht n hn p _ M _ p M zi (Nat.le_refl _) hp hO h42 h43 hx (fun _ _ => rfl) FX.rf rfl (Nat.lt_succ_self _))
  obtain ⟨q1, zi2, q2, q3, q4, q5⟩ := hq
  refine ⟨q1, zi2, q2, ?_, q4, q5⟩
  rw [q3]
  unfold ns
  cases nk t p (nd t n (n - p) p) <;> rfl

