/-! ===== the reference: text, snapshot ===== -/
theorem RR.nX {M M1 : ev_M} {o : Nat} {S : St} {zi zi' : Nat → Int32} {zl zl' : Nat → Int64} (h : RR M o S zi zl) {n : Nat} {t : Nat → Nat} {f : Int32} (h1 : M1[o]? = some (.inr (10, zo o zi' zl'))) (hf : FX o (o + 22) (o + 23) M M1) (hx : Px M1 o t) (p42 : zi' 42 = nI n) (p45 : zi' 45 = f) (ki : ∀ k, k ∈ [2, 3, 4, 20, 29, 30, 31, 50, 51, 52, 55] → zi' k = zi k) (kl : ∀ k, k ∈ [5, 6, 53, 54] → zl' k = zl k) : RR M1 o (St.mk S.T S.x S.G S.H n t f S.tk S.T9 S.x9 S.G9) zi' zl' := by
  obtain ⟨a1, a2, a3, a4, a5, a6, a7, a8, a9, a10⟩ := h.p
  refine ⟨h1, ⟨(ki 2 (by decide)).trans a1, (ki 3 (by decide)).trans a2, (ki 4 (by decide)).trans a3, (kl 5 (by decide)).trans a4, (kl 6 (by decide)).trans a5, (ki 20 (by decide)).trans a6, p42, p45, (ki 55 (by decide)).trans a9, fun z => ?_⟩, h.T.fx hf (by omega) (by omega), h.H.fx hf (by omega), h.y.fx hf (by omega), h.G.fx hf (by omega) (by omega), ?_, h.u.fx hf (by omega), hx, h.k.fx hf (by omega), h.s.fx hf (by omega)⟩
  · rw [ki 50 (by decide), ki 51 (by decide), ki 52 (by decide), kl 53 (by decide), kl 54 (by decide)]
    exact a10 z
  · rw [ki 29 (by decide), ki 30 (by decide), ki 31 (by decide)]
    exact h.a.fx hf (by omega)
theorem RP5.eqv {n : Nat} {f g : Nat → Int32} {T : List Tr} (hP : RP5 n f T) (hn : n ≤ 10) (h : ∀ j, j < 50 → g j = f j) : RP5 n g T := fun i hi k hk => by rw [h _ (by omega)]; exact hP i hi k hk
theorem QP.eqv {n m : Nat} {f f' : Nat → Int32} {g g' h h' : Nat → Int64} {L : List Cf} (hP : QP 0 n f g h L) (hn : n ≤ m) (e : ∀ j, j < m → f' j = f j ∧ g' j = g j ∧ h' j = h j) : QP 0 n f' g' h' L := fun i hi => by rw [(e _ (by omega)).1, (e _ (by omega)).2.1, (e _ (by omega)).2.2]; exact hP i hi
set_option maxHeartbeats 4000000 in
set_option maxRecDepth 100000 in
theorem r_append {l : Launch} (hl : l.stackTraces = false) {M : ev_M} (o : Nat) (S : St) (hS : okS S) (hT10 : S.T.length ≤ 10) (hG3 : S.G.length ≤ 3) (hH20 : S.H.length ≤ 20) (zi : Nat → Int32) (zl : Nat → Int64) (hR : RR M o S zi zl) (c : Nat) (hc : c < 65536) : ev_Mt l m_X11_append [.ref (o), .int (nI c)] M (fun r M1 => r = .inl none ∧ ∃ zi' zl', RR M1 o (sApp S c).2 zi' zl' ∧ zi' 0 = nI (sApp S c).1 ∧ Fr o (o + 31) M M1) := by
  have hn80 := hS.n
  refine ev_body hl rfl (by decide +kernel) (Nat.le_of_ble_eq_true rfl) ?_
  show ev_ l m_X11_append 0 0 0 [some (.ref (o)), some (.int (nI c))] [] M _
  refine ev_blk (B := [(.aload_n 0, 1), (.aload_n 0, 1)]) (pe := 2) (ls' := [some (.ref (o)), some (.int (nI c))]) (st' := [.ref (o), .ref (o)]) ⟨dX11_append_0, dX11_append_1, rfl⟩ rfl ?_
  refine ev_getf (v := .int (nI (S.n))) F_RX11_296 dX11_append_2 hR.z (congrArg (fun q => some (Value.int q)) hR.p.2.2.2.2.2.2.1) ?_
  refine ev_blk (B := [(.bipush 80, 2)]) (pe := 7) (ls' := [some (.ref (o)), some (.int (nI c))]) (st' := [.int (nI 80), .int (nI (S.n)), .ref (o)]) ⟨dX11_append_5, rfl⟩ rfl ?_
  refine ev_iN_ne dX11_append_7 (tgt := 14) (by decide) (by omega) (by omega) (fun q7 => ?_) (fun q7 => ?_)
  · refine ev_blk (B := [(.iconst 0, 1)]) (pe := 15) (ls' := [some (.ref (o)), some (.int (nI c))]) (st' := [.int (nI 0), .ref (o)]) ⟨dX11_append_14, rfl⟩ rfl ?_
    refine ev_put F_RX11_106 dX11_append_15 hR.z (Nat.le_of_ble_eq_true rfl) (fun _ _ => ⟨rfl, rfl⟩) ?_
    rw [zs_0]
    refine ev_nm (M0 := M.set (o) (.inr (10, zo o (ui (zi) 0 (nI 0)) (zl)))) (fun M1 eM1 => ?_)
    have f2 : M1[o]? = some (.inr (10, zo o (ui (zi) 0 (nI 0)) (zl))) := by rw [eM1]; exact ev_sg hR.z
    have f3 : M1[o + 22]? = some (.inl (2, 80, .inl (fun i => nI (S.t i)))) := by rw [eM1, ev_sn (by omega)]; exact hR.x
    refine ev_blk (B := [(.aload_n 0, 1)]) (pe := 19) (ls' := [some (.ref (o)), some (.int (nI c))]) (st' := [.ref (o)]) ⟨dX11_append_18, rfl⟩ rfl ?_
    refine ev_getf (v := .int (nI 0)) F_RX11_106 dX11_append_19 f2 rfl ?_
    refine ev_fN_le dX11_append_22 (tgt := 26) (by decide) (by omega) (fun q22 => ?_) (fun q22 => ?_)
    · refine ev_blk (B := [(.aload_n 0, 1)]) (pe := 27) (ls' := [some (.ref (o)), some (.int (nI c))]) (st' := [.ref (o)]) ⟨dX11_append_26, rfl⟩ rfl ?_
      refine ev_getf (v := .ref (o + 22)) F_RX11_74 dX11_append_27 f2 rfl ?_
      refine ev_blk (B := [(.aload_n 0, 1)]) (pe := 31) (ls' := [some (.ref (o)), some (.int (nI c))]) (st' := [.ref (o), .ref (o + 22)]) ⟨dX11_append_30, rfl⟩ rfl ?_
      refine ev_getf (v := .int (nI (S.n))) F_RX11_296 dX11_append_31 f2 (congrArg (fun q => some (Value.int q)) hR.p.2.2.2.2.2.2.1) ?_
      refine ev_blk (B := [(.iload_n 1, 1)]) (pe := 35) (ls' := [some (.ref (o)), some (.int (nI c))]) (st' := [.int (nI c), .int (nI (S.n)), .ref (o + 22)]) ⟨dX11_append_34, rfl⟩ rfl ?_
      refine ev_cast dX11_append_35 f3 (vp_in_nI (show S.n < 80 by omega) (by omega)) ?_
      rw [nI_clamp (show S.n < 2 ^ 31 by omega)]
      refine ev_nm (M0 := M1.set (o + 22) (.inl (2, 80, .inl (upd (fun i => nI (S.t i)) S.n (vp_nar .char (nI c)))))) (fun M4 eM4 => ?_)
      have f5 : M4[o]? = some (.inr (10, zo o (ui (zi) 0 (nI 0)) (zl))) := by rw [eM4, ev_sn (by omega)]; exact f2
      have f6 : M4[o + 22]? = some (.inl (2, 80, .inl (upd (fun i => nI (S.t i)) S.n (vp_nar .char (nI c))))) := by rw [eM4]; exact ev_sg f3
      refine ev_blk (B := [(.aload_n 0, 1), (.dup, 1)]) (pe := 38) (ls' := [some (.ref (o)), some (.int (nI c))]) (st' := [.ref (o), .ref (o)]) ⟨dX11_append_36, dX11_append_37, rfl⟩ rfl ?_
      refine ev_getf (v := .int (nI (S.n))) F_RX11_296 dX11_append_38 f5 (congrArg (fun q => some (Value.int q)) hR.p.2.2.2.2.2.2.1) ?_
      refine ev_blk (B := [(.iconst 1, 1), (.iadd, 1)]) (pe := 43) (ls' := [some (.ref (o)), some (.int (nI c))]) (st' := [.int (nI ((S.n) + 1)), .ref (o)]) ⟨dX11_append_41, dX11_append_42, rfl⟩ (by show some (([some (.ref (o)), some (.int (nI c))] : ev_L), ([.int ((nI (S.n)) + (nI 1)), .ref (o)] : List Value)) = _; rw [nI_add (S.n) 1]) ?_
      refine ev_put F_RX11_296 dX11_append_43 f5 (Nat.le_of_ble_eq_true rfl) (fun _ _ => ⟨rfl, rfl⟩) ?_
      rw [zs_42]
      refine ev_nm (M0 := M4.set (o) (.inr (10, zo o (ui (ui (zi) 0 (nI 0)) 42 (nI ((S.n) + 1))) (zl)))) (fun M7 eM7 => ?_)
      have f8 : M7[o]? = some (.inr (10, zo o (ui (ui (zi) 0 (nI 0)) 42 (nI ((S.n) + 1))) (zl))) := by rw [eM7]; exact ev_sg f5
      have f9 : M7[o + 22]? = some (.inl (2, 80, .inl (upd (fun i => nI (S.t i)) S.n (vp_nar .char (nI c))))) := by rw [eM7, ev_sn (by omega)]; exact f6
      refine ev_vret dX11_append_46 rfl ⟨Nat.le_of_ble_eq_true rfl, Nat.le_of_ble_eq_true rfl⟩ ?_
      have e9 : sApp S c = (0, St.mk S.T S.x S.G S.H (S.n + 1) (fun i => if i = S.n then c else S.t i) S.f S.tk S.T9 S.x9 S.G9) := by unfold sApp; rw [if_neg (show ¬ 80 ≤ S.n by omega)]
      rw [e9]
      have hF : FX o (o + 22) (o + 23) M M7 := ⟨by rw [eM7, eM4, eM1]; simp only [List.length_set], fun j hj1 hj2 => by rw [eM7, ev_sn (by omega), eM4, ev_sn (by omega), eM1, ev_sn (by omega)]⟩
      have e8 : (fun i => nI ((fun i => if i = S.n then c else S.t i) i)) = upd (fun i => nI (S.t i)) S.n (vp_nar .char (nI c)) := by
        funext i
        rw [(c_nar hc).2]
        show nI (if i = S.n then c else S.t i) = if i = S.n then nI c else nI (S.t i)
        split <;> rfl
      exact ⟨rfl, _, _, hR.nX f8 hF (by unfold Px; rw [e8]; exact f9) rfl hR.p.2.2.2.2.2.2.2.1 (fun q hq => (ui_ne (nm hq (by decide))).trans (ui_ne (nm hq (by decide)))) (fun q hq => rfl), rfl, Fr.to (hF.fr (by omega) (by omega)) (Nat.le_refl _) (by omega)⟩
    · exact absurd q22 (by decide)
  · refine ev_blk (B := [(.iconst 1, 1)]) (pe := 11) (ls' := [some (.ref (o)), some (.int (nI c))]) (st' := [.int (nI 1), .ref (o)]) ⟨dX11_append_10, rfl⟩ rfl ?_
    refine ev_goto (tgt := 15) dX11_append_11 (by decide) ?_
    refine ev_put F_RX11_106 dX11_append_15 hR.z (Nat.le_of_ble_eq_true rfl) (fun _ _ => ⟨rfl, rfl⟩) ?_
    rw [zs_0]
    refine ev_nm (M0 := M.set (o) (.inr (10, zo o (ui (zi) 0 (nI 1)) (zl)))) (fun M10 eM10 => ?_)
    have f11 : M10[o]? = some (.inr (10, zo o (ui (zi) 0 (nI 1)) (zl))) := by rw [eM10]; exact ev_sg hR.z
    have f12 : M10[o + 22]? = some (.inl (2, 80, .inl (fun i => nI (S.t i)))) := by rw [eM10, ev_sn (by omega)]; exact hR.x
    refine ev_blk (B := [(.aload_n 0, 1)]) (pe := 19) (ls' := [some (.ref (o)), some (.int (nI c))]) (st' := [.ref (o)]) ⟨dX11_append_18, rfl⟩ rfl ?_
    refine ev_getf (v := .int (nI 1)) F_RX11_106 dX11_append_19 f11 rfl ?_
    refine ev_fN_le dX11_append_22 (tgt := 26) (by decide) (by omega) (fun q22 => ?_) (fun q22 => ?_)
    · exact absurd q22 (by decide)
    · refine ev_vret dX11_append_25 rfl ⟨Nat.le_of_ble_eq_true rfl, Nat.le_of_ble_eq_true rfl⟩ ?_
      have e9 : sApp S c = (1, S) := by unfold sApp; rw [if_pos (show 80 ≤ S.n by omega)]
      rw [e9]
      have hF : FX o (o + 31) (o + 31) M M10 := ⟨by rw [eM10]; simp only [List.length_set], fun j hj1 hj2 => by rw [eM10, ev_sn (by omega)]⟩
      exact ⟨rfl, _, _, hR.keep f11 ⟨fun k hk => ui_ne (nm hk (by decide)), fun k hk => rfl⟩ hF, rfl, hF.fr (by omega) (by omega)⟩

set_option maxHeartbeats 4000000 in
set_option maxRecDepth 100000 in
theorem c_R_save1 {l : Launch}   (o : Nat) (zi : Nat → Int32) (zl : Nat → Int64) (M0 : ev_M) (s0 : Nat → Int32) (Q : ev_R → ev_M → Prop) (hk : ∀ (M : ev_M) (d0 : Nat → Int32) (i : Nat), M[o]? = some (.inr (10, zo o zi zl)) → M[o + 1]? = some (.inl (0, 50, .inl s0)) → M[o + 27]? = some (.inl (0, 50, .inl d0)) → FX o (o + 27) (o + 28) M0 M → (∀ j, j < 50 → d0 j = s0 j) → ev_ l m_X11_save 0 0 44 [some (.ref (o)), some (.int (nI i))] [] M Q) : ∀ (n9 : Nat) (i : Nat) (M : ev_M) (d0 : Nat → Int32), i ≤ 50 → M[o]? = some (.inr (10, zo o zi zl)) → M[o + 1]? = some (.inl (0, 50, .inl s0)) → M[o + 27]? = some (.inl (0, 50, .inl d0)) → FX o (o + 27) (o + 28) M0 M → (∀ j, j < i → d0 j = s0 j) → 50 - i < n9 → ev_ l m_X11_save 0 0 20 [some (.ref (o)), some (.int (nI i))] [] M (Q) := by
  intro n9
  induction n9 with
  | zero => intro i M d0 hi hO hs0 hd0 hF ha hm9; exact absurd hm9 (by omega)
  | succ n9 ih =>
    intro i M d0 hi hO hs0 hd0 hF ha hm9
    refine ev_blk (B := [(.iload_n 1, 1), (.bipush 50, 2)]) (pe := 23) (ls' := [some (.ref (o)), some (.int (nI i))]) (st' := [.int (nI 50), .int (nI i)]) ⟨dX11_save_20, dX11_save_21, rfl⟩ rfl ?_
    refine ev_iN_ge dX11_save_23 (tgt := 44) (by decide) (by omega) (by omega) (fun q23 => ?_) (fun q23 => ?_)
    · exact hk M d0 i hO hs0 hd0 hF (fun j hj => ha j (by omega))
    · refine ev_blk (B := [(.aload_n 0, 1)]) (pe := 27) (ls' := [some (.ref (o)), some (.int (nI i))]) (st' := [.ref (o)]) ⟨dX11_save_26, rfl⟩ rfl ?_
      refine ev_getf (v := .ref (o + 27)) F_RX11_94 dX11_save_27 hO rfl ?_
      refine ev_blk (B := [(.iload_n 1, 1), (.aload_n 0, 1)]) (pe := 32) (ls' := [some (.ref (o)), some (.int (nI i))]) (st' := [.ref (o), .int (nI i), .ref (o + 27)]) ⟨dX11_save_30, dX11_save_31, rfl⟩ rfl ?_
      refine ev_getf (v := .ref (o + 1)) F_RX11_7 dX11_save_32 hO rfl ?_
      refine ev_blk (B := [(.iload_n 1, 1)]) (pe := 36) (ls' := [some (.ref (o)), some (.int (nI i))]) (st' := [.int (nI i), .ref (o + 1), .int (nI i), .ref (o + 27)]) ⟨dX11_save_35, rfl⟩ rfl ?_
      refine ev_iald dX11_save_36 hs0 (vp_in_nI (show i < 50 by omega) (by omega)) ?_
      rw [nI_clamp (show i < 2 ^ 31 by omega)]
      refine ev_iast dX11_save_37 hd0 (vp_in_nI (show i < 50 by omega) (by omega)) ?_
      rw [nI_clamp (show i < 2 ^ 31 by omega)]
      refine ev_nm (M0 := M.set (o + 27) (.inl (0, 50, .inl (upd d0 i (s0 i))))) (fun M1 eM1 => ?_)
      have f2 : M1[o]? = some (.inr (10, zo o (zi) (zl))) := by rw [eM1, ev_sn (by omega)]; exact hO
      have f3 : M1[o + 1]? = some (.inl (0, 50, .inl (s0))) := by rw [eM1, ev_sn (by omega)]; exact hs0
      have f4 : M1[o + 27]? = some (.inl (0, 50, .inl (upd d0 i (s0 i)))) := by rw [eM1]; exact ev_sg hd0
      refine ev_blk (B := [(.iinc 1 1, 3)]) (pe := 41) (ls' := [some (.ref (o)), some (.int (nI (i + 1)))]) (st' := []) ⟨dX11_save_38, rfl⟩ (by show some (([some (.ref (o)), some (.int ((nI i) + Int32.ofInt (1)))] : ev_L), ([] : List Value)) = _; rw [ev_inc1 i]) ?_
      refine ev_goto (tgt := 20) dX11_save_41 (by decide) ?_
      refine ih (i + 1) _ _ (by omega) f2 f3 f4 (hF.tr ⟨by rw [eM1]; simp only [List.length_set], fun j hj1 hj2 => by rw [eM1, ev_sn (by omega)]⟩) (fun j hj => ?_) (by omega)
      rw [upd_at]
      by_cases e : j = i
      · subst e
        rw [if_pos rfl]
      · rw [if_neg e]; exact ha j (by omega)

set_option maxHeartbeats 4000000 in
set_option maxRecDepth 100000 in
theorem c_R_save2 {l : Launch}   (o : Nat) (zi : Nat → Int32) (zl : Nat → Int64) (M0 : ev_M) (s0 : Nat → Int32) (s1 : Nat → Int64) (s2 : Nat → Int64) (Q : ev_R → ev_M → Prop) (hk : ∀ (M : ev_M) (d0 : Nat → Int32) (d1 : Nat → Int64) (d2 : Nat → Int64) (i : Nat), M[o]? = some (.inr (10, zo o zi zl)) → M[o + 8]? = some (.inl (0, 3, .inl s0)) → M[o + 9]? = some (.inl (1, 3, .inr (.inl s1))) → M[o + 10]? = some (.inl (1, 3, .inr (.inl s2))) → M[o + 28]? = some (.inl (0, 3, .inl d0)) → M[o + 29]? = some (.inl (1, 3, .inr (.inl d1))) → M[o + 30]? = some (.inl (1, 3, .inr (.inl d2))) → FX o (o + 28) (o + 31) M0 M → (∀ j, j < 3 → d0 j = s0 j ∧ d1 j = s1 j ∧ d2 j = s2 j) → ev_ l m_X11_save 0 0 101 [some (.ref (o)), some (.int (nI i))] [] M Q) : ∀ (n9 : Nat) (i : Nat) (M : ev_M) (d0 : Nat → Int32) (d1 : Nat → Int64) (d2 : Nat → Int64), i ≤ 3 → M[o]? = some (.inr (10, zo o zi zl)) → M[o + 8]? = some (.inl (0, 3, .inl s0)) → M[o + 9]? = some (.inl (1, 3, .inr (.inl s1))) → M[o + 10]? = some (.inl (1, 3, .inr (.inl s2))) → M[o + 28]? = some (.inl (0, 3, .inl d0)) → M[o + 29]? = some (.inl (1, 3, .inr (.inl d1))) → M[o + 30]? = some (.inl (1, 3, .inr (.inl d2))) → FX o (o + 28) (o + 31) M0 M → (∀ j, j < i → d0 j = s0 j ∧ d1 j = s1 j ∧ d2 j = s2 j) → 3 - i < n9 → ev_ l m_X11_save 0 0 54 [some (.ref (o)), some (.int (nI i))] [] M (Q) := by
  intro n9
  induction n9 with
  | zero => intro i M d0 d1 d2 hi hO hs0 hs1 hs2 hd0 hd1 hd2 hF ha hm9; exact absurd hm9 (by omega)
  | succ n9 ih =>
    intro i M d0 d1 d2 hi hO hs0 hs1 hs2 hd0 hd1 hd2 hF ha hm9
    refine ev_blk (B := [(.iload_n 1, 1), (.iconst 3, 1)]) (pe := 56) (ls' := [some (.ref (o)), some (.int (nI i))]) (st' := [.int (nI 3), .int (nI i)]) ⟨dX11_save_54, dX11_save_55, rfl⟩ rfl ?_
    refine ev_iN_ge dX11_save_56 (tgt := 101) (by decide) (by omega) (by omega) (fun q56 => ?_) (fun q56 => ?_)
    · exact hk M d0 d1 d2 i hO hs0 hs1 hs2 hd0 hd1 hd2 hF (fun j hj => ha j (by omega))
    · refine ev_blk (B := [(.aload_n 0, 1)]) (pe := 60) (ls' := [some (.ref (o)), some (.int (nI i))]) (st' := [.ref (o)]) ⟨dX11_save_59, rfl⟩ rfl ?_
      refine ev_getf (v := .ref (o + 28)) F_RX11_97 dX11_save_60 hO rfl ?_
      refine ev_blk (B := [(.iload_n 1, 1), (.aload_n 0, 1)]) (pe := 65) (ls' := [some (.ref (o)), some (.int (nI i))]) (st' := [.ref (o), .int (nI i), .ref (o + 28)]) ⟨dX11_save_63, dX11_save_64, rfl⟩ rfl ?_
      refine ev_getf (v := .ref (o + 8)) F_RX11_32 dX11_save_65 hO rfl ?_
      refine ev_blk (B := [(.iload_n 1, 1)]) (pe := 69) (ls' := [some (.ref (o)), some (.int (nI i))]) (st' := [.int (nI i), .ref (o + 8), .int (nI i), .ref (o + 28)]) ⟨dX11_save_68, rfl⟩ rfl ?_
      refine ev_iald dX11_save_69 hs0 (vp_in_nI (show i < 3 by omega) (by omega)) ?_
      rw [nI_clamp (show i < 2 ^ 31 by omega)]
      refine ev_iast dX11_save_70 hd0 (vp_in_nI (show i < 3 by omega) (by omega)) ?_
      rw [nI_clamp (show i < 2 ^ 31 by omega)]
      refine ev_nm (M0 := M.set (o + 28) (.inl (0, 3, .inl (upd d0 i (s0 i))))) (fun M1 eM1 => ?_)
      have f2 : M1[o]? = some (.inr (10, zo o (zi) (zl))) := by rw [eM1, ev_sn (by omega)]; exact hO
      have f3 : M1[o + 8]? = some (.inl (0, 3, .inl (s0))) := by rw [eM1, ev_sn (by omega)]; exact hs0
      have f4 : M1[o + 28]? = some (.inl (0, 3, .inl (upd d0 i (s0 i)))) := by rw [eM1]; exact ev_sg hd0
      have f5 : M1[o + 9]? = some (.inl (1, 3, .inr (.inl (s1)))) := by rw [eM1, ev_sn (by omega)]; exact hs1
      have f6 : M1[o + 29]? = some (.inl (1, 3, .inr (.inl (d1)))) := by rw [eM1, ev_sn (by omega)]; exact hd1
      have f7 : M1[o + 10]? = some (.inl (1, 3, .inr (.inl (s2)))) := by rw [eM1, ev_sn (by omega)]; exact hs2
      have f8 : M1[o + 30]? = some (.inl (1, 3, .inr (.inl (d2)))) := by rw [eM1, ev_sn (by omega)]; exact hd2
      refine ev_blk (B := [(.aload_n 0, 1)]) (pe := 72) (ls' := [some (.ref (o)), some (.int (nI i))]) (st' := [.ref (o)]) ⟨dX11_save_71, rfl⟩ rfl ?_
      refine ev_getf (v := .ref (o + 29)) F_RX11_100 dX11_save_72 f2 rfl ?_
      refine ev_blk (B := [(.iload_n 1, 1), (.aload_n 0, 1)]) (pe := 77) (ls' := [some (.ref (o)), some (.int (nI i))]) (st' := [.ref (o), .int (nI i), .ref (o + 29)]) ⟨dX11_save_75, dX11_save_76, rfl⟩ rfl ?_
      refine ev_getf (v := .ref (o + 9)) F_RX11_35 dX11_save_77 f2 rfl ?_
      refine ev_blk (B := [(.iload_n 1, 1)]) (pe := 81) (ls' := [some (.ref (o)), some (.int (nI i))]) (st' := [.int (nI i), .ref (o + 9), .int (nI i), .ref (o + 29)]) ⟨dX11_save_80, rfl⟩ rfl ?_
      refine ev_lald dX11_save_81 f5 (vp_in_nI (show i < 3 by omega) (by omega)) ?_
      rw [nI_clamp (show i < 2 ^ 31 by omega)]
      refine ev_last dX11_save_82 f6 (vp_in_nI (show i < 3 by omega) (by omega)) ?_
      rw [nI_clamp (show i < 2 ^ 31 by omega)]
      refine ev_nm (M0 := M1.set (o + 29) (.inl (1, 3, .inr (.inl (vp_updL d1 i (s1 i)))))) (fun M9 eM9 => ?_)
      have f10 : M9[o]? = some (.inr (10, zo o (zi) (zl))) := by rw [eM9, ev_sn (by omega)]; exact f2
      have f11 : M9[o + 8]? = some (.inl (0, 3, .inl (s0))) := by rw [eM9, ev_sn (by omega)]; exact f3
      have f12 : M9[o + 28]? = some (.inl (0, 3, .inl (upd d0 i (s0 i)))) := by rw [eM9, ev_sn (by omega)]; exact f4
      have f13 : M9[o + 9]? = some (.inl (1, 3, .inr (.inl (s1)))) := by rw [eM9, ev_sn (by omega)]; exact f5
      have f14 : M9[o + 29]? = some (.inl (1, 3, .inr (.inl (vp_updL d1 i (s1 i))))) := by rw [eM9]; exact ev_sg f6
      have f15 : M9[o + 10]? = some (.inl (1, 3, .inr (.inl (s2)))) := by rw [eM9, ev_sn (by omega)]; exact f7
      have f16 : M9[o + 30]? = some (.inl (1, 3, .inr (.inl (d2)))) := by rw [eM9, ev_sn (by omega)]; exact f8
      refine ev_blk (B := [(.aload_n 0, 1)]) (pe := 84) (ls' := [some (.ref (o)), some (.int (nI i))]) (st' := [.ref (o)]) ⟨dX11_save_83, rfl⟩ rfl ?_
      refine ev_getf (v := .ref (o + 30)) F_RX11_103 dX11_save_84 f10 rfl ?_
      refine ev_blk (B := [(.iload_n 1, 1), (.aload_n 0, 1)]) (pe := 89) (ls' := [some (.ref (o)), some (.int (nI i))]) (st' := [.ref (o), .int (nI i), .ref (o + 30)]) ⟨dX11_save_87, dX11_save_88, rfl⟩ rfl ?_
      refine ev_getf (v := .ref (o + 10)) F_RX11_38 dX11_save_89 f10 rfl ?_
      refine ev_blk (B := [(.iload_n 1, 1)]) (pe := 93) (ls' := [some (.ref (o)), some (.int (nI i))]) (st' := [.int (nI i), .ref (o + 10), .int (nI i), .ref (o + 30)]) ⟨dX11_save_92, rfl⟩ rfl ?_
      refine ev_lald dX11_save_93 f15 (vp_in_nI (show i < 3 by omega) (by omega)) ?_
      rw [nI_clamp (show i < 2 ^ 31 by omega)]
      refine ev_last dX11_save_94 f16 (vp_in_nI (show i < 3 by omega) (by omega)) ?_
      rw [nI_clamp (show i < 2 ^ 31 by omega)]
      refine ev_nm (M0 := M9.set (o + 30) (.inl (1, 3, .inr (.inl (vp_updL d2 i (s2 i)))))) (fun M17 eM17 => ?_)
      have f18 : M17[o]? = some (.inr (10, zo o (zi) (zl))) := by rw [eM17, ev_sn (by omega)]; exact f10
      have f19 : M17[o + 8]? = some (.inl (0, 3, .inl (s0))) := by rw [eM17, ev_sn (by omega)]; exact f11
      have f20 : M17[o + 28]? = some (.inl (0, 3, .inl (upd d0 i (s0 i)))) := by rw [eM17, ev_sn (by omega)]; exact f12
      have f21 : M17[o + 9]? = some (.inl (1, 3, .inr (.inl (s1)))) := by rw [eM17, ev_sn (by omega)]; exact f13
      have f22 : M17[o + 29]? = some (.inl (1, 3, .inr (.inl (vp_updL d1 i (s1 i))))) := by rw [eM17, ev_sn (by omega)]; exact f14
      have f23 : M17[o + 10]? = some (.inl (1, 3, .inr (.inl (s2)))) := by rw [eM17, ev_sn (by omega)]; exact f15
      have f24 : M17[o + 30]? = some (.inl (1, 3, .inr (.inl (vp_updL d2 i (s2 i))))) := by rw [eM17]; exact ev_sg f16
      refine ev_blk (B := [(.iinc 1 1, 3)]) (pe := 98) (ls' := [some (.ref (o)), some (.int (nI (i + 1)))]) (st' := []) ⟨dX11_save_95, rfl⟩ (by show some (([some (.ref (o)), some (.int ((nI i) + Int32.ofInt (1)))] : ev_L), ([] : List Value)) = _; rw [ev_inc1 i]) ?_
      refine ev_goto (tgt := 54) dX11_save_98 (by decide) ?_
      refine ih (i + 1) _ _ _ _ (by omega) f18 f19 f21 f23 f20 f22 f24 (hF.tr ⟨by rw [eM17, eM9, eM1]; simp only [List.length_set], fun j hj1 hj2 => by rw [eM17, ev_sn (by omega), eM9, ev_sn (by omega), eM1, ev_sn (by omega)]⟩) (fun j hj => ?_) (by omega)
      rw [upd_at, updL_at, updL_at]
      by_cases e : j = i
      · subst e
        rw [if_pos rfl, if_pos rfl, if_pos rfl]
        exact ⟨rfl, rfl, rfl⟩
      · rw [if_neg e, if_neg e, if_neg e]; exact ha j (by omega)

set_option maxHeartbeats 4000000 in
set_option maxRecDepth 100000 in
theorem r_save {l : Launch} (hl : l.stackTraces = false) {M : ev_M} (o : Nat) (S : St) (hS : okS S) (hT10 : S.T.length ≤ 10) (hG3 : S.G.length ≤ 3) (hH20 : S.H.length ≤ 20) (zi : Nat → Int32) (zl : Nat → Int64) (hR : RR M o S zi zl) : ev_Mt l m_X11_save [.ref (o)] M (fun r M1 => r = .inl none ∧ ∃ zi' zl', RR M1 o (sSav S) zi' zl' ∧ zi' 0 = nI 0 ∧ Fr o (o + 31) M M1) := by
  obtain ⟨fT, hfT, hPT⟩ := hR.T
  obtain ⟨gf, gg, gh, hg8, hg9, hg10, hQG⟩ := hR.G
  obtain ⟨sf, sg, sh, sk, hs27, hs28, hs29, hs30, hPS⟩ := hR.s
  refine ev_body hl rfl (by decide +kernel) (Nat.le_of_ble_eq_true rfl) ?_
  show ev_ l m_X11_save 0 0 0 [some (.ref (o)), none] [] M _
  refine ev_blk (B := [(.aload_n 0, 1), (.iconst 0, 1)]) (pe := 2) (ls' := [some (.ref (o)), none]) (st' := [.int (nI 0), .ref (o)]) ⟨dX11_save_0, dX11_save_1, rfl⟩ rfl ?_
  refine ev_put F_RX11_106 dX11_save_2 hR.z (Nat.le_of_ble_eq_true rfl) (fun _ _ => ⟨rfl, rfl⟩) ?_
  rw [zs_0]
  refine ev_nm (M0 := M.set (o) (.inr (10, zo o (ui (zi) 0 (nI 0)) (zl)))) (fun M1 eM1 => ?_)
  have f2 : M1[o]? = some (.inr (10, zo o (ui (zi) 0 (nI 0)) (zl))) := by rw [eM1]; exact ev_sg hR.z
  refine ev_blk (B := [(.aload_n 0, 1), (.iconst 1, 1)]) (pe := 7) (ls' := [some (.ref (o)), none]) (st' := [.int (nI 1), .ref (o)]) ⟨dX11_save_5, dX11_save_6, rfl⟩ rfl ?_
  refine ev_put F_RX11_346 dX11_save_7 f2 (Nat.le_of_ble_eq_true rfl) (fun _ _ => ⟨rfl, rfl⟩) ?_
  rw [zs_55]
  refine ev_nm (M0 := M1.set (o) (.inr (10, zo o (ui (ui (zi) 0 (nI 0)) 55 (nI 1)) (zl)))) (fun M3 eM3 => ?_)
  have f4 : M3[o]? = some (.inr (10, zo o (ui (ui (zi) 0 (nI 0)) 55 (nI 1)) (zl))) := by rw [eM3]; exact ev_sg f2
  refine ev_blk (B := [(.aload_n 0, 1), (.aload_n 0, 1)]) (pe := 12) (ls' := [some (.ref (o)), none]) (st' := [.ref (o), .ref (o)]) ⟨dX11_save_10, dX11_save_11, rfl⟩ rfl ?_
  refine ev_getf (v := .int (nI (S.T.length))) F_RX11_123 dX11_save_12 f4 (congrArg (fun q => some (Value.int q)) hR.p.1) ?_
  refine ev_put F_RX11_349 dX11_save_15 f4 (Nat.le_of_ble_eq_true rfl) (fun _ _ => ⟨rfl, rfl⟩) ?_
  rw [zs_50]
  refine ev_nm (M0 := M3.set (o) (.inr (10, zo o (ui (ui (ui (zi) 0 (nI 0)) 55 (nI 1)) 50 (nI (S.T.length))) (zl)))) (fun M5 eM5 => ?_)
  have f6 : M5[o]? = some (.inr (10, zo o (ui (ui (ui (zi) 0 (nI 0)) 55 (nI 1)) 50 (nI (S.T.length))) (zl))) := by rw [eM5]; exact ev_sg f4
  refine ev_blk (B := [(.iconst 0, 1), (.istore_n 1, 1)]) (pe := 20) (ls' := [some (.ref (o)), some (.int (nI 0))]) (st' := []) ⟨dX11_save_18, dX11_save_19, rfl⟩ rfl ?_
  have W7 : FX o (o + 31) (o + 31) M M5 := ⟨by rw [eM5, eM3, eM1]; simp only [List.length_set], fun j hj1 hj2 => by rw [eM5, ev_sn (by omega), eM3, ev_sn (by omega), eM1, ev_sn (by omega)]⟩
  refine c_R_save1 o (ui (ui (ui (zi) 0 (nI 0)) 55 (nI 1)) 50 (nI (S.T.length))) (zl) M5 fT _ (fun McA Ag0 jA AO As0 Ad0 AF Ae => ?_) _ 0 M5 sf (Nat.zero_le _) f6 (W7.at hfT (by omega) (by omega)) (W7.at hs27 (by omega) (by omega)) FX.rf (fun j hj => absurd hj (Nat.not_lt_zero _)) (Nat.lt_succ_self _)
  refine ev_blk (B := [(.aload_n 0, 1), (.aload_n 0, 1)]) (pe := 46) (ls' := [some (.ref (o)), some (.int (nI jA))]) (st' := [.ref (o), .ref (o)]) ⟨dX11_save_44, dX11_save_45, rfl⟩ rfl ?_
  refine ev_getf (v := .int (nI (S.G.length))) F_RX11_225 dX11_save_46 AO (congrArg (fun q => some (Value.int q)) hR.p.2.2.2.2.2.1) ?_
  refine ev_put F_RX11_352 dX11_save_49 AO (Nat.le_of_ble_eq_true rfl) (fun _ _ => ⟨rfl, rfl⟩) ?_
  rw [zs_51]
  refine ev_nm (M0 := McA.set (o) (.inr (10, zo o (ui (ui (ui (ui (zi) 0 (nI 0)) 55 (nI 1)) 50 (nI (S.T.length))) 51 (nI (S.G.length))) (zl)))) (fun M8 eM8 => ?_)
  have f9 : M8[o]? = some (.inr (10, zo o (ui (ui (ui (ui (zi) 0 (nI 0)) 55 (nI 1)) 50 (nI (S.T.length))) 51 (nI (S.G.length))) (zl))) := by rw [eM8]; exact ev_sg AO
  refine ev_blk (B := [(.iconst 0, 1), (.istore_n 1, 1)]) (pe := 54) (ls' := [some (.ref (o)), some (.int (nI 0))]) (st' := []) ⟨dX11_save_52, dX11_save_53, rfl⟩ rfl ?_
  have W10 : FX o (o + 31) (o + 31) McA M8 := ⟨by rw [eM8]; simp only [List.length_set], fun j hj1 hj2 => by rw [eM8, ev_sn (by omega)]⟩
  refine c_R_save2 o (ui (ui (ui (ui (zi) 0 (nI 0)) 55 (nI 1)) 50 (nI (S.T.length))) 51 (nI (S.G.length))) (zl) M8 gf gg gh _ (fun McB Bg0 Bg1 Bg2 jB BO Bs0 Bs1 Bs2 Bd0 Bd1 Bd2 BF Be => ?_) _ 0 M8 sg sh sk (Nat.zero_le _) f9 (W10.at (AF.at (W7.at hg8 (by omega) (by omega)) (by omega) (by omega)) (by omega) (by omega)) (W10.at (AF.at (W7.at hg9 (by omega) (by omega)) (by omega) (by omega)) (by omega) (by omega)) (W10.at (AF.at (W7.at hg10 (by omega) (by omega)) (by omega) (by omega)) (by omega) (by omega)) (W10.at (AF.at (W7.at hs28 (by omega) (by omega)) (by omega) (by omega)) (by omega) (by omega)) (W10.at (AF.at (W7.at hs29 (by omega) (by omega)) (by omega) (by omega)) (by omega) (by omega)) (W10.at (AF.at (W7.at hs30 (by omega) (by omega)) (by omega) (by omega)) (by omega) (by omega)) FX.rf (fun j hj => absurd hj (Nat.not_lt_zero _)) (Nat.lt_succ_self _)
  refine ev_blk (B := [(.aload_n 0, 1), (.aload_n 0, 1)]) (pe := 103) (ls' := [some (.ref (o)), some (.int (nI jB))]) (st' := [.ref (o), .ref (o)]) ⟨dX11_save_101, dX11_save_102, rfl⟩ rfl ?_
  refine ev_getf (v := .int (nI (S.x.1))) F_RX11_169 dX11_save_103 BO (congrArg (fun q => some (Value.int q)) hR.p.2.1) ?_
  refine ev_put F_RX11_355 dX11_save_106 BO (Nat.le_of_ble_eq_true rfl) (fun _ _ => ⟨rfl, rfl⟩) ?_
  rw [zs_52]
  refine ev_nm (M0 := McB.set (o) (.inr (10, zo o (ui (ui (ui (ui (ui (zi) 0 (nI 0)) 55 (nI 1)) 50 (nI (S.T.length))) 51 (nI (S.G.length))) 52 (nI (S.x.1))) (zl)))) (fun M11 eM11 => ?_)
  have f12 : M11[o]? = some (.inr (10, zo o (ui (ui (ui (ui (ui (zi) 0 (nI 0)) 55 (nI 1)) 50 (nI (S.T.length))) 51 (nI (S.G.length))) 52 (nI (S.x.1))) (zl))) := by rw [eM11]; exact ev_sg BO
  refine ev_blk (B := [(.aload_n 0, 1), (.aload_n 0, 1)]) (pe := 111) (ls' := [some (.ref (o)), some (.int (nI jB))]) (st' := [.ref (o), .ref (o)]) ⟨dX11_save_109, dX11_save_110, rfl⟩ rfl ?_
  refine ev_getf (v := .long (e2 S.x.2.1)) F_RX11_159 dX11_save_111 f12 (congrArg (fun q => some (Value.long q)) hR.p.2.2.2.1) ?_
  refine ev_put F_RX11_358 dX11_save_114 f12 (Nat.le_of_ble_eq_true rfl) (fun _ _ => ⟨rfl, rfl⟩) ?_
  rw [zs_53]
  refine ev_nm (M0 := M11.set (o) (.inr (10, zo o (ui (ui (ui (ui (ui (zi) 0 (nI 0)) 55 (nI 1)) 50 (nI (S.T.length))) 51 (nI (S.G.length))) 52 (nI (S.x.1))) (ul (zl) 53 (e2 S.x.2.1))))) (fun M13 eM13 => ?_)
  have f14 : M13[o]? = some (.inr (10, zo o (ui (ui (ui (ui (ui (zi) 0 (nI 0)) 55 (nI 1)) 50 (nI (S.T.length))) 51 (nI (S.G.length))) 52 (nI (S.x.1))) (ul (zl) 53 (e2 S.x.2.1)))) := by rw [eM13]; exact ev_sg f12
  refine ev_blk (B := [(.aload_n 0, 1), (.aload_n 0, 1)]) (pe := 119) (ls' := [some (.ref (o)), some (.int (nI jB))]) (st' := [.ref (o), .ref (o)]) ⟨dX11_save_117, dX11_save_118, rfl⟩ rfl ?_
  refine ev_getf (v := .long (e2 S.x.2.2)) F_RX11_163 dX11_save_119 f14 (congrArg (fun q => some (Value.long q)) hR.p.2.2.2.2.1) ?_
  refine ev_put F_RX11_361 dX11_save_122 f14 (Nat.le_of_ble_eq_true rfl) (fun _ _ => ⟨rfl, rfl⟩) ?_
  rw [zs_54]
  refine ev_nm (M0 := M13.set (o) (.inr (10, zo o (ui (ui (ui (ui (ui (zi) 0 (nI 0)) 55 (nI 1)) 50 (nI (S.T.length))) 51 (nI (S.G.length))) 52 (nI (S.x.1))) (ul (ul (zl) 53 (e2 S.x.2.1)) 54 (e2 S.x.2.2))))) (fun M15 eM15 => ?_)
  have f16 : M15[o]? = some (.inr (10, zo o (ui (ui (ui (ui (ui (zi) 0 (nI 0)) 55 (nI 1)) 50 (nI (S.T.length))) 51 (nI (S.G.length))) 52 (nI (S.x.1))) (ul (ul (zl) 53 (e2 S.x.2.1)) 54 (e2 S.x.2.2)))) := by rw [eM15]; exact ev_sg f14
  refine ev_vret dX11_save_125 rfl ⟨Nat.le_of_ble_eq_true rfl, Nat.le_of_ble_eq_true rfl⟩ ?_
  have W17 : FX o (o + 31) (o + 31) McB M15 := ⟨by rw [eM15, eM13, eM11]; simp only [List.length_set], fun j hj1 hj2 => by rw [eM15, ev_sn (by omega), eM13, ev_sn (by omega), eM11, ev_sn (by omega)]⟩
  exact ⟨rfl, _, _, ⟨f16, ⟨hR.p.1, hR.p.2.1, hR.p.2.2.1, hR.p.2.2.2.1, hR.p.2.2.2.2.1, hR.p.2.2.2.2.2.1, hR.p.2.2.2.2.2.2.1, hR.p.2.2.2.2.2.2.2.1, rfl, fun _ => ⟨rfl, rfl, rfl, rfl, rfl⟩⟩, (((((hR.T.fx W7 (by omega) (by omega)).fx AF (by omega) (by omega)).fx W10 (by omega) (by omega)).fx BF (by omega) (by omega)).fx W17 (by omega) (by omega)), (((((hR.H.fx W7 (by omega)).fx AF (by omega)).fx W10 (by omega)).fx BF (by omega)).fx W17 (by omega)), (((((hR.y.fx W7 (by omega)).fx AF (by omega)).fx W10 (by omega)).fx BF (by omega)).fx W17 (by omega)), (((((hR.G.fx W7 (by omega) (by omega)).fx AF (by omega) (by omega)).fx W10 (by omega) (by omega)).fx BF (by omega) (by omega)).fx W17 (by omega) (by omega)), (((((hR.a.fx W7 (by omega)).fx AF (by omega)).fx W10 (by omega)).fx BF (by omega)).fx W17 (by omega)), (((((hR.u.fx W7 (by omega)).fx AF (by omega)).fx W10 (by omega)).fx BF (by omega)).fx W17 (by omega)), (((((hR.x.fx W7 (by omega)).fx AF (by omega)).fx W10 (by omega)).fx BF (by omega)).fx W17 (by omega)), (((((hR.k.fx W7 (by omega)).fx AF (by omega)).fx W10 (by omega)).fx BF (by omega)).fx W17 (by omega)), ⟨_, _, _, _, (W17.at (BF.at (W10.at Ad0 (by omega) (by omega)) (by omega) (by omega)) (by omega) (by omega)), (W17.at Bd0 (by omega) (by omega)), (W17.at Bd1 (by omega) (by omega)), (W17.at Bd2 (by omega) (by omega)), fun _ => ⟨hPT.eqv hT10 (fun j hj => Ae j hj), hQG.eqv hG3 (fun j hj => Be j hj)⟩⟩⟩, rfl, (FX.fr (lo := o + 1) (hi := o + 31) (((((W7.to (by omega) (by omega)).tr (AF.to (by omega) (by omega))).tr (W10.to (by omega) (by omega))).tr (BF.to (by omega) (by omega))).tr (W17.to (by omega) (by omega))) (by omega) (by omega))⟩

set_option maxHeartbeats 4000000 in
set_option maxRecDepth 100000 in
theorem c_R_rest1 {l : Launch}   (o : Nat) (zi : Nat → Int32) (zl : Nat → Int64) (M0 : ev_M) (s0 : Nat → Int32) (Q : ev_R → ev_M → Prop) (hk : ∀ (M : ev_M) (d0 : Nat → Int32) (i : Nat), M[o]? = some (.inr (10, zo o zi zl)) → M[o + 27]? = some (.inl (0, 50, .inl s0)) → M[o + 1]? = some (.inl (0, 50, .inl d0)) → FX o (o + 1) (o + 2) M0 M → (∀ j, j < 50 → d0 j = s0 j) → ev_ l m_X11_restore 0 0 58 [some (.ref (o)), some (.int (nI i))] [] M Q) : ∀ (n9 : Nat) (i : Nat) (M : ev_M) (d0 : Nat → Int32), i ≤ 50 → M[o]? = some (.inr (10, zo o zi zl)) → M[o + 27]? = some (.inl (0, 50, .inl s0)) → M[o + 1]? = some (.inl (0, 50, .inl d0)) → FX o (o + 1) (o + 2) M0 M → (∀ j, j < i → d0 j = s0 j) → 50 - i < n9 → ev_ l m_X11_restore 0 0 34 [some (.ref (o)), some (.int (nI i))] [] M (Q) := by
  intro n9
  induction n9 with
  | zero => intro i M d0 hi hO hs0 hd0 hF ha hm9; exact absurd hm9 (by omega)
  | succ n9 ih =>
    intro i M d0 hi hO hs0 hd0 hF ha hm9
    refine ev_blk (B := [(.iload_n 1, 1), (.bipush 50, 2)]) (pe := 37) (ls' := [some (.ref (o)), some (.int (nI i))]) (st' := [.int (nI 50), .int (nI i)]) ⟨dX11_restore_34, dX11_restore_35, rfl⟩ rfl ?_
    refine ev_iN_ge dX11_restore_37 (tgt := 58) (by decide) (by omega) (by omega) (fun q37 => ?_) (fun q37 => ?_)
    · exact hk M d0 i hO hs0 hd0 hF (fun j hj => ha j (by omega))
    · refine ev_blk (B := [(.aload_n 0, 1)]) (pe := 41) (ls' := [some (.ref (o)), some (.int (nI i))]) (st' := [.ref (o)]) ⟨dX11_restore_40, rfl⟩ rfl ?_
      refine ev_getf (v := .ref (o + 1)) F_RX11_7 dX11_restore_41 hO rfl ?_
      refine ev_blk (B := [(.iload_n 1, 1), (.aload_n 0, 1)]) (pe := 46) (ls' := [some (.ref (o)), some (.int (nI i))]) (st' := [.ref (o), .int (nI i), .ref (o + 1)]) ⟨dX11_restore_44, dX11_restore_45, rfl⟩ rfl ?_
      refine ev_getf (v := .ref (o + 27)) F_RX11_94 dX11_restore_46 hO rfl ?_
      refine ev_blk (B := [(.iload_n 1, 1)]) (pe := 50) (ls' := [some (.ref (o)), some (.int (nI i))]) (st' := [.int (nI i), .ref (o + 27), .int (nI i), .ref (o + 1)]) ⟨dX11_restore_49, rfl⟩ rfl ?_
      refine ev_iald dX11_restore_50 hs0 (vp_in_nI (show i < 50 by omega) (by omega)) ?_
      rw [nI_clamp (show i < 2 ^ 31 by omega)]
      refine ev_iast dX11_restore_51 hd0 (vp_in_nI (show i < 50 by omega) (by omega)) ?_
      rw [nI_clamp (show i < 2 ^ 31 by omega)]
      refine ev_nm (M0 := M.set (o + 1) (.inl (0, 50, .inl (upd d0 i (s0 i))))) (fun M1 eM1 => ?_)
      have f2 : M1[o]? = some (.inr (10, zo o (zi) (zl))) := by rw [eM1, ev_sn (by omega)]; exact hO
      have f3 : M1[o + 27]? = some (.inl (0, 50, .inl (s0))) := by rw [eM1, ev_sn (by omega)]; exact hs0
      have f4 : M1[o + 1]? = some (.inl (0, 50, .inl (upd d0 i (s0 i)))) := by rw [eM1]; exact ev_sg hd0
      refine ev_blk (B := [(.iinc 1 1, 3)]) (pe := 55) (ls' := [some (.ref (o)), some (.int (nI (i + 1)))]) (st' := []) ⟨dX11_restore_52, rfl⟩ (by show some (([some (.ref (o)), some (.int ((nI i) + Int32.ofInt (1)))] : ev_L), ([] : List Value)) = _; rw [ev_inc1 i]) ?_
      refine ev_goto (tgt := 34) dX11_restore_55 (by decide) ?_
      refine ih (i + 1) _ _ (by omega) f2 f3 f4 (hF.tr ⟨by rw [eM1]; simp only [List.length_set], fun j hj1 hj2 => by rw [eM1, ev_sn (by omega)]⟩) (fun j hj => ?_) (by omega)
      rw [upd_at]
      by_cases e : j = i
      · subst e
        rw [if_pos rfl]
      · rw [if_neg e]; exact ha j (by omega)

set_option maxHeartbeats 4000000 in
set_option maxRecDepth 100000 in
theorem c_R_rest2 {l : Launch}   (o : Nat) (zi : Nat → Int32) (zl : Nat → Int64) (M0 : ev_M) (s0 : Nat → Int32) (s1 : Nat → Int64) (s2 : Nat → Int64) (Q : ev_R → ev_M → Prop) (hk : ∀ (M : ev_M) (d0 : Nat → Int32) (d1 : Nat → Int64) (d2 : Nat → Int64) (i : Nat), M[o]? = some (.inr (10, zo o zi zl)) → M[o + 28]? = some (.inl (0, 3, .inl s0)) → M[o + 29]? = some (.inl (1, 3, .inr (.inl s1))) → M[o + 30]? = some (.inl (1, 3, .inr (.inl s2))) → M[o + 8]? = some (.inl (0, 3, .inl d0)) → M[o + 9]? = some (.inl (1, 3, .inr (.inl d1))) → M[o + 10]? = some (.inl (1, 3, .inr (.inl d2))) → FX o (o + 8) (o + 11) M0 M → (∀ j, j < 3 → d0 j = s0 j ∧ d1 j = s1 j ∧ d2 j = s2 j) → ev_ l m_X11_restore 0 0 115 [some (.ref (o)), some (.int (nI i))] [] M Q) : ∀ (n9 : Nat) (i : Nat) (M : ev_M) (d0 : Nat → Int32) (d1 : Nat → Int64) (d2 : Nat → Int64), i ≤ 3 → M[o]? = some (.inr (10, zo o zi zl)) → M[o + 28]? = some (.inl (0, 3, .inl s0)) → M[o + 29]? = some (.inl (1, 3, .inr (.inl s1))) → M[o + 30]? = some (.inl (1, 3, .inr (.inl s2))) → M[o + 8]? = some (.inl (0, 3, .inl d0)) → M[o + 9]? = some (.inl (1, 3, .inr (.inl d1))) → M[o + 10]? = some (.inl (1, 3, .inr (.inl d2))) → FX o (o + 8) (o + 11) M0 M → (∀ j, j < i → d0 j = s0 j ∧ d1 j = s1 j ∧ d2 j = s2 j) → 3 - i < n9 → ev_ l m_X11_restore 0 0 68 [some (.ref (o)), some (.int (nI i))] [] M (Q) := by
  intro n9
  induction n9 with
  | zero => intro i M d0 d1 d2 hi hO hs0 hs1 hs2 hd0 hd1 hd2 hF ha hm9; exact absurd hm9 (by omega)
  | succ n9 ih =>
    intro i M d0 d1 d2 hi hO hs0 hs1 hs2 hd0 hd1 hd2 hF ha hm9
    refine ev_blk (B := [(.iload_n 1, 1), (.iconst 3, 1)]) (pe := 70) (ls' := [some (.ref (o)), some (.int (nI i))]) (st' := [.int (nI 3), .int (nI i)]) ⟨dX11_restore_68, dX11_restore_69, rfl⟩ rfl ?_
    refine ev_iN_ge dX11_restore_70 (tgt := 115) (by decide) (by omega) (by omega) (fun q70 => ?_) (fun q70 => ?_)
    · exact hk M d0 d1 d2 i hO hs0 hs1 hs2 hd0 hd1 hd2 hF (fun j hj => ha j (by omega))
    · refine ev_blk (B := [(.aload_n 0, 1)]) (pe := 74) (ls' := [some (.ref (o)), some (.int (nI i))]) (st' := [.ref (o)]) ⟨dX11_restore_73, rfl⟩ rfl ?_
      refine ev_getf (v := .ref (o + 8)) F_RX11_32 dX11_restore_74 hO rfl ?_
      refine ev_blk (B := [(.iload_n 1, 1), (.aload_n 0, 1)]) (pe := 79) (ls' := [some (.ref (o)), some (.int (nI i))]) (st' := [.ref (o), .int (nI i), .ref (o + 8)]) ⟨dX11_restore_77, dX11_restore_78, rfl⟩ rfl ?_
      refine ev_getf (v := .ref (o + 28)) F_RX11_97 dX11_restore_79 hO rfl ?_
      refine ev_blk (B := [(.iload_n 1, 1)]) (pe := 83) (ls' := [some (.ref (o)), some (.int (nI i))]) (st' := [.int (nI i), .ref (o + 28), .int (nI i), .ref (o + 8)]) ⟨dX11_restore_82, rfl⟩ rfl ?_
      refine ev_iald dX11_restore_83 hs0 (vp_in_nI (show i < 3 by omega) (by omega)) ?_
      rw [nI_clamp (show i < 2 ^ 31 by omega)]
      refine ev_iast dX11_restore_84 hd0 (vp_in_nI (show i < 3 by omega) (by omega)) ?_
      rw [nI_clamp (show i < 2 ^ 31 by omega)]
      refine ev_nm (M0 := M.set (o + 8) (.inl (0, 3, .inl (upd d0 i (s0 i))))) (fun M1 eM1 => ?_)
      have f2 : M1[o]? = some (.inr (10, zo o (zi) (zl))) := by rw [eM1, ev_sn (by omega)]; exact hO
      have f3 : M1[o + 28]? = some (.inl (0, 3, .inl (s0))) := by rw [eM1, ev_sn (by omega)]; exact hs0
      have f4 : M1[o + 8]? = some (.inl (0, 3, .inl (upd d0 i (s0 i)))) := by rw [eM1]; exact ev_sg hd0
      have f5 : M1[o + 29]? = some (.inl (1, 3, .inr (.inl (s1)))) := by rw [eM1, ev_sn (by omega)]; exact hs1
      have f6 : M1[o + 9]? = some (.inl (1, 3, .inr (.inl (d1)))) := by rw [eM1, ev_sn (by omega)]; exact hd1
      have f7 : M1[o + 30]? = some (.inl (1, 3, .inr (.inl (s2)))) := by rw [eM1, ev_sn (by omega)]; exact hs2
      have f8 : M1[o + 10]? = some (.inl (1, 3, .inr (.inl (d2)))) := by rw [eM1, ev_sn (by omega)]; exact hd2
      refine ev_blk (B := [(.aload_n 0, 1)]) (pe := 86) (ls' := [some (.ref (o)), some (.int (nI i))]) (st' := [.ref (o)]) ⟨dX11_restore_85, rfl⟩ rfl ?_
      refine ev_getf (v := .ref (o + 9)) F_RX11_35 dX11_restore_86 f2 rfl ?_
      refine ev_blk (B := [(.iload_n 1, 1), (.aload_n 0, 1)]) (pe := 91) (ls' := [some (.ref (o)), some (.int (nI i))]) (st' := [.ref (o), .int (nI i), .ref (o + 9)]) ⟨dX11_restore_89, dX11_restore_90, rfl⟩ rfl ?_
      refine ev_getf (v := .ref (o + 29)) F_RX11_100 dX11_restore_91 f2 rfl ?_
      refine ev_blk (B := [(.iload_n 1, 1)]) (pe := 95) (ls' := [some (.ref (o)), some (.int (nI i))]) (st' := [.int (nI i), .ref (o + 29), .int (nI i), .ref (o + 9)]) ⟨dX11_restore_94, rfl⟩ rfl ?_
      refine ev_lald dX11_restore_95 f5 (vp_in_nI (show i < 3 by omega) (by omega)) ?_
      rw [nI_clamp (show i < 2 ^ 31 by omega)]
      refine ev_last dX11_restore_96 f6 (vp_in_nI (show i < 3 by omega) (by omega)) ?_
      rw [nI_clamp (show i < 2 ^ 31 by omega)]
      refine ev_nm (M0 := M1.set (o + 9) (.inl (1, 3, .inr (.inl (vp_updL d1 i (s1 i)))))) (fun M9 eM9 => ?_)
      have f10 : M9[o]? = some (.inr (10, zo o (zi) (zl))) := by rw [eM9, ev_sn (by omega)]; exact f2
      have f11 : M9[o + 28]? = some (.inl (0, 3, .inl (s0))) := by rw [eM9, ev_sn (by omega)]; exact f3
      have f12 : M9[o + 8]? = some (.inl (0, 3, .inl (upd d0 i (s0 i)))) := by rw [eM9, ev_sn (by omega)]; exact f4
      have f13 : M9[o + 29]? = some (.inl (1, 3, .inr (.inl (s1)))) := by rw [eM9, ev_sn (by omega)]; exact f5
      have f14 : M9[o + 9]? = some (.inl (1, 3, .inr (.inl (vp_updL d1 i (s1 i))))) := by rw [eM9]; exact ev_sg f6
      have f15 : M9[o + 30]? = some (.inl (1, 3, .inr (.inl (s2)))) := by rw [eM9, ev_sn (by omega)]; exact f7
      have f16 : M9[o + 10]? = some (.inl (1, 3, .inr (.inl (d2)))) := by rw [eM9, ev_sn (by omega)]; exact f8
      refine ev_blk (B := [(.aload_n 0, 1)]) (pe := 98) (ls' := [some (.ref (o)), some (.int (nI i))]) (st' := [.ref (o)]) ⟨dX11_restore_97, rfl⟩ rfl ?_
      refine ev_getf (v := .ref (o + 10)) F_RX11_38 dX11_restore_98 f10 rfl ?_
      refine ev_blk (B := [(.iload_n 1, 1), (.aload_n 0, 1)]) (pe := 103) (ls' := [some (.ref (o)), some (.int (nI i))]) (st' := [.ref (o), .int (nI i), .ref (o + 10)]) ⟨dX11_restore_101, dX11_restore_102, rfl⟩ rfl ?_
      refine ev_getf (v := .ref (o + 30)) F_RX11_103 dX11_restore_103 f10 rfl ?_
      refine ev_blk (B := [(.iload_n 1, 1)]) (pe := 107) (ls' := [some (.ref (o)), some (.int (nI i))]) (st' := [.int (nI i), .ref (o + 30), .int (nI i), .ref (o + 10)]) ⟨dX11_restore_106, rfl⟩ rfl ?_
      refine ev_lald dX11_restore_107 f15 (vp_in_nI (show i < 3 by omega) (by omega)) ?_
      rw [nI_clamp (show i < 2 ^ 31 by omega)]
      refine ev_last dX11_restore_108 f16 (vp_in_nI (show i < 3 by omega) (by omega)) ?_
      rw [nI_clamp (show i < 2 ^ 31 by omega)]
      refine ev_nm (M0 := M9.set (o + 10) (.inl (1, 3, .inr (.inl (vp_updL d2 i (s2 i)))))) (fun M17 eM17 => ?_)
      have f18 : M17[o]? = some (.inr (10, zo o (zi) (zl))) := by rw [eM17, ev_sn (by omega)]; exact f10
      have f19 : M17[o + 28]? = some (.inl (0, 3, .inl (s0))) := by rw [eM17, ev_sn (by omega)]; exact f11
      have f20 : M17[o + 8]? = some (.inl (0, 3, .inl (upd d0 i (s0 i)))) := by rw [eM17, ev_sn (by omega)]; exact f12
      have f21 : M17[o + 29]? = some (.inl (1, 3, .inr (.inl (s1)))) := by rw [eM17, ev_sn (by omega)]; exact f13
      have f22 : M17[o + 9]? = some (.inl (1, 3, .inr (.inl (vp_updL d1 i (s1 i))))) := by rw [eM17, ev_sn (by omega)]; exact f14
      have f23 : M17[o + 30]? = some (.inl (1, 3, .inr (.inl (s2)))) := by rw [eM17, ev_sn (by omega)]; exact f15
      have f24 : M17[o + 10]? = some (.inl (1, 3, .inr (.inl (vp_updL d2 i (s2 i))))) := by rw [eM17]; exact ev_sg f16
      refine ev_blk (B := [(.iinc 1 1, 3)]) (pe := 112) (ls' := [some (.ref (o)), some (.int (nI (i + 1)))]) (st' := []) ⟨dX11_restore_109, rfl⟩ (by show some (([some (.ref (o)), some (.int ((nI i) + Int32.ofInt (1)))] : ev_L), ([] : List Value)) = _; rw [ev_inc1 i]) ?_
      refine ev_goto (tgt := 68) dX11_restore_112 (by decide) ?_
      refine ih (i + 1) _ _ _ _ (by omega) f18 f19 f21 f23 f20 f22 f24 (hF.tr ⟨by rw [eM17, eM9, eM1]; simp only [List.length_set], fun j hj1 hj2 => by rw [eM17, ev_sn (by omega), eM9, ev_sn (by omega), eM1, ev_sn (by omega)]⟩) (fun j hj => ?_) (by omega)
      rw [upd_at, updL_at, updL_at]
      by_cases e : j = i
      · subst e
        rw [if_pos rfl, if_pos rfl, if_pos rfl]
        exact ⟨rfl, rfl, rfl⟩
      · rw [if_neg e, if_neg e, if_neg e]; exact ha j (by omega)

set_option maxHeartbeats 4000000 in
set_option maxRecDepth 100000 in
theorem r_restore {l : Launch} (hl : l.stackTraces = false) {M : ev_M} (o : Nat) (S : St) (hS : okS S) (hT10 : S.T.length ≤ 10) (hG3 : S.G.length ≤ 3) (hH20 : S.H.length ≤ 20) (zi : Nat → Int32) (zl : Nat → Int64) (hR : RR M o S zi zl) : ev_Mt l m_X11_restore [.ref (o)] M (fun r M1 => r = .inl none ∧ ∃ zi' zl', RR M1 o (sRes S).2 zi' zl' ∧ zi' 0 = nI (sRes S).1 ∧ Fr o (o + 31) M M1) := by
  obtain ⟨fT, hfT, hPT⟩ := hR.T
  obtain ⟨gf, gg, gh, hg8, hg9, hg10, hQG⟩ := hR.G
  obtain ⟨sf, sg, sh, sk, hs27, hs28, hs29, hs30, hPS⟩ := hR.s
  refine ev_body hl rfl (by decide +kernel) (Nat.le_of_ble_eq_true rfl) ?_
  show ev_ l m_X11_restore 0 0 0 [some (.ref (o)), none] [] M _
  refine ev_blk (B := [(.aload_n 0, 1), (.aload_n 0, 1)]) (pe := 2) (ls' := [some (.ref (o)), none]) (st' := [.ref (o), .ref (o)]) ⟨dX11_restore_0, dX11_restore_1, rfl⟩ rfl ?_
  refine ev_getf (v := .int (ev_b (S.tk))) F_RX11_346 dX11_restore_2 hR.z (congrArg (fun q => some (Value.int q)) hR.p.2.2.2.2.2.2.2.2.1) ?_
  refine ev_ifB_eq dX11_restore_5 (tgt := 12) (by decide) (fun q5 => ?_) (fun q5 => ?_)
  · refine ev_blk (B := [(.iconst 1, 1)]) (pe := 13) (ls' := [some (.ref (o)), none]) (st' := [.int (nI 1), .ref (o)]) ⟨dX11_restore_12, rfl⟩ rfl ?_
    refine ev_put F_RX11_106 dX11_restore_13 hR.z (Nat.le_of_ble_eq_true rfl) (fun _ _ => ⟨rfl, rfl⟩) ?_
    rw [zs_0]
    refine ev_nm (M0 := M.set (o) (.inr (10, zo o (ui (zi) 0 (nI 1)) (zl)))) (fun M1 eM1 => ?_)
    have f2 : M1[o]? = some (.inr (10, zo o (ui (zi) 0 (nI 1)) (zl))) := by rw [eM1]; exact ev_sg hR.z
    refine ev_blk (B := [(.aload_n 0, 1)]) (pe := 17) (ls' := [some (.ref (o)), none]) (st' := [.ref (o)]) ⟨dX11_restore_16, rfl⟩ rfl ?_
    refine ev_getf (v := .int (ev_b (S.tk))) F_RX11_346 dX11_restore_17 f2 (congrArg (fun q => some (Value.int q)) hR.p.2.2.2.2.2.2.2.2.1) ?_
    refine ev_ifB_ne dX11_restore_20 (tgt := 24) (by decide) (fun q20 => ?_) (fun q20 => ?_)
    · exact absurd (q5.symm.trans q20) (by decide)
    · refine ev_vret dX11_restore_23 rfl ⟨Nat.le_of_ble_eq_true rfl, Nat.le_of_ble_eq_true rfl⟩ ?_
      have W3 : FX o (o + 31) (o + 31) M M1 := ⟨by rw [eM1]; simp only [List.length_set], fun j hj1 hj2 => by rw [eM1, ev_sn (by omega)]⟩
      have e9 : sRes S = (1, S) := by unfold sRes; rw [if_pos q20]
      rw [e9]
      exact ⟨rfl, _, _, hR.keep f2 ⟨fun k hk => ui_ne (nm hk (by decide)), fun k hk => rfl⟩ W3, rfl, W3.fr (by omega) (by omega)⟩
  · refine ev_blk (B := [(.iconst 0, 1)]) (pe := 9) (ls' := [some (.ref (o)), none]) (st' := [.int (nI 0), .ref (o)]) ⟨dX11_restore_8, rfl⟩ rfl ?_
    refine ev_goto (tgt := 13) dX11_restore_9 (by decide) ?_
    refine ev_put F_RX11_106 dX11_restore_13 hR.z (Nat.le_of_ble_eq_true rfl) (fun _ _ => ⟨rfl, rfl⟩) ?_
    rw [zs_0]
    refine ev_nm (M0 := M.set (o) (.inr (10, zo o (ui (zi) 0 (nI 0)) (zl)))) (fun M4 eM4 => ?_)
    have f5 : M4[o]? = some (.inr (10, zo o (ui (zi) 0 (nI 0)) (zl))) := by rw [eM4]; exact ev_sg hR.z
    refine ev_blk (B := [(.aload_n 0, 1)]) (pe := 17) (ls' := [some (.ref (o)), none]) (st' := [.ref (o)]) ⟨dX11_restore_16, rfl⟩ rfl ?_
    refine ev_getf (v := .int (ev_b (S.tk))) F_RX11_346 dX11_restore_17 f5 (congrArg (fun q => some (Value.int q)) hR.p.2.2.2.2.2.2.2.2.1) ?_
    refine ev_ifB_ne dX11_restore_20 (tgt := 24) (by decide) (fun q20 => ?_) (fun q20 => ?_)
    · have htk : S.tk = true := q20
      obtain ⟨r50, r51, r52, r53, r54⟩ := hR.p.2.2.2.2.2.2.2.2.2 htk
      obtain ⟨hP9, hQ9⟩ := hPS htk
      have hl9 := hS.l9
      have hg9l := hS.g9
      have hx9 := hS.x9.1
      refine ev_blk (B := [(.aload_n 0, 1), (.aload_n 0, 1)]) (pe := 26) (ls' := [some (.ref (o)), none]) (st' := [.ref (o), .ref (o)]) ⟨dX11_restore_24, dX11_restore_25, rfl⟩ rfl ?_
      refine ev_getf (v := .int (nI (S.T9.length))) F_RX11_349 dX11_restore_26 f5 (congrArg (fun q => some (Value.int q)) r50) ?_
      refine ev_put F_RX11_123 dX11_restore_29 f5 (Nat.le_of_ble_eq_true rfl) (fun _ _ => ⟨rfl, rfl⟩) ?_
      rw [zs_2]
      refine ev_nm (M0 := M4.set (o) (.inr (10, zo o (ui (ui (zi) 0 (nI 0)) 2 (nI (S.T9.length))) (zl)))) (fun M6 eM6 => ?_)
      have f7 : M6[o]? = some (.inr (10, zo o (ui (ui (zi) 0 (nI 0)) 2 (nI (S.T9.length))) (zl))) := by rw [eM6]; exact ev_sg f5
      refine ev_blk (B := [(.iconst 0, 1), (.istore_n 1, 1)]) (pe := 34) (ls' := [some (.ref (o)), some (.int (nI 0))]) (st' := []) ⟨dX11_restore_32, dX11_restore_33, rfl⟩ rfl ?_
      have W8 : FX o (o + 31) (o + 31) M M6 := ⟨by rw [eM6, eM4]; simp only [List.length_set], fun j hj1 hj2 => by rw [eM6, ev_sn (by omega), eM4, ev_sn (by omega)]⟩
      refine c_R_rest1 o (ui (ui (zi) 0 (nI 0)) 2 (nI (S.T9.length))) (zl) M6 sf _ (fun McA Ag0 jA AO As0 Ad0 AF Ae => ?_) _ 0 M6 fT (Nat.zero_le _) f7 (W8.at hs27 (by omega) (by omega)) (W8.at hfT (by omega) (by omega)) FX.rf (fun j hj => absurd hj (Nat.not_lt_zero _)) (Nat.lt_succ_self _)
      refine ev_blk (B := [(.aload_n 0, 1), (.aload_n 0, 1)]) (pe := 60) (ls' := [some (.ref (o)), some (.int (nI jA))]) (st' := [.ref (o), .ref (o)]) ⟨dX11_restore_58, dX11_restore_59, rfl⟩ rfl ?_
      refine ev_getf (v := .int (nI (S.G9.length))) F_RX11_352 dX11_restore_60 AO (congrArg (fun q => some (Value.int q)) r51) ?_
      refine ev_put F_RX11_225 dX11_restore_63 AO (Nat.le_of_ble_eq_true rfl) (fun _ _ => ⟨rfl, rfl⟩) ?_
      rw [zs_20]
      refine ev_nm (M0 := McA.set (o) (.inr (10, zo o (ui (ui (ui (zi) 0 (nI 0)) 2 (nI (S.T9.length))) 20 (nI (S.G9.length))) (zl)))) (fun M9 eM9 => ?_)
      have f10 : M9[o]? = some (.inr (10, zo o (ui (ui (ui (zi) 0 (nI 0)) 2 (nI (S.T9.length))) 20 (nI (S.G9.length))) (zl))) := by rw [eM9]; exact ev_sg AO
      refine ev_blk (B := [(.iconst 0, 1), (.istore_n 1, 1)]) (pe := 68) (ls' := [some (.ref (o)), some (.int (nI 0))]) (st' := []) ⟨dX11_restore_66, dX11_restore_67, rfl⟩ rfl ?_
      have W11 : FX o (o + 31) (o + 31) McA M9 := ⟨by rw [eM9]; simp only [List.length_set], fun j hj1 hj2 => by rw [eM9, ev_sn (by omega)]⟩
      refine c_R_rest2 o (ui (ui (ui (zi) 0 (nI 0)) 2 (nI (S.T9.length))) 20 (nI (S.G9.length))) (zl) M9 sg sh sk _ (fun McB Bg0 Bg1 Bg2 jB BO Bs0 Bs1 Bs2 Bd0 Bd1 Bd2 BF Be => ?_) _ 0 M9 gf gg gh (Nat.zero_le _) f10 (W11.at (AF.at (W8.at hs28 (by omega) (by omega)) (by omega) (by omega)) (by omega) (by omega)) (W11.at (AF.at (W8.at hs29 (by omega) (by omega)) (by omega) (by omega)) (by omega) (by omega)) (W11.at (AF.at (W8.at hs30 (by omega) (by omega)) (by omega) (by omega)) (by omega) (by omega)) (W11.at (AF.at (W8.at hg8 (by omega) (by omega)) (by omega) (by omega)) (by omega) (by omega)) (W11.at (AF.at (W8.at hg9 (by omega) (by omega)) (by omega) (by omega)) (by omega) (by omega)) (W11.at (AF.at (W8.at hg10 (by omega) (by omega)) (by omega) (by omega)) (by omega) (by omega)) FX.rf (fun j hj => absurd hj (Nat.not_lt_zero _)) (Nat.lt_succ_self _)
      refine ev_blk (B := [(.aload_n 0, 1), (.aload_n 0, 1)]) (pe := 117) (ls' := [some (.ref (o)), some (.int (nI jB))]) (st' := [.ref (o), .ref (o)]) ⟨dX11_restore_115, dX11_restore_116, rfl⟩ rfl ?_
      refine ev_getf (v := .int (nI (S.x9.1))) F_RX11_355 dX11_restore_117 BO (congrArg (fun q => some (Value.int q)) r52) ?_
      refine ev_put F_RX11_169 dX11_restore_120 BO (Nat.le_of_ble_eq_true rfl) (fun _ _ => ⟨rfl, rfl⟩) ?_
      rw [zs_3]
      refine ev_nm (M0 := McB.set (o) (.inr (10, zo o (ui (ui (ui (ui (zi) 0 (nI 0)) 2 (nI (S.T9.length))) 20 (nI (S.G9.length))) 3 (nI (S.x9.1))) (zl)))) (fun M12 eM12 => ?_)
      have f13 : M12[o]? = some (.inr (10, zo o (ui (ui (ui (ui (zi) 0 (nI 0)) 2 (nI (S.T9.length))) 20 (nI (S.G9.length))) 3 (nI (S.x9.1))) (zl))) := by rw [eM12]; exact ev_sg BO
      refine ev_blk (B := [(.aload_n 0, 1), (.aload_n 0, 1)]) (pe := 125) (ls' := [some (.ref (o)), some (.int (nI jB))]) (st' := [.ref (o), .ref (o)]) ⟨dX11_restore_123, dX11_restore_124, rfl⟩ rfl ?_
      refine ev_getf (v := .long (e2 S.x9.2.1)) F_RX11_358 dX11_restore_125 f13 (congrArg (fun q => some (Value.long q)) r53) ?_
      refine ev_put F_RX11_159 dX11_restore_128 f13 (Nat.le_of_ble_eq_true rfl) (fun _ _ => ⟨rfl, rfl⟩) ?_
      rw [zs_5]
      refine ev_nm (M0 := M12.set (o) (.inr (10, zo o (ui (ui (ui (ui (zi) 0 (nI 0)) 2 (nI (S.T9.length))) 20 (nI (S.G9.length))) 3 (nI (S.x9.1))) (ul (zl) 5 (e2 S.x9.2.1))))) (fun M14 eM14 => ?_)
      have f15 : M14[o]? = some (.inr (10, zo o (ui (ui (ui (ui (zi) 0 (nI 0)) 2 (nI (S.T9.length))) 20 (nI (S.G9.length))) 3 (nI (S.x9.1))) (ul (zl) 5 (e2 S.x9.2.1)))) := by rw [eM14]; exact ev_sg f13
      refine ev_blk (B := [(.aload_n 0, 1), (.aload_n 0, 1)]) (pe := 133) (ls' := [some (.ref (o)), some (.int (nI jB))]) (st' := [.ref (o), .ref (o)]) ⟨dX11_restore_131, dX11_restore_132, rfl⟩ rfl ?_
      refine ev_getf (v := .long (e2 S.x9.2.2)) F_RX11_361 dX11_restore_133 f15 (congrArg (fun q => some (Value.long q)) r54) ?_
      refine ev_put F_RX11_163 dX11_restore_136 f15 (Nat.le_of_ble_eq_true rfl) (fun _ _ => ⟨rfl, rfl⟩) ?_
      rw [zs_6]
      refine ev_nm (M0 := M14.set (o) (.inr (10, zo o (ui (ui (ui (ui (zi) 0 (nI 0)) 2 (nI (S.T9.length))) 20 (nI (S.G9.length))) 3 (nI (S.x9.1))) (ul (ul (zl) 5 (e2 S.x9.2.1)) 6 (e2 S.x9.2.2))))) (fun M16 eM16 => ?_)
      have f17 : M16[o]? = some (.inr (10, zo o (ui (ui (ui (ui (zi) 0 (nI 0)) 2 (nI (S.T9.length))) 20 (nI (S.G9.length))) 3 (nI (S.x9.1))) (ul (ul (zl) 5 (e2 S.x9.2.1)) 6 (e2 S.x9.2.2)))) := by rw [eM16]; exact ev_sg f15
      refine ev_blk (B := [(.aload_n 0, 1), (.iconst 0, 1)]) (pe := 141) (ls' := [some (.ref (o)), some (.int (nI jB))]) (st' := [.int (nI 0), .ref (o)]) ⟨dX11_restore_139, dX11_restore_140, rfl⟩ rfl ?_
      refine ev_put F_RX11_166 dX11_restore_141 f17 (Nat.le_of_ble_eq_true rfl) (fun _ _ => ⟨rfl, rfl⟩) ?_
      rw [zs_4]
      refine ev_nm (M0 := M16.set (o) (.inr (10, zo o (ui (ui (ui (ui (ui (zi) 0 (nI 0)) 2 (nI (S.T9.length))) 20 (nI (S.G9.length))) 3 (nI (S.x9.1))) 4 (nI 0)) (ul (ul (zl) 5 (e2 S.x9.2.1)) 6 (e2 S.x9.2.2))))) (fun M18 eM18 => ?_)
      have f19 : M18[o]? = some (.inr (10, zo o (ui (ui (ui (ui (ui (zi) 0 (nI 0)) 2 (nI (S.T9.length))) 20 (nI (S.G9.length))) 3 (nI (S.x9.1))) 4 (nI 0)) (ul (ul (zl) 5 (e2 S.x9.2.1)) 6 (e2 S.x9.2.2)))) := by rw [eM18]; exact ev_sg f17
      refine ev_blk (B := [(.aload_n 0, 1), (.iconst 0, 1)]) (pe := 146) (ls' := [some (.ref (o)), some (.int (nI jB))]) (st' := [.int (nI 0), .ref (o)]) ⟨dX11_restore_144, dX11_restore_145, rfl⟩ rfl ?_
      refine ev_put F_RX11_126 dX11_restore_146 f19 (Nat.le_of_ble_eq_true rfl) (fun _ _ => ⟨rfl, rfl⟩) ?_
      rw [zs_30]
      refine ev_nm (M0 := M18.set (o) (.inr (10, zo o (ui (ui (ui (ui (ui (ui (zi) 0 (nI 0)) 2 (nI (S.T9.length))) 20 (nI (S.G9.length))) 3 (nI (S.x9.1))) 4 (nI 0)) 30 (nI 0)) (ul (ul (zl) 5 (e2 S.x9.2.1)) 6 (e2 S.x9.2.2))))) (fun M20 eM20 => ?_)
      have f21 : M20[o]? = some (.inr (10, zo o (ui (ui (ui (ui (ui (ui (zi) 0 (nI 0)) 2 (nI (S.T9.length))) 20 (nI (S.G9.length))) 3 (nI (S.x9.1))) 4 (nI 0)) 30 (nI 0)) (ul (ul (zl) 5 (e2 S.x9.2.1)) 6 (e2 S.x9.2.2)))) := by rw [eM20]; exact ev_sg f19
      refine ev_vret dX11_restore_149 rfl ⟨Nat.le_of_ble_eq_true rfl, Nat.le_of_ble_eq_true rfl⟩ ?_
      have W22 : FX o (o + 31) (o + 31) McB M20 := ⟨by rw [eM20, eM18, eM16, eM14, eM12]; simp only [List.length_set], fun j hj1 hj2 => by rw [eM20, ev_sn (by omega), eM18, ev_sn (by omega), eM16, ev_sn (by omega), eM14, ev_sn (by omega), eM12, ev_sn (by omega)]⟩
      have e9 : sRes S = (0, St.mk S.T9 S.x9 S.G9 [] S.n S.t S.f S.tk S.T9 S.x9 S.G9) := by unfold sRes; rw [if_neg (show ¬ S.tk = false by rw [htk]; decide)]
      rw [e9]
      exact ⟨rfl, _, _, ⟨f21, ⟨rfl, rfl, rfl, rfl, rfl, rfl, hR.p.2.2.2.2.2.2.1, hR.p.2.2.2.2.2.2.2.1, hR.p.2.2.2.2.2.2.2.2.1, fun _ => ⟨r50, r51, r52, r53, r54⟩⟩, ⟨_, (W22.at (BF.at (W11.at Ad0 (by omega) (by omega)) (by omega) (by omega)) (by omega) (by omega)), hP9.eqv hl9 (fun j hj => Ae j hj)⟩, PH.nil (((((hR.H.fx W8 (by omega)).fx AF (by omega)).fx W11 (by omega)).fx BF (by omega)).fx W22 (by omega)), (((((hR.y.fx W8 (by omega)).fx AF (by omega)).fx W11 (by omega)).fx BF (by omega)).fx W22 (by omega)), ⟨_, _, _, (W22.at Bd0 (by omega) (by omega)), (W22.at Bd1 (by omega) (by omega)), (W22.at Bd2 (by omega) (by omega)), hQ9.eqv hg9l (fun j hj => Be j hj)⟩, PA.no (((((hR.a.fx W8 (by omega)).fx AF (by omega)).fx W11 (by omega)).fx BF (by omega)).fx W22 (by omega)), (((((hR.u.fx W8 (by omega)).fx AF (by omega)).fx W11 (by omega)).fx BF (by omega)).fx W22 (by omega)), (((((hR.x.fx W8 (by omega)).fx AF (by omega)).fx W11 (by omega)).fx BF (by omega)).fx W22 (by omega)), (((((hR.k.fx W8 (by omega)).fx AF (by omega)).fx W11 (by omega)).fx BF (by omega)).fx W22 (by omega)), (((((hR.s.fx W8 (by omega)).fx AF (by omega)).fx W11 (by omega)).fx BF (by omega)).fx W22 (by omega))⟩, rfl, (FX.fr (lo := o + 1) (hi := o + 31) (((((W8.to (by omega) (by omega)).tr (AF.to (by omega) (by omega))).tr (W11.to (by omega) (by omega))).tr (BF.to (by omega) (by omega))).tr (W22.to (by omega) (by omega))) (by omega) (by omega))⟩
    · exact absurd (q5.symm.trans q20) (by decide)

