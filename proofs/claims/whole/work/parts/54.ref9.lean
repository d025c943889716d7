/-! ===== cells that a call made for itself are dropped ===== -/
theorem ev_wl_pre {ad ax cA : Nat → Nat} {M0 X : ev_M} {k : Nat} {q : Nat × va_E} (h : (ev_wl ad ax cA M0)[k]? = some q) : (ev_wl ad ax cA (M0 ++ X))[k]? = some q := by
  obtain ⟨e, he, rfl⟩ := ev_wl_of h
  refine ev_wl_get ?_
  rw [List.getElem?_append_left (List.getElem?_eq_some_iff.mp he).1]
  exact he
theorem ev_bodyD {l : Launch} (hl : l.stackTraces = false) {mi : ev_MI} {as : List Value} {M : ev_M} {Q Q' : ev_R → ev_M → Prop} (hh : ev_h mi = []) (hp : plainName (ev_y mi).cls = true) (hn : (ev_en as).length ≤ ev_n mi)
    (hq : ∀ r M1, Q r M1 → ∃ M0 X, M1 = M0 ++ X ∧ M.length ≤ M0.length ∧ Q' r M0 ∧ (ev_okM M → ev_okM M0) ∧ ∀ v, r = .inl (some v) → ev_ok M0.length v)
    (k : ev_ l mi 0 0 0 (ev_entry as (ev_n mi)) [] M Q) : ev_Mt l mi as M Q' := by
  intro hoM hoS D ad ax cA sz
  have hw : ev_ws mi = Cond.code (ev_y mi) (ev_c mi) (ev_n mi) (ev_r mi) :: ev_bw := by unfold ev_ws ev_w; rw [hh]
  refine vx_ofW (cc := ev_c mi) (maxL := ev_n mi) (ret := ev_r mi) hp hw ?_
  intro p e s m args below meth c s₁ B hml htab hv
  obtain ⟨rfl, hsz, hP, hK, hD0, hX⟩ := hv
  subst hsz
  have hts := atoms_spec (ws := ev_ws mi) B.pre
  have hD : va_D (va_A (ev_wl ad ax cA M) s.heap.size) (ev_wl ad ax cA M) := hD0.self
  have hl0 := lv_entry (as.map (ev_tr ad ax)) (n := ev_n mi) (by rw [ev_en_len]; exact hn)
  rw [lg_entry_eq]
  have h8 : c.exceptionTable.toList = tableOf (ev_h mi) := by
    rw [hh]
    have : c.exceptionTable.toList = [] := List.eq_nil_iff_forall_not_mem.mpr htab
    rw [this]; rfl
  have h9 : lv_has ((lg_sl (as.map (ev_tr ad ax)) ++ List.replicate (ev_n mi - (lg_sl (as.map (ev_tr ad ax))).length) Slot.unset).toArray) (ev_n mi) (ev_lsl (ev_tr ad ax) (ev_entry as (ev_n mi))) := by
    refine ⟨hl0.1, hl0.2.1, fun q hq => hl0.2.2 q ?_⟩
    obtain ⟨j, w⟩ := q
    obtain ⟨v, hv, rfl⟩ := ev_mem.mp hq
    unfold ev_entry at hv
    by_cases hj : j < (ev_en as).length
    · rw [List.getElem?_append_left hj] at hv
      have := ev_entry_at ad ax as 0 j v hv
      simpa using this
    · rw [List.getElem?_append_right (by omega)] at hv
      have := (List.mem_replicate.mp (List.mem_of_getElem? hv)).2
      cases this
  have h10 : (ev_entry as (ev_n mi)).length = ev_n mi := by
    unfold ev_entry
    rw [List.length_append, List.length_replicate]; omega
  intro T hT X
  obtain ⟨t, a1, o, b1, b2, b3⟩ := k p e s m _ below meth c D ad ad ax cA _ s.heap [] _ M.length ⟨hl, B.exec, B.bytes, hml, findClass_of_methodNamed B.named, fun w hw => hts w (List.mem_cons_of_mem _ hw), B.notSynchronized, B.returns, (name_of_methodNamed B.named B.method).1, h8⟩ va_S.rf (fun q h => Or.inr h) (Nat.le_refl _) (fun _ _ => rfl) hP hD hK hX hoM (fun _ h => by cases h) (ev_okL_entry hoS) h9 h10 T hT X
  refine ⟨t, a1, o, b1, b2, ?_⟩
  have key : ∀ (oc : (Nat → Nat) → ev_R → Prop), ev_End D ad ax cA (va_A (ev_wl ad ax cA M) s.heap.size) M.length Q oc s t → ev_End D ad ax cA (va_A (ev_wl ad ax cA M) s.heap.size) M.length Q' oc s t := by
    rintro oc ⟨⟨r, M', ad', c1, c2, c3, c4, c5, c6, c7, c8⟩, hF⟩
    obtain ⟨M0, X, rfl, d1, d2, d3, d4⟩ := hq r M' c4
    refine ⟨⟨r, M0, ad', d1, c2, c3, d2, d3 hoM, d4, fun k q hk => c7 k q (ev_wl_pre hk), ⟨fun i j p q h1 h2 e => c8.1 i j p q (ev_wl_pre h1) (ev_wl_pre h2) e, fun k q hk => c8.2 k q (ev_wl_pre hk)⟩⟩, hF⟩
  rcases b3 with ⟨h1, hL⟩ | ⟨q, hq, E, ce, L, h1, b⟩
  · exact Or.inl ⟨key _ h1, hL⟩
  · exact Or.inr ⟨q, hq, E, ce, L, key _ h1, b⟩
theorem zo_ok {o n : Nat} (hn : o + 31 ≤ n) (zi : Nat → Int32) (zl : Nat → Int64) : ∀ v ∈ zo o zi zl, ev_ok n v := by
  unfold zo
  simp only [List.forall_mem_cons]
  exact ⟨trivial, (by show o + 1 < n; omega), trivial, trivial, trivial, trivial, trivial, (by show o + 2 < n; omega), (by show o + 3 < n; omega), (by show o + 4 < n; omega), (by show o + 5 < n; omega), trivial, trivial, trivial, trivial, (by show o + 6 < n; omega), (by show o + 7 < n; omega), (by show o + 8 < n; omega), (by show o + 9 < n; omega), (by show o + 10 < n; omega), trivial, (by show o + 11 < n; omega), (by show o + 12 < n; omega), (by show o + 13 < n; omega), (by show o + 14 < n; omega), (by show o + 15 < n; omega), (by show o + 16 < n; omega), (by show o + 17 < n; omega), trivial, trivial, trivial, trivial, (by show o + 18 < n; omega), (by show o + 19 < n; omega), (by show o + 20 < n; omega), (by show o + 21 < n; omega), trivial, (by show o + 22 < n; omega), (by show o + 23 < n; omega), (by show o + 24 < n; omega), (by show o + 25 < n; omega), (by show o + 26 < n; omega), trivial, trivial, trivial, trivial, (by show o + 27 < n; omega), (by show o + 28 < n; omega), (by show o + 29 < n; omega), (by show o + 30 < n; omega), trivial, trivial, trivial, trivial, trivial, trivial, fun _ h => nomatch h⟩
theorem okM_zo {M M0 : ev_M} {o : Nat} {zi : Nat → Int32} {zl : Nat → Int64} (hM : ev_okM M) (hl : M0.length = M.length) (ho : o + 31 ≤ M.length) (h0 : M0[o]? = some (.inr (10, zo o zi zl))) (h : ∀ j, j ≠ o → M0[j]? = M[j]?) : ev_okM M0 := by
  intro k e he
  rw [hl]
  by_cases q : k = o
  · subst q
    rw [h0] at he
    cases he
    exact zo_ok ho zi zl
  · rw [h k q] at he
    exact hM k e he
set_option maxHeartbeats 4000000 in
set_option maxRecDepth 100000 in
theorem c_R_rem5_l {l : Launch}   (M0 : ev_M) (o : Nat) (T : List Tr) (hten : T.length ≤ 10) (t : Nat) (ht : t < T.length) (g : Nat → Int32) (hP : RP5 T.length g T) (zi : Nat → Int32) (zl : Nat → Int64) (h2 : zi 2 = nI (T.length - 1)) : ∀ (n9 : Nat) (p : Nat) (M : ev_M) (f : Nat → Int32), 5 * t ≤ p → p ≤ 5 * (T.length - 1) → M[o]? = some (.inr (10, zo o zi zl)) → M[o + 1]? = some (.inl (0, 50, .inl f)) → FX o (o + 1) (o + 2) M0 M → (∀ j, j < 5 * t → f j = g j) → (∀ j, 5 * t ≤ j → j < p → f j = g (j + 5)) → (∀ j, p ≤ j → f j = g j) → 5 * (T.length - 1) - p < n9 → ev_ l m_X11_removeTransition 0 0 33 [some (.ref (o)), some (.int (nI t)), some (.int (nI p))] [] M (fun r M1 => r = .inl (some (.int (nI (T.length - 1)))) ∧ M1[o]? = some (.inr (10, zo o (ui zi 30 (nI 0)) zl)) ∧ PT M1 (o + 1) (T.eraseIdx t) ∧ FX o (o + 1) (o + 2) M0 M1) := by
  intro n9
  induction n9 with
  | zero => intro p M f hp1 hp hO hf hF ha hb hc hm9; exact absurd hm9 (by omega)
  | succ n9 ih =>
    intro p M f hp1 hp hO hf hF ha hb hc hm9
    refine ev_blk (B := [(.iload_n 2, 1), (.iconst 5, 1), (.aload_n 0, 1)]) (pe := 36) (ls' := [some (.ref (o)), some (.int (nI t)), some (.int (nI p))]) (st' := [.ref (o), .int (nI 5), .int (nI p)]) ⟨dX11_removeTransition_33, dX11_removeTransition_34, dX11_removeTransition_35, rfl⟩ rfl ?_
    refine ev_getf (v := .int (nI (T.length - 1))) F_RX11_123 dX11_removeTransition_36 hO (congrArg (fun q => some (Value.int q)) h2) ?_
    refine ev_blk (B := [(.imul, 1)]) (pe := 40) (ls' := [some (.ref (o)), some (.int (nI t)), some (.int (nI p))]) (st' := [.int (nI (5 * (T.length - 1))), .int (nI p)]) ⟨dX11_removeTransition_39, rfl⟩ (by show some (([some (.ref (o)), some (.int (nI t)), some (.int (nI p))] : ev_L), ([.int ((nI 5) * (nI (T.length - 1))), .int (nI p)] : List Value)) = _; rw [pk_mul 5 (T.length - 1)]) ?_
    refine ev_iN_ge dX11_removeTransition_40 (tgt := 63) (by decide) (by omega) (by omega) (fun q40 => ?_) (fun q40 => ?_)
    · refine ev_blk (B := [(.aload_n 0, 1), (.iconst 0, 1)]) (pe := 65) (ls' := [some (.ref (o)), some (.int (nI t)), some (.int (nI p))]) (st' := [.int (nI 0), .ref (o)]) ⟨dX11_removeTransition_63, dX11_removeTransition_64, rfl⟩ rfl ?_
      refine ev_put F_RX11_126 dX11_removeTransition_65 hO (Nat.le_of_ble_eq_true rfl) (fun _ _ => ⟨rfl, rfl⟩) ?_
      rw [zs_30]
      refine ev_nm (M0 := M.set (o) (.inr (10, zo o (ui (zi) 30 (nI 0)) (zl)))) (fun M1 eM1 => ?_)
      have f2 : M1[o]? = some (.inr (10, zo o (ui (zi) 30 (nI 0)) (zl))) := by rw [eM1]; exact ev_sg hO
      have f3 : M1[o + 1]? = some (.inl (0, 50, .inl (f))) := by rw [eM1, ev_sn (by omega)]; exact hf
      refine ev_blk (B := [(.aload_n 0, 1)]) (pe := 69) (ls' := [some (.ref (o)), some (.int (nI t)), some (.int (nI p))]) (st' := [.ref (o)]) ⟨dX11_removeTransition_68, rfl⟩ rfl ?_
      refine ev_getf (v := .int (nI (T.length - 1))) F_RX11_123 dX11_removeTransition_69 f2 (congrArg (fun q => some (Value.int q)) h2) ?_
      refine ev_iret dX11_removeTransition_72 rfl (rfl) ⟨Nat.le_of_ble_eq_true rfl, Nat.le_of_ble_eq_true rfl⟩ ?_
      have e6 : (T.eraseIdx t).length = T.length - 1 := by rw [List.length_eraseIdx, if_pos ht]
      refine ⟨rfl, f2, ⟨f, f3, fun i hi k hk => ?_⟩, hF.tr ⟨by rw [eM1]; simp only [List.length_set], fun j hj1 hj2 => by rw [eM1, ev_sn (by omega)]⟩⟩
      rw [e6] at hi
      rw [tg_erase ht hi]
      by_cases e : i < t
      · rw [if_pos e, ha _ (by omega)]; exact hP i (by omega) k hk
      · rw [if_neg e, hb _ (by omega) (by omega)]
        have := hP (i + 1) (by omega) k hk
        rwa [show 5 * (i + 1) + k = 5 * i + k + 5 by omega] at this
    · refine ev_blk (B := [(.aload_n 0, 1)]) (pe := 44) (ls' := [some (.ref (o)), some (.int (nI t)), some (.int (nI p))]) (st' := [.ref (o)]) ⟨dX11_removeTransition_43, rfl⟩ rfl ?_
      refine ev_getf (v := .ref (o + 1)) F_RX11_7 dX11_removeTransition_44 hO rfl ?_
      refine ev_blk (B := [(.iload_n 2, 1), (.aload_n 0, 1)]) (pe := 49) (ls' := [some (.ref (o)), some (.int (nI t)), some (.int (nI p))]) (st' := [.ref (o), .int (nI p), .ref (o + 1)]) ⟨dX11_removeTransition_47, dX11_removeTransition_48, rfl⟩ rfl ?_
      refine ev_getf (v := .ref (o + 1)) F_RX11_7 dX11_removeTransition_49 hO rfl ?_
      refine ev_blk (B := [(.iload_n 2, 1), (.iconst 5, 1), (.iadd, 1)]) (pe := 55) (ls' := [some (.ref (o)), some (.int (nI t)), some (.int (nI p))]) (st' := [.int (nI (p + 5)), .ref (o + 1), .int (nI p), .ref (o + 1)]) ⟨dX11_removeTransition_52, dX11_removeTransition_53, dX11_removeTransition_54, rfl⟩ (by show some (([some (.ref (o)), some (.int (nI t)), some (.int (nI p))] : ev_L), ([.int ((nI p) + (nI 5)), .ref (o + 1), .int (nI p), .ref (o + 1)] : List Value)) = _; rw [nI_add p 5]) ?_
      refine ev_iald dX11_removeTransition_55 hf (vp_in_nI (show p + 5 < 50 by omega) (by omega)) ?_
      rw [nI_clamp (show p + 5 < 2 ^ 31 by omega)]
      refine ev_iast dX11_removeTransition_56 hf (vp_in_nI (show p < 50 by omega) (by omega)) ?_
      rw [nI_clamp (show p < 2 ^ 31 by omega)]
      refine ev_nm (M0 := M.set (o + 1) (.inl (0, 50, .inl (upd f p (f (p + 5)))))) (fun M4 eM4 => ?_)
      have f5 : M4[o]? = some (.inr (10, zo o (zi) (zl))) := by rw [eM4, ev_sn (by omega)]; exact hO
      have f6 : M4[o + 1]? = some (.inl (0, 50, .inl (upd f p (f (p + 5))))) := by rw [eM4]; exact ev_sg hf
      refine ev_blk (B := [(.iinc 2 1, 3)]) (pe := 60) (ls' := [some (.ref (o)), some (.int (nI t)), some (.int (nI (p + 1)))]) (st' := []) ⟨dX11_removeTransition_57, rfl⟩ (by show some (([some (.ref (o)), some (.int (nI t)), some (.int ((nI p) + Int32.ofInt (1)))] : ev_L), ([] : List Value)) = _; rw [ev_inc1 p]) ?_
      refine ev_goto (tgt := 33) dX11_removeTransition_60 (by decide) ?_
      refine ih (p + 1) _ _ (by omega) (by omega) f5 f6 (hF.tr ⟨by rw [eM4]; simp only [List.length_set], fun j hj1 hj2 => by rw [eM4, ev_sn (by omega)]⟩) (fun j hj => ?_) (fun j h1 h2 => ?_) (fun j hj => ?_) (by omega)
      · rw [upd_at, if_neg (by omega)]; exact ha j hj
      · rw [upd_at]
        by_cases e : j = p
        · subst e; rw [if_pos rfl]; exact hc _ (by omega)
        · rw [if_neg e]; exact hb j h1 (by omega)
      · rw [upd_at, if_neg (by omega)]; exact hc j (by omega)

set_option maxHeartbeats 4000000 in
set_option maxRecDepth 100000 in
theorem r_removeTransition {l : Launch} (hl : l.stackTraces = false) {M : ev_M} (o : Nat) (S : St) (hS : okS S) (hT10 : S.T.length ≤ 10) (hG3 : S.G.length ≤ 3) (hH20 : S.H.length ≤ 20) (zi : Nat → Int32) (zl : Nat → Int64) (hR : RR M o S zi zl) (a : Int32) : ev_Mt l m_X11_removeTransition [.ref (o), .int (a)] M (fun r M1 => r = .inl (some (.int (sRem S a).1.2)) ∧ ∃ zi' zl', RR M1 o (sRem S a).2 zi' zl' ∧ zi' 0 = nI (sRem S a).1.1 ∧ Fr o (o + 31) M M1) := by
  rcases inR_c a S.T.length (by omega) with ⟨k, hk, rfl⟩ | ia
  · have jk : inR (nI k) S.T.length = true := inR_n hk (by omega)
    have tk : (nI k).toNatClampNeg = k := nI_clamp (by omega)
    refine ev_body hl rfl (by decide +kernel) (Nat.le_of_ble_eq_true rfl) ?_
    show ev_ l m_X11_removeTransition 0 0 0 [some (.ref (o)), some (.int (nI k)), none] [] M _
    refine ev_blk (B := [(.aload_n 0, 1), (.iload_n 1, 1)]) (pe := 2) (ls' := [some (.ref (o)), some (.int (nI k)), none]) (st' := [.int (nI k), .ref (o)]) ⟨dX11_removeTransition_0, dX11_removeTransition_1, rfl⟩ rfl ?_
    refine ev_cVv Y_X11_isTransition L_RX11_152 dX11_removeTransition_2 ⟨Nat.le_of_ble_eq_true rfl, Nat.le_of_ble_eq_true rfl, Nat.le_of_ble_eq_true rfl, Nat.le_of_ble_eq_true rfl, Nat.le_of_ble_eq_true rfl⟩ hR.z (as := [.int (nI k)]) rfl rfl (c_R_isTransition hl o (zi) (zl) hR.z S.T.length hR.p.1 (nI k)) ?_
    refine ev_ifB_ne dX11_removeTransition_5 (tgt := 14) (by decide) (fun q5 => ?_) (fun q5 => ?_)
    · refine ev_blk (B := [(.aload_n 0, 1), (.iconst 0, 1)]) (pe := 16) (ls' := [some (.ref (o)), some (.int (nI k)), none]) (st' := [.int (nI 0), .ref (o)]) ⟨dX11_removeTransition_14, dX11_removeTransition_15, rfl⟩ rfl ?_
      refine ev_put F_RX11_106 dX11_removeTransition_16 hR.z (Nat.le_of_ble_eq_true rfl) (fun _ _ => ⟨rfl, rfl⟩) ?_
      rw [zs_0]
      refine ev_nm (M0 := M.set (o) (.inr (10, zo o (ui (zi) 0 (nI 0)) (zl)))) (fun M1 eM1 => ?_)
      have f2 : M1[o]? = some (.inr (10, zo o (ui (zi) 0 (nI 0)) (zl))) := by rw [eM1]; exact ev_sg hR.z
      refine ev_blk (B := [(.aload_n 0, 1), (.dup, 1)]) (pe := 21) (ls' := [some (.ref (o)), some (.int (nI k)), none]) (st' := [.ref (o), .ref (o)]) ⟨dX11_removeTransition_19, dX11_removeTransition_20, rfl⟩ rfl ?_
      refine ev_getf (v := .int (nI (S.T.length))) F_RX11_123 dX11_removeTransition_21 f2 (congrArg (fun q => some (Value.int q)) hR.p.1) ?_
      refine ev_blk (B := [(.iconst 1, 1), (.isub, 1)]) (pe := 26) (ls' := [some (.ref (o)), some (.int (nI k)), none]) (st' := [.int (nI ((S.T.length) - 1)), .ref (o)]) ⟨dX11_removeTransition_24, dX11_removeTransition_25, rfl⟩ (by show some (([some (.ref (o)), some (.int (nI k)), none] : ev_L), ([.int ((nI (S.T.length)) - (nI 1)), .ref (o)] : List Value)) = _; rw [pk_sub (show 1 ≤ (S.T.length) by omega)]) ?_
      refine ev_put F_RX11_123 dX11_removeTransition_26 f2 (Nat.le_of_ble_eq_true rfl) (fun _ _ => ⟨rfl, rfl⟩) ?_
      rw [zs_2]
      refine ev_nm (M0 := M1.set (o) (.inr (10, zo o (ui (ui (zi) 0 (nI 0)) 2 (nI ((S.T.length) - 1))) (zl)))) (fun M3 eM3 => ?_)
      have f4 : M3[o]? = some (.inr (10, zo o (ui (ui (zi) 0 (nI 0)) 2 (nI ((S.T.length) - 1))) (zl))) := by rw [eM3]; exact ev_sg f2
      refine ev_blk (B := [(.iconst 5, 1), (.iload_n 1, 1), (.imul, 1), (.istore_n 2, 1)]) (pe := 33) (ls' := [some (.ref (o)), some (.int (nI k)), some (.int (nI (5 * k)))]) (st' := []) ⟨dX11_removeTransition_29, dX11_removeTransition_30, dX11_removeTransition_31, dX11_removeTransition_32, rfl⟩ (by show some (([some (.ref (o)), some (.int (nI k)), some (.int ((nI 5) * (nI k)))] : ev_L), ([] : List Value)) = _; rw [pk_mul 5 k]) ?_
      have W5 : FX o (o + 31) (o + 31) M M3 := ⟨by rw [eM3, eM1]; simp only [List.length_set], fun j hj1 hj2 => by rw [eM3, ev_sn (by omega), eM1, ev_sn (by omega)]⟩
      obtain ⟨fT, hfT, hPT⟩ := (hR.T.fx W5 (by omega) (by omega))
      refine ev_mono (fun r M9 hq => ?_) (c_R_rem5_l M3 o S.T hT10 k hk fT hPT (ui (ui (zi) 0 (nI 0)) 2 (nI ((S.T.length) - 1))) (zl) rfl _ (5 * k) _ fT (Nat.le_refl _) (by omega) f4 hfT FX.rf (fun j _ => rfl) (fun j h1 h2 => absurd h1 (by omega)) (fun j _ => rfl) (Nat.lt_succ_self _))
      obtain ⟨q1, q2, q3, q4⟩ := hq
      have e9 : sRem S (nI k) = ((0, nI (S.T.length - 1)), St.mk (S.T.eraseIdx k) S.x S.G S.H S.n S.t S.f S.tk S.T9 S.x9 S.G9) := by simp [sRem, jk, tk]
      rw [e9]
      exact ⟨q1, _, _, hR.nT q2 ((W5.em (by omega)).tr q4) q3 (by rw [List.length_eraseIdx, if_pos hk]; rfl) rfl (fun q hq => (ui_ne (nm hq (by decide))).trans ((ui_ne (nm hq (by decide))).trans (ui_ne (nm hq (by decide))))) (fun q hq => rfl), rfl, FX.fr ((W5.em (by omega)).tr (q4.to (Nat.le_refl _) (by omega))) (lo := o + 1) (hi := o + 31) (by omega) (by omega)⟩
    · exact absurd (jk.symm.trans q5) (by decide)
  · have ia9 := ia
    refine ev_body hl rfl (by decide +kernel) (Nat.le_of_ble_eq_true rfl) ?_
    show ev_ l m_X11_removeTransition 0 0 0 [some (.ref (o)), some (.int (a)), none] [] M _
    refine ev_blk (B := [(.aload_n 0, 1), (.iload_n 1, 1)]) (pe := 2) (ls' := [some (.ref (o)), some (.int (a)), none]) (st' := [.int (a), .ref (o)]) ⟨dX11_removeTransition_0, dX11_removeTransition_1, rfl⟩ rfl ?_
    refine ev_cVv Y_X11_isTransition L_RX11_152 dX11_removeTransition_2 ⟨Nat.le_of_ble_eq_true rfl, Nat.le_of_ble_eq_true rfl, Nat.le_of_ble_eq_true rfl, Nat.le_of_ble_eq_true rfl, Nat.le_of_ble_eq_true rfl⟩ hR.z (as := [.int (a)]) rfl rfl (c_R_isTransition hl o (zi) (zl) hR.z S.T.length hR.p.1 a) ?_
    refine ev_ifB_ne dX11_removeTransition_5 (tgt := 14) (by decide) (fun q5 => ?_) (fun q5 => ?_)
    · exact absurd (ia.symm.trans q5) (by decide)
    · refine ev_blk (B := [(.aload_n 0, 1), (.iconst 1, 1)]) (pe := 10) (ls' := [some (.ref (o)), some (.int (a)), none]) (st' := [.int (nI 1), .ref (o)]) ⟨dX11_removeTransition_8, dX11_removeTransition_9, rfl⟩ rfl ?_
      refine ev_cVv Y_X11_fails L_RX11_144 dX11_removeTransition_10 ⟨Nat.le_of_ble_eq_true rfl, Nat.le_of_ble_eq_true rfl, Nat.le_of_ble_eq_true rfl, Nat.le_of_ble_eq_true rfl, Nat.le_of_ble_eq_true rfl⟩ hR.z (as := [.int (nI 1)]) rfl rfl (c_R_fails hl o (zi) (zl) hR.z 1) ?_
      refine ev_nm (M0 := M.set o (.inr (10, zo o (ui (zi) 0 (nI 1)) (zl)))) (fun Mf eMf => ?_)
      have ff : Mf[o]? = some (.inr (10, zo o (ui (zi) 0 (nI 1)) (zl))) := by rw [eMf]; exact ev_sg hR.z
      refine ev_iret dX11_removeTransition_13 rfl (rfl) ⟨Nat.le_of_ble_eq_true rfl, Nat.le_of_ble_eq_true rfl⟩ ?_
      have W6 : FX o (o + 31) (o + 31) M Mf := ⟨by rw [eMf]; simp only [List.length_set], fun j hj1 hj2 => by rw [eMf, ev_sn (by omega)]⟩
      have e9 : sRem S a = ((1, 0), S) := by simp [sRem, ia, q5]
      rw [e9]
      exact ⟨rfl, _, _, ⟨ff, ⟨hR.p.1, hR.p.2.1, hR.p.2.2.1, hR.p.2.2.2.1, hR.p.2.2.2.2.1, hR.p.2.2.2.2.2.1, hR.p.2.2.2.2.2.2.1, hR.p.2.2.2.2.2.2.2.1, hR.p.2.2.2.2.2.2.2.2.1, hR.p.2.2.2.2.2.2.2.2.2⟩, (hR.T.fx W6 (by omega) (by omega)), (hR.H.fx W6 (by omega)), (hR.y.fx W6 (by omega)), (hR.G.fx W6 (by omega) (by omega)), (hR.a.fx W6 (by omega)), (hR.u.fx W6 (by omega)), (hR.x.fx W6 (by omega)), (hR.k.fx W6 (by omega)), (hR.s.fx W6 (by omega))⟩, rfl, (FX.fr (lo := o + 1) (hi := o + 31) (W6.to (by omega) (by omega)) (by omega) (by omega))⟩

