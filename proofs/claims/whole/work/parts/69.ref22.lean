/-! ===== the reference: a command, a text ===== -/
/-- the rows of a text that is read -/
def KRw (M : ev_M) (o : Nat) (kd tld : Nat → Int32) (tf t2 : Nat → Int64) : Prop := M[o + 23]? = some (.inl (0, 12, .inl kd)) ∧ M[o + 24]? = some (.inl (0, 48, .inl tld)) ∧ M[o + 25]? = some (.inl (1, 12, .inr (.inl tf))) ∧ M[o + 26]? = some (.inl (1, 12, .inr (.inl t2)))
theorem KRw.fx {M M1 : ev_M} {o lo hi : Nat} {kd tld : Nat → Int32} {tf t2 : Nat → Int64} (h : KRw M o kd tld tf t2) (hf : FX o lo hi M M1) (h2 : o + 27 ≤ lo ∨ hi ≤ o + 23) : KRw M1 o kd tld tf t2 := ⟨hf.at h.1 (by omega) (by omega), hf.at h.2.1 (by omega) (by omega), hf.at h.2.2.1 (by omega) (by omega), hf.at h.2.2.2 (by omega) (by omega)⟩
/-- rows that differ behind a place alone -/
def KEq (c : Nat) (kd tld kd' tld' : Nat → Int32) (tf t2 tf' t2' : Nat → Int64) : Prop := ∀ j, j < c → kd' j = kd j ∧ (∀ i, i < 4 * j + 4 → tld' i = tld i) ∧ tf' j = tf j ∧ t2' j = t2 j
theorem KEq.rf {c : Nat} {kd tld : Nat → Int32} {tf t2 : Nat → Int64} : KEq c kd tld kd tld tf t2 tf t2 := fun _ _ => ⟨rfl, fun _ _ => rfl, rfl, rfl⟩
theorem ns_s {t : Nat → Nat} {n p k : Nat} (h : nk t p (nd t n (n - p) p) = some k) : ns t n p = ((ns t n p).1, false) := by unfold ns; rw [h]
theorem ns_n {t : Nat → Nat} {n p : Nat} (h : nk t p (nd t n (n - p) p) = none) : ns t n p = (p, true) := by unfold ns; rw [h]
theorem kq_lt {r : Option Nat} (h : ∀ k, r = some k → k < 4) : kq r < 0 ↔ r = none := by
  cases r with
  | none => decide
  | some k =>
    have := h k rfl
    match k, this with
    | 0, _ => decide
    | 1, _ => decide
    | 2, _ => decide
    | 3, _ => decide
theorem cm_hs {t : Nat → Nat} {n p : Nat} {s : Nat × Bool} (h : hs t n p = s) (h2 : s.2 = true) : (cm t n p).1 = s := by
  rw [← h]; exact cm_t (by rw [h]; exact h2)
theorem pw_b (t : Nat → Nat) (n p : Nat) : pwS t n (p, false) = ((pw t n false 10 p).1, (pw t n false 10 p).2, false) := rfl
theorem psT {t : Nat → Nat} {n q lo c : Nat} : ps t n (q, true) lo c = (q, true) := ps_t rfl
theorem pwT {t : Nat → Nat} {n q : Nat} : (pwS t n (q, true)).2 = (q, true) := pwS_t rfl
theorem tl_0 {t : Nat → Nat} {n : Nat} {s : Nat × Bool} : tl t n (some 0) s = (sv t n s 48 6, 0, 0, ps t n (ps t n (ps t n s 48 6) 41 1) 59 1) := if_pos rfl
theorem tl_k {t : Nat → Nat} {n k : Nat} {s : Nat × Bool} (h : k ≠ 0) : tl t n (some k) s = (sv t n s 48 6, sv t n (ps t n (ps t n s 48 6) 44 1) 48 2, sv t n (ps t n (ps t n (ps t n (ps t n s 48 6) 44 1) 48 2) 44 1) 97 3, ps t n (ps t n (ps t n (ps t n (ps t n (ps t n (ps t n s 48 6) 44 1) 48 2) 44 1) 97 3) 41 1) 59 1) := if_neg (fun e => h (Option.some.inj e))
theorem cm_g {t : Nat → Nat} {n p : Nat} (h : nk t p (nd t n (n - p) p) = some 3) : cm t n p = ((gl t n (hs t n p)).2.2, if (gl t n (hs t n p)).2.2.2 = true then none else some (.inr (sv t n (ps t n (ns t n p) 40 1) 48 6, (gl t n (hs t n p)).1, (gl t n (hs t n p)).2.1))) := if_pos h
theorem cm_x {t : Nat → Nat} {n p k : Nat} (h : nk t p (nd t n (n - p) p) = some k) (hk : k ≠ 3) : cm t n p = ((tl t n (some k) (hs t n p)).2.2.2, if (tl t n (some k) (hs t n p)).2.2.2.2 = true then none else some (.inl (sv t n (ps t n (ns t n p) 40 1) 48 6, (tl t n (some k) (hs t n p)).1, k, (tl t n (some k) (hs t n p)).2.1, (tl t n (some k) (hs t n p)).2.2.1))) := by
  unfold cm cmT cmA
  rw [if_neg (by rw [h]; exact fun e => hk (Option.some.inj e)), h]
  rfl
theorem nk_c (t : Nat → Nat) (b e : Nat) : nk t b e = none ∨ nk t b e = some 0 ∨ nk t b e = some 1 ∨ nk t b e = some 2 ∨ nk t b e = some 3 := by
  cases h : nk t b e with
  | none => exact Or.inl rfl
  | some k =>
    have := (nk_lt h).1
    match k, this with
    | 0, _ => exact Or.inr (Or.inl rfl)
    | 1, _ => exact Or.inr (Or.inr (Or.inl rfl))
    | 2, _ => exact Or.inr (Or.inr (Or.inr (Or.inl rfl)))
    | 3, _ => exact Or.inr (Or.inr (Or.inr (Or.inr rfl)))
theorem gl_eq {t : Nat → Nat} {n : Nat} {s : Nat × Bool} : gl t n s = ((pwS t n s).1, (pwS t n (ps t n (pwS t n s).2 44 1)).1, ps t n (ps t n (pwS t n (ps t n (pwS t n s).2 44 1)).2 41 1) 59 1) := rfl
theorem hs_eq {t : Nat → Nat} {n p : Nat} : hs t n p = ps t n (ps t n (ps t n (ns t n p) 40 1) 48 6) 44 1 := rfl
set_option maxHeartbeats 4000000 in
set_option maxRecDepth 100000 in
theorem c_R_takesCommand {l : Launch} (hl : l.stackTraces = false) {M : ev_M} (o : Nat) (zi : Nat → Int32) (zl : Nat → Int64) (hO : M[o]? = some (.inr (10, zo o zi zl))) (t : Nat → Nat) (ht : tOk t) (n p : Nat) (hn : n ≤ 80) (hp : p ≤ n) (h42 : zi 42 = nI n) (h43 : zi 43 = nI p) (hx : Px M o t) (c : Nat) (hc10 : c < 10) (h44 : zi 44 = nI c) (kd tld : Nat → Int32) (tf t2 : Nat → Int64) (hK : KRw M o kd tld tf t2) : ev_Mt l m_X11_takesCommand [.ref (o)] M (fun r M1 => r = .inl (some (.int (ev_b (!(cm t n p).1.2)))) ∧ ∃ zi', M1[o]? = some (.inr (10, zo o zi' zl)) ∧ zi' 43 = nI (cm t n p).1.1 ∧ (∀ j, j ≠ 43 → zi' j = zi j) ∧ ∃ kd' tld' tf' t2', KRw M1 o kd' tld' tf' t2' ∧ KEq c kd tld kd' tld' tf t2 tf' t2' ∧ ((cm t n p).1.2 = false → ∃ x, (cm t n p).2 = some x ∧ CR x c kd' tld' tf' t2') ∧ FX o (o + 23) (o + 27) M M1) := by
  obtain ⟨k23, k24, k25, k26⟩ := hK
  refine ev_body hl rfl (by decide +kernel) (Nat.le_of_ble_eq_true rfl) ?_
  show ev_ l m_X11_takesCommand 0 0 0 [some (.ref (o)), none, none, none, none, none] [] M _
  refine ev_blk (B := [(.aload_n 0, 1)]) (pe := 1) (ls' := [some (.ref (o)), none, none, none, none, none]) (st' := [.ref (o)]) ⟨dX11_takesCommand_0, rfl⟩ rfl ?_
  refine ev_cVw Y_X11_takesKind L_RX11_327 dX11_takesCommand_1 ⟨Nat.le_of_ble_eq_true rfl, Nat.le_of_ble_eq_true rfl, Nat.le_of_ble_eq_true rfl, Nat.le_of_ble_eq_true rfl, Nat.le_of_ble_eq_true rfl⟩ hO (as := []) rfl rfl (c_R_takesKind hl o zi zl hO t ht n p hn hp h42 h43 hx) (fun M1 hL1 hB1 => ?_)
  obtain ⟨Ki, Kz, K3, KK, KF⟩ := hB1
  refine ev_blk (B := [(.istore_n 1, 1)]) (pe := 5) (ls' := [some (.ref (o)), some (.int (kq (nk t p (nd t n (n - p) p)))), none, none, none, none]) (st' := []) ⟨dX11_takesCommand_4, rfl⟩ rfl ?_
  rcases nk_c t p (nd t n (n - p) p) with hkk | hkk | hkk | hkk | hkk
  · rw [hkk]
    show ev_ l m_X11_takesCommand _ _ 5 [some (.ref (o)), some (.int ((-1))), none, none, none, none] [] _ _
    refine ev_blk (B := [(.iload_n 1, 1)]) (pe := 6) (ls' := [some (.ref (o)), some (.int ((-1))), none, none, none, none]) (st' := [.int ((-1))]) ⟨dX11_takesCommand_5, rfl⟩ rfl ?_
    refine ev_if_lt dX11_takesCommand_6 (tgt := 39) (by decide) (fun q6 => ?_) (fun q6 => ?_)
    · refine ev_blk (B := [(.iconst 0, 1)]) (pe := 40) (ls' := [some (.ref (o)), some (.int ((-1))), none, none, none, none]) (st' := [.int (nI 0)]) ⟨dX11_takesCommand_39, rfl⟩ rfl ?_
      refine ev_iret dX11_takesCommand_40 rfl (rfl) ⟨Nat.le_of_ble_eq_true rfl, Nat.le_of_ble_eq_true rfl⟩ ?_
      have hns0 := ns_n hkk
      have hcm : (cm t n p).1 = (p, true) := cm_hs (by rw [hs_eq, hns0, psT, psT, psT]) rfl
      rw [hcm]
      exact ⟨rfl, _, Kz, by rw [K3, hns0], fun j hj => KK j hj, kd, tld, tf, t2, ⟨(KF.at k23 (by omega) (by omega)), (KF.at k24 (by omega) (by omega)), (KF.at k25 (by omega) (by omega)), (KF.at k26 (by omega) (by omega))⟩, KEq.rf, (fun z => by cases z), (KF.em (by omega))⟩
    · exact absurd (by decide) q6
  · rw [hkk]
    show ev_ l m_X11_takesCommand _ _ 5 [some (.ref (o)), some (.int (nI 2)), none, none, none, none] [] _ _
    have hns0 := ns_s hkk
    rw [hns0] at K3
    have l1 := ns_le (t := t) (n := n) hp
    rw [hns0] at l1
    obtain ⟨p1, hq1⟩ : ∃ q, q = (ns t n p).1 := ⟨_, rfl⟩
    rw [← hq1] at hns0
    have hq1b : (ns t n p).1 = p1 := hq1.symm
    replace K3 : Ki 43 = nI p1 := K3.trans (congrArg nI hq1b)
    replace l1 : p1 ≤ n := hq1 ▸ l1
    refine ev_blk (B := [(.iload_n 1, 1)]) (pe := 6) (ls' := [some (.ref (o)), some (.int (nI 2)), none, none, none, none]) (st' := [.int (nI 2)]) ⟨dX11_takesCommand_5, rfl⟩ rfl ?_
    refine ev_fN_lt dX11_takesCommand_6 (tgt := 39) (by decide) (by omega) ?_
    refine ev_blk (B := [(.aload_n 0, 1), (.bipush 40, 2)]) (pe := 12) (ls' := [some (.ref (o)), some (.int (nI 2)), none, none, none, none]) (st' := [.int (nI 40), .ref (o)]) ⟨dX11_takesCommand_9, dX11_takesCommand_10, rfl⟩ rfl ?_
    refine ev_cVw Y_X11_skips L_RX11_330 dX11_takesCommand_12 ⟨Nat.le_of_ble_eq_true rfl, Nat.le_of_ble_eq_true rfl, Nat.le_of_ble_eq_true rfl, Nat.le_of_ble_eq_true rfl, Nat.le_of_ble_eq_true rfl⟩ Kz (as := [.int (nI 40)]) rfl rfl (c_R_skips hl o (Ki) (zl) Kz t ht n p1 hn l1 (((KK 42 (by decide)).trans h42)) K3 (hx.fx KF (by omega)) 40 (by decide)) (fun M3 hL3 hB3 => ?_)
    obtain ⟨⟨Z2i, Z2z, Z23, Z2K⟩, Z2F⟩ := hB3
    refine ev_ifB_eq dX11_takesCommand_15 (tgt := 39) (by decide) (fun q15 => ?_) (fun q15 => ?_)
    · refine ev_blk (B := [(.iconst 0, 1)]) (pe := 40) (ls' := [some (.ref (o)), some (.int (nI 2)), none, none, none, none]) (st' := [.int (nI 0)]) ⟨dX11_takesCommand_39, rfl⟩ rfl ?_
      refine ev_iret dX11_takesCommand_40 rfl (rfl) ⟨Nat.le_of_ble_eq_true rfl, Nat.le_of_ble_eq_true rfl⟩ ?_
      have ef : ps t n (p1, false) 40 1 = (p1, true) := ps_n q15
      rw [ef] at Z23
      have hcm : (cm t n p).1 = (p1, true) := by
        rw [cm_x hkk (show 0 ≠ 3 by decide)]
        simp only [hs_eq, hns0, gl_eq, pw_b, psT, pwT, tl_0, psT, ef]
        first | done | rfl
      rw [hcm]
      exact ⟨rfl, _, Z2z, Z23, fun j hj => (Z2K j hj).trans (KK j hj), _, _, _, _, ⟨(Z2F.at (KF.at k23 (by omega) (by omega)) (by omega) (by omega)), (Z2F.at (KF.at k24 (by omega) (by omega)) (by omega) (by omega)), (Z2F.at (KF.at k25 (by omega) (by omega)) (by omega) (by omega)), (Z2F.at (KF.at k26 (by omega) (by omega)) (by omega) (by omega))⟩, fun j hj => ⟨rfl, fun i hi => rfl, rfl, rfl⟩, (fun z => by cases z), ((KF.em (by omega)).tr (Z2F.em (by omega)))⟩
    · have l2 := (ps_le (t := t) (n := n) (s := (p1, false)) (lo := 40) (c := 1) l1).1
      have ee2 : ps t n (p1, false) 40 1 = (p1 + 1, false) := ps_y q15
      have sv2 := sv_y q15
      rw [ee2] at l2 Z23
      obtain ⟨p2, hq2⟩ : ∃ q, q = p1 + 1 := ⟨_, rfl⟩
      rw [← hq2] at ee2 l2 Z23
      refine ev_blk (B := [(.aload_n 0, 1), (.iconst 0, 1), (.bipush 48, 2), (.bipush 53, 2)]) (pe := 24) (ls' := [some (.ref (o)), some (.int (nI 2)), none, none, none, none]) (st' := [.int (nI 53), .int (nI 48), .int (nI 0), .ref (o)]) ⟨dX11_takesCommand_18, dX11_takesCommand_19, dX11_takesCommand_20, dX11_takesCommand_22, rfl⟩ rfl ?_
      refine ev_cVw Y_X11_takesSign L_RX11_333 dX11_takesCommand_24 ⟨Nat.le_of_ble_eq_true rfl, Nat.le_of_ble_eq_true rfl, Nat.le_of_ble_eq_true rfl, Nat.le_of_ble_eq_true rfl, Nat.le_of_ble_eq_true rfl⟩ Z2z (as := [.int (nI 0), .int (nI 48), .int (nI 53)]) rfl rfl (c_R_takesSign hl o (Z2i) (zl) Z2z t ht n p2 hn l2 (((Z2K 42 (by decide)).trans (((KK 42 (by decide)).trans h42)))) Z23 (Px.fx (t := t) (hx.fx KF (by omega)) Z2F (by omega)) c hc10 (((Z2K 44 (by decide)).trans (((KK 44 (by decide)).trans h44)))) tld (Z2F.at (KF.at k24 (by omega) (by omega)) (by omega) (by omega)) 0 (by decide) 48 53 6 (by decide) (by decide) (by decide)) (fun M5 hL5 hB5 => ?_)
      obtain ⟨⟨Z4i, Z4z, Z43, Z4K⟩, Z4t, Z44, Z4y, Z4n, Z4F⟩ := hB5
      refine ev_ifB_eq dX11_takesCommand_27 (tgt := 39) (by decide) (fun q27 => ?_) (fun q27 => ?_)
      · refine ev_blk (B := [(.iconst 0, 1)]) (pe := 40) (ls' := [some (.ref (o)), some (.int (nI 2)), none, none, none, none]) (st' := [.int (nI 0)]) ⟨dX11_takesCommand_39, rfl⟩ rfl ?_
        refine ev_iret dX11_takesCommand_40 rfl (rfl) ⟨Nat.le_of_ble_eq_true rfl, Nat.le_of_ble_eq_true rfl⟩ ?_
        have ef : ps t n (p2, false) 48 6 = (p2, true) := ps_n q27
        rw [ef] at Z43
        have hcm : (cm t n p).1 = (p2, true) := by
          rw [cm_x hkk (show 0 ≠ 3 by decide)]
          simp only [hs_eq, hns0, gl_eq, pw_b, psT, pwT, tl_0, ee2, ef]
          first | done | rfl
        rw [hcm]
        exact ⟨rfl, _, Z4z, Z43, fun j hj => (Z4K j hj).trans ((Z2K j hj).trans (KK j hj)), _, _, _, _, ⟨(Z4F.at (Z2F.at (KF.at k23 (by omega) (by omega)) (by omega) (by omega)) (by omega) (by omega)), Z44, (Z4F.at (Z2F.at (KF.at k25 (by omega) (by omega)) (by omega) (by omega)) (by omega) (by omega)), (Z4F.at (Z2F.at (KF.at k26 (by omega) (by omega)) (by omega) (by omega)) (by omega) (by omega))⟩, fun j hj => ⟨rfl, fun i hi => (Z4n i (by omega)), rfl, rfl⟩, (fun z => by cases z), (((KF.em (by omega)).tr (Z2F.em (by omega))).tr (Z4F.to (by omega) (by omega)))⟩
      · have l3 := (ps_le (t := t) (n := n) (s := (p2, false)) (lo := 48) (c := 6) l2).1
        have ee3 : ps t n (p2, false) 48 6 = (p2 + 1, false) := ps_y q27
        have sv3 := sv_y q27
        rw [ee3] at l3 Z43
        have y3 := Z4y q27
        obtain ⟨p3, hq3⟩ : ∃ q, q = p2 + 1 := ⟨_, rfl⟩
        rw [← hq3] at ee3 l3 Z43
        refine ev_blk (B := [(.aload_n 0, 1), (.bipush 44, 2)]) (pe := 33) (ls' := [some (.ref (o)), some (.int (nI 2)), none, none, none, none]) (st' := [.int (nI 44), .ref (o)]) ⟨dX11_takesCommand_30, dX11_takesCommand_31, rfl⟩ rfl ?_
        refine ev_cVw Y_X11_skips L_RX11_330 dX11_takesCommand_33 ⟨Nat.le_of_ble_eq_true rfl, Nat.le_of_ble_eq_true rfl, Nat.le_of_ble_eq_true rfl, Nat.le_of_ble_eq_true rfl, Nat.le_of_ble_eq_true rfl⟩ Z4z (as := [.int (nI 44)]) rfl rfl (c_R_skips hl o (Z4i) (zl) Z4z t ht n p3 hn l3 (((Z4K 42 (by decide)).trans (((Z2K 42 (by decide)).trans (((KK 42 (by decide)).trans h42)))))) Z43 (Px.fx (t := t) (Px.fx (t := t) (hx.fx KF (by omega)) Z2F (by omega)) Z4F (by omega)) 44 (by decide)) (fun M7 hL7 hB7 => ?_)
        obtain ⟨⟨Z6i, Z6z, Z63, Z6K⟩, Z6F⟩ := hB7
        refine ev_ifB_ne dX11_takesCommand_36 (tgt := 41) (by decide) (fun q36 => ?_) (fun q36 => ?_)
        · have l4 := (ps_le (t := t) (n := n) (s := (p3, false)) (lo := 44) (c := 1) l3).1
          have ee4 : ps t n (p3, false) 44 1 = (p3 + 1, false) := ps_y q36
          have sv4 := sv_y q36
          rw [ee4] at l4 Z63
          obtain ⟨p4, hq4⟩ : ∃ q, q = p3 + 1 := ⟨_, rfl⟩
          rw [← hq4] at ee4 l4 Z63
          refine ev_blk (B := [(.aload_n 0, 1)]) (pe := 42) (ls' := [some (.ref (o)), some (.int (nI 2)), none, none, none, none]) (st' := [.ref (o)]) ⟨dX11_takesCommand_41, rfl⟩ rfl ?_
          refine ev_getf (v := .int (nI c)) F_RX11_322 dX11_takesCommand_42 Z6z (congrArg (fun q => some (Value.int q)) ((Z6K 44 (by decide)).trans (((Z4K 44 (by decide)).trans (((Z2K 44 (by decide)).trans (((KK 44 (by decide)).trans h44)))))))) ?_
          refine ev_blk (B := [(.bipush 10, 2)]) (pe := 47) (ls' := [some (.ref (o)), some (.int (nI 2)), none, none, none, none]) (st' := [.int (nI 10), .int (nI c)]) ⟨dX11_takesCommand_45, rfl⟩ rfl ?_
          refine ev_iN_ge dX11_takesCommand_47 (tgt := 60) (by decide) (by omega) (by omega) (fun q47 => ?_) (fun q47 => ?_)
          · exfalso; omega
          · refine ev_blk (B := [(.aload_n 0, 1)]) (pe := 51) (ls' := [some (.ref (o)), some (.int (nI 2)), none, none, none, none]) (st' := [.ref (o)]) ⟨dX11_takesCommand_50, rfl⟩ rfl ?_
            refine ev_getf (v := .ref (o + 23)) F_RX11_78 dX11_takesCommand_51 Z6z rfl ?_
            refine ev_blk (B := [(.aload_n 0, 1)]) (pe := 55) (ls' := [some (.ref (o)), some (.int (nI 2)), none, none, none, none]) (st' := [.ref (o), .ref (o + 23)]) ⟨dX11_takesCommand_54, rfl⟩ rfl ?_
            refine ev_getf (v := .int (nI c)) F_RX11_322 dX11_takesCommand_55 Z6z (congrArg (fun q => some (Value.int q)) ((Z6K 44 (by decide)).trans (((Z4K 44 (by decide)).trans (((Z2K 44 (by decide)).trans (((KK 44 (by decide)).trans h44)))))))) ?_
            refine ev_blk (B := [(.iload_n 1, 1)]) (pe := 59) (ls' := [some (.ref (o)), some (.int (nI 2)), none, none, none, none]) (st' := [.int (nI 2), .int (nI c), .ref (o + 23)]) ⟨dX11_takesCommand_58, rfl⟩ rfl ?_
            refine ev_iast dX11_takesCommand_59 (Z6F.at (Z4F.at (Z2F.at (KF.at k23 (by omega) (by omega)) (by omega) (by omega)) (by omega) (by omega)) (by omega) (by omega)) (vp_in_nI (show c < 12 by omega) (by omega)) ?_
            rw [nI_clamp (show c < 2 ^ 31 by omega)]
            refine ev_nm (M0 := M7.set (o + 23) (.inl (0, 12, .inl (upd kd c (nI 2))))) (fun M8 eM8 => ?_)
            have f9 : M8[o]? = some (.inr (10, zo o (Z6i) (zl))) := by rw [eM8, ev_sn (by omega)]; exact Z6z
            have f10 : M8[o + 22]? = some (.inl (2, 80, .inl (fun i => nI (t i)))) := by rw [eM8, ev_sn (by omega)]; exact (Px.fx (t := t) (Px.fx (t := t) (Px.fx (t := t) (hx.fx KF (by omega)) Z2F (by omega)) Z4F (by omega)) Z6F (by omega))
            have f11 : M8[o + 23]? = some (.inl (0, 12, .inl (upd kd c (nI 2)))) := by rw [eM8]; exact ev_sg (Z6F.at (Z4F.at (Z2F.at (KF.at k23 (by omega) (by omega)) (by omega) (by omega)) (by omega) (by omega)) (by omega) (by omega))
            have f12 : M8[o + 24]? = some (.inl (0, 48, .inl (Z4t))) := by rw [eM8, ev_sn (by omega)]; exact (Z6F.at Z44 (by omega) (by omega))
            have f13 : M8[o + 25]? = some (.inl (1, 12, .inr (.inl (tf)))) := by rw [eM8, ev_sn (by omega)]; exact (Z6F.at (Z4F.at (Z2F.at (KF.at k25 (by omega) (by omega)) (by omega) (by omega)) (by omega) (by omega)) (by omega) (by omega))
            have f14 : M8[o + 26]? = some (.inl (1, 12, .inr (.inl (t2)))) := by rw [eM8, ev_sn (by omega)]; exact (Z6F.at (Z4F.at (Z2F.at (KF.at k26 (by omega) (by omega)) (by omega) (by omega)) (by omega) (by omega)) (by omega) (by omega))
            refine ev_blk (B := [(.iload_n 1, 1), (.iconst 3, 1)]) (pe := 62) (ls' := [some (.ref (o)), some (.int (nI 2)), none, none, none, none]) (st' := [.int (nI 3), .int (nI 2)]) ⟨dX11_takesCommand_60, dX11_takesCommand_61, rfl⟩ rfl ?_
            refine ev_iN_ne dX11_takesCommand_62 (tgt := 120) (by decide) (by omega) (by omega) (fun q62 => ?_) (fun q62 => ?_)
            · refine ev_blk (B := [(.aload_n 0, 1), (.iconst 1, 1), (.bipush 48, 2), (.bipush 53, 2)]) (pe := 126) (ls' := [some (.ref (o)), some (.int (nI 2)), none, none, none, none]) (st' := [.int (nI 53), .int (nI 48), .int (nI 1), .ref (o)]) ⟨dX11_takesCommand_120, dX11_takesCommand_121, dX11_takesCommand_122, dX11_takesCommand_124, rfl⟩ rfl ?_
              have V15 : FX o (o + 23) (o + 27) M7 M8 := ⟨by rw [eM8]; simp only [List.length_set], fun j hj1 hj2 => by rw [eM8, ev_sn (by omega)]⟩
              refine ev_cVw Y_X11_takesSign L_RX11_333 dX11_takesCommand_126 ⟨Nat.le_of_ble_eq_true rfl, Nat.le_of_ble_eq_true rfl, Nat.le_of_ble_eq_true rfl, Nat.le_of_ble_eq_true rfl, Nat.le_of_ble_eq_true rfl⟩ f9 (as := [.int (nI 1), .int (nI 48), .int (nI 53)]) rfl rfl (c_R_takesSign hl o (Z6i) (zl) f9 t ht n p4 hn l4 (((Z6K 42 (by decide)).trans (((Z4K 42 (by decide)).trans (((Z2K 42 (by decide)).trans (((KK 42 (by decide)).trans h42)))))))) Z63 f10 c hc10 (((Z6K 44 (by decide)).trans (((Z4K 44 (by decide)).trans (((Z2K 44 (by decide)).trans (((KK 44 (by decide)).trans h44)))))))) Z4t f12 1 (by decide) 48 53 6 (by decide) (by decide) (by decide)) (fun M17 hL17 hB17 => ?_)
              obtain ⟨⟨Z16i, Z16z, Z163, Z16K⟩, Z16t, Z164, Z16y, Z16n, Z16F⟩ := hB17
              refine ev_ifB_ne dX11_takesCommand_129 (tgt := 134) (by decide) (fun q129 => ?_) (fun q129 => ?_)
              · have l5 := (ps_le (t := t) (n := n) (s := (p4, false)) (lo := 48) (c := 6) l4).1
                have ee5 : ps t n (p4, false) 48 6 = (p4 + 1, false) := ps_y q129
                have sv5 := sv_y q129
                rw [ee5] at l5 Z163
                have y5 := Z16y q129
                obtain ⟨p5, hq5⟩ : ∃ q, q = p4 + 1 := ⟨_, rfl⟩
                rw [← hq5] at ee5 l5 Z163
                refine ev_blk (B := [(.iload_n 1, 1), (.iconst 2, 1)]) (pe := 136) (ls' := [some (.ref (o)), some (.int (nI 2)), none, none, none, none]) (st' := [.int (nI 2), .int (nI 2)]) ⟨dX11_takesCommand_134, dX11_takesCommand_135, rfl⟩ rfl ?_
                refine ev_iN_ge dX11_takesCommand_136 (tgt := 183) (by decide) (by omega) (by omega) (fun q136 => ?_) (fun q136 => ?_)
                · refine ev_blk (B := [(.aload_n 0, 1), (.bipush 41, 2)]) (pe := 186) (ls' := [some (.ref (o)), some (.int (nI 2)), none, none, none, none]) (st' := [.int (nI 41), .ref (o)]) ⟨dX11_takesCommand_183, dX11_takesCommand_184, rfl⟩ rfl ?_
                  refine ev_cVw Y_X11_skips L_RX11_330 dX11_takesCommand_186 ⟨Nat.le_of_ble_eq_true rfl, Nat.le_of_ble_eq_true rfl, Nat.le_of_ble_eq_true rfl, Nat.le_of_ble_eq_true rfl, Nat.le_of_ble_eq_true rfl⟩ Z16z (as := [.int (nI 41)]) rfl rfl (c_R_skips hl o (Z16i) (zl) Z16z t ht n p5 hn l5 (((Z16K 42 (by decide)).trans (((Z6K 42 (by decide)).trans (((Z4K 42 (by decide)).trans (((Z2K 42 (by decide)).trans (((KK 42 (by decide)).trans h42)))))))))) Z163 (Px.fx (t := t) f10 Z16F (by omega)) 41 (by decide)) (fun M19 hL19 hB19 => ?_)
                  obtain ⟨⟨Z18i, Z18z, Z183, Z18K⟩, Z18F⟩ := hB19
                  refine ev_ifB_eq dX11_takesCommand_189 (tgt := 205) (by decide) (fun q189 => ?_) (fun q189 => ?_)
                  · refine ev_blk (B := [(.iconst 0, 1)]) (pe := 206) (ls' := [some (.ref (o)), some (.int (nI 2)), none, none, none, none]) (st' := [.int (nI 0)]) ⟨dX11_takesCommand_205, rfl⟩ rfl ?_
                    refine ev_iret dX11_takesCommand_206 rfl (rfl) ⟨Nat.le_of_ble_eq_true rfl, Nat.le_of_ble_eq_true rfl⟩ ?_
                    have ef : ps t n (p5, false) 41 1 = (p5, true) := ps_n q189
                    rw [ef] at Z183
                    have hcm : (cm t n p).1 = (p5, true) := by
                      rw [cm_x hkk (show 0 ≠ 3 by decide)]
                      simp only [hs_eq, hns0, gl_eq, pw_b, psT, pwT, tl_0, ee2, ee3, ee4, ee5, ef]
                      first | done | rfl
                    rw [hcm]
                    exact ⟨rfl, _, Z18z, Z183, fun j hj => (Z18K j hj).trans ((Z16K j hj).trans ((Z6K j hj).trans ((Z4K j hj).trans ((Z2K j hj).trans (KK j hj))))), _, _, _, _, ⟨(Z18F.at (Z16F.at f11 (by omega) (by omega)) (by omega) (by omega)), (Z18F.at Z164 (by omega) (by omega)), (Z18F.at (Z16F.at f13 (by omega) (by omega)) (by omega) (by omega)), (Z18F.at (Z16F.at f14 (by omega) (by omega)) (by omega) (by omega))⟩, fun j hj => ⟨by rw [upd_at, if_neg (by omega)], fun i hi => ((Z16n i (by omega)).trans (Z4n i (by omega))), rfl, rfl⟩, (fun z => by cases z), (((((((KF.em (by omega)).tr (Z2F.em (by omega))).tr (Z4F.to (by omega) (by omega))).tr (Z6F.em (by omega))).tr (V15.to (by omega) (by omega))).tr (Z16F.to (by omega) (by omega))).tr (Z18F.em (by omega)))⟩
                  · have l6 := (ps_le (t := t) (n := n) (s := (p5, false)) (lo := 41) (c := 1) l5).1
                    have ee6 : ps t n (p5, false) 41 1 = (p5 + 1, false) := ps_y q189
                    have sv6 := sv_y q189
                    rw [ee6] at l6 Z183
                    obtain ⟨p6, hq6⟩ : ∃ q, q = p5 + 1 := ⟨_, rfl⟩
                    rw [← hq6] at ee6 l6 Z183
                    refine ev_blk (B := [(.aload_n 0, 1), (.bipush 59, 2)]) (pe := 195) (ls' := [some (.ref (o)), some (.int (nI 2)), none, none, none, none]) (st' := [.int (nI 59), .ref (o)]) ⟨dX11_takesCommand_192, dX11_takesCommand_193, rfl⟩ rfl ?_
                    refine ev_cVw Y_X11_skips L_RX11_330 dX11_takesCommand_195 ⟨Nat.le_of_ble_eq_true rfl, Nat.le_of_ble_eq_true rfl, Nat.le_of_ble_eq_true rfl, Nat.le_of_ble_eq_true rfl, Nat.le_of_ble_eq_true rfl⟩ Z18z (as := [.int (nI 59)]) rfl rfl (c_R_skips hl o (Z18i) (zl) Z18z t ht n p6 hn l6 (((Z18K 42 (by decide)).trans (((Z16K 42 (by decide)).trans (((Z6K 42 (by decide)).trans (((Z4K 42 (by decide)).trans (((Z2K 42 (by decide)).trans (((KK 42 (by decide)).trans h42)))))))))))) Z183 (Px.fx (t := t) (Px.fx (t := t) f10 Z16F (by omega)) Z18F (by omega)) 59 (by decide)) (fun M21 hL21 hB21 => ?_)
                    obtain ⟨⟨Z20i, Z20z, Z203, Z20K⟩, Z20F⟩ := hB21
                    refine ev_ifB_eq dX11_takesCommand_198 (tgt := 205) (by decide) (fun q198 => ?_) (fun q198 => ?_)
                    · refine ev_blk (B := [(.iconst 0, 1)]) (pe := 206) (ls' := [some (.ref (o)), some (.int (nI 2)), none, none, none, none]) (st' := [.int (nI 0)]) ⟨dX11_takesCommand_205, rfl⟩ rfl ?_
                      refine ev_iret dX11_takesCommand_206 rfl (rfl) ⟨Nat.le_of_ble_eq_true rfl, Nat.le_of_ble_eq_true rfl⟩ ?_
                      have ef : ps t n (p6, false) 59 1 = (p6, true) := ps_n q198
                      rw [ef] at Z203
                      have hcm : (cm t n p).1 = (p6, true) := by
                        rw [cm_x hkk (show 0 ≠ 3 by decide)]
                        simp only [hs_eq, hns0, gl_eq, pw_b, psT, pwT, tl_0, ee2, ee3, ee4, ee5, ee6, ef]
                        first | done | rfl
                      rw [hcm]
                      exact ⟨rfl, _, Z20z, Z203, fun j hj => (Z20K j hj).trans ((Z18K j hj).trans ((Z16K j hj).trans ((Z6K j hj).trans ((Z4K j hj).trans ((Z2K j hj).trans (KK j hj)))))), _, _, _, _, ⟨(Z20F.at (Z18F.at (Z16F.at f11 (by omega) (by omega)) (by omega) (by omega)) (by omega) (by omega)), (Z20F.at (Z18F.at Z164 (by omega) (by omega)) (by omega) (by omega)), (Z20F.at (Z18F.at (Z16F.at f13 (by omega) (by omega)) (by omega) (by omega)) (by omega) (by omega)), (Z20F.at (Z18F.at (Z16F.at f14 (by omega) (by omega)) (by omega) (by omega)) (by omega) (by omega))⟩, fun j hj => ⟨by rw [upd_at, if_neg (by omega)], fun i hi => ((Z16n i (by omega)).trans (Z4n i (by omega))), rfl, rfl⟩, (fun z => by cases z), ((((((((KF.em (by omega)).tr (Z2F.em (by omega))).tr (Z4F.to (by omega) (by omega))).tr (Z6F.em (by omega))).tr (V15.to (by omega) (by omega))).tr (Z16F.to (by omega) (by omega))).tr (Z18F.em (by omega))).tr (Z20F.em (by omega)))⟩
                    · have l7 := (ps_le (t := t) (n := n) (s := (p6, false)) (lo := 59) (c := 1) l6).1
                      have ee7 : ps t n (p6, false) 59 1 = (p6 + 1, false) := ps_y q198
                      have sv7 := sv_y q198
                      rw [ee7] at l7 Z203
                      obtain ⟨p7, hq7⟩ : ∃ q, q = p6 + 1 := ⟨_, rfl⟩
                      rw [← hq7] at ee7 l7 Z203
                      refine ev_blk (B := [(.iconst 1, 1)]) (pe := 202) (ls' := [some (.ref (o)), some (.int (nI 2)), none, none, none, none]) (st' := [.int (nI 1)]) ⟨dX11_takesCommand_201, rfl⟩ rfl ?_
                      refine ev_goto (tgt := 206) dX11_takesCommand_202 (by decide) ?_
                      refine ev_iret dX11_takesCommand_206 rfl (rfl) ⟨Nat.le_of_ble_eq_true rfl, Nat.le_of_ble_eq_true rfl⟩ ?_
                      have hcm : cm t n p = ((p7, false), some (.inl (sv t n (p2, false) 48 6, sv t n (p4, false) 48 6, 0, 0, 0))) := by
                        rw [cm_x hkk (show 0 ≠ 3 by decide)]
                        simp only [hs_eq, hns0, gl_eq, pw_b, psT, pwT, tl_0, ee2, ee3, ee4, ee5, ee6, ee7]
                        first | done | rfl
                      rw [hcm]
                      exact ⟨rfl, _, Z20z, Z203, fun j hj => (Z20K j hj).trans ((Z18K j hj).trans ((Z16K j hj).trans ((Z6K j hj).trans ((Z4K j hj).trans ((Z2K j hj).trans (KK j hj)))))), _, _, _, _, ⟨(Z20F.at (Z18F.at (Z16F.at f11 (by omega) (by omega)) (by omega) (by omega)) (by omega) (by omega)), (Z20F.at (Z18F.at Z164 (by omega) (by omega)) (by omega) (by omega)), (Z20F.at (Z18F.at (Z16F.at f13 (by omega) (by omega)) (by omega) (by omega)) (by omega) (by omega)), (Z20F.at (Z18F.at (Z16F.at f14 (by omega) (by omega)) (by omega) (by omega)) (by omega) (by omega))⟩, fun j hj => ⟨by rw [upd_at, if_neg (by omega)], fun i hi => ((Z16n i (by omega)).trans (Z4n i (by omega))), rfl, rfl⟩, (fun _ => ⟨_, rfl, ⟨by rw [upd_at, if_pos rfl]; rfl, ((Z16n _ (by omega)).trans y3), y5, fun z => absurd rfl z⟩⟩), ((((((((KF.em (by omega)).tr (Z2F.em (by omega))).tr (Z4F.to (by omega) (by omega))).tr (Z6F.em (by omega))).tr (V15.to (by omega) (by omega))).tr (Z16F.to (by omega) (by omega))).tr (Z18F.em (by omega))).tr (Z20F.em (by omega)))⟩
                · exfalso; omega
              · refine ev_blk (B := [(.iconst 0, 1)]) (pe := 133) (ls' := [some (.ref (o)), some (.int (nI 2)), none, none, none, none]) (st' := [.int (nI 0)]) ⟨dX11_takesCommand_132, rfl⟩ rfl ?_
                refine ev_iret dX11_takesCommand_133 rfl (rfl) ⟨Nat.le_of_ble_eq_true rfl, Nat.le_of_ble_eq_true rfl⟩ ?_
                have ef : ps t n (p4, false) 48 6 = (p4, true) := ps_n q129
                rw [ef] at Z163
                have hcm : (cm t n p).1 = (p4, true) := by
                  rw [cm_x hkk (show 0 ≠ 3 by decide)]
                  simp only [hs_eq, hns0, gl_eq, pw_b, psT, pwT, tl_0, ee2, ee3, ee4, ef]
                  first | done | rfl
                rw [hcm]
                exact ⟨rfl, _, Z16z, Z163, fun j hj => (Z16K j hj).trans ((Z6K j hj).trans ((Z4K j hj).trans ((Z2K j hj).trans (KK j hj)))), _, _, _, _, ⟨(Z16F.at f11 (by omega) (by omega)), Z164, (Z16F.at f13 (by omega) (by omega)), (Z16F.at f14 (by omega) (by omega))⟩, fun j hj => ⟨by rw [upd_at, if_neg (by omega)], fun i hi => ((Z16n i (by omega)).trans (Z4n i (by omega))), rfl, rfl⟩, (fun z => by cases z), ((((((KF.em (by omega)).tr (Z2F.em (by omega))).tr (Z4F.to (by omega) (by omega))).tr (Z6F.em (by omega))).tr (V15.to (by omega) (by omega))).tr (Z16F.to (by omega) (by omega)))⟩
            · exact absurd q62 (by decide)
        · refine ev_blk (B := [(.iconst 0, 1)]) (pe := 40) (ls' := [some (.ref (o)), some (.int (nI 2)), none, none, none, none]) (st' := [.int (nI 0)]) ⟨dX11_takesCommand_39, rfl⟩ rfl ?_
          refine ev_iret dX11_takesCommand_40 rfl (rfl) ⟨Nat.le_of_ble_eq_true rfl, Nat.le_of_ble_eq_true rfl⟩ ?_
          have ef : ps t n (p3, false) 44 1 = (p3, true) := ps_n q36
          rw [ef] at Z63
          have hcm : (cm t n p).1 = (p3, true) := by
            rw [cm_x hkk (show 0 ≠ 3 by decide)]
            simp only [hs_eq, hns0, gl_eq, pw_b, psT, pwT, tl_0, ee2, ee3, ef]
            first | done | rfl
          rw [hcm]
          exact ⟨rfl, _, Z6z, Z63, fun j hj => (Z6K j hj).trans ((Z4K j hj).trans ((Z2K j hj).trans (KK j hj))), _, _, _, _, ⟨(Z6F.at (Z4F.at (Z2F.at (KF.at k23 (by omega) (by omega)) (by omega) (by omega)) (by omega) (by omega)) (by omega) (by omega)), (Z6F.at Z44 (by omega) (by omega)), (Z6F.at (Z4F.at (Z2F.at (KF.at k25 (by omega) (by omega)) (by omega) (by omega)) (by omega) (by omega)) (by omega) (by omega)), (Z6F.at (Z4F.at (Z2F.at (KF.at k26 (by omega) (by omega)) (by omega) (by omega)) (by omega) (by omega)) (by omega) (by omega))⟩, fun j hj => ⟨rfl, fun i hi => (Z4n i (by omega)), rfl, rfl⟩, (fun z => by cases z), ((((KF.em (by omega)).tr (Z2F.em (by omega))).tr (Z4F.to (by omega) (by omega))).tr (Z6F.em (by omega)))⟩
  · rw [hkk]
    show ev_ l m_X11_takesCommand _ _ 5 [some (.ref (o)), some (.int (nI 0)), none, none, none, none] [] _ _
    have hns0 := ns_s hkk
    rw [hns0] at K3
    have l1 := ns_le (t := t) (n := n) hp
    rw [hns0] at l1
    obtain ⟨p1, hq1⟩ : ∃ q, q = (ns t n p).1 := ⟨_, rfl⟩
    rw [← hq1] at hns0
    have hq1b : (ns t n p).1 = p1 := hq1.symm
    replace K3 : Ki 43 = nI p1 := K3.trans (congrArg nI hq1b)
    replace l1 : p1 ≤ n := hq1 ▸ l1
    refine ev_blk (B := [(.iload_n 1, 1)]) (pe := 6) (ls' := [some (.ref (o)), some (.int (nI 0)), none, none, none, none]) (st' := [.int (nI 0)]) ⟨dX11_takesCommand_5, rfl⟩ rfl ?_
    refine ev_fN_lt dX11_takesCommand_6 (tgt := 39) (by decide) (by omega) ?_
    refine ev_blk (B := [(.aload_n 0, 1), (.bipush 40, 2)]) (pe := 12) (ls' := [some (.ref (o)), some (.int (nI 0)), none, none, none, none]) (st' := [.int (nI 40), .ref (o)]) ⟨dX11_takesCommand_9, dX11_takesCommand_10, rfl⟩ rfl ?_
    refine ev_cVw Y_X11_skips L_RX11_330 dX11_takesCommand_12 ⟨Nat.le_of_ble_eq_true rfl, Nat.le_of_ble_eq_true rfl, Nat.le_of_ble_eq_true rfl, Nat.le_of_ble_eq_true rfl, Nat.le_of_ble_eq_true rfl⟩ Kz (as := [.int (nI 40)]) rfl rfl (c_R_skips hl o (Ki) (zl) Kz t ht n p1 hn l1 (((KK 42 (by decide)).trans h42)) K3 (hx.fx KF (by omega)) 40 (by decide)) (fun M23 hL23 hB23 => ?_)
    obtain ⟨⟨Z22i, Z22z, Z223, Z22K⟩, Z22F⟩ := hB23
    refine ev_ifB_eq dX11_takesCommand_15 (tgt := 39) (by decide) (fun q15 => ?_) (fun q15 => ?_)
    · refine ev_blk (B := [(.iconst 0, 1)]) (pe := 40) (ls' := [some (.ref (o)), some (.int (nI 0)), none, none, none, none]) (st' := [.int (nI 0)]) ⟨dX11_takesCommand_39, rfl⟩ rfl ?_
      refine ev_iret dX11_takesCommand_40 rfl (rfl) ⟨Nat.le_of_ble_eq_true rfl, Nat.le_of_ble_eq_true rfl⟩ ?_
      have ef : ps t n (p1, false) 40 1 = (p1, true) := ps_n q15
      rw [ef] at Z223
      have hcm : (cm t n p).1 = (p1, true) := by
        rw [cm_x hkk (show 1 ≠ 3 by decide)]
        simp only [hs_eq, hns0, gl_eq, pw_b, psT, pwT, tl_0, tl_k (show 1 ≠ 0 by decide), psT, ef]
        first | done | rfl
      rw [hcm]
      exact ⟨rfl, _, Z22z, Z223, fun j hj => (Z22K j hj).trans (KK j hj), _, _, _, _, ⟨(Z22F.at (KF.at k23 (by omega) (by omega)) (by omega) (by omega)), (Z22F.at (KF.at k24 (by omega) (by omega)) (by omega) (by omega)), (Z22F.at (KF.at k25 (by omega) (by omega)) (by omega) (by omega)), (Z22F.at (KF.at k26 (by omega) (by omega)) (by omega) (by omega))⟩, fun j hj => ⟨rfl, fun i hi => rfl, rfl, rfl⟩, (fun z => by cases z), ((KF.em (by omega)).tr (Z22F.em (by omega)))⟩
    · have l2 := (ps_le (t := t) (n := n) (s := (p1, false)) (lo := 40) (c := 1) l1).1
      have ee2 : ps t n (p1, false) 40 1 = (p1 + 1, false) := ps_y q15
      have sv2 := sv_y q15
      rw [ee2] at l2 Z223
      obtain ⟨p2, hq2⟩ : ∃ q, q = p1 + 1 := ⟨_, rfl⟩
      rw [← hq2] at ee2 l2 Z223
      refine ev_blk (B := [(.aload_n 0, 1), (.iconst 0, 1), (.bipush 48, 2), (.bipush 53, 2)]) (pe := 24) (ls' := [some (.ref (o)), some (.int (nI 0)), none, none, none, none]) (st' := [.int (nI 53), .int (nI 48), .int (nI 0), .ref (o)]) ⟨dX11_takesCommand_18, dX11_takesCommand_19, dX11_takesCommand_20, dX11_takesCommand_22, rfl⟩ rfl ?_
      refine ev_cVw Y_X11_takesSign L_RX11_333 dX11_takesCommand_24 ⟨Nat.le_of_ble_eq_true rfl, Nat.le_of_ble_eq_true rfl, Nat.le_of_ble_eq_true rfl, Nat.le_of_ble_eq_true rfl, Nat.le_of_ble_eq_true rfl⟩ Z22z (as := [.int (nI 0), .int (nI 48), .int (nI 53)]) rfl rfl (c_R_takesSign hl o (Z22i) (zl) Z22z t ht n p2 hn l2 (((Z22K 42 (by decide)).trans (((KK 42 (by decide)).trans h42)))) Z223 (Px.fx (t := t) (hx.fx KF (by omega)) Z22F (by omega)) c hc10 (((Z22K 44 (by decide)).trans (((KK 44 (by decide)).trans h44)))) tld (Z22F.at (KF.at k24 (by omega) (by omega)) (by omega) (by omega)) 0 (by decide) 48 53 6 (by decide) (by decide) (by decide)) (fun M25 hL25 hB25 => ?_)
      obtain ⟨⟨Z24i, Z24z, Z243, Z24K⟩, Z24t, Z244, Z24y, Z24n, Z24F⟩ := hB25
      refine ev_ifB_eq dX11_takesCommand_27 (tgt := 39) (by decide) (fun q27 => ?_) (fun q27 => ?_)
      · refine ev_blk (B := [(.iconst 0, 1)]) (pe := 40) (ls' := [some (.ref (o)), some (.int (nI 0)), none, none, none, none]) (st' := [.int (nI 0)]) ⟨dX11_takesCommand_39, rfl⟩ rfl ?_
        refine ev_iret dX11_takesCommand_40 rfl (rfl) ⟨Nat.le_of_ble_eq_true rfl, Nat.le_of_ble_eq_true rfl⟩ ?_
        have ef : ps t n (p2, false) 48 6 = (p2, true) := ps_n q27
        rw [ef] at Z243
        have hcm : (cm t n p).1 = (p2, true) := by
          rw [cm_x hkk (show 1 ≠ 3 by decide)]
          simp only [hs_eq, hns0, gl_eq, pw_b, psT, pwT, tl_0, tl_k (show 1 ≠ 0 by decide), ee2, ef]
          first | done | rfl
        rw [hcm]
        exact ⟨rfl, _, Z24z, Z243, fun j hj => (Z24K j hj).trans ((Z22K j hj).trans (KK j hj)), _, _, _, _, ⟨(Z24F.at (Z22F.at (KF.at k23 (by omega) (by omega)) (by omega) (by omega)) (by omega) (by omega)), Z244, (Z24F.at (Z22F.at (KF.at k25 (by omega) (by omega)) (by omega) (by omega)) (by omega) (by omega)), (Z24F.at (Z22F.at (KF.at k26 (by omega) (by omega)) (by omega) (by omega)) (by omega) (by omega))⟩, fun j hj => ⟨rfl, fun i hi => (Z24n i (by omega)), rfl, rfl⟩, (fun z => by cases z), (((KF.em (by omega)).tr (Z22F.em (by omega))).tr (Z24F.to (by omega) (by omega)))⟩
      · have l3 := (ps_le (t := t) (n := n) (s := (p2, false)) (lo := 48) (c := 6) l2).1
        have ee3 : ps t n (p2, false) 48 6 = (p2 + 1, false) := ps_y q27
        have sv3 := sv_y q27
        rw [ee3] at l3 Z243
        have y3 := Z24y q27
        obtain ⟨p3, hq3⟩ : ∃ q, q = p2 + 1 := ⟨_, rfl⟩
        rw [← hq3] at ee3 l3 Z243
        refine ev_blk (B := [(.aload_n 0, 1), (.bipush 44, 2)]) (pe := 33) (ls' := [some (.ref (o)), some (.int (nI 0)), none, none, none, none]) (st' := [.int (nI 44), .ref (o)]) ⟨dX11_takesCommand_30, dX11_takesCommand_31, rfl⟩ rfl ?_
        refine ev_cVw Y_X11_skips L_RX11_330 dX11_takesCommand_33 ⟨Nat.le_of_ble_eq_true rfl, Nat.le_of_ble_eq_true rfl, Nat.le_of_ble_eq_true rfl, Nat.le_of_ble_eq_true rfl, Nat.le_of_ble_eq_true rfl⟩ Z24z (as := [.int (nI 44)]) rfl rfl (c_R_skips hl o (Z24i) (zl) Z24z t ht n p3 hn l3 (((Z24K 42 (by decide)).trans (((Z22K 42 (by decide)).trans (((KK 42 (by decide)).trans h42)))))) Z243 (Px.fx (t := t) (Px.fx (t := t) (hx.fx KF (by omega)) Z22F (by omega)) Z24F (by omega)) 44 (by decide)) (fun M27 hL27 hB27 => ?_)
        obtain ⟨⟨Z26i, Z26z, Z263, Z26K⟩, Z26F⟩ := hB27
        refine ev_ifB_ne dX11_takesCommand_36 (tgt := 41) (by decide) (fun q36 => ?_) (fun q36 => ?_)
        · have l4 := (ps_le (t := t) (n := n) (s := (p3, false)) (lo := 44) (c := 1) l3).1
          have ee4 : ps t n (p3, false) 44 1 = (p3 + 1, false) := ps_y q36
          have sv4 := sv_y q36
          rw [ee4] at l4 Z263
          obtain ⟨p4, hq4⟩ : ∃ q, q = p3 + 1 := ⟨_, rfl⟩
          rw [← hq4] at ee4 l4 Z263
          refine ev_blk (B := [(.aload_n 0, 1)]) (pe := 42) (ls' := [some (.ref (o)), some (.int (nI 0)), none, none, none, none]) (st' := [.ref (o)]) ⟨dX11_takesCommand_41, rfl⟩ rfl ?_
          refine ev_getf (v := .int (nI c)) F_RX11_322 dX11_takesCommand_42 Z26z (congrArg (fun q => some (Value.int q)) ((Z26K 44 (by decide)).trans (((Z24K 44 (by decide)).trans (((Z22K 44 (by decide)).trans (((KK 44 (by decide)).trans h44)))))))) ?_
          refine ev_blk (B := [(.bipush 10, 2)]) (pe := 47) (ls' := [some (.ref (o)), some (.int (nI 0)), none, none, none, none]) (st' := [.int (nI 10), .int (nI c)]) ⟨dX11_takesCommand_45, rfl⟩ rfl ?_
          refine ev_iN_ge dX11_takesCommand_47 (tgt := 60) (by decide) (by omega) (by omega) (fun q47 => ?_) (fun q47 => ?_)
          · exfalso; omega
          · refine ev_blk (B := [(.aload_n 0, 1)]) (pe := 51) (ls' := [some (.ref (o)), some (.int (nI 0)), none, none, none, none]) (st' := [.ref (o)]) ⟨dX11_takesCommand_50, rfl⟩ rfl ?_
            refine ev_getf (v := .ref (o + 23)) F_RX11_78 dX11_takesCommand_51 Z26z rfl ?_
            refine ev_blk (B := [(.aload_n 0, 1)]) (pe := 55) (ls' := [some (.ref (o)), some (.int (nI 0)), none, none, none, none]) (st' := [.ref (o), .ref (o + 23)]) ⟨dX11_takesCommand_54, rfl⟩ rfl ?_
            refine ev_getf (v := .int (nI c)) F_RX11_322 dX11_takesCommand_55 Z26z (congrArg (fun q => some (Value.int q)) ((Z26K 44 (by decide)).trans (((Z24K 44 (by decide)).trans (((Z22K 44 (by decide)).trans (((KK 44 (by decide)).trans h44)))))))) ?_
            refine ev_blk (B := [(.iload_n 1, 1)]) (pe := 59) (ls' := [some (.ref (o)), some (.int (nI 0)), none, none, none, none]) (st' := [.int (nI 0), .int (nI c), .ref (o + 23)]) ⟨dX11_takesCommand_58, rfl⟩ rfl ?_
            refine ev_iast dX11_takesCommand_59 (Z26F.at (Z24F.at (Z22F.at (KF.at k23 (by omega) (by omega)) (by omega) (by omega)) (by omega) (by omega)) (by omega) (by omega)) (vp_in_nI (show c < 12 by omega) (by omega)) ?_
            rw [nI_clamp (show c < 2 ^ 31 by omega)]
            refine ev_nm (M0 := M27.set (o + 23) (.inl (0, 12, .inl (upd kd c (nI 0))))) (fun M28 eM28 => ?_)
            have f29 : M28[o]? = some (.inr (10, zo o (Z26i) (zl))) := by rw [eM28, ev_sn (by omega)]; exact Z26z
            have f30 : M28[o + 22]? = some (.inl (2, 80, .inl (fun i => nI (t i)))) := by rw [eM28, ev_sn (by omega)]; exact (Px.fx (t := t) (Px.fx (t := t) (Px.fx (t := t) (hx.fx KF (by omega)) Z22F (by omega)) Z24F (by omega)) Z26F (by omega))
            have f31 : M28[o + 23]? = some (.inl (0, 12, .inl (upd kd c (nI 0)))) := by rw [eM28]; exact ev_sg (Z26F.at (Z24F.at (Z22F.at (KF.at k23 (by omega) (by omega)) (by omega) (by omega)) (by omega) (by omega)) (by omega) (by omega))
            have f32 : M28[o + 24]? = some (.inl (0, 48, .inl (Z24t))) := by rw [eM28, ev_sn (by omega)]; exact (Z26F.at Z244 (by omega) (by omega))
            have f33 : M28[o + 25]? = some (.inl (1, 12, .inr (.inl (tf)))) := by rw [eM28, ev_sn (by omega)]; exact (Z26F.at (Z24F.at (Z22F.at (KF.at k25 (by omega) (by omega)) (by omega) (by omega)) (by omega) (by omega)) (by omega) (by omega))
            have f34 : M28[o + 26]? = some (.inl (1, 12, .inr (.inl (t2)))) := by rw [eM28, ev_sn (by omega)]; exact (Z26F.at (Z24F.at (Z22F.at (KF.at k26 (by omega) (by omega)) (by omega) (by omega)) (by omega) (by omega)) (by omega) (by omega))
            refine ev_blk (B := [(.iload_n 1, 1), (.iconst 3, 1)]) (pe := 62) (ls' := [some (.ref (o)), some (.int (nI 0)), none, none, none, none]) (st' := [.int (nI 3), .int (nI 0)]) ⟨dX11_takesCommand_60, dX11_takesCommand_61, rfl⟩ rfl ?_
            refine ev_iN_ne dX11_takesCommand_62 (tgt := 120) (by decide) (by omega) (by omega) (fun q62 => ?_) (fun q62 => ?_)
            · refine ev_blk (B := [(.aload_n 0, 1), (.iconst 1, 1), (.bipush 48, 2), (.bipush 53, 2)]) (pe := 126) (ls' := [some (.ref (o)), some (.int (nI 0)), none, none, none, none]) (st' := [.int (nI 53), .int (nI 48), .int (nI 1), .ref (o)]) ⟨dX11_takesCommand_120, dX11_takesCommand_121, dX11_takesCommand_122, dX11_takesCommand_124, rfl⟩ rfl ?_
              have V35 : FX o (o + 23) (o + 27) M27 M28 := ⟨by rw [eM28]; simp only [List.length_set], fun j hj1 hj2 => by rw [eM28, ev_sn (by omega)]⟩
              refine ev_cVw Y_X11_takesSign L_RX11_333 dX11_takesCommand_126 ⟨Nat.le_of_ble_eq_true rfl, Nat.le_of_ble_eq_true rfl, Nat.le_of_ble_eq_true rfl, Nat.le_of_ble_eq_true rfl, Nat.le_of_ble_eq_true rfl⟩ f29 (as := [.int (nI 1), .int (nI 48), .int (nI 53)]) rfl rfl (c_R_takesSign hl o (Z26i) (zl) f29 t ht n p4 hn l4 (((Z26K 42 (by decide)).trans (((Z24K 42 (by decide)).trans (((Z22K 42 (by decide)).trans (((KK 42 (by decide)).trans h42)))))))) Z263 f30 c hc10 (((Z26K 44 (by decide)).trans (((Z24K 44 (by decide)).trans (((Z22K 44 (by decide)).trans (((KK 44 (by decide)).trans h44)))))))) Z24t f32 1 (by decide) 48 53 6 (by decide) (by decide) (by decide)) (fun M37 hL37 hB37 => ?_)
              obtain ⟨⟨Z36i, Z36z, Z363, Z36K⟩, Z36t, Z364, Z36y, Z36n, Z36F⟩ := hB37
              refine ev_ifB_ne dX11_takesCommand_129 (tgt := 134) (by decide) (fun q129 => ?_) (fun q129 => ?_)
              · have l5 := (ps_le (t := t) (n := n) (s := (p4, false)) (lo := 48) (c := 6) l4).1
                have ee5 : ps t n (p4, false) 48 6 = (p4 + 1, false) := ps_y q129
                have sv5 := sv_y q129
                rw [ee5] at l5 Z363
                have y5 := Z36y q129
                obtain ⟨p5, hq5⟩ : ∃ q, q = p4 + 1 := ⟨_, rfl⟩
                rw [← hq5] at ee5 l5 Z363
                refine ev_blk (B := [(.iload_n 1, 1), (.iconst 2, 1)]) (pe := 136) (ls' := [some (.ref (o)), some (.int (nI 0)), none, none, none, none]) (st' := [.int (nI 2), .int (nI 0)]) ⟨dX11_takesCommand_134, dX11_takesCommand_135, rfl⟩ rfl ?_
                refine ev_iN_ge dX11_takesCommand_136 (tgt := 183) (by decide) (by omega) (by omega) (fun q136 => ?_) (fun q136 => ?_)
                · exfalso; omega
                · refine ev_blk (B := [(.aload_n 0, 1), (.bipush 44, 2)]) (pe := 142) (ls' := [some (.ref (o)), some (.int (nI 0)), none, none, none, none]) (st' := [.int (nI 44), .ref (o)]) ⟨dX11_takesCommand_139, dX11_takesCommand_140, rfl⟩ rfl ?_
                  refine ev_cVw Y_X11_skips L_RX11_330 dX11_takesCommand_142 ⟨Nat.le_of_ble_eq_true rfl, Nat.le_of_ble_eq_true rfl, Nat.le_of_ble_eq_true rfl, Nat.le_of_ble_eq_true rfl, Nat.le_of_ble_eq_true rfl⟩ Z36z (as := [.int (nI 44)]) rfl rfl (c_R_skips hl o (Z36i) (zl) Z36z t ht n p5 hn l5 (((Z36K 42 (by decide)).trans (((Z26K 42 (by decide)).trans (((Z24K 42 (by decide)).trans (((Z22K 42 (by decide)).trans (((KK 42 (by decide)).trans h42)))))))))) Z363 (Px.fx (t := t) f30 Z36F (by omega)) 44 (by decide)) (fun M39 hL39 hB39 => ?_)
                  obtain ⟨⟨Z38i, Z38z, Z383, Z38K⟩, Z38F⟩ := hB39
                  refine ev_ifB_eq dX11_takesCommand_145 (tgt := 181) (by decide) (fun q145 => ?_) (fun q145 => ?_)
                  · refine ev_blk (B := [(.iconst 0, 1)]) (pe := 182) (ls' := [some (.ref (o)), some (.int (nI 0)), none, none, none, none]) (st' := [.int (nI 0)]) ⟨dX11_takesCommand_181, rfl⟩ rfl ?_
                    refine ev_iret dX11_takesCommand_182 rfl (rfl) ⟨Nat.le_of_ble_eq_true rfl, Nat.le_of_ble_eq_true rfl⟩ ?_
                    have ef : ps t n (p5, false) 44 1 = (p5, true) := ps_n q145
                    rw [ef] at Z383
                    have hcm : (cm t n p).1 = (p5, true) := by
                      rw [cm_x hkk (show 1 ≠ 3 by decide)]
                      simp only [hs_eq, hns0, gl_eq, pw_b, psT, pwT, tl_0, tl_k (show 1 ≠ 0 by decide), ee2, ee3, ee4, ee5, ef]
                      first | done | rfl
                    rw [hcm]
                    exact ⟨rfl, _, Z38z, Z383, fun j hj => (Z38K j hj).trans ((Z36K j hj).trans ((Z26K j hj).trans ((Z24K j hj).trans ((Z22K j hj).trans (KK j hj))))), _, _, _, _, ⟨(Z38F.at (Z36F.at f31 (by omega) (by omega)) (by omega) (by omega)), (Z38F.at Z364 (by omega) (by omega)), (Z38F.at (Z36F.at f33 (by omega) (by omega)) (by omega) (by omega)), (Z38F.at (Z36F.at f34 (by omega) (by omega)) (by omega) (by omega))⟩, fun j hj => ⟨by rw [upd_at, if_neg (by omega)], fun i hi => ((Z36n i (by omega)).trans (Z24n i (by omega))), rfl, rfl⟩, (fun z => by cases z), (((((((KF.em (by omega)).tr (Z22F.em (by omega))).tr (Z24F.to (by omega) (by omega))).tr (Z26F.em (by omega))).tr (V35.to (by omega) (by omega))).tr (Z36F.to (by omega) (by omega))).tr (Z38F.em (by omega)))⟩
                  · have l6 := (ps_le (t := t) (n := n) (s := (p5, false)) (lo := 44) (c := 1) l5).1
                    have ee6 : ps t n (p5, false) 44 1 = (p5 + 1, false) := ps_y q145
                    have sv6 := sv_y q145
                    rw [ee6] at l6 Z383
                    obtain ⟨p6, hq6⟩ : ∃ q, q = p5 + 1 := ⟨_, rfl⟩
                    rw [← hq6] at ee6 l6 Z383
                    refine ev_blk (B := [(.aload_n 0, 1), (.iconst 2, 1), (.bipush 48, 2), (.bipush 49, 2)]) (pe := 154) (ls' := [some (.ref (o)), some (.int (nI 0)), none, none, none, none]) (st' := [.int (nI 49), .int (nI 48), .int (nI 2), .ref (o)]) ⟨dX11_takesCommand_148, dX11_takesCommand_149, dX11_takesCommand_150, dX11_takesCommand_152, rfl⟩ rfl ?_
                    refine ev_cVw Y_X11_takesSign L_RX11_333 dX11_takesCommand_154 ⟨Nat.le_of_ble_eq_true rfl, Nat.le_of_ble_eq_true rfl, Nat.le_of_ble_eq_true rfl, Nat.le_of_ble_eq_true rfl, Nat.le_of_ble_eq_true rfl⟩ Z38z (as := [.int (nI 2), .int (nI 48), .int (nI 49)]) rfl rfl (c_R_takesSign hl o (Z38i) (zl) Z38z t ht n p6 hn l6 (((Z38K 42 (by decide)).trans (((Z36K 42 (by decide)).trans (((Z26K 42 (by decide)).trans (((Z24K 42 (by decide)).trans (((Z22K 42 (by decide)).trans (((KK 42 (by decide)).trans h42)))))))))))) Z383 (Px.fx (t := t) (Px.fx (t := t) f30 Z36F (by omega)) Z38F (by omega)) c hc10 (((Z38K 44 (by decide)).trans (((Z36K 44 (by decide)).trans (((Z26K 44 (by decide)).trans (((Z24K 44 (by decide)).trans (((Z22K 44 (by decide)).trans (((KK 44 (by decide)).trans h44)))))))))))) Z36t (Z38F.at Z364 (by omega) (by omega)) 2 (by decide) 48 49 2 (by decide) (by decide) (by decide)) (fun M41 hL41 hB41 => ?_)
                    obtain ⟨⟨Z40i, Z40z, Z403, Z40K⟩, Z40t, Z404, Z40y, Z40n, Z40F⟩ := hB41
                    refine ev_ifB_eq dX11_takesCommand_157 (tgt := 181) (by decide) (fun q157 => ?_) (fun q157 => ?_)
                    · refine ev_blk (B := [(.iconst 0, 1)]) (pe := 182) (ls' := [some (.ref (o)), some (.int (nI 0)), none, none, none, none]) (st' := [.int (nI 0)]) ⟨dX11_takesCommand_181, rfl⟩ rfl ?_
                      refine ev_iret dX11_takesCommand_182 rfl (rfl) ⟨Nat.le_of_ble_eq_true rfl, Nat.le_of_ble_eq_true rfl⟩ ?_
                      have ef : ps t n (p6, false) 48 2 = (p6, true) := ps_n q157
                      rw [ef] at Z403
                      have hcm : (cm t n p).1 = (p6, true) := by
                        rw [cm_x hkk (show 1 ≠ 3 by decide)]
                        simp only [hs_eq, hns0, gl_eq, pw_b, psT, pwT, tl_0, tl_k (show 1 ≠ 0 by decide), ee2, ee3, ee4, ee5, ee6, ef]
                        first | done | rfl
                      rw [hcm]
                      exact ⟨rfl, _, Z40z, Z403, fun j hj => (Z40K j hj).trans ((Z38K j hj).trans ((Z36K j hj).trans ((Z26K j hj).trans ((Z24K j hj).trans ((Z22K j hj).trans (KK j hj)))))), _, _, _, _, ⟨(Z40F.at (Z38F.at (Z36F.at f31 (by omega) (by omega)) (by omega) (by omega)) (by omega) (by omega)), Z404, (Z40F.at (Z38F.at (Z36F.at f33 (by omega) (by omega)) (by omega) (by omega)) (by omega) (by omega)), (Z40F.at (Z38F.at (Z36F.at f34 (by omega) (by omega)) (by omega) (by omega)) (by omega) (by omega))⟩, fun j hj => ⟨by rw [upd_at, if_neg (by omega)], fun i hi => ((Z40n i (by omega)).trans ((Z36n i (by omega)).trans (Z24n i (by omega)))), rfl, rfl⟩, (fun z => by cases z), ((((((((KF.em (by omega)).tr (Z22F.em (by omega))).tr (Z24F.to (by omega) (by omega))).tr (Z26F.em (by omega))).tr (V35.to (by omega) (by omega))).tr (Z36F.to (by omega) (by omega))).tr (Z38F.em (by omega))).tr (Z40F.to (by omega) (by omega)))⟩
                    · have l7 := (ps_le (t := t) (n := n) (s := (p6, false)) (lo := 48) (c := 2) l6).1
                      have ee7 : ps t n (p6, false) 48 2 = (p6 + 1, false) := ps_y q157
                      have sv7 := sv_y q157
                      rw [ee7] at l7 Z403
                      have y7 := Z40y q157
                      obtain ⟨p7, hq7⟩ : ∃ q, q = p6 + 1 := ⟨_, rfl⟩
                      rw [← hq7] at ee7 l7 Z403
                      refine ev_blk (B := [(.aload_n 0, 1), (.bipush 44, 2)]) (pe := 163) (ls' := [some (.ref (o)), some (.int (nI 0)), none, none, none, none]) (st' := [.int (nI 44), .ref (o)]) ⟨dX11_takesCommand_160, dX11_takesCommand_161, rfl⟩ rfl ?_
                      refine ev_cVw Y_X11_skips L_RX11_330 dX11_takesCommand_163 ⟨Nat.le_of_ble_eq_true rfl, Nat.le_of_ble_eq_true rfl, Nat.le_of_ble_eq_true rfl, Nat.le_of_ble_eq_true rfl, Nat.le_of_ble_eq_true rfl⟩ Z40z (as := [.int (nI 44)]) rfl rfl (c_R_skips hl o (Z40i) (zl) Z40z t ht n p7 hn l7 (((Z40K 42 (by decide)).trans (((Z38K 42 (by decide)).trans (((Z36K 42 (by decide)).trans (((Z26K 42 (by decide)).trans (((Z24K 42 (by decide)).trans (((Z22K 42 (by decide)).trans (((KK 42 (by decide)).trans h42)))))))))))))) Z403 (Px.fx (t := t) (Px.fx (t := t) (Px.fx (t := t) f30 Z36F (by omega)) Z38F (by omega)) Z40F (by omega)) 44 (by decide)) (fun M43 hL43 hB43 => ?_)
                      obtain ⟨⟨Z42i, Z42z, Z423, Z42K⟩, Z42F⟩ := hB43
                      refine ev_ifB_eq dX11_takesCommand_166 (tgt := 181) (by decide) (fun q166 => ?_) (fun q166 => ?_)
                      · refine ev_blk (B := [(.iconst 0, 1)]) (pe := 182) (ls' := [some (.ref (o)), some (.int (nI 0)), none, none, none, none]) (st' := [.int (nI 0)]) ⟨dX11_takesCommand_181, rfl⟩ rfl ?_
                        refine ev_iret dX11_takesCommand_182 rfl (rfl) ⟨Nat.le_of_ble_eq_true rfl, Nat.le_of_ble_eq_true rfl⟩ ?_
                        have ef : ps t n (p7, false) 44 1 = (p7, true) := ps_n q166
                        rw [ef] at Z423
                        have hcm : (cm t n p).1 = (p7, true) := by
                          rw [cm_x hkk (show 1 ≠ 3 by decide)]
                          simp only [hs_eq, hns0, gl_eq, pw_b, psT, pwT, tl_0, tl_k (show 1 ≠ 0 by decide), ee2, ee3, ee4, ee5, ee6, ee7, ef]
                          first | done | rfl
                        rw [hcm]
                        exact ⟨rfl, _, Z42z, Z423, fun j hj => (Z42K j hj).trans ((Z40K j hj).trans ((Z38K j hj).trans ((Z36K j hj).trans ((Z26K j hj).trans ((Z24K j hj).trans ((Z22K j hj).trans (KK j hj))))))), _, _, _, _, ⟨(Z42F.at (Z40F.at (Z38F.at (Z36F.at f31 (by omega) (by omega)) (by omega) (by omega)) (by omega) (by omega)) (by omega) (by omega)), (Z42F.at Z404 (by omega) (by omega)), (Z42F.at (Z40F.at (Z38F.at (Z36F.at f33 (by omega) (by omega)) (by omega) (by omega)) (by omega) (by omega)) (by omega) (by omega)), (Z42F.at (Z40F.at (Z38F.at (Z36F.at f34 (by omega) (by omega)) (by omega) (by omega)) (by omega) (by omega)) (by omega) (by omega))⟩, fun j hj => ⟨by rw [upd_at, if_neg (by omega)], fun i hi => ((Z40n i (by omega)).trans ((Z36n i (by omega)).trans (Z24n i (by omega)))), rfl, rfl⟩, (fun z => by cases z), (((((((((KF.em (by omega)).tr (Z22F.em (by omega))).tr (Z24F.to (by omega) (by omega))).tr (Z26F.em (by omega))).tr (V35.to (by omega) (by omega))).tr (Z36F.to (by omega) (by omega))).tr (Z38F.em (by omega))).tr (Z40F.to (by omega) (by omega))).tr (Z42F.em (by omega)))⟩
                      · have l8 := (ps_le (t := t) (n := n) (s := (p7, false)) (lo := 44) (c := 1) l7).1
                        have ee8 : ps t n (p7, false) 44 1 = (p7 + 1, false) := ps_y q166
                        have sv8 := sv_y q166
                        rw [ee8] at l8 Z423
                        obtain ⟨p8, hq8⟩ : ∃ q, q = p7 + 1 := ⟨_, rfl⟩
                        rw [← hq8] at ee8 l8 Z423
                        refine ev_blk (B := [(.aload_n 0, 1), (.iconst 3, 1), (.bipush 97, 2), (.bipush 99, 2)]) (pe := 175) (ls' := [some (.ref (o)), some (.int (nI 0)), none, none, none, none]) (st' := [.int (nI 99), .int (nI 97), .int (nI 3), .ref (o)]) ⟨dX11_takesCommand_169, dX11_takesCommand_170, dX11_takesCommand_171, dX11_takesCommand_173, rfl⟩ rfl ?_
                        refine ev_cVw Y_X11_takesSign L_RX11_333 dX11_takesCommand_175 ⟨Nat.le_of_ble_eq_true rfl, Nat.le_of_ble_eq_true rfl, Nat.le_of_ble_eq_true rfl, Nat.le_of_ble_eq_true rfl, Nat.le_of_ble_eq_true rfl⟩ Z42z (as := [.int (nI 3), .int (nI 97), .int (nI 99)]) rfl rfl (c_R_takesSign hl o (Z42i) (zl) Z42z t ht n p8 hn l8 (((Z42K 42 (by decide)).trans (((Z40K 42 (by decide)).trans (((Z38K 42 (by decide)).trans (((Z36K 42 (by decide)).trans (((Z26K 42 (by decide)).trans (((Z24K 42 (by decide)).trans (((Z22K 42 (by decide)).trans (((KK 42 (by decide)).trans h42)))))))))))))))) Z423 (Px.fx (t := t) (Px.fx (t := t) (Px.fx (t := t) (Px.fx (t := t) f30 Z36F (by omega)) Z38F (by omega)) Z40F (by omega)) Z42F (by omega)) c hc10 (((Z42K 44 (by decide)).trans (((Z40K 44 (by decide)).trans (((Z38K 44 (by decide)).trans (((Z36K 44 (by decide)).trans (((Z26K 44 (by decide)).trans (((Z24K 44 (by decide)).trans (((Z22K 44 (by decide)).trans (((KK 44 (by decide)).trans h44)))))))))))))))) Z40t (Z42F.at Z404 (by omega) (by omega)) 3 (by decide) 97 99 3 (by decide) (by decide) (by decide)) (fun M45 hL45 hB45 => ?_)
                        obtain ⟨⟨Z44i, Z44z, Z443, Z44K⟩, Z44t, Z444, Z44y, Z44n, Z44F⟩ := hB45
                        refine ev_ifB_ne dX11_takesCommand_178 (tgt := 183) (by decide) (fun q178 => ?_) (fun q178 => ?_)
                        · have l9 := (ps_le (t := t) (n := n) (s := (p8, false)) (lo := 97) (c := 3) l8).1
                          have ee9 : ps t n (p8, false) 97 3 = (p8 + 1, false) := ps_y q178
                          have sv9 := sv_y q178
                          rw [ee9] at l9 Z443
                          have y9 := Z44y q178
                          obtain ⟨p9, hq9⟩ : ∃ q, q = p8 + 1 := ⟨_, rfl⟩
                          rw [← hq9] at ee9 l9 Z443
                          refine ev_blk (B := [(.aload_n 0, 1), (.bipush 41, 2)]) (pe := 186) (ls' := [some (.ref (o)), some (.int (nI 0)), none, none, none, none]) (st' := [.int (nI 41), .ref (o)]) ⟨dX11_takesCommand_183, dX11_takesCommand_184, rfl⟩ rfl ?_
                          refine ev_cVw Y_X11_skips L_RX11_330 dX11_takesCommand_186 ⟨Nat.le_of_ble_eq_true rfl, Nat.le_of_ble_eq_true rfl, Nat.le_of_ble_eq_true rfl, Nat.le_of_ble_eq_true rfl, Nat.le_of_ble_eq_true rfl⟩ Z44z (as := [.int (nI 41)]) rfl rfl (c_R_skips hl o (Z44i) (zl) Z44z t ht n p9 hn l9 (((Z44K 42 (by decide)).trans (((Z42K 42 (by decide)).trans (((Z40K 42 (by decide)).trans (((Z38K 42 (by decide)).trans (((Z36K 42 (by decide)).trans (((Z26K 42 (by decide)).trans (((Z24K 42 (by decide)).trans (((Z22K 42 (by decide)).trans (((KK 42 (by decide)).trans h42)))))))))))))))))) Z443 (Px.fx (t := t) (Px.fx (t := t) (Px.fx (t := t) (Px.fx (t := t) (Px.fx (t := t) f30 Z36F (by omega)) Z38F (by omega)) Z40F (by omega)) Z42F (by omega)) Z44F (by omega)) 41 (by decide)) (fun M47 hL47 hB47 => ?_)
                          obtain ⟨⟨Z46i, Z46z, Z463, Z46K⟩, Z46F⟩ := hB47
                          refine ev_ifB_eq dX11_takesCommand_189 (tgt := 205) (by decide) (fun q189 => ?_) (fun q189 => ?_)
                          · refine ev_blk (B := [(.iconst 0, 1)]) (pe := 206) (ls' := [some (.ref (o)), some (.int (nI 0)), none, none, none, none]) (st' := [.int (nI 0)]) ⟨dX11_takesCommand_205, rfl⟩ rfl ?_
                            refine ev_iret dX11_takesCommand_206 rfl (rfl) ⟨Nat.le_of_ble_eq_true rfl, Nat.le_of_ble_eq_true rfl⟩ ?_
                            have ef : ps t n (p9, false) 41 1 = (p9, true) := ps_n q189
                            rw [ef] at Z463
                            have hcm : (cm t n p).1 = (p9, true) := by
                              rw [cm_x hkk (show 1 ≠ 3 by decide)]
                              simp only [hs_eq, hns0, gl_eq, pw_b, psT, pwT, tl_0, tl_k (show 1 ≠ 0 by decide), ee2, ee3, ee4, ee5, ee6, ee7, ee8, ee9, ef]
                              first | done | rfl
                            rw [hcm]
                            exact ⟨rfl, _, Z46z, Z463, fun j hj => (Z46K j hj).trans ((Z44K j hj).trans ((Z42K j hj).trans ((Z40K j hj).trans ((Z38K j hj).trans ((Z36K j hj).trans ((Z26K j hj).trans ((Z24K j hj).trans ((Z22K j hj).trans (KK j hj))))))))), _, _, _, _, ⟨(Z46F.at (Z44F.at (Z42F.at (Z40F.at (Z38F.at (Z36F.at f31 (by omega) (by omega)) (by omega) (by omega)) (by omega) (by omega)) (by omega) (by omega)) (by omega) (by omega)) (by omega) (by omega)), (Z46F.at Z444 (by omega) (by omega)), (Z46F.at (Z44F.at (Z42F.at (Z40F.at (Z38F.at (Z36F.at f33 (by omega) (by omega)) (by omega) (by omega)) (by omega) (by omega)) (by omega) (by omega)) (by omega) (by omega)) (by omega) (by omega)), (Z46F.at (Z44F.at (Z42F.at (Z40F.at (Z38F.at (Z36F.at f34 (by omega) (by omega)) (by omega) (by omega)) (by omega) (by omega)) (by omega) (by omega)) (by omega) (by omega)) (by omega) (by omega))⟩, fun j hj => ⟨by rw [upd_at, if_neg (by omega)], fun i hi => ((Z44n i (by omega)).trans ((Z40n i (by omega)).trans ((Z36n i (by omega)).trans (Z24n i (by omega))))), rfl, rfl⟩, (fun z => by cases z), (((((((((((KF.em (by omega)).tr (Z22F.em (by omega))).tr (Z24F.to (by omega) (by omega))).tr (Z26F.em (by omega))).tr (V35.to (by omega) (by omega))).tr (Z36F.to (by omega) (by omega))).tr (Z38F.em (by omega))).tr (Z40F.to (by omega) (by omega))).tr (Z42F.em (by omega))).tr (Z44F.to (by omega) (by omega))).tr (Z46F.em (by omega)))⟩
                          · have l10 := (ps_le (t := t) (n := n) (s := (p9, false)) (lo := 41) (c := 1) l9).1
                            have ee10 : ps t n (p9, false) 41 1 = (p9 + 1, false) := ps_y q189
                            have sv10 := sv_y q189
                            rw [ee10] at l10 Z463
                            obtain ⟨p10, hq10⟩ : ∃ q, q = p9 + 1 := ⟨_, rfl⟩
                            rw [← hq10] at ee10 l10 Z463
                            refine ev_blk (B := [(.aload_n 0, 1), (.bipush 59, 2)]) (pe := 195) (ls' := [some (.ref (o)), some (.int (nI 0)), none, none, none, none]) (st' := [.int (nI 59), .ref (o)]) ⟨dX11_takesCommand_192, dX11_takesCommand_193, rfl⟩ rfl ?_
                            refine ev_cVw Y_X11_skips L_RX11_330 dX11_takesCommand_195 ⟨Nat.le_of_ble_eq_true rfl, Nat.le_of_ble_eq_true rfl, Nat.le_of_ble_eq_true rfl, Nat.le_of_ble_eq_true rfl, Nat.le_of_ble_eq_true rfl⟩ Z46z (as := [.int (nI 59)]) rfl rfl (c_R_skips hl o (Z46i) (zl) Z46z t ht n p10 hn l10 (((Z46K 42 (by decide)).trans (((Z44K 42 (by decide)).trans (((Z42K 42 (by decide)).trans (((Z40K 42 (by decide)).trans (((Z38K 42 (by decide)).trans (((Z36K 42 (by decide)).trans (((Z26K 42 (by decide)).trans (((Z24K 42 (by decide)).trans (((Z22K 42 (by decide)).trans (((KK 42 (by decide)).trans h42)))))))))))))))))))) Z463 (Px.fx (t := t) (Px.fx (t := t) (Px.fx (t := t) (Px.fx (t := t) (Px.fx (t := t) (Px.fx (t := t) f30 Z36F (by omega)) Z38F (by omega)) Z40F (by omega)) Z42F (by omega)) Z44F (by omega)) Z46F (by omega)) 59 (by decide)) (fun M49 hL49 hB49 => ?_)
                            obtain ⟨⟨Z48i, Z48z, Z483, Z48K⟩, Z48F⟩ := hB49
                            refine ev_ifB_eq dX11_takesCommand_198 (tgt := 205) (by decide) (fun q198 => ?_) (fun q198 => ?_)
                            · refine ev_blk (B := [(.iconst 0, 1)]) (pe := 206) (ls' := [some (.ref (o)), some (.int (nI 0)), none, none, none, none]) (st' := [.int (nI 0)]) ⟨dX11_takesCommand_205, rfl⟩ rfl ?_
                              refine ev_iret dX11_takesCommand_206 rfl (rfl) ⟨Nat.le_of_ble_eq_true rfl, Nat.le_of_ble_eq_true rfl⟩ ?_
                              have ef : ps t n (p10, false) 59 1 = (p10, true) := ps_n q198
                              rw [ef] at Z483
                              have hcm : (cm t n p).1 = (p10, true) := by
                                rw [cm_x hkk (show 1 ≠ 3 by decide)]
                                simp only [hs_eq, hns0, gl_eq, pw_b, psT, pwT, tl_0, tl_k (show 1 ≠ 0 by decide), ee2, ee3, ee4, ee5, ee6, ee7, ee8, ee9, ee10, ef]
                                first | done | rfl
                              rw [hcm]
                              exact ⟨rfl, _, Z48z, Z483, fun j hj => (Z48K j hj).trans ((Z46K j hj).trans ((Z44K j hj).trans ((Z42K j hj).trans ((Z40K j hj).trans ((Z38K j hj).trans ((Z36K j hj).trans ((Z26K j hj).trans ((Z24K j hj).trans ((Z22K j hj).trans (KK j hj)))))))))), _, _, _, _, ⟨(Z48F.at (Z46F.at (Z44F.at (Z42F.at (Z40F.at (Z38F.at (Z36F.at f31 (by omega) (by omega)) (by omega) (by omega)) (by omega) (by omega)) (by omega) (by omega)) (by omega) (by omega)) (by omega) (by omega)) (by omega) (by omega)), (Z48F.at (Z46F.at Z444 (by omega) (by omega)) (by omega) (by omega)), (Z48F.at (Z46F.at (Z44F.at (Z42F.at (Z40F.at (Z38F.at (Z36F.at f33 (by omega) (by omega)) (by omega) (by omega)) (by omega) (by omega)) (by omega) (by omega)) (by omega) (by omega)) (by omega) (by omega)) (by omega) (by omega)), (Z48F.at (Z46F.at (Z44F.at (Z42F.at (Z40F.at (Z38F.at (Z36F.at f34 (by omega) (by omega)) (by omega) (by omega)) (by omega) (by omega)) (by omega) (by omega)) (by omega) (by omega)) (by omega) (by omega)) (by omega) (by omega))⟩, fun j hj => ⟨by rw [upd_at, if_neg (by omega)], fun i hi => ((Z44n i (by omega)).trans ((Z40n i (by omega)).trans ((Z36n i (by omega)).trans (Z24n i (by omega))))), rfl, rfl⟩, (fun z => by cases z), ((((((((((((KF.em (by omega)).tr (Z22F.em (by omega))).tr (Z24F.to (by omega) (by omega))).tr (Z26F.em (by omega))).tr (V35.to (by omega) (by omega))).tr (Z36F.to (by omega) (by omega))).tr (Z38F.em (by omega))).tr (Z40F.to (by omega) (by omega))).tr (Z42F.em (by omega))).tr (Z44F.to (by omega) (by omega))).tr (Z46F.em (by omega))).tr (Z48F.em (by omega)))⟩
                            · have l11 := (ps_le (t := t) (n := n) (s := (p10, false)) (lo := 59) (c := 1) l10).1
                              have ee11 : ps t n (p10, false) 59 1 = (p10 + 1, false) := ps_y q198
                              have sv11 := sv_y q198
                              rw [ee11] at l11 Z483
                              obtain ⟨p11, hq11⟩ : ∃ q, q = p10 + 1 := ⟨_, rfl⟩
                              rw [← hq11] at ee11 l11 Z483
                              refine ev_blk (B := [(.iconst 1, 1)]) (pe := 202) (ls' := [some (.ref (o)), some (.int (nI 0)), none, none, none, none]) (st' := [.int (nI 1)]) ⟨dX11_takesCommand_201, rfl⟩ rfl ?_
                              refine ev_goto (tgt := 206) dX11_takesCommand_202 (by decide) ?_
                              refine ev_iret dX11_takesCommand_206 rfl (rfl) ⟨Nat.le_of_ble_eq_true rfl, Nat.le_of_ble_eq_true rfl⟩ ?_
                              have hcm : cm t n p = ((p11, false), some (.inl (sv t n (p2, false) 48 6, sv t n (p4, false) 48 6, 1, sv t n (p6, false) 48 2, sv t n (p8, false) 97 3))) := by
                                rw [cm_x hkk (show 1 ≠ 3 by decide)]
                                simp only [hs_eq, hns0, gl_eq, pw_b, psT, pwT, tl_0, tl_k (show 1 ≠ 0 by decide), ee2, ee3, ee4, ee5, ee6, ee7, ee8, ee9, ee10, ee11]
                                first | done | rfl
                              rw [hcm]
                              exact ⟨rfl, _, Z48z, Z483, fun j hj => (Z48K j hj).trans ((Z46K j hj).trans ((Z44K j hj).trans ((Z42K j hj).trans ((Z40K j hj).trans ((Z38K j hj).trans ((Z36K j hj).trans ((Z26K j hj).trans ((Z24K j hj).trans ((Z22K j hj).trans (KK j hj)))))))))), _, _, _, _, ⟨(Z48F.at (Z46F.at (Z44F.at (Z42F.at (Z40F.at (Z38F.at (Z36F.at f31 (by omega) (by omega)) (by omega) (by omega)) (by omega) (by omega)) (by omega) (by omega)) (by omega) (by omega)) (by omega) (by omega)) (by omega) (by omega)), (Z48F.at (Z46F.at Z444 (by omega) (by omega)) (by omega) (by omega)), (Z48F.at (Z46F.at (Z44F.at (Z42F.at (Z40F.at (Z38F.at (Z36F.at f33 (by omega) (by omega)) (by omega) (by omega)) (by omega) (by omega)) (by omega) (by omega)) (by omega) (by omega)) (by omega) (by omega)) (by omega) (by omega)), (Z48F.at (Z46F.at (Z44F.at (Z42F.at (Z40F.at (Z38F.at (Z36F.at f34 (by omega) (by omega)) (by omega) (by omega)) (by omega) (by omega)) (by omega) (by omega)) (by omega) (by omega)) (by omega) (by omega)) (by omega) (by omega))⟩, fun j hj => ⟨by rw [upd_at, if_neg (by omega)], fun i hi => ((Z44n i (by omega)).trans ((Z40n i (by omega)).trans ((Z36n i (by omega)).trans (Z24n i (by omega))))), rfl, rfl⟩, (fun _ => ⟨_, rfl, ⟨by rw [upd_at, if_pos rfl]; rfl, ((Z44n _ (by omega)).trans ((Z40n _ (by omega)).trans ((Z36n _ (by omega)).trans y3))), ((Z44n _ (by omega)).trans ((Z40n _ (by omega)).trans y5)), fun _ => ⟨((Z44n _ (by omega)).trans y7), y9⟩⟩⟩), ((((((((((((KF.em (by omega)).tr (Z22F.em (by omega))).tr (Z24F.to (by omega) (by omega))).tr (Z26F.em (by omega))).tr (V35.to (by omega) (by omega))).tr (Z36F.to (by omega) (by omega))).tr (Z38F.em (by omega))).tr (Z40F.to (by omega) (by omega))).tr (Z42F.em (by omega))).tr (Z44F.to (by omega) (by omega))).tr (Z46F.em (by omega))).tr (Z48F.em (by omega)))⟩
                        · refine ev_blk (B := [(.iconst 0, 1)]) (pe := 182) (ls' := [some (.ref (o)), some (.int (nI 0)), none, none, none, none]) (st' := [.int (nI 0)]) ⟨dX11_takesCommand_181, rfl⟩ rfl ?_
                          refine ev_iret dX11_takesCommand_182 rfl (rfl) ⟨Nat.le_of_ble_eq_true rfl, Nat.le_of_ble_eq_true rfl⟩ ?_
                          have ef : ps t n (p8, false) 97 3 = (p8, true) := ps_n q178
                          rw [ef] at Z443
                          have hcm : (cm t n p).1 = (p8, true) := by
                            rw [cm_x hkk (show 1 ≠ 3 by decide)]
                            simp only [hs_eq, hns0, gl_eq, pw_b, psT, pwT, tl_0, tl_k (show 1 ≠ 0 by decide), ee2, ee3, ee4, ee5, ee6, ee7, ee8, ef]
                            first | done | rfl
                          rw [hcm]
                          exact ⟨rfl, _, Z44z, Z443, fun j hj => (Z44K j hj).trans ((Z42K j hj).trans ((Z40K j hj).trans ((Z38K j hj).trans ((Z36K j hj).trans ((Z26K j hj).trans ((Z24K j hj).trans ((Z22K j hj).trans (KK j hj)))))))), _, _, _, _, ⟨(Z44F.at (Z42F.at (Z40F.at (Z38F.at (Z36F.at f31 (by omega) (by omega)) (by omega) (by omega)) (by omega) (by omega)) (by omega) (by omega)) (by omega) (by omega)), Z444, (Z44F.at (Z42F.at (Z40F.at (Z38F.at (Z36F.at f33 (by omega) (by omega)) (by omega) (by omega)) (by omega) (by omega)) (by omega) (by omega)) (by omega) (by omega)), (Z44F.at (Z42F.at (Z40F.at (Z38F.at (Z36F.at f34 (by omega) (by omega)) (by omega) (by omega)) (by omega) (by omega)) (by omega) (by omega)) (by omega) (by omega))⟩, fun j hj => ⟨by rw [upd_at, if_neg (by omega)], fun i hi => ((Z44n i (by omega)).trans ((Z40n i (by omega)).trans ((Z36n i (by omega)).trans (Z24n i (by omega))))), rfl, rfl⟩, (fun z => by cases z), ((((((((((KF.em (by omega)).tr (Z22F.em (by omega))).tr (Z24F.to (by omega) (by omega))).tr (Z26F.em (by omega))).tr (V35.to (by omega) (by omega))).tr (Z36F.to (by omega) (by omega))).tr (Z38F.em (by omega))).tr (Z40F.to (by omega) (by omega))).tr (Z42F.em (by omega))).tr (Z44F.to (by omega) (by omega)))⟩
              · refine ev_blk (B := [(.iconst 0, 1)]) (pe := 133) (ls' := [some (.ref (o)), some (.int (nI 0)), none, none, none, none]) (st' := [.int (nI 0)]) ⟨dX11_takesCommand_132, rfl⟩ rfl ?_
                refine ev_iret dX11_takesCommand_133 rfl (rfl) ⟨Nat.le_of_ble_eq_true rfl, Nat.le_of_ble_eq_true rfl⟩ ?_
                have ef : ps t n (p4, false) 48 6 = (p4, true) := ps_n q129
                rw [ef] at Z363
                have hcm : (cm t n p).1 = (p4, true) := by
                  rw [cm_x hkk (show 1 ≠ 3 by decide)]
                  simp only [hs_eq, hns0, gl_eq, pw_b, psT, pwT, tl_0, tl_k (show 1 ≠ 0 by decide), ee2, ee3, ee4, ef]
                  first | done | rfl
                rw [hcm]
                exact ⟨rfl, _, Z36z, Z363, fun j hj => (Z36K j hj).trans ((Z26K j hj).trans ((Z24K j hj).trans ((Z22K j hj).trans (KK j hj)))), _, _, _, _, ⟨(Z36F.at f31 (by omega) (by omega)), Z364, (Z36F.at f33 (by omega) (by omega)), (Z36F.at f34 (by omega) (by omega))⟩, fun j hj => ⟨by rw [upd_at, if_neg (by omega)], fun i hi => ((Z36n i (by omega)).trans (Z24n i (by omega))), rfl, rfl⟩, (fun z => by cases z), ((((((KF.em (by omega)).tr (Z22F.em (by omega))).tr (Z24F.to (by omega) (by omega))).tr (Z26F.em (by omega))).tr (V35.to (by omega) (by omega))).tr (Z36F.to (by omega) (by omega)))⟩
            · exact absurd q62 (by decide)
        · refine ev_blk (B := [(.iconst 0, 1)]) (pe := 40) (ls' := [some (.ref (o)), some (.int (nI 0)), none, none, none, none]) (st' := [.int (nI 0)]) ⟨dX11_takesCommand_39, rfl⟩ rfl ?_
          refine ev_iret dX11_takesCommand_40 rfl (rfl) ⟨Nat.le_of_ble_eq_true rfl, Nat.le_of_ble_eq_true rfl⟩ ?_
          have ef : ps t n (p3, false) 44 1 = (p3, true) := ps_n q36
          rw [ef] at Z263
          have hcm : (cm t n p).1 = (p3, true) := by
            rw [cm_x hkk (show 1 ≠ 3 by decide)]
            simp only [hs_eq, hns0, gl_eq, pw_b, psT, pwT, tl_0, tl_k (show 1 ≠ 0 by decide), ee2, ee3, ef]
            first | done | rfl
          rw [hcm]
          exact ⟨rfl, _, Z26z, Z263, fun j hj => (Z26K j hj).trans ((Z24K j hj).trans ((Z22K j hj).trans (KK j hj))), _, _, _, _, ⟨(Z26F.at (Z24F.at (Z22F.at (KF.at k23 (by omega) (by omega)) (by omega) (by omega)) (by omega) (by omega)) (by omega) (by omega)), (Z26F.at Z244 (by omega) (by omega)), (Z26F.at (Z24F.at (Z22F.at (KF.at k25 (by omega) (by omega)) (by omega) (by omega)) (by omega) (by omega)) (by omega) (by omega)), (Z26F.at (Z24F.at (Z22F.at (KF.at k26 (by omega) (by omega)) (by omega) (by omega)) (by omega) (by omega)) (by omega) (by omega))⟩, fun j hj => ⟨rfl, fun i hi => (Z24n i (by omega)), rfl, rfl⟩, (fun z => by cases z), ((((KF.em (by omega)).tr (Z22F.em (by omega))).tr (Z24F.to (by omega) (by omega))).tr (Z26F.em (by omega)))⟩
  · rw [hkk]
    show ev_ l m_X11_takesCommand _ _ 5 [some (.ref (o)), some (.int (nI 1)), none, none, none, none] [] _ _
    have hns0 := ns_s hkk
    rw [hns0] at K3
    have l1 := ns_le (t := t) (n := n) hp
    rw [hns0] at l1
    obtain ⟨p1, hq1⟩ : ∃ q, q = (ns t n p).1 := ⟨_, rfl⟩
    rw [← hq1] at hns0
    have hq1b : (ns t n p).1 = p1 := hq1.symm
    replace K3 : Ki 43 = nI p1 := K3.trans (congrArg nI hq1b)
    replace l1 : p1 ≤ n := hq1 ▸ l1
    refine ev_blk (B := [(.iload_n 1, 1)]) (pe := 6) (ls' := [some (.ref (o)), some (.int (nI 1)), none, none, none, none]) (st' := [.int (nI 1)]) ⟨dX11_takesCommand_5, rfl⟩ rfl ?_
    refine ev_fN_lt dX11_takesCommand_6 (tgt := 39) (by decide) (by omega) ?_
    refine ev_blk (B := [(.aload_n 0, 1), (.bipush 40, 2)]) (pe := 12) (ls' := [some (.ref (o)), some (.int (nI 1)), none, none, none, none]) (st' := [.int (nI 40), .ref (o)]) ⟨dX11_takesCommand_9, dX11_takesCommand_10, rfl⟩ rfl ?_
    refine ev_cVw Y_X11_skips L_RX11_330 dX11_takesCommand_12 ⟨Nat.le_of_ble_eq_true rfl, Nat.le_of_ble_eq_true rfl, Nat.le_of_ble_eq_true rfl, Nat.le_of_ble_eq_true rfl, Nat.le_of_ble_eq_true rfl⟩ Kz (as := [.int (nI 40)]) rfl rfl (c_R_skips hl o (Ki) (zl) Kz t ht n p1 hn l1 (((KK 42 (by decide)).trans h42)) K3 (hx.fx KF (by omega)) 40 (by decide)) (fun M51 hL51 hB51 => ?_)
    obtain ⟨⟨Z50i, Z50z, Z503, Z50K⟩, Z50F⟩ := hB51
    refine ev_ifB_eq dX11_takesCommand_15 (tgt := 39) (by decide) (fun q15 => ?_) (fun q15 => ?_)
    · refine ev_blk (B := [(.iconst 0, 1)]) (pe := 40) (ls' := [some (.ref (o)), some (.int (nI 1)), none, none, none, none]) (st' := [.int (nI 0)]) ⟨dX11_takesCommand_39, rfl⟩ rfl ?_
      refine ev_iret dX11_takesCommand_40 rfl (rfl) ⟨Nat.le_of_ble_eq_true rfl, Nat.le_of_ble_eq_true rfl⟩ ?_
      have ef : ps t n (p1, false) 40 1 = (p1, true) := ps_n q15
      rw [ef] at Z503
      have hcm : (cm t n p).1 = (p1, true) := by
        rw [cm_x hkk (show 2 ≠ 3 by decide)]
        simp only [hs_eq, hns0, gl_eq, pw_b, psT, pwT, tl_0, tl_k (show 2 ≠ 0 by decide), psT, ef]
        first | done | rfl
      rw [hcm]
      exact ⟨rfl, _, Z50z, Z503, fun j hj => (Z50K j hj).trans (KK j hj), _, _, _, _, ⟨(Z50F.at (KF.at k23 (by omega) (by omega)) (by omega) (by omega)), (Z50F.at (KF.at k24 (by omega) (by omega)) (by omega) (by omega)), (Z50F.at (KF.at k25 (by omega) (by omega)) (by omega) (by omega)), (Z50F.at (KF.at k26 (by omega) (by omega)) (by omega) (by omega))⟩, fun j hj => ⟨rfl, fun i hi => rfl, rfl, rfl⟩, (fun z => by cases z), ((KF.em (by omega)).tr (Z50F.em (by omega)))⟩
    · have l2 := (ps_le (t := t) (n := n) (s := (p1, false)) (lo := 40) (c := 1) l1).1
      have ee2 : ps t n (p1, false) 40 1 = (p1 + 1, false) := ps_y q15
      have sv2 := sv_y q15
      rw [ee2] at l2 Z503
      obtain ⟨p2, hq2⟩ : ∃ q, q = p1 + 1 := ⟨_, rfl⟩
      rw [← hq2] at ee2 l2 Z503
      refine ev_blk (B := [(.aload_n 0, 1), (.iconst 0, 1), (.bipush 48, 2), (.bipush 53, 2)]) (pe := 24) (ls' := [some (.ref (o)), some (.int (nI 1)), none, none, none, none]) (st' := [.int (nI 53), .int (nI 48), .int (nI 0), .ref (o)]) ⟨dX11_takesCommand_18, dX11_takesCommand_19, dX11_takesCommand_20, dX11_takesCommand_22, rfl⟩ rfl ?_
      refine ev_cVw Y_X11_takesSign L_RX11_333 dX11_takesCommand_24 ⟨Nat.le_of_ble_eq_true rfl, Nat.le_of_ble_eq_true rfl, Nat.le_of_ble_eq_true rfl, Nat.le_of_ble_eq_true rfl, Nat.le_of_ble_eq_true rfl⟩ Z50z (as := [.int (nI 0), .int (nI 48), .int (nI 53)]) rfl rfl (c_R_takesSign hl o (Z50i) (zl) Z50z t ht n p2 hn l2 (((Z50K 42 (by decide)).trans (((KK 42 (by decide)).trans h42)))) Z503 (Px.fx (t := t) (hx.fx KF (by omega)) Z50F (by omega)) c hc10 (((Z50K 44 (by decide)).trans (((KK 44 (by decide)).trans h44)))) tld (Z50F.at (KF.at k24 (by omega) (by omega)) (by omega) (by omega)) 0 (by decide) 48 53 6 (by decide) (by decide) (by decide)) (fun M53 hL53 hB53 => ?_)
      obtain ⟨⟨Z52i, Z52z, Z523, Z52K⟩, Z52t, Z524, Z52y, Z52n, Z52F⟩ := hB53
      refine ev_ifB_eq dX11_takesCommand_27 (tgt := 39) (by decide) (fun q27 => ?_) (fun q27 => ?_)
      · refine ev_blk (B := [(.iconst 0, 1)]) (pe := 40) (ls' := [some (.ref (o)), some (.int (nI 1)), none, none, none, none]) (st' := [.int (nI 0)]) ⟨dX11_takesCommand_39, rfl⟩ rfl ?_
        refine ev_iret dX11_takesCommand_40 rfl (rfl) ⟨Nat.le_of_ble_eq_true rfl, Nat.le_of_ble_eq_true rfl⟩ ?_
        have ef : ps t n (p2, false) 48 6 = (p2, true) := ps_n q27
        rw [ef] at Z523
        have hcm : (cm t n p).1 = (p2, true) := by
          rw [cm_x hkk (show 2 ≠ 3 by decide)]
          simp only [hs_eq, hns0, gl_eq, pw_b, psT, pwT, tl_0, tl_k (show 2 ≠ 0 by decide), ee2, ef]
          first | done | rfl
        rw [hcm]
        exact ⟨rfl, _, Z52z, Z523, fun j hj => (Z52K j hj).trans ((Z50K j hj).trans (KK j hj)), _, _, _, _, ⟨(Z52F.at (Z50F.at (KF.at k23 (by omega) (by omega)) (by omega) (by omega)) (by omega) (by omega)), Z524, (Z52F.at (Z50F.at (KF.at k25 (by omega) (by omega)) (by omega) (by omega)) (by omega) (by omega)), (Z52F.at (Z50F.at (KF.at k26 (by omega) (by omega)) (by omega) (by omega)) (by omega) (by omega))⟩, fun j hj => ⟨rfl, fun i hi => (Z52n i (by omega)), rfl, rfl⟩, (fun z => by cases z), (((KF.em (by omega)).tr (Z50F.em (by omega))).tr (Z52F.to (by omega) (by omega)))⟩
      · have l3 := (ps_le (t := t) (n := n) (s := (p2, false)) (lo := 48) (c := 6) l2).1
        have ee3 : ps t n (p2, false) 48 6 = (p2 + 1, false) := ps_y q27
        have sv3 := sv_y q27
        rw [ee3] at l3 Z523
        have y3 := Z52y q27
        obtain ⟨p3, hq3⟩ : ∃ q, q = p2 + 1 := ⟨_, rfl⟩
        rw [← hq3] at ee3 l3 Z523
        refine ev_blk (B := [(.aload_n 0, 1), (.bipush 44, 2)]) (pe := 33) (ls' := [some (.ref (o)), some (.int (nI 1)), none, none, none, none]) (st' := [.int (nI 44), .ref (o)]) ⟨dX11_takesCommand_30, dX11_takesCommand_31, rfl⟩ rfl ?_
        refine ev_cVw Y_X11_skips L_RX11_330 dX11_takesCommand_33 ⟨Nat.le_of_ble_eq_true rfl, Nat.le_of_ble_eq_true rfl, Nat.le_of_ble_eq_true rfl, Nat.le_of_ble_eq_true rfl, Nat.le_of_ble_eq_true rfl⟩ Z52z (as := [.int (nI 44)]) rfl rfl (c_R_skips hl o (Z52i) (zl) Z52z t ht n p3 hn l3 (((Z52K 42 (by decide)).trans (((Z50K 42 (by decide)).trans (((KK 42 (by decide)).trans h42)))))) Z523 (Px.fx (t := t) (Px.fx (t := t) (hx.fx KF (by omega)) Z50F (by omega)) Z52F (by omega)) 44 (by decide)) (fun M55 hL55 hB55 => ?_)
        obtain ⟨⟨Z54i, Z54z, Z543, Z54K⟩, Z54F⟩ := hB55
        refine ev_ifB_ne dX11_takesCommand_36 (tgt := 41) (by decide) (fun q36 => ?_) (fun q36 => ?_)
        · have l4 := (ps_le (t := t) (n := n) (s := (p3, false)) (lo := 44) (c := 1) l3).1
          have ee4 : ps t n (p3, false) 44 1 = (p3 + 1, false) := ps_y q36
          have sv4 := sv_y q36
          rw [ee4] at l4 Z543
          obtain ⟨p4, hq4⟩ : ∃ q, q = p3 + 1 := ⟨_, rfl⟩
          rw [← hq4] at ee4 l4 Z543
          refine ev_blk (B := [(.aload_n 0, 1)]) (pe := 42) (ls' := [some (.ref (o)), some (.int (nI 1)), none, none, none, none]) (st' := [.ref (o)]) ⟨dX11_takesCommand_41, rfl⟩ rfl ?_
          refine ev_getf (v := .int (nI c)) F_RX11_322 dX11_takesCommand_42 Z54z (congrArg (fun q => some (Value.int q)) ((Z54K 44 (by decide)).trans (((Z52K 44 (by decide)).trans (((Z50K 44 (by decide)).trans (((KK 44 (by decide)).trans h44)))))))) ?_
          refine ev_blk (B := [(.bipush 10, 2)]) (pe := 47) (ls' := [some (.ref (o)), some (.int (nI 1)), none, none, none, none]) (st' := [.int (nI 10), .int (nI c)]) ⟨dX11_takesCommand_45, rfl⟩ rfl ?_
          refine ev_iN_ge dX11_takesCommand_47 (tgt := 60) (by decide) (by omega) (by omega) (fun q47 => ?_) (fun q47 => ?_)
          · exfalso; omega
          · refine ev_blk (B := [(.aload_n 0, 1)]) (pe := 51) (ls' := [some (.ref (o)), some (.int (nI 1)), none, none, none, none]) (st' := [.ref (o)]) ⟨dX11_takesCommand_50, rfl⟩ rfl ?_
            refine ev_getf (v := .ref (o + 23)) F_RX11_78 dX11_takesCommand_51 Z54z rfl ?_
            refine ev_blk (B := [(.aload_n 0, 1)]) (pe := 55) (ls' := [some (.ref (o)), some (.int (nI 1)), none, none, none, none]) (st' := [.ref (o), .ref (o + 23)]) ⟨dX11_takesCommand_54, rfl⟩ rfl ?_
            refine ev_getf (v := .int (nI c)) F_RX11_322 dX11_takesCommand_55 Z54z (congrArg (fun q => some (Value.int q)) ((Z54K 44 (by decide)).trans (((Z52K 44 (by decide)).trans (((Z50K 44 (by decide)).trans (((KK 44 (by decide)).trans h44)))))))) ?_
            refine ev_blk (B := [(.iload_n 1, 1)]) (pe := 59) (ls' := [some (.ref (o)), some (.int (nI 1)), none, none, none, none]) (st' := [.int (nI 1), .int (nI c), .ref (o + 23)]) ⟨dX11_takesCommand_58, rfl⟩ rfl ?_
            refine ev_iast dX11_takesCommand_59 (Z54F.at (Z52F.at (Z50F.at (KF.at k23 (by omega) (by omega)) (by omega) (by omega)) (by omega) (by omega)) (by omega) (by omega)) (vp_in_nI (show c < 12 by omega) (by omega)) ?_
            rw [nI_clamp (show c < 2 ^ 31 by omega)]
            refine ev_nm (M0 := M55.set (o + 23) (.inl (0, 12, .inl (upd kd c (nI 1))))) (fun M56 eM56 => ?_)
            have f57 : M56[o]? = some (.inr (10, zo o (Z54i) (zl))) := by rw [eM56, ev_sn (by omega)]; exact Z54z
            have f58 : M56[o + 22]? = some (.inl (2, 80, .inl (fun i => nI (t i)))) := by rw [eM56, ev_sn (by omega)]; exact (Px.fx (t := t) (Px.fx (t := t) (Px.fx (t := t) (hx.fx KF (by omega)) Z50F (by omega)) Z52F (by omega)) Z54F (by omega))
            have f59 : M56[o + 23]? = some (.inl (0, 12, .inl (upd kd c (nI 1)))) := by rw [eM56]; exact ev_sg (Z54F.at (Z52F.at (Z50F.at (KF.at k23 (by omega) (by omega)) (by omega) (by omega)) (by omega) (by omega)) (by omega) (by omega))
            have f60 : M56[o + 24]? = some (.inl (0, 48, .inl (Z52t))) := by rw [eM56, ev_sn (by omega)]; exact (Z54F.at Z524 (by omega) (by omega))
            have f61 : M56[o + 25]? = some (.inl (1, 12, .inr (.inl (tf)))) := by rw [eM56, ev_sn (by omega)]; exact (Z54F.at (Z52F.at (Z50F.at (KF.at k25 (by omega) (by omega)) (by omega) (by omega)) (by omega) (by omega)) (by omega) (by omega))
            have f62 : M56[o + 26]? = some (.inl (1, 12, .inr (.inl (t2)))) := by rw [eM56, ev_sn (by omega)]; exact (Z54F.at (Z52F.at (Z50F.at (KF.at k26 (by omega) (by omega)) (by omega) (by omega)) (by omega) (by omega)) (by omega) (by omega))
            refine ev_blk (B := [(.iload_n 1, 1), (.iconst 3, 1)]) (pe := 62) (ls' := [some (.ref (o)), some (.int (nI 1)), none, none, none, none]) (st' := [.int (nI 3), .int (nI 1)]) ⟨dX11_takesCommand_60, dX11_takesCommand_61, rfl⟩ rfl ?_
            refine ev_iN_ne dX11_takesCommand_62 (tgt := 120) (by decide) (by omega) (by omega) (fun q62 => ?_) (fun q62 => ?_)
            · refine ev_blk (B := [(.aload_n 0, 1), (.iconst 1, 1), (.bipush 48, 2), (.bipush 53, 2)]) (pe := 126) (ls' := [some (.ref (o)), some (.int (nI 1)), none, none, none, none]) (st' := [.int (nI 53), .int (nI 48), .int (nI 1), .ref (o)]) ⟨dX11_takesCommand_120, dX11_takesCommand_121, dX11_takesCommand_122, dX11_takesCommand_124, rfl⟩ rfl ?_
              have V63 : FX o (o + 23) (o + 27) M55 M56 := ⟨by rw [eM56]; simp only [List.length_set], fun j hj1 hj2 => by rw [eM56, ev_sn (by omega)]⟩
              refine ev_cVw Y_X11_takesSign L_RX11_333 dX11_takesCommand_126 ⟨Nat.le_of_ble_eq_true rfl, Nat.le_of_ble_eq_true rfl, Nat.le_of_ble_eq_true rfl, Nat.le_of_ble_eq_true rfl, Nat.le_of_ble_eq_true rfl⟩ f57 (as := [.int (nI 1), .int (nI 48), .int (nI 53)]) rfl rfl (c_R_takesSign hl o (Z54i) (zl) f57 t ht n p4 hn l4 (((Z54K 42 (by decide)).trans (((Z52K 42 (by decide)).trans (((Z50K 42 (by decide)).trans (((KK 42 (by decide)).trans h42)))))))) Z543 f58 c hc10 (((Z54K 44 (by decide)).trans (((Z52K 44 (by decide)).trans (((Z50K 44 (by decide)).trans (((KK 44 (by decide)).trans h44)))))))) Z52t f60 1 (by decide) 48 53 6 (by decide) (by decide) (by decide)) (fun M65 hL65 hB65 => ?_)
              obtain ⟨⟨Z64i, Z64z, Z643, Z64K⟩, Z64t, Z644, Z64y, Z64n, Z64F⟩ := hB65
              refine ev_ifB_ne dX11_takesCommand_129 (tgt := 134) (by decide) (fun q129 => ?_) (fun q129 => ?_)
              · have l5 := (ps_le (t := t) (n := n) (s := (p4, false)) (lo := 48) (c := 6) l4).1
                have ee5 : ps t n (p4, false) 48 6 = (p4 + 1, false) := ps_y q129
                have sv5 := sv_y q129
                rw [ee5] at l5 Z643
                have y5 := Z64y q129
                obtain ⟨p5, hq5⟩ : ∃ q, q = p4 + 1 := ⟨_, rfl⟩
                rw [← hq5] at ee5 l5 Z643
                refine ev_blk (B := [(.iload_n 1, 1), (.iconst 2, 1)]) (pe := 136) (ls' := [some (.ref (o)), some (.int (nI 1)), none, none, none, none]) (st' := [.int (nI 2), .int (nI 1)]) ⟨dX11_takesCommand_134, dX11_takesCommand_135, rfl⟩ rfl ?_
                refine ev_iN_ge dX11_takesCommand_136 (tgt := 183) (by decide) (by omega) (by omega) (fun q136 => ?_) (fun q136 => ?_)
                · exfalso; omega
                · refine ev_blk (B := [(.aload_n 0, 1), (.bipush 44, 2)]) (pe := 142) (ls' := [some (.ref (o)), some (.int (nI 1)), none, none, none, none]) (st' := [.int (nI 44), .ref (o)]) ⟨dX11_takesCommand_139, dX11_takesCommand_140, rfl⟩ rfl ?_
                  refine ev_cVw Y_X11_skips L_RX11_330 dX11_takesCommand_142 ⟨Nat.le_of_ble_eq_true rfl, Nat.le_of_ble_eq_true rfl, Nat.le_of_ble_eq_true rfl, Nat.le_of_ble_eq_true rfl, Nat.le_of_ble_eq_true rfl⟩ Z64z (as := [.int (nI 44)]) rfl rfl (c_R_skips hl o (Z64i) (zl) Z64z t ht n p5 hn l5 (((Z64K 42 (by decide)).trans (((Z54K 42 (by decide)).trans (((Z52K 42 (by decide)).trans (((Z50K 42 (by decide)).trans (((KK 42 (by decide)).trans h42)))))))))) Z643 (Px.fx (t := t) f58 Z64F (by omega)) 44 (by decide)) (fun M67 hL67 hB67 => ?_)
                  obtain ⟨⟨Z66i, Z66z, Z663, Z66K⟩, Z66F⟩ := hB67
                  refine ev_ifB_eq dX11_takesCommand_145 (tgt := 181) (by decide) (fun q145 => ?_) (fun q145 => ?_)
                  · refine ev_blk (B := [(.iconst 0, 1)]) (pe := 182) (ls' := [some (.ref (o)), some (.int (nI 1)), none, none, none, none]) (st' := [.int (nI 0)]) ⟨dX11_takesCommand_181, rfl⟩ rfl ?_
                    refine ev_iret dX11_takesCommand_182 rfl (rfl) ⟨Nat.le_of_ble_eq_true rfl, Nat.le_of_ble_eq_true rfl⟩ ?_
                    have ef : ps t n (p5, false) 44 1 = (p5, true) := ps_n q145
                    rw [ef] at Z663
                    have hcm : (cm t n p).1 = (p5, true) := by
                      rw [cm_x hkk (show 2 ≠ 3 by decide)]
                      simp only [hs_eq, hns0, gl_eq, pw_b, psT, pwT, tl_0, tl_k (show 2 ≠ 0 by decide), ee2, ee3, ee4, ee5, ef]
                      first | done | rfl
                    rw [hcm]
                    exact ⟨rfl, _, Z66z, Z663, fun j hj => (Z66K j hj).trans ((Z64K j hj).trans ((Z54K j hj).trans ((Z52K j hj).trans ((Z50K j hj).trans (KK j hj))))), _, _, _, _, ⟨(Z66F.at (Z64F.at f59 (by omega) (by omega)) (by omega) (by omega)), (Z66F.at Z644 (by omega) (by omega)), (Z66F.at (Z64F.at f61 (by omega) (by omega)) (by omega) (by omega)), (Z66F.at (Z64F.at f62 (by omega) (by omega)) (by omega) (by omega))⟩, fun j hj => ⟨by rw [upd_at, if_neg (by omega)], fun i hi => ((Z64n i (by omega)).trans (Z52n i (by omega))), rfl, rfl⟩, (fun z => by cases z), (((((((KF.em (by omega)).tr (Z50F.em (by omega))).tr (Z52F.to (by omega) (by omega))).tr (Z54F.em (by omega))).tr (V63.to (by omega) (by omega))).tr (Z64F.to (by omega) (by omega))).tr (Z66F.em (by omega)))⟩
                  · have l6 := (ps_le (t := t) (n := n) (s := (p5, false)) (lo := 44) (c := 1) l5).1
                    have ee6 : ps t n (p5, false) 44 1 = (p5 + 1, false) := ps_y q145
                    have sv6 := sv_y q145
                    rw [ee6] at l6 Z663
                    obtain ⟨p6, hq6⟩ : ∃ q, q = p5 + 1 := ⟨_, rfl⟩
                    rw [← hq6] at ee6 l6 Z663
                    refine ev_blk (B := [(.aload_n 0, 1), (.iconst 2, 1), (.bipush 48, 2), (.bipush 49, 2)]) (pe := 154) (ls' := [some (.ref (o)), some (.int (nI 1)), none, none, none, none]) (st' := [.int (nI 49), .int (nI 48), .int (nI 2), .ref (o)]) ⟨dX11_takesCommand_148, dX11_takesCommand_149, dX11_takesCommand_150, dX11_takesCommand_152, rfl⟩ rfl ?_
                    refine ev_cVw Y_X11_takesSign L_RX11_333 dX11_takesCommand_154 ⟨Nat.le_of_ble_eq_true rfl, Nat.le_of_ble_eq_true rfl, Nat.le_of_ble_eq_true rfl, Nat.le_of_ble_eq_true rfl, Nat.le_of_ble_eq_true rfl⟩ Z66z (as := [.int (nI 2), .int (nI 48), .int (nI 49)]) rfl rfl (c_R_takesSign hl o (Z66i) (zl) Z66z t ht n p6 hn l6 (((Z66K 42 (by decide)).trans (((Z64K 42 (by decide)).trans (((Z54K 42 (by decide)).trans (((Z52K 42 (by decide)).trans (((Z50K 42 (by decide)).trans (((KK 42 (by decide)).trans h42)))))))))))) Z663 (Px.fx (t := t) (Px.fx (t := t) f58 Z64F (by omega)) Z66F (by omega)) c hc10 (((Z66K 44 (by decide)).trans (((Z64K 44 (by decide)).trans (((Z54K 44 (by decide)).trans (((Z52K 44 (by decide)).trans (((Z50K 44 (by decide)).trans (((KK 44 (by decide)).trans h44)))))))))))) Z64t (Z66F.at Z644 (by omega) (by omega)) 2 (by decide) 48 49 2 (by decide) (by decide) (by decide)) (fun M69 hL69 hB69 => ?_)
                    obtain ⟨⟨Z68i, Z68z, Z683, Z68K⟩, Z68t, Z684, Z68y, Z68n, Z68F⟩ := hB69
                    refine ev_ifB_eq dX11_takesCommand_157 (tgt := 181) (by decide) (fun q157 => ?_) (fun q157 => ?_)
                    · refine ev_blk (B := [(.iconst 0, 1)]) (pe := 182) (ls' := [some (.ref (o)), some (.int (nI 1)), none, none, none, none]) (st' := [.int (nI 0)]) ⟨dX11_takesCommand_181, rfl⟩ rfl ?_
                      refine ev_iret dX11_takesCommand_182 rfl (rfl) ⟨Nat.le_of_ble_eq_true rfl, Nat.le_of_ble_eq_true rfl⟩ ?_
                      have ef : ps t n (p6, false) 48 2 = (p6, true) := ps_n q157
                      rw [ef] at Z683
                      have hcm : (cm t n p).1 = (p6, true) := by
                        rw [cm_x hkk (show 2 ≠ 3 by decide)]
                        simp only [hs_eq, hns0, gl_eq, pw_b, psT, pwT, tl_0, tl_k (show 2 ≠ 0 by decide), ee2, ee3, ee4, ee5, ee6, ef]
                        first | done | rfl
                      rw [hcm]
                      exact ⟨rfl, _, Z68z, Z683, fun j hj => (Z68K j hj).trans ((Z66K j hj).trans ((Z64K j hj).trans ((Z54K j hj).trans ((Z52K j hj).trans ((Z50K j hj).trans (KK j hj)))))), _, _, _, _, ⟨(Z68F.at (Z66F.at (Z64F.at f59 (by omega) (by omega)) (by omega) (by omega)) (by omega) (by omega)), Z684, (Z68F.at (Z66F.at (Z64F.at f61 (by omega) (by omega)) (by omega) (by omega)) (by omega) (by omega)), (Z68F.at (Z66F.at (Z64F.at f62 (by omega) (by omega)) (by omega) (by omega)) (by omega) (by omega))⟩, fun j hj => ⟨by rw [upd_at, if_neg (by omega)], fun i hi => ((Z68n i (by omega)).trans ((Z64n i (by omega)).trans (Z52n i (by omega)))), rfl, rfl⟩, (fun z => by cases z), ((((((((KF.em (by omega)).tr (Z50F.em (by omega))).tr (Z52F.to (by omega) (by omega))).tr (Z54F.em (by omega))).tr (V63.to (by omega) (by omega))).tr (Z64F.to (by omega) (by omega))).tr (Z66F.em (by omega))).tr (Z68F.to (by omega) (by omega)))⟩
                    · have l7 := (ps_le (t := t) (n := n) (s := (p6, false)) (lo := 48) (c := 2) l6).1
                      have ee7 : ps t n (p6, false) 48 2 = (p6 + 1, false) := ps_y q157
                      have sv7 := sv_y q157
                      rw [ee7] at l7 Z683
                      have y7 := Z68y q157
                      obtain ⟨p7, hq7⟩ : ∃ q, q = p6 + 1 := ⟨_, rfl⟩
                      rw [← hq7] at ee7 l7 Z683
                      refine ev_blk (B := [(.aload_n 0, 1), (.bipush 44, 2)]) (pe := 163) (ls' := [some (.ref (o)), some (.int (nI 1)), none, none, none, none]) (st' := [.int (nI 44), .ref (o)]) ⟨dX11_takesCommand_160, dX11_takesCommand_161, rfl⟩ rfl ?_
                      refine ev_cVw Y_X11_skips L_RX11_330 dX11_takesCommand_163 ⟨Nat.le_of_ble_eq_true rfl, Nat.le_of_ble_eq_true rfl, Nat.le_of_ble_eq_true rfl, Nat.le_of_ble_eq_true rfl, Nat.le_of_ble_eq_true rfl⟩ Z68z (as := [.int (nI 44)]) rfl rfl (c_R_skips hl o (Z68i) (zl) Z68z t ht n p7 hn l7 (((Z68K 42 (by decide)).trans (((Z66K 42 (by decide)).trans (((Z64K 42 (by decide)).trans (((Z54K 42 (by decide)).trans (((Z52K 42 (by decide)).trans (((Z50K 42 (by decide)).trans (((KK 42 (by decide)).trans h42)))))))))))))) Z683 (Px.fx (t := t) (Px.fx (t := t) (Px.fx (t := t) f58 Z64F (by omega)) Z66F (by omega)) Z68F (by omega)) 44 (by decide)) (fun M71 hL71 hB71 => ?_)
                      obtain ⟨⟨Z70i, Z70z, Z703, Z70K⟩, Z70F⟩ := hB71
                      refine ev_ifB_eq dX11_takesCommand_166 (tgt := 181) (by decide) (fun q166 => ?_) (fun q166 => ?_)
                      · refine ev_blk (B := [(.iconst 0, 1)]) (pe := 182) (ls' := [some (.ref (o)), some (.int (nI 1)), none, none, none, none]) (st' := [.int (nI 0)]) ⟨dX11_takesCommand_181, rfl⟩ rfl ?_
                        refine ev_iret dX11_takesCommand_182 rfl (rfl) ⟨Nat.le_of_ble_eq_true rfl, Nat.le_of_ble_eq_true rfl⟩ ?_
                        have ef : ps t n (p7, false) 44 1 = (p7, true) := ps_n q166
                        rw [ef] at Z703
                        have hcm : (cm t n p).1 = (p7, true) := by
                          rw [cm_x hkk (show 2 ≠ 3 by decide)]
                          simp only [hs_eq, hns0, gl_eq, pw_b, psT, pwT, tl_0, tl_k (show 2 ≠ 0 by decide), ee2, ee3, ee4, ee5, ee6, ee7, ef]
                          first | done | rfl
                        rw [hcm]
                        exact ⟨rfl, _, Z70z, Z703, fun j hj => (Z70K j hj).trans ((Z68K j hj).trans ((Z66K j hj).trans ((Z64K j hj).trans ((Z54K j hj).trans ((Z52K j hj).trans ((Z50K j hj).trans (KK j hj))))))), _, _, _, _, ⟨(Z70F.at (Z68F.at (Z66F.at (Z64F.at f59 (by omega) (by omega)) (by omega) (by omega)) (by omega) (by omega)) (by omega) (by omega)), (Z70F.at Z684 (by omega) (by omega)), (Z70F.at (Z68F.at (Z66F.at (Z64F.at f61 (by omega) (by omega)) (by omega) (by omega)) (by omega) (by omega)) (by omega) (by omega)), (Z70F.at (Z68F.at (Z66F.at (Z64F.at f62 (by omega) (by omega)) (by omega) (by omega)) (by omega) (by omega)) (by omega) (by omega))⟩, fun j hj => ⟨by rw [upd_at, if_neg (by omega)], fun i hi => ((Z68n i (by omega)).trans ((Z64n i (by omega)).trans (Z52n i (by omega)))), rfl, rfl⟩, (fun z => by cases z), (((((((((KF.em (by omega)).tr (Z50F.em (by omega))).tr (Z52F.to (by omega) (by omega))).tr (Z54F.em (by omega))).tr (V63.to (by omega) (by omega))).tr (Z64F.to (by omega) (by omega))).tr (Z66F.em (by omega))).tr (Z68F.to (by omega) (by omega))).tr (Z70F.em (by omega)))⟩
                      · have l8 := (ps_le (t := t) (n := n) (s := (p7, false)) (lo := 44) (c := 1) l7).1
                        have ee8 : ps t n (p7, false) 44 1 = (p7 + 1, false) := ps_y q166
                        have sv8 := sv_y q166
                        rw [ee8] at l8 Z703
                        obtain ⟨p8, hq8⟩ : ∃ q, q = p7 + 1 := ⟨_, rfl⟩
                        rw [← hq8] at ee8 l8 Z703
                        refine ev_blk (B := [(.aload_n 0, 1), (.iconst 3, 1), (.bipush 97, 2), (.bipush 99, 2)]) (pe := 175) (ls' := [some (.ref (o)), some (.int (nI 1)), none, none, none, none]) (st' := [.int (nI 99), .int (nI 97), .int (nI 3), .ref (o)]) ⟨dX11_takesCommand_169, dX11_takesCommand_170, dX11_takesCommand_171, dX11_takesCommand_173, rfl⟩ rfl ?_
                        refine ev_cVw Y_X11_takesSign L_RX11_333 dX11_takesCommand_175 ⟨Nat.le_of_ble_eq_true rfl, Nat.le_of_ble_eq_true rfl, Nat.le_of_ble_eq_true rfl, Nat.le_of_ble_eq_true rfl, Nat.le_of_ble_eq_true rfl⟩ Z70z (as := [.int (nI 3), .int (nI 97), .int (nI 99)]) rfl rfl (c_R_takesSign hl o (Z70i) (zl) Z70z t ht n p8 hn l8 (((Z70K 42 (by decide)).trans (((Z68K 42 (by decide)).trans (((Z66K 42 (by decide)).trans (((Z64K 42 (by decide)).trans (((Z54K 42 (by decide)).trans (((Z52K 42 (by decide)).trans (((Z50K 42 (by decide)).trans (((KK 42 (by decide)).trans h42)))))))))))))))) Z703 (Px.fx (t := t) (Px.fx (t := t) (Px.fx (t := t) (Px.fx (t := t) f58 Z64F (by omega)) Z66F (by omega)) Z68F (by omega)) Z70F (by omega)) c hc10 (((Z70K 44 (by decide)).trans (((Z68K 44 (by decide)).trans (((Z66K 44 (by decide)).trans (((Z64K 44 (by decide)).trans (((Z54K 44 (by decide)).trans (((Z52K 44 (by decide)).trans (((Z50K 44 (by decide)).trans (((KK 44 (by decide)).trans h44)))))))))))))))) Z68t (Z70F.at Z684 (by omega) (by omega)) 3 (by decide) 97 99 3 (by decide) (by decide) (by decide)) (fun M73 hL73 hB73 => ?_)
                        obtain ⟨⟨Z72i, Z72z, Z723, Z72K⟩, Z72t, Z724, Z72y, Z72n, Z72F⟩ := hB73
                        refine ev_ifB_ne dX11_takesCommand_178 (tgt := 183) (by decide) (fun q178 => ?_) (fun q178 => ?_)
                        · have l9 := (ps_le (t := t) (n := n) (s := (p8, false)) (lo := 97) (c := 3) l8).1
                          have ee9 : ps t n (p8, false) 97 3 = (p8 + 1, false) := ps_y q178
                          have sv9 := sv_y q178
                          rw [ee9] at l9 Z723
                          have y9 := Z72y q178
                          obtain ⟨p9, hq9⟩ : ∃ q, q = p8 + 1 := ⟨_, rfl⟩
                          rw [← hq9] at ee9 l9 Z723
                          refine ev_blk (B := [(.aload_n 0, 1), (.bipush 41, 2)]) (pe := 186) (ls' := [some (.ref (o)), some (.int (nI 1)), none, none, none, none]) (st' := [.int (nI 41), .ref (o)]) ⟨dX11_takesCommand_183, dX11_takesCommand_184, rfl⟩ rfl ?_
                          refine ev_cVw Y_X11_skips L_RX11_330 dX11_takesCommand_186 ⟨Nat.le_of_ble_eq_true rfl, Nat.le_of_ble_eq_true rfl, Nat.le_of_ble_eq_true rfl, Nat.le_of_ble_eq_true rfl, Nat.le_of_ble_eq_true rfl⟩ Z72z (as := [.int (nI 41)]) rfl rfl (c_R_skips hl o (Z72i) (zl) Z72z t ht n p9 hn l9 (((Z72K 42 (by decide)).trans (((Z70K 42 (by decide)).trans (((Z68K 42 (by decide)).trans (((Z66K 42 (by decide)).trans (((Z64K 42 (by decide)).trans (((Z54K 42 (by decide)).trans (((Z52K 42 (by decide)).trans (((Z50K 42 (by decide)).trans (((KK 42 (by decide)).trans h42)))))))))))))))))) Z723 (Px.fx (t := t) (Px.fx (t := t) (Px.fx (t := t) (Px.fx (t := t) (Px.fx (t := t) f58 Z64F (by omega)) Z66F (by omega)) Z68F (by omega)) Z70F (by omega)) Z72F (by omega)) 41 (by decide)) (fun M75 hL75 hB75 => ?_)
                          obtain ⟨⟨Z74i, Z74z, Z743, Z74K⟩, Z74F⟩ := hB75
                          refine ev_ifB_eq dX11_takesCommand_189 (tgt := 205) (by decide) (fun q189 => ?_) (fun q189 => ?_)
                          · refine ev_blk (B := [(.iconst 0, 1)]) (pe := 206) (ls' := [some (.ref (o)), some (.int (nI 1)), none, none, none, none]) (st' := [.int (nI 0)]) ⟨dX11_takesCommand_205, rfl⟩ rfl ?_
                            refine ev_iret dX11_takesCommand_206 rfl (rfl) ⟨Nat.le_of_ble_eq_true rfl, Nat.le_of_ble_eq_true rfl⟩ ?_
                            have ef : ps t n (p9, false) 41 1 = (p9, true) := ps_n q189
                            rw [ef] at Z743
                            have hcm : (cm t n p).1 = (p9, true) := by
                              rw [cm_x hkk (show 2 ≠ 3 by decide)]
                              simp only [hs_eq, hns0, gl_eq, pw_b, psT, pwT, tl_0, tl_k (show 2 ≠ 0 by decide), ee2, ee3, ee4, ee5, ee6, ee7, ee8, ee9, ef]
                              first | done | rfl
                            rw [hcm]
                            exact ⟨rfl, _, Z74z, Z743, fun j hj => (Z74K j hj).trans ((Z72K j hj).trans ((Z70K j hj).trans ((Z68K j hj).trans ((Z66K j hj).trans ((Z64K j hj).trans ((Z54K j hj).trans ((Z52K j hj).trans ((Z50K j hj).trans (KK j hj))))))))), _, _, _, _, ⟨(Z74F.at (Z72F.at (Z70F.at (Z68F.at (Z66F.at (Z64F.at f59 (by omega) (by omega)) (by omega) (by omega)) (by omega) (by omega)) (by omega) (by omega)) (by omega) (by omega)) (by omega) (by omega)), (Z74F.at Z724 (by omega) (by omega)), (Z74F.at (Z72F.at (Z70F.at (Z68F.at (Z66F.at (Z64F.at f61 (by omega) (by omega)) (by omega) (by omega)) (by omega) (by omega)) (by omega) (by omega)) (by omega) (by omega)) (by omega) (by omega)), (Z74F.at (Z72F.at (Z70F.at (Z68F.at (Z66F.at (Z64F.at f62 (by omega) (by omega)) (by omega) (by omega)) (by omega) (by omega)) (by omega) (by omega)) (by omega) (by omega)) (by omega) (by omega))⟩, fun j hj => ⟨by rw [upd_at, if_neg (by omega)], fun i hi => ((Z72n i (by omega)).trans ((Z68n i (by omega)).trans ((Z64n i (by omega)).trans (Z52n i (by omega))))), rfl, rfl⟩, (fun z => by cases z), (((((((((((KF.em (by omega)).tr (Z50F.em (by omega))).tr (Z52F.to (by omega) (by omega))).tr (Z54F.em (by omega))).tr (V63.to (by omega) (by omega))).tr (Z64F.to (by omega) (by omega))).tr (Z66F.em (by omega))).tr (Z68F.to (by omega) (by omega))).tr (Z70F.em (by omega))).tr (Z72F.to (by omega) (by omega))).tr (Z74F.em (by omega)))⟩
                          · have l10 := (ps_le (t := t) (n := n) (s := (p9, false)) (lo := 41) (c := 1) l9).1
                            have ee10 : ps t n (p9, false) 41 1 = (p9 + 1, false) := ps_y q189
                            have sv10 := sv_y q189
                            rw [ee10] at l10 Z743
                            obtain ⟨p10, hq10⟩ : ∃ q, q = p9 + 1 := ⟨_, rfl⟩
                            rw [← hq10] at ee10 l10 Z743
                            refine ev_blk (B := [(.aload_n 0, 1), (.bipush 59, 2)]) (pe := 195) (ls' := [some (.ref (o)), some (.int (nI 1)), none, none, none, none]) (st' := [.int (nI 59), .ref (o)]) ⟨dX11_takesCommand_192, dX11_takesCommand_193, rfl⟩ rfl ?_
                            refine ev_cVw Y_X11_skips L_RX11_330 dX11_takesCommand_195 ⟨Nat.le_of_ble_eq_true rfl, Nat.le_of_ble_eq_true rfl, Nat.le_of_ble_eq_true rfl, Nat.le_of_ble_eq_true rfl, Nat.le_of_ble_eq_true rfl⟩ Z74z (as := [.int (nI 59)]) rfl rfl (c_R_skips hl o (Z74i) (zl) Z74z t ht n p10 hn l10 (((Z74K 42 (by decide)).trans (((Z72K 42 (by decide)).trans (((Z70K 42 (by decide)).trans (((Z68K 42 (by decide)).trans (((Z66K 42 (by decide)).trans (((Z64K 42 (by decide)).trans (((Z54K 42 (by decide)).trans (((Z52K 42 (by decide)).trans (((Z50K 42 (by decide)).trans (((KK 42 (by decide)).trans h42)))))))))))))))))))) Z743 (Px.fx (t := t) (Px.fx (t := t) (Px.fx (t := t) (Px.fx (t := t) (Px.fx (t := t) (Px.fx (t := t) f58 Z64F (by omega)) Z66F (by omega)) Z68F (by omega)) Z70F (by omega)) Z72F (by omega)) Z74F (by omega)) 59 (by decide)) (fun M77 hL77 hB77 => ?_)
                            obtain ⟨⟨Z76i, Z76z, Z763, Z76K⟩, Z76F⟩ := hB77
                            refine ev_ifB_eq dX11_takesCommand_198 (tgt := 205) (by decide) (fun q198 => ?_) (fun q198 => ?_)
                            · refine ev_blk (B := [(.iconst 0, 1)]) (pe := 206) (ls' := [some (.ref (o)), some (.int (nI 1)), none, none, none, none]) (st' := [.int (nI 0)]) ⟨dX11_takesCommand_205, rfl⟩ rfl ?_
                              refine ev_iret dX11_takesCommand_206 rfl (rfl) ⟨Nat.le_of_ble_eq_true rfl, Nat.le_of_ble_eq_true rfl⟩ ?_
                              have ef : ps t n (p10, false) 59 1 = (p10, true) := ps_n q198
                              rw [ef] at Z763
                              have hcm : (cm t n p).1 = (p10, true) := by
                                rw [cm_x hkk (show 2 ≠ 3 by decide)]
                                simp only [hs_eq, hns0, gl_eq, pw_b, psT, pwT, tl_0, tl_k (show 2 ≠ 0 by decide), ee2, ee3, ee4, ee5, ee6, ee7, ee8, ee9, ee10, ef]
                                first | done | rfl
                              rw [hcm]
                              exact ⟨rfl, _, Z76z, Z763, fun j hj => (Z76K j hj).trans ((Z74K j hj).trans ((Z72K j hj).trans ((Z70K j hj).trans ((Z68K j hj).trans ((Z66K j hj).trans ((Z64K j hj).trans ((Z54K j hj).trans ((Z52K j hj).trans ((Z50K j hj).trans (KK j hj)))))))))), _, _, _, _, ⟨(Z76F.at (Z74F.at (Z72F.at (Z70F.at (Z68F.at (Z66F.at (Z64F.at f59 (by omega) (by omega)) (by omega) (by omega)) (by omega) (by omega)) (by omega) (by omega)) (by omega) (by omega)) (by omega) (by omega)) (by omega) (by omega)), (Z76F.at (Z74F.at Z724 (by omega) (by omega)) (by omega) (by omega)), (Z76F.at (Z74F.at (Z72F.at (Z70F.at (Z68F.at (Z66F.at (Z64F.at f61 (by omega) (by omega)) (by omega) (by omega)) (by omega) (by omega)) (by omega) (by omega)) (by omega) (by omega)) (by omega) (by omega)) (by omega) (by omega)), (Z76F.at (Z74F.at (Z72F.at (Z70F.at (Z68F.at (Z66F.at (Z64F.at f62 (by omega) (by omega)) (by omega) (by omega)) (by omega) (by omega)) (by omega) (by omega)) (by omega) (by omega)) (by omega) (by omega)) (by omega) (by omega))⟩, fun j hj => ⟨by rw [upd_at, if_neg (by omega)], fun i hi => ((Z72n i (by omega)).trans ((Z68n i (by omega)).trans ((Z64n i (by omega)).trans (Z52n i (by omega))))), rfl, rfl⟩, (fun z => by cases z), ((((((((((((KF.em (by omega)).tr (Z50F.em (by omega))).tr (Z52F.to (by omega) (by omega))).tr (Z54F.em (by omega))).tr (V63.to (by omega) (by omega))).tr (Z64F.to (by omega) (by omega))).tr (Z66F.em (by omega))).tr (Z68F.to (by omega) (by omega))).tr (Z70F.em (by omega))).tr (Z72F.to (by omega) (by omega))).tr (Z74F.em (by omega))).tr (Z76F.em (by omega)))⟩
                            · have l11 := (ps_le (t := t) (n := n) (s := (p10, false)) (lo := 59) (c := 1) l10).1
                              have ee11 : ps t n (p10, false) 59 1 = (p10 + 1, false) := ps_y q198
                              have sv11 := sv_y q198
                              rw [ee11] at l11 Z763
                              obtain ⟨p11, hq11⟩ : ∃ q, q = p10 + 1 := ⟨_, rfl⟩
                              rw [← hq11] at ee11 l11 Z763
                              refine ev_blk (B := [(.iconst 1, 1)]) (pe := 202) (ls' := [some (.ref (o)), some (.int (nI 1)), none, none, none, none]) (st' := [.int (nI 1)]) ⟨dX11_takesCommand_201, rfl⟩ rfl ?_
                              refine ev_goto (tgt := 206) dX11_takesCommand_202 (by decide) ?_
                              refine ev_iret dX11_takesCommand_206 rfl (rfl) ⟨Nat.le_of_ble_eq_true rfl, Nat.le_of_ble_eq_true rfl⟩ ?_
                              have hcm : cm t n p = ((p11, false), some (.inl (sv t n (p2, false) 48 6, sv t n (p4, false) 48 6, 2, sv t n (p6, false) 48 2, sv t n (p8, false) 97 3))) := by
                                rw [cm_x hkk (show 2 ≠ 3 by decide)]
                                simp only [hs_eq, hns0, gl_eq, pw_b, psT, pwT, tl_0, tl_k (show 2 ≠ 0 by decide), ee2, ee3, ee4, ee5, ee6, ee7, ee8, ee9, ee10, ee11]
                                first | done | rfl
                              rw [hcm]
                              exact ⟨rfl, _, Z76z, Z763, fun j hj => (Z76K j hj).trans ((Z74K j hj).trans ((Z72K j hj).trans ((Z70K j hj).trans ((Z68K j hj).trans ((Z66K j hj).trans ((Z64K j hj).trans ((Z54K j hj).trans ((Z52K j hj).trans ((Z50K j hj).trans (KK j hj)))))))))), _, _, _, _, ⟨(Z76F.at (Z74F.at (Z72F.at (Z70F.at (Z68F.at (Z66F.at (Z64F.at f59 (by omega) (by omega)) (by omega) (by omega)) (by omega) (by omega)) (by omega) (by omega)) (by omega) (by omega)) (by omega) (by omega)) (by omega) (by omega)), (Z76F.at (Z74F.at Z724 (by omega) (by omega)) (by omega) (by omega)), (Z76F.at (Z74F.at (Z72F.at (Z70F.at (Z68F.at (Z66F.at (Z64F.at f61 (by omega) (by omega)) (by omega) (by omega)) (by omega) (by omega)) (by omega) (by omega)) (by omega) (by omega)) (by omega) (by omega)) (by omega) (by omega)), (Z76F.at (Z74F.at (Z72F.at (Z70F.at (Z68F.at (Z66F.at (Z64F.at f62 (by omega) (by omega)) (by omega) (by omega)) (by omega) (by omega)) (by omega) (by omega)) (by omega) (by omega)) (by omega) (by omega)) (by omega) (by omega))⟩, fun j hj => ⟨by rw [upd_at, if_neg (by omega)], fun i hi => ((Z72n i (by omega)).trans ((Z68n i (by omega)).trans ((Z64n i (by omega)).trans (Z52n i (by omega))))), rfl, rfl⟩, (fun _ => ⟨_, rfl, ⟨by rw [upd_at, if_pos rfl]; rfl, ((Z72n _ (by omega)).trans ((Z68n _ (by omega)).trans ((Z64n _ (by omega)).trans y3))), ((Z72n _ (by omega)).trans ((Z68n _ (by omega)).trans y5)), fun _ => ⟨((Z72n _ (by omega)).trans y7), y9⟩⟩⟩), ((((((((((((KF.em (by omega)).tr (Z50F.em (by omega))).tr (Z52F.to (by omega) (by omega))).tr (Z54F.em (by omega))).tr (V63.to (by omega) (by omega))).tr (Z64F.to (by omega) (by omega))).tr (Z66F.em (by omega))).tr (Z68F.to (by omega) (by omega))).tr (Z70F.em (by omega))).tr (Z72F.to (by omega) (by omega))).tr (Z74F.em (by omega))).tr (Z76F.em (by omega)))⟩
                        · refine ev_blk (B := [(.iconst 0, 1)]) (pe := 182) (ls' := [some (.ref (o)), some (.int (nI 1)), none, none, none, none]) (st' := [.int (nI 0)]) ⟨dX11_takesCommand_181, rfl⟩ rfl ?_
                          refine ev_iret dX11_takesCommand_182 rfl (rfl) ⟨Nat.le_of_ble_eq_true rfl, Nat.le_of_ble_eq_true rfl⟩ ?_
                          have ef : ps t n (p8, false) 97 3 = (p8, true) := ps_n q178
                          rw [ef] at Z723
                          have hcm : (cm t n p).1 = (p8, true) := by
                            rw [cm_x hkk (show 2 ≠ 3 by decide)]
                            simp only [hs_eq, hns0, gl_eq, pw_b, psT, pwT, tl_0, tl_k (show 2 ≠ 0 by decide), ee2, ee3, ee4, ee5, ee6, ee7, ee8, ef]
                            first | done | rfl
                          rw [hcm]
                          exact ⟨rfl, _, Z72z, Z723, fun j hj => (Z72K j hj).trans ((Z70K j hj).trans ((Z68K j hj).trans ((Z66K j hj).trans ((Z64K j hj).trans ((Z54K j hj).trans ((Z52K j hj).trans ((Z50K j hj).trans (KK j hj)))))))), _, _, _, _, ⟨(Z72F.at (Z70F.at (Z68F.at (Z66F.at (Z64F.at f59 (by omega) (by omega)) (by omega) (by omega)) (by omega) (by omega)) (by omega) (by omega)) (by omega) (by omega)), Z724, (Z72F.at (Z70F.at (Z68F.at (Z66F.at (Z64F.at f61 (by omega) (by omega)) (by omega) (by omega)) (by omega) (by omega)) (by omega) (by omega)) (by omega) (by omega)), (Z72F.at (Z70F.at (Z68F.at (Z66F.at (Z64F.at f62 (by omega) (by omega)) (by omega) (by omega)) (by omega) (by omega)) (by omega) (by omega)) (by omega) (by omega))⟩, fun j hj => ⟨by rw [upd_at, if_neg (by omega)], fun i hi => ((Z72n i (by omega)).trans ((Z68n i (by omega)).trans ((Z64n i (by omega)).trans (Z52n i (by omega))))), rfl, rfl⟩, (fun z => by cases z), ((((((((((KF.em (by omega)).tr (Z50F.em (by omega))).tr (Z52F.to (by omega) (by omega))).tr (Z54F.em (by omega))).tr (V63.to (by omega) (by omega))).tr (Z64F.to (by omega) (by omega))).tr (Z66F.em (by omega))).tr (Z68F.to (by omega) (by omega))).tr (Z70F.em (by omega))).tr (Z72F.to (by omega) (by omega)))⟩
              · refine ev_blk (B := [(.iconst 0, 1)]) (pe := 133) (ls' := [some (.ref (o)), some (.int (nI 1)), none, none, none, none]) (st' := [.int (nI 0)]) ⟨dX11_takesCommand_132, rfl⟩ rfl ?_
                refine ev_iret dX11_takesCommand_133 rfl (rfl) ⟨Nat.le_of_ble_eq_true rfl, Nat.le_of_ble_eq_true rfl⟩ ?_
                have ef : ps t n (p4, false) 48 6 = (p4, true) := ps_n q129
                rw [ef] at Z643
                have hcm : (cm t n p).1 = (p4, true) := by
                  rw [cm_x hkk (show 2 ≠ 3 by decide)]
                  simp only [hs_eq, hns0, gl_eq, pw_b, psT, pwT, tl_0, tl_k (show 2 ≠ 0 by decide), ee2, ee3, ee4, ef]
                  first | done | rfl
                rw [hcm]
                exact ⟨rfl, _, Z64z, Z643, fun j hj => (Z64K j hj).trans ((Z54K j hj).trans ((Z52K j hj).trans ((Z50K j hj).trans (KK j hj)))), _, _, _, _, ⟨(Z64F.at f59 (by omega) (by omega)), Z644, (Z64F.at f61 (by omega) (by omega)), (Z64F.at f62 (by omega) (by omega))⟩, fun j hj => ⟨by rw [upd_at, if_neg (by omega)], fun i hi => ((Z64n i (by omega)).trans (Z52n i (by omega))), rfl, rfl⟩, (fun z => by cases z), ((((((KF.em (by omega)).tr (Z50F.em (by omega))).tr (Z52F.to (by omega) (by omega))).tr (Z54F.em (by omega))).tr (V63.to (by omega) (by omega))).tr (Z64F.to (by omega) (by omega)))⟩
            · exact absurd q62 (by decide)
        · refine ev_blk (B := [(.iconst 0, 1)]) (pe := 40) (ls' := [some (.ref (o)), some (.int (nI 1)), none, none, none, none]) (st' := [.int (nI 0)]) ⟨dX11_takesCommand_39, rfl⟩ rfl ?_
          refine ev_iret dX11_takesCommand_40 rfl (rfl) ⟨Nat.le_of_ble_eq_true rfl, Nat.le_of_ble_eq_true rfl⟩ ?_
          have ef : ps t n (p3, false) 44 1 = (p3, true) := ps_n q36
          rw [ef] at Z543
          have hcm : (cm t n p).1 = (p3, true) := by
            rw [cm_x hkk (show 2 ≠ 3 by decide)]
            simp only [hs_eq, hns0, gl_eq, pw_b, psT, pwT, tl_0, tl_k (show 2 ≠ 0 by decide), ee2, ee3, ef]
            first | done | rfl
          rw [hcm]
          exact ⟨rfl, _, Z54z, Z543, fun j hj => (Z54K j hj).trans ((Z52K j hj).trans ((Z50K j hj).trans (KK j hj))), _, _, _, _, ⟨(Z54F.at (Z52F.at (Z50F.at (KF.at k23 (by omega) (by omega)) (by omega) (by omega)) (by omega) (by omega)) (by omega) (by omega)), (Z54F.at Z524 (by omega) (by omega)), (Z54F.at (Z52F.at (Z50F.at (KF.at k25 (by omega) (by omega)) (by omega) (by omega)) (by omega) (by omega)) (by omega) (by omega)), (Z54F.at (Z52F.at (Z50F.at (KF.at k26 (by omega) (by omega)) (by omega) (by omega)) (by omega) (by omega)) (by omega) (by omega))⟩, fun j hj => ⟨rfl, fun i hi => (Z52n i (by omega)), rfl, rfl⟩, (fun z => by cases z), ((((KF.em (by omega)).tr (Z50F.em (by omega))).tr (Z52F.to (by omega) (by omega))).tr (Z54F.em (by omega)))⟩
  · rw [hkk]
    show ev_ l m_X11_takesCommand _ _ 5 [some (.ref (o)), some (.int (nI 3)), none, none, none, none] [] _ _
    have hns0 := ns_s hkk
    rw [hns0] at K3
    have l1 := ns_le (t := t) (n := n) hp
    rw [hns0] at l1
    obtain ⟨p1, hq1⟩ : ∃ q, q = (ns t n p).1 := ⟨_, rfl⟩
    rw [← hq1] at hns0
    have hq1b : (ns t n p).1 = p1 := hq1.symm
    replace K3 : Ki 43 = nI p1 := K3.trans (congrArg nI hq1b)
    replace l1 : p1 ≤ n := hq1 ▸ l1
    refine ev_blk (B := [(.iload_n 1, 1)]) (pe := 6) (ls' := [some (.ref (o)), some (.int (nI 3)), none, none, none, none]) (st' := [.int (nI 3)]) ⟨dX11_takesCommand_5, rfl⟩ rfl ?_
    refine ev_fN_lt dX11_takesCommand_6 (tgt := 39) (by decide) (by omega) ?_
    refine ev_blk (B := [(.aload_n 0, 1), (.bipush 40, 2)]) (pe := 12) (ls' := [some (.ref (o)), some (.int (nI 3)), none, none, none, none]) (st' := [.int (nI 40), .ref (o)]) ⟨dX11_takesCommand_9, dX11_takesCommand_10, rfl⟩ rfl ?_
    refine ev_cVw Y_X11_skips L_RX11_330 dX11_takesCommand_12 ⟨Nat.le_of_ble_eq_true rfl, Nat.le_of_ble_eq_true rfl, Nat.le_of_ble_eq_true rfl, Nat.le_of_ble_eq_true rfl, Nat.le_of_ble_eq_true rfl⟩ Kz (as := [.int (nI 40)]) rfl rfl (c_R_skips hl o (Ki) (zl) Kz t ht n p1 hn l1 (((KK 42 (by decide)).trans h42)) K3 (hx.fx KF (by omega)) 40 (by decide)) (fun M79 hL79 hB79 => ?_)
    obtain ⟨⟨Z78i, Z78z, Z783, Z78K⟩, Z78F⟩ := hB79
    refine ev_ifB_eq dX11_takesCommand_15 (tgt := 39) (by decide) (fun q15 => ?_) (fun q15 => ?_)
    · refine ev_blk (B := [(.iconst 0, 1)]) (pe := 40) (ls' := [some (.ref (o)), some (.int (nI 3)), none, none, none, none]) (st' := [.int (nI 0)]) ⟨dX11_takesCommand_39, rfl⟩ rfl ?_
      refine ev_iret dX11_takesCommand_40 rfl (rfl) ⟨Nat.le_of_ble_eq_true rfl, Nat.le_of_ble_eq_true rfl⟩ ?_
      have ef : ps t n (p1, false) 40 1 = (p1, true) := ps_n q15
      rw [ef] at Z783
      have hcm : (cm t n p).1 = (p1, true) := by
        rw [cm_g hkk]
        simp only [hs_eq, hns0, gl_eq, pw_b, psT, pwT, tl_0, psT, ef]
        first | done | rfl
      rw [hcm]
      exact ⟨rfl, _, Z78z, Z783, fun j hj => (Z78K j hj).trans (KK j hj), _, _, _, _, ⟨(Z78F.at (KF.at k23 (by omega) (by omega)) (by omega) (by omega)), (Z78F.at (KF.at k24 (by omega) (by omega)) (by omega) (by omega)), (Z78F.at (KF.at k25 (by omega) (by omega)) (by omega) (by omega)), (Z78F.at (KF.at k26 (by omega) (by omega)) (by omega) (by omega))⟩, fun j hj => ⟨rfl, fun i hi => rfl, rfl, rfl⟩, (fun z => by cases z), ((KF.em (by omega)).tr (Z78F.em (by omega)))⟩
    · have l2 := (ps_le (t := t) (n := n) (s := (p1, false)) (lo := 40) (c := 1) l1).1
      have ee2 : ps t n (p1, false) 40 1 = (p1 + 1, false) := ps_y q15
      have sv2 := sv_y q15
      rw [ee2] at l2 Z783
      obtain ⟨p2, hq2⟩ : ∃ q, q = p1 + 1 := ⟨_, rfl⟩
      rw [← hq2] at ee2 l2 Z783
      refine ev_blk (B := [(.aload_n 0, 1), (.iconst 0, 1), (.bipush 48, 2), (.bipush 53, 2)]) (pe := 24) (ls' := [some (.ref (o)), some (.int (nI 3)), none, none, none, none]) (st' := [.int (nI 53), .int (nI 48), .int (nI 0), .ref (o)]) ⟨dX11_takesCommand_18, dX11_takesCommand_19, dX11_takesCommand_20, dX11_takesCommand_22, rfl⟩ rfl ?_
      refine ev_cVw Y_X11_takesSign L_RX11_333 dX11_takesCommand_24 ⟨Nat.le_of_ble_eq_true rfl, Nat.le_of_ble_eq_true rfl, Nat.le_of_ble_eq_true rfl, Nat.le_of_ble_eq_true rfl, Nat.le_of_ble_eq_true rfl⟩ Z78z (as := [.int (nI 0), .int (nI 48), .int (nI 53)]) rfl rfl (c_R_takesSign hl o (Z78i) (zl) Z78z t ht n p2 hn l2 (((Z78K 42 (by decide)).trans (((KK 42 (by decide)).trans h42)))) Z783 (Px.fx (t := t) (hx.fx KF (by omega)) Z78F (by omega)) c hc10 (((Z78K 44 (by decide)).trans (((KK 44 (by decide)).trans h44)))) tld (Z78F.at (KF.at k24 (by omega) (by omega)) (by omega) (by omega)) 0 (by decide) 48 53 6 (by decide) (by decide) (by decide)) (fun M81 hL81 hB81 => ?_)
      obtain ⟨⟨Z80i, Z80z, Z803, Z80K⟩, Z80t, Z804, Z80y, Z80n, Z80F⟩ := hB81
      refine ev_ifB_eq dX11_takesCommand_27 (tgt := 39) (by decide) (fun q27 => ?_) (fun q27 => ?_)
      · refine ev_blk (B := [(.iconst 0, 1)]) (pe := 40) (ls' := [some (.ref (o)), some (.int (nI 3)), none, none, none, none]) (st' := [.int (nI 0)]) ⟨dX11_takesCommand_39, rfl⟩ rfl ?_
        refine ev_iret dX11_takesCommand_40 rfl (rfl) ⟨Nat.le_of_ble_eq_true rfl, Nat.le_of_ble_eq_true rfl⟩ ?_
        have ef : ps t n (p2, false) 48 6 = (p2, true) := ps_n q27
        rw [ef] at Z803
        have hcm : (cm t n p).1 = (p2, true) := by
          rw [cm_g hkk]
          simp only [hs_eq, hns0, gl_eq, pw_b, psT, pwT, tl_0, ee2, ef]
          first | done | rfl
        rw [hcm]
        exact ⟨rfl, _, Z80z, Z803, fun j hj => (Z80K j hj).trans ((Z78K j hj).trans (KK j hj)), _, _, _, _, ⟨(Z80F.at (Z78F.at (KF.at k23 (by omega) (by omega)) (by omega) (by omega)) (by omega) (by omega)), Z804, (Z80F.at (Z78F.at (KF.at k25 (by omega) (by omega)) (by omega) (by omega)) (by omega) (by omega)), (Z80F.at (Z78F.at (KF.at k26 (by omega) (by omega)) (by omega) (by omega)) (by omega) (by omega))⟩, fun j hj => ⟨rfl, fun i hi => (Z80n i (by omega)), rfl, rfl⟩, (fun z => by cases z), (((KF.em (by omega)).tr (Z78F.em (by omega))).tr (Z80F.to (by omega) (by omega)))⟩
      · have l3 := (ps_le (t := t) (n := n) (s := (p2, false)) (lo := 48) (c := 6) l2).1
        have ee3 : ps t n (p2, false) 48 6 = (p2 + 1, false) := ps_y q27
        have sv3 := sv_y q27
        rw [ee3] at l3 Z803
        have y3 := Z80y q27
        obtain ⟨p3, hq3⟩ : ∃ q, q = p2 + 1 := ⟨_, rfl⟩
        rw [← hq3] at ee3 l3 Z803
        refine ev_blk (B := [(.aload_n 0, 1), (.bipush 44, 2)]) (pe := 33) (ls' := [some (.ref (o)), some (.int (nI 3)), none, none, none, none]) (st' := [.int (nI 44), .ref (o)]) ⟨dX11_takesCommand_30, dX11_takesCommand_31, rfl⟩ rfl ?_
        refine ev_cVw Y_X11_skips L_RX11_330 dX11_takesCommand_33 ⟨Nat.le_of_ble_eq_true rfl, Nat.le_of_ble_eq_true rfl, Nat.le_of_ble_eq_true rfl, Nat.le_of_ble_eq_true rfl, Nat.le_of_ble_eq_true rfl⟩ Z80z (as := [.int (nI 44)]) rfl rfl (c_R_skips hl o (Z80i) (zl) Z80z t ht n p3 hn l3 (((Z80K 42 (by decide)).trans (((Z78K 42 (by decide)).trans (((KK 42 (by decide)).trans h42)))))) Z803 (Px.fx (t := t) (Px.fx (t := t) (hx.fx KF (by omega)) Z78F (by omega)) Z80F (by omega)) 44 (by decide)) (fun M83 hL83 hB83 => ?_)
        obtain ⟨⟨Z82i, Z82z, Z823, Z82K⟩, Z82F⟩ := hB83
        refine ev_ifB_ne dX11_takesCommand_36 (tgt := 41) (by decide) (fun q36 => ?_) (fun q36 => ?_)
        · have l4 := (ps_le (t := t) (n := n) (s := (p3, false)) (lo := 44) (c := 1) l3).1
          have ee4 : ps t n (p3, false) 44 1 = (p3 + 1, false) := ps_y q36
          have sv4 := sv_y q36
          rw [ee4] at l4 Z823
          obtain ⟨p4, hq4⟩ : ∃ q, q = p3 + 1 := ⟨_, rfl⟩
          rw [← hq4] at ee4 l4 Z823
          refine ev_blk (B := [(.aload_n 0, 1)]) (pe := 42) (ls' := [some (.ref (o)), some (.int (nI 3)), none, none, none, none]) (st' := [.ref (o)]) ⟨dX11_takesCommand_41, rfl⟩ rfl ?_
          refine ev_getf (v := .int (nI c)) F_RX11_322 dX11_takesCommand_42 Z82z (congrArg (fun q => some (Value.int q)) ((Z82K 44 (by decide)).trans (((Z80K 44 (by decide)).trans (((Z78K 44 (by decide)).trans (((KK 44 (by decide)).trans h44)))))))) ?_
          refine ev_blk (B := [(.bipush 10, 2)]) (pe := 47) (ls' := [some (.ref (o)), some (.int (nI 3)), none, none, none, none]) (st' := [.int (nI 10), .int (nI c)]) ⟨dX11_takesCommand_45, rfl⟩ rfl ?_
          refine ev_iN_ge dX11_takesCommand_47 (tgt := 60) (by decide) (by omega) (by omega) (fun q47 => ?_) (fun q47 => ?_)
          · exfalso; omega
          · refine ev_blk (B := [(.aload_n 0, 1)]) (pe := 51) (ls' := [some (.ref (o)), some (.int (nI 3)), none, none, none, none]) (st' := [.ref (o)]) ⟨dX11_takesCommand_50, rfl⟩ rfl ?_
            refine ev_getf (v := .ref (o + 23)) F_RX11_78 dX11_takesCommand_51 Z82z rfl ?_
            refine ev_blk (B := [(.aload_n 0, 1)]) (pe := 55) (ls' := [some (.ref (o)), some (.int (nI 3)), none, none, none, none]) (st' := [.ref (o), .ref (o + 23)]) ⟨dX11_takesCommand_54, rfl⟩ rfl ?_
            refine ev_getf (v := .int (nI c)) F_RX11_322 dX11_takesCommand_55 Z82z (congrArg (fun q => some (Value.int q)) ((Z82K 44 (by decide)).trans (((Z80K 44 (by decide)).trans (((Z78K 44 (by decide)).trans (((KK 44 (by decide)).trans h44)))))))) ?_
            refine ev_blk (B := [(.iload_n 1, 1)]) (pe := 59) (ls' := [some (.ref (o)), some (.int (nI 3)), none, none, none, none]) (st' := [.int (nI 3), .int (nI c), .ref (o + 23)]) ⟨dX11_takesCommand_58, rfl⟩ rfl ?_
            refine ev_iast dX11_takesCommand_59 (Z82F.at (Z80F.at (Z78F.at (KF.at k23 (by omega) (by omega)) (by omega) (by omega)) (by omega) (by omega)) (by omega) (by omega)) (vp_in_nI (show c < 12 by omega) (by omega)) ?_
            rw [nI_clamp (show c < 2 ^ 31 by omega)]
            refine ev_nm (M0 := M83.set (o + 23) (.inl (0, 12, .inl (upd kd c (nI 3))))) (fun M84 eM84 => ?_)
            have f85 : M84[o]? = some (.inr (10, zo o (Z82i) (zl))) := by rw [eM84, ev_sn (by omega)]; exact Z82z
            have f86 : M84[o + 22]? = some (.inl (2, 80, .inl (fun i => nI (t i)))) := by rw [eM84, ev_sn (by omega)]; exact (Px.fx (t := t) (Px.fx (t := t) (Px.fx (t := t) (hx.fx KF (by omega)) Z78F (by omega)) Z80F (by omega)) Z82F (by omega))
            have f87 : M84[o + 23]? = some (.inl (0, 12, .inl (upd kd c (nI 3)))) := by rw [eM84]; exact ev_sg (Z82F.at (Z80F.at (Z78F.at (KF.at k23 (by omega) (by omega)) (by omega) (by omega)) (by omega) (by omega)) (by omega) (by omega))
            have f88 : M84[o + 24]? = some (.inl (0, 48, .inl (Z80t))) := by rw [eM84, ev_sn (by omega)]; exact (Z82F.at Z804 (by omega) (by omega))
            have f89 : M84[o + 25]? = some (.inl (1, 12, .inr (.inl (tf)))) := by rw [eM84, ev_sn (by omega)]; exact (Z82F.at (Z80F.at (Z78F.at (KF.at k25 (by omega) (by omega)) (by omega) (by omega)) (by omega) (by omega)) (by omega) (by omega))
            have f90 : M84[o + 26]? = some (.inl (1, 12, .inr (.inl (t2)))) := by rw [eM84, ev_sn (by omega)]; exact (Z82F.at (Z80F.at (Z78F.at (KF.at k26 (by omega) (by omega)) (by omega) (by omega)) (by omega) (by omega)) (by omega) (by omega))
            refine ev_blk (B := [(.iload_n 1, 1), (.iconst 3, 1)]) (pe := 62) (ls' := [some (.ref (o)), some (.int (nI 3)), none, none, none, none]) (st' := [.int (nI 3), .int (nI 3)]) ⟨dX11_takesCommand_60, dX11_takesCommand_61, rfl⟩ rfl ?_
            refine ev_iN_ne dX11_takesCommand_62 (tgt := 120) (by decide) (by omega) (by omega) (fun q62 => ?_) (fun q62 => ?_)
            · exact absurd rfl q62
            · refine ev_blk (B := [(.aload_n 0, 1)]) (pe := 66) (ls' := [some (.ref (o)), some (.int (nI 3)), none, none, none, none]) (st' := [.ref (o)]) ⟨dX11_takesCommand_65, rfl⟩ rfl ?_
              have V91 : FX o (o + 23) (o + 27) M83 M84 := ⟨by rw [eM84]; simp only [List.length_set], fun j hj1 hj2 => by rw [eM84, ev_sn (by omega)]⟩
              refine ev_cVw Y_X11_takesWord L_RX11_336 dX11_takesCommand_66 ⟨Nat.le_of_ble_eq_true rfl, Nat.le_of_ble_eq_true rfl, Nat.le_of_ble_eq_true rfl, Nat.le_of_ble_eq_true rfl, Nat.le_of_ble_eq_true rfl⟩ f85 (as := []) rfl rfl (c_R_takesWord hl o (Z82i) (zl) f85 t ht n p4 hn l4 (((Z82K 42 (by decide)).trans (((Z80K 42 (by decide)).trans (((Z78K 42 (by decide)).trans (((KK 42 (by decide)).trans h42)))))))) Z823 f86) (fun M93 hL93 hB93 => ?_)
              obtain ⟨Z92i, Z92z, Z923, Z92K, Z92F⟩ := hB93
              have l5 := (pw_ok (t := t) (n := n) (b := false) 10 p4 l4).2.2.1
              obtain ⟨w5, p5, ee5⟩ : ∃ w q, pw t n false 10 p4 = (w, q) := ⟨_, _, rfl⟩
              rw [ee5] at Z923 l5 ⊢
              refine ev_blk (B := [(.lstore_n 2, 1), (.aload_n 0, 1), (.bipush 44, 2)]) (pe := 73) (ls' := [some (.ref (o)), some (.int (nI 3)), some (.long (e2 w5)), none, none, none]) (st' := [.int (nI 44), .ref (o)]) ⟨dX11_takesCommand_69, dX11_takesCommand_70, dX11_takesCommand_71, rfl⟩ rfl ?_
              refine ev_cVw Y_X11_skips L_RX11_330 dX11_takesCommand_73 ⟨Nat.le_of_ble_eq_true rfl, Nat.le_of_ble_eq_true rfl, Nat.le_of_ble_eq_true rfl, Nat.le_of_ble_eq_true rfl, Nat.le_of_ble_eq_true rfl⟩ Z92z (as := [.int (nI 44)]) rfl rfl (c_R_skips hl o (Z92i) (zl) Z92z t ht n p5 hn l5 (((Z92K 42 (by decide)).trans (((Z82K 42 (by decide)).trans (((Z80K 42 (by decide)).trans (((Z78K 42 (by decide)).trans (((KK 42 (by decide)).trans h42)))))))))) Z923 (Px.fx (t := t) f86 Z92F (by omega)) 44 (by decide)) (fun M95 hL95 hB95 => ?_)
              obtain ⟨⟨Z94i, Z94z, Z943, Z94K⟩, Z94F⟩ := hB95
              refine ev_ifB_ne dX11_takesCommand_76 (tgt := 81) (by decide) (fun q76 => ?_) (fun q76 => ?_)
              · have l6 := (ps_le (t := t) (n := n) (s := (p5, false)) (lo := 44) (c := 1) l5).1
                have ee6 : ps t n (p5, false) 44 1 = (p5 + 1, false) := ps_y q76
                have sv6 := sv_y q76
                rw [ee6] at l6 Z943
                obtain ⟨p6, hq6⟩ : ∃ q, q = p5 + 1 := ⟨_, rfl⟩
                rw [← hq6] at ee6 l6 Z943
                refine ev_blk (B := [(.aload_n 0, 1)]) (pe := 82) (ls' := [some (.ref (o)), some (.int (nI 3)), some (.long (e2 w5)), none, none, none]) (st' := [.ref (o)]) ⟨dX11_takesCommand_81, rfl⟩ rfl ?_
                refine ev_cVw Y_X11_takesWord L_RX11_336 dX11_takesCommand_82 ⟨Nat.le_of_ble_eq_true rfl, Nat.le_of_ble_eq_true rfl, Nat.le_of_ble_eq_true rfl, Nat.le_of_ble_eq_true rfl, Nat.le_of_ble_eq_true rfl⟩ Z94z (as := []) rfl rfl (c_R_takesWord hl o (Z94i) (zl) Z94z t ht n p6 hn l6 (((Z94K 42 (by decide)).trans (((Z92K 42 (by decide)).trans (((Z82K 42 (by decide)).trans (((Z80K 42 (by decide)).trans (((Z78K 42 (by decide)).trans (((KK 42 (by decide)).trans h42)))))))))))) Z943 (Px.fx (t := t) (Px.fx (t := t) f86 Z92F (by omega)) Z94F (by omega))) (fun M97 hL97 hB97 => ?_)
                obtain ⟨Z96i, Z96z, Z963, Z96K, Z96F⟩ := hB97
                have l7 := (pw_ok (t := t) (n := n) (b := false) 10 p6 l6).2.2.1
                obtain ⟨w7, p7, ee7⟩ : ∃ w q, pw t n false 10 p6 = (w, q) := ⟨_, _, rfl⟩
                rw [ee7] at Z963 l7 ⊢
                refine ev_blk (B := [(.lstore 4, 2), (.aload_n 0, 1)]) (pe := 88) (ls' := [some (.ref (o)), some (.int (nI 3)), some (.long (e2 w5)), none, some (.long (e2 w7)), none]) (st' := [.ref (o)]) ⟨dX11_takesCommand_85, dX11_takesCommand_87, rfl⟩ rfl ?_
                refine ev_getf (v := .int (nI c)) F_RX11_322 dX11_takesCommand_88 Z96z (congrArg (fun q => some (Value.int q)) ((Z96K 44 (by decide)).trans (((Z94K 44 (by decide)).trans (((Z92K 44 (by decide)).trans (((Z82K 44 (by decide)).trans (((Z80K 44 (by decide)).trans (((Z78K 44 (by decide)).trans (((KK 44 (by decide)).trans h44)))))))))))))) ?_
                refine ev_blk (B := [(.bipush 10, 2)]) (pe := 93) (ls' := [some (.ref (o)), some (.int (nI 3)), some (.long (e2 w5)), none, some (.long (e2 w7)), none]) (st' := [.int (nI 10), .int (nI c)]) ⟨dX11_takesCommand_91, rfl⟩ rfl ?_
                refine ev_iN_ge dX11_takesCommand_93 (tgt := 117) (by decide) (by omega) (by omega) (fun q93 => ?_) (fun q93 => ?_)
                · exfalso; omega
                · refine ev_blk (B := [(.aload_n 0, 1)]) (pe := 97) (ls' := [some (.ref (o)), some (.int (nI 3)), some (.long (e2 w5)), none, some (.long (e2 w7)), none]) (st' := [.ref (o)]) ⟨dX11_takesCommand_96, rfl⟩ rfl ?_
                  refine ev_getf (v := .ref (o + 25)) F_RX11_84 dX11_takesCommand_97 Z96z rfl ?_
                  refine ev_blk (B := [(.aload_n 0, 1)]) (pe := 101) (ls' := [some (.ref (o)), some (.int (nI 3)), some (.long (e2 w5)), none, some (.long (e2 w7)), none]) (st' := [.ref (o), .ref (o + 25)]) ⟨dX11_takesCommand_100, rfl⟩ rfl ?_
                  refine ev_getf (v := .int (nI c)) F_RX11_322 dX11_takesCommand_101 Z96z (congrArg (fun q => some (Value.int q)) ((Z96K 44 (by decide)).trans (((Z94K 44 (by decide)).trans (((Z92K 44 (by decide)).trans (((Z82K 44 (by decide)).trans (((Z80K 44 (by decide)).trans (((Z78K 44 (by decide)).trans (((KK 44 (by decide)).trans h44)))))))))))))) ?_
                  refine ev_blk (B := [(.lload_n 2, 1)]) (pe := 105) (ls' := [some (.ref (o)), some (.int (nI 3)), some (.long (e2 w5)), none, some (.long (e2 w7)), none]) (st' := [.long (e2 w5), .int (nI c), .ref (o + 25)]) ⟨dX11_takesCommand_104, rfl⟩ rfl ?_
                  refine ev_last dX11_takesCommand_105 (Z96F.at (Z94F.at (Z92F.at f89 (by omega) (by omega)) (by omega) (by omega)) (by omega) (by omega)) (vp_in_nI (show c < 12 by omega) (by omega)) ?_
                  rw [nI_clamp (show c < 2 ^ 31 by omega)]
                  refine ev_nm (M0 := M97.set (o + 25) (.inl (1, 12, .inr (.inl (vp_updL tf c (e2 w5)))))) (fun M98 eM98 => ?_)
                  have f99 : M98[o]? = some (.inr (10, zo o (Z96i) (zl))) := by rw [eM98, ev_sn (by omega)]; exact Z96z
                  have f100 : M98[o + 22]? = some (.inl (2, 80, .inl (fun i => nI (t i)))) := by rw [eM98, ev_sn (by omega)]; exact (Px.fx (t := t) (Px.fx (t := t) (Px.fx (t := t) f86 Z92F (by omega)) Z94F (by omega)) Z96F (by omega))
                  have f101 : M98[o + 23]? = some (.inl (0, 12, .inl (upd kd c (nI 3)))) := by rw [eM98, ev_sn (by omega)]; exact (Z96F.at (Z94F.at (Z92F.at f87 (by omega) (by omega)) (by omega) (by omega)) (by omega) (by omega))
                  have f102 : M98[o + 24]? = some (.inl (0, 48, .inl (Z80t))) := by rw [eM98, ev_sn (by omega)]; exact (Z96F.at (Z94F.at (Z92F.at f88 (by omega) (by omega)) (by omega) (by omega)) (by omega) (by omega))
                  have f103 : M98[o + 25]? = some (.inl (1, 12, .inr (.inl (vp_updL tf c (e2 w5))))) := by rw [eM98]; exact ev_sg (Z96F.at (Z94F.at (Z92F.at f89 (by omega) (by omega)) (by omega) (by omega)) (by omega) (by omega))
                  have f104 : M98[o + 26]? = some (.inl (1, 12, .inr (.inl (t2)))) := by rw [eM98, ev_sn (by omega)]; exact (Z96F.at (Z94F.at (Z92F.at f90 (by omega) (by omega)) (by omega) (by omega)) (by omega) (by omega))
                  refine ev_blk (B := [(.aload_n 0, 1)]) (pe := 107) (ls' := [some (.ref (o)), some (.int (nI 3)), some (.long (e2 w5)), none, some (.long (e2 w7)), none]) (st' := [.ref (o)]) ⟨dX11_takesCommand_106, rfl⟩ rfl ?_
                  refine ev_getf (v := .ref (o + 26)) F_RX11_87 dX11_takesCommand_107 f99 rfl ?_
                  refine ev_blk (B := [(.aload_n 0, 1)]) (pe := 111) (ls' := [some (.ref (o)), some (.int (nI 3)), some (.long (e2 w5)), none, some (.long (e2 w7)), none]) (st' := [.ref (o), .ref (o + 26)]) ⟨dX11_takesCommand_110, rfl⟩ rfl ?_
                  refine ev_getf (v := .int (nI c)) F_RX11_322 dX11_takesCommand_111 f99 (congrArg (fun q => some (Value.int q)) ((Z96K 44 (by decide)).trans (((Z94K 44 (by decide)).trans (((Z92K 44 (by decide)).trans (((Z82K 44 (by decide)).trans (((Z80K 44 (by decide)).trans (((Z78K 44 (by decide)).trans (((KK 44 (by decide)).trans h44)))))))))))))) ?_
                  refine ev_blk (B := [(.lload 4, 2)]) (pe := 116) (ls' := [some (.ref (o)), some (.int (nI 3)), some (.long (e2 w5)), none, some (.long (e2 w7)), none]) (st' := [.long (e2 w7), .int (nI c), .ref (o + 26)]) ⟨dX11_takesCommand_114, rfl⟩ rfl ?_
                  refine ev_last dX11_takesCommand_116 f104 (vp_in_nI (show c < 12 by omega) (by omega)) ?_
                  rw [nI_clamp (show c < 2 ^ 31 by omega)]
                  refine ev_nm (M0 := M98.set (o + 26) (.inl (1, 12, .inr (.inl (vp_updL t2 c (e2 w7)))))) (fun M105 eM105 => ?_)
                  have f106 : M105[o]? = some (.inr (10, zo o (Z96i) (zl))) := by rw [eM105, ev_sn (by omega)]; exact f99
                  have f107 : M105[o + 22]? = some (.inl (2, 80, .inl (fun i => nI (t i)))) := by rw [eM105, ev_sn (by omega)]; exact f100
                  have f108 : M105[o + 23]? = some (.inl (0, 12, .inl (upd kd c (nI 3)))) := by rw [eM105, ev_sn (by omega)]; exact f101
                  have f109 : M105[o + 24]? = some (.inl (0, 48, .inl (Z80t))) := by rw [eM105, ev_sn (by omega)]; exact f102
                  have f110 : M105[o + 25]? = some (.inl (1, 12, .inr (.inl (vp_updL tf c (e2 w5))))) := by rw [eM105, ev_sn (by omega)]; exact f103
                  have f111 : M105[o + 26]? = some (.inl (1, 12, .inr (.inl (vp_updL t2 c (e2 w7))))) := by rw [eM105]; exact ev_sg f104
                  refine ev_goto (tgt := 183) dX11_takesCommand_117 (by decide) ?_
                  refine ev_blk (B := [(.aload_n 0, 1), (.bipush 41, 2)]) (pe := 186) (ls' := [some (.ref (o)), some (.int (nI 3)), some (.long (e2 w5)), none, some (.long (e2 w7)), none]) (st' := [.int (nI 41), .ref (o)]) ⟨dX11_takesCommand_183, dX11_takesCommand_184, rfl⟩ rfl ?_
                  have V112 : FX o (o + 23) (o + 27) M97 M105 := ⟨by rw [eM105, eM98]; simp only [List.length_set], fun j hj1 hj2 => by rw [eM105, ev_sn (by omega), eM98, ev_sn (by omega)]⟩
                  refine ev_cVw Y_X11_skips L_RX11_330 dX11_takesCommand_186 ⟨Nat.le_of_ble_eq_true rfl, Nat.le_of_ble_eq_true rfl, Nat.le_of_ble_eq_true rfl, Nat.le_of_ble_eq_true rfl, Nat.le_of_ble_eq_true rfl⟩ f106 (as := [.int (nI 41)]) rfl rfl (c_R_skips hl o (Z96i) (zl) f106 t ht n p7 hn l7 (((Z96K 42 (by decide)).trans (((Z94K 42 (by decide)).trans (((Z92K 42 (by decide)).trans (((Z82K 42 (by decide)).trans (((Z80K 42 (by decide)).trans (((Z78K 42 (by decide)).trans (((KK 42 (by decide)).trans h42)))))))))))))) Z963 f107 41 (by decide)) (fun M114 hL114 hB114 => ?_)
                  obtain ⟨⟨Z113i, Z113z, Z1133, Z113K⟩, Z113F⟩ := hB114
                  refine ev_ifB_eq dX11_takesCommand_189 (tgt := 205) (by decide) (fun q189 => ?_) (fun q189 => ?_)
                  · refine ev_blk (B := [(.iconst 0, 1)]) (pe := 206) (ls' := [some (.ref (o)), some (.int (nI 3)), some (.long (e2 w5)), none, some (.long (e2 w7)), none]) (st' := [.int (nI 0)]) ⟨dX11_takesCommand_205, rfl⟩ rfl ?_
                    refine ev_iret dX11_takesCommand_206 rfl (rfl) ⟨Nat.le_of_ble_eq_true rfl, Nat.le_of_ble_eq_true rfl⟩ ?_
                    have ef : ps t n (p7, false) 41 1 = (p7, true) := ps_n q189
                    rw [ef] at Z1133
                    have hcm : (cm t n p).1 = (p7, true) := by
                      rw [cm_g hkk]
                      simp only [hs_eq, hns0, gl_eq, pw_b, psT, pwT, tl_0, ee2, ee3, ee4, ee5, ee6, ee7, ef]
                      first | done | rfl
                    rw [hcm]
                    exact ⟨rfl, _, Z113z, Z1133, fun j hj => (Z113K j hj).trans ((Z96K j hj).trans ((Z94K j hj).trans ((Z92K j hj).trans ((Z82K j hj).trans ((Z80K j hj).trans ((Z78K j hj).trans (KK j hj))))))), _, _, _, _, ⟨(Z113F.at f108 (by omega) (by omega)), (Z113F.at f109 (by omega) (by omega)), (Z113F.at f110 (by omega) (by omega)), (Z113F.at f111 (by omega) (by omega))⟩, fun j hj => ⟨by rw [upd_at, if_neg (by omega)], fun i hi => (Z80n i (by omega)), by rw [updL_at, if_neg (by omega)], by rw [updL_at, if_neg (by omega)]⟩, (fun z => by cases z), ((((((((((KF.em (by omega)).tr (Z78F.em (by omega))).tr (Z80F.to (by omega) (by omega))).tr (Z82F.em (by omega))).tr (V91.to (by omega) (by omega))).tr (Z92F.em (by omega))).tr (Z94F.em (by omega))).tr (Z96F.em (by omega))).tr (V112.to (by omega) (by omega))).tr (Z113F.em (by omega)))⟩
                  · have l8 := (ps_le (t := t) (n := n) (s := (p7, false)) (lo := 41) (c := 1) l7).1
                    have ee8 : ps t n (p7, false) 41 1 = (p7 + 1, false) := ps_y q189
                    have sv8 := sv_y q189
                    rw [ee8] at l8 Z1133
                    obtain ⟨p8, hq8⟩ : ∃ q, q = p7 + 1 := ⟨_, rfl⟩
                    rw [← hq8] at ee8 l8 Z1133
                    refine ev_blk (B := [(.aload_n 0, 1), (.bipush 59, 2)]) (pe := 195) (ls' := [some (.ref (o)), some (.int (nI 3)), some (.long (e2 w5)), none, some (.long (e2 w7)), none]) (st' := [.int (nI 59), .ref (o)]) ⟨dX11_takesCommand_192, dX11_takesCommand_193, rfl⟩ rfl ?_
                    refine ev_cVw Y_X11_skips L_RX11_330 dX11_takesCommand_195 ⟨Nat.le_of_ble_eq_true rfl, Nat.le_of_ble_eq_true rfl, Nat.le_of_ble_eq_true rfl, Nat.le_of_ble_eq_true rfl, Nat.le_of_ble_eq_true rfl⟩ Z113z (as := [.int (nI 59)]) rfl rfl (c_R_skips hl o (Z113i) (zl) Z113z t ht n p8 hn l8 (((Z113K 42 (by decide)).trans (((Z96K 42 (by decide)).trans (((Z94K 42 (by decide)).trans (((Z92K 42 (by decide)).trans (((Z82K 42 (by decide)).trans (((Z80K 42 (by decide)).trans (((Z78K 42 (by decide)).trans (((KK 42 (by decide)).trans h42)))))))))))))))) Z1133 (Px.fx (t := t) f107 Z113F (by omega)) 59 (by decide)) (fun M116 hL116 hB116 => ?_)
                    obtain ⟨⟨Z115i, Z115z, Z1153, Z115K⟩, Z115F⟩ := hB116
                    refine ev_ifB_eq dX11_takesCommand_198 (tgt := 205) (by decide) (fun q198 => ?_) (fun q198 => ?_)
                    · refine ev_blk (B := [(.iconst 0, 1)]) (pe := 206) (ls' := [some (.ref (o)), some (.int (nI 3)), some (.long (e2 w5)), none, some (.long (e2 w7)), none]) (st' := [.int (nI 0)]) ⟨dX11_takesCommand_205, rfl⟩ rfl ?_
                      refine ev_iret dX11_takesCommand_206 rfl (rfl) ⟨Nat.le_of_ble_eq_true rfl, Nat.le_of_ble_eq_true rfl⟩ ?_
                      have ef : ps t n (p8, false) 59 1 = (p8, true) := ps_n q198
                      rw [ef] at Z1153
                      have hcm : (cm t n p).1 = (p8, true) := by
                        rw [cm_g hkk]
                        simp only [hs_eq, hns0, gl_eq, pw_b, psT, pwT, tl_0, ee2, ee3, ee4, ee5, ee6, ee7, ee8, ef]
                        first | done | rfl
                      rw [hcm]
                      exact ⟨rfl, _, Z115z, Z1153, fun j hj => (Z115K j hj).trans ((Z113K j hj).trans ((Z96K j hj).trans ((Z94K j hj).trans ((Z92K j hj).trans ((Z82K j hj).trans ((Z80K j hj).trans ((Z78K j hj).trans (KK j hj)))))))), _, _, _, _, ⟨(Z115F.at (Z113F.at f108 (by omega) (by omega)) (by omega) (by omega)), (Z115F.at (Z113F.at f109 (by omega) (by omega)) (by omega) (by omega)), (Z115F.at (Z113F.at f110 (by omega) (by omega)) (by omega) (by omega)), (Z115F.at (Z113F.at f111 (by omega) (by omega)) (by omega) (by omega))⟩, fun j hj => ⟨by rw [upd_at, if_neg (by omega)], fun i hi => (Z80n i (by omega)), by rw [updL_at, if_neg (by omega)], by rw [updL_at, if_neg (by omega)]⟩, (fun z => by cases z), (((((((((((KF.em (by omega)).tr (Z78F.em (by omega))).tr (Z80F.to (by omega) (by omega))).tr (Z82F.em (by omega))).tr (V91.to (by omega) (by omega))).tr (Z92F.em (by omega))).tr (Z94F.em (by omega))).tr (Z96F.em (by omega))).tr (V112.to (by omega) (by omega))).tr (Z113F.em (by omega))).tr (Z115F.em (by omega)))⟩
                    · have l9 := (ps_le (t := t) (n := n) (s := (p8, false)) (lo := 59) (c := 1) l8).1
                      have ee9 : ps t n (p8, false) 59 1 = (p8 + 1, false) := ps_y q198
                      have sv9 := sv_y q198
                      rw [ee9] at l9 Z1153
                      obtain ⟨p9, hq9⟩ : ∃ q, q = p8 + 1 := ⟨_, rfl⟩
                      rw [← hq9] at ee9 l9 Z1153
                      refine ev_blk (B := [(.iconst 1, 1)]) (pe := 202) (ls' := [some (.ref (o)), some (.int (nI 3)), some (.long (e2 w5)), none, some (.long (e2 w7)), none]) (st' := [.int (nI 1)]) ⟨dX11_takesCommand_201, rfl⟩ rfl ?_
                      refine ev_goto (tgt := 206) dX11_takesCommand_202 (by decide) ?_
                      refine ev_iret dX11_takesCommand_206 rfl (rfl) ⟨Nat.le_of_ble_eq_true rfl, Nat.le_of_ble_eq_true rfl⟩ ?_
                      have hcm : cm t n p = ((p9, false), some (.inr (sv t n (p2, false) 48 6, w5, w7))) := by
                        rw [cm_g hkk]
                        simp only [hs_eq, hns0, gl_eq, pw_b, psT, pwT, tl_0, ee2, ee3, ee4, ee5, ee6, ee7, ee8, ee9]
                        first | done | rfl
                      rw [hcm]
                      exact ⟨rfl, _, Z115z, Z1153, fun j hj => (Z115K j hj).trans ((Z113K j hj).trans ((Z96K j hj).trans ((Z94K j hj).trans ((Z92K j hj).trans ((Z82K j hj).trans ((Z80K j hj).trans ((Z78K j hj).trans (KK j hj)))))))), _, _, _, _, ⟨(Z115F.at (Z113F.at f108 (by omega) (by omega)) (by omega) (by omega)), (Z115F.at (Z113F.at f109 (by omega) (by omega)) (by omega) (by omega)), (Z115F.at (Z113F.at f110 (by omega) (by omega)) (by omega) (by omega)), (Z115F.at (Z113F.at f111 (by omega) (by omega)) (by omega) (by omega))⟩, fun j hj => ⟨by rw [upd_at, if_neg (by omega)], fun i hi => (Z80n i (by omega)), by rw [updL_at, if_neg (by omega)], by rw [updL_at, if_neg (by omega)]⟩, (fun _ => ⟨_, rfl, ⟨by rw [upd_at, if_pos rfl], y3, by rw [updL_at, if_pos rfl], by rw [updL_at, if_pos rfl]⟩⟩), (((((((((((KF.em (by omega)).tr (Z78F.em (by omega))).tr (Z80F.to (by omega) (by omega))).tr (Z82F.em (by omega))).tr (V91.to (by omega) (by omega))).tr (Z92F.em (by omega))).tr (Z94F.em (by omega))).tr (Z96F.em (by omega))).tr (V112.to (by omega) (by omega))).tr (Z113F.em (by omega))).tr (Z115F.em (by omega)))⟩
              · refine ev_blk (B := [(.iconst 0, 1)]) (pe := 80) (ls' := [some (.ref (o)), some (.int (nI 3)), some (.long (e2 w5)), none, none, none]) (st' := [.int (nI 0)]) ⟨dX11_takesCommand_79, rfl⟩ rfl ?_
                refine ev_iret dX11_takesCommand_80 rfl (rfl) ⟨Nat.le_of_ble_eq_true rfl, Nat.le_of_ble_eq_true rfl⟩ ?_
                have ef : ps t n (p5, false) 44 1 = (p5, true) := ps_n q76
                rw [ef] at Z943
                have hcm : (cm t n p).1 = (p5, true) := by
                  rw [cm_g hkk]
                  simp only [hs_eq, hns0, gl_eq, pw_b, psT, pwT, tl_0, ee2, ee3, ee4, ee5, ef]
                  first | done | rfl
                rw [hcm]
                exact ⟨rfl, _, Z94z, Z943, fun j hj => (Z94K j hj).trans ((Z92K j hj).trans ((Z82K j hj).trans ((Z80K j hj).trans ((Z78K j hj).trans (KK j hj))))), _, _, _, _, ⟨(Z94F.at (Z92F.at f87 (by omega) (by omega)) (by omega) (by omega)), (Z94F.at (Z92F.at f88 (by omega) (by omega)) (by omega) (by omega)), (Z94F.at (Z92F.at f89 (by omega) (by omega)) (by omega) (by omega)), (Z94F.at (Z92F.at f90 (by omega) (by omega)) (by omega) (by omega))⟩, fun j hj => ⟨by rw [upd_at, if_neg (by omega)], fun i hi => (Z80n i (by omega)), rfl, rfl⟩, (fun z => by cases z), (((((((KF.em (by omega)).tr (Z78F.em (by omega))).tr (Z80F.to (by omega) (by omega))).tr (Z82F.em (by omega))).tr (V91.to (by omega) (by omega))).tr (Z92F.em (by omega))).tr (Z94F.em (by omega)))⟩
        · refine ev_blk (B := [(.iconst 0, 1)]) (pe := 40) (ls' := [some (.ref (o)), some (.int (nI 3)), none, none, none, none]) (st' := [.int (nI 0)]) ⟨dX11_takesCommand_39, rfl⟩ rfl ?_
          refine ev_iret dX11_takesCommand_40 rfl (rfl) ⟨Nat.le_of_ble_eq_true rfl, Nat.le_of_ble_eq_true rfl⟩ ?_
          have ef : ps t n (p3, false) 44 1 = (p3, true) := ps_n q36
          rw [ef] at Z823
          have hcm : (cm t n p).1 = (p3, true) := by
            rw [cm_g hkk]
            simp only [hs_eq, hns0, gl_eq, pw_b, psT, pwT, tl_0, ee2, ee3, ef]
            first | done | rfl
          rw [hcm]
          exact ⟨rfl, _, Z82z, Z823, fun j hj => (Z82K j hj).trans ((Z80K j hj).trans ((Z78K j hj).trans (KK j hj))), _, _, _, _, ⟨(Z82F.at (Z80F.at (Z78F.at (KF.at k23 (by omega) (by omega)) (by omega) (by omega)) (by omega) (by omega)) (by omega) (by omega)), (Z82F.at Z804 (by omega) (by omega)), (Z82F.at (Z80F.at (Z78F.at (KF.at k25 (by omega) (by omega)) (by omega) (by omega)) (by omega) (by omega)) (by omega) (by omega)), (Z82F.at (Z80F.at (Z78F.at (KF.at k26 (by omega) (by omega)) (by omega) (by omega)) (by omega) (by omega)) (by omega) (by omega))⟩, fun j hj => ⟨rfl, fun i hi => (Z80n i (by omega)), rfl, rfl⟩, (fun z => by cases z), ((((KF.em (by omega)).tr (Z78F.em (by omega))).tr (Z80F.to (by omega) (by omega))).tr (Z82F.em (by omega)))⟩

