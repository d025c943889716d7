theorem ap_ok {k : Nat} {x : Cf} {t : Tr} (hx : cfW k x) (ht : trO t) : cfW (k + 1) (ap t x).2 := by
  have hx1 : cfW (k + 1) x := hx.le (Nat.le_succ k)
  have hc := cw_ok hx t.2.2.2.1
  unfold ap
  split
  · refine cset_ok hx1 _ (fun a ha => ?_) (by rw [List.length_append, List.length_singleton]; omega) ht.2.1
    rcases List.mem_append.mp ha with q | q
    · exact hc.1 a q
    · rw [List.mem_singleton.mp q]; exact ht.2.2.2.2
  · split
    · exact cset_ok hx1 _ (fun a ha => hc.1 a (List.mem_of_mem_drop ha)) (by rw [List.length_drop]; omega) ht.2.1
    · exact ⟨ht.2.1, hx1.2⟩
/-- nothing changed but the Analysis itself, its work and its walker -/
def Fw (o : Nat) (M M1 : ev_M) : Prop := M1.length = M.length ∧ ∀ j, j ≠ o → (j < o + 58 ∨ o + 60 ≤ j) → M1[j]? = M[j]?
theorem Fw.rf {o : Nat} {M : ev_M} : Fw o M M := ⟨rfl, fun _ _ _ => rfl⟩
theorem Fw.tr {o : Nat} {M M1 M2 : ev_M} (h1 : Fw o M M1) (h2 : Fw o M1 M2) : Fw o M M2 := ⟨h2.1.trans h1.1, fun j a b => (h2.2 j a b).trans (h1.2 j a b)⟩
theorem Fw.of {o lo hi : Nat} {M M1 : ev_M} (h : Fr lo hi M M1) (hd : o + 58 ≤ lo ∧ hi ≤ o + 60 ∨ lo = o ∧ hi = o + 1) : Fw o M M1 := ⟨h.1, fun j a b => h.2 j (by omega)⟩
theorem Fw.fr {o : Nat} {M M1 : ev_M} (h : Fw o M M1) : Fr o (o + 60) M M1 := ⟨h.1, fun j a => h.2 j (by omega) (by omega)⟩
theorem RBs.fw {M M1 : ev_M} {o : Nat} {B : Nat → List Cf} (hR : RBs M o B) (hf : Fw o M M1) : RBs M1 o B := fun k hk => (hR k hk).kept fun j h1 h2 => hf.2 j (by omega) (by omega)
theorem RQ.fw {M M1 : ev_M} {o cap : Nat} {L : List Cf} (hR : RQ M (o + 54) cap L) (hf : Fw o M M1) : RQ M1 (o + 54) cap L := hR.kept fun j h1 h2 => hf.2 j (by omega) (by omega)
/-- the first transition behind which a list is covered -/
def wo (T : List Tr) (L : List Cf) (x : Cf) : Option Nat := (List.range T.length).find? (fun t => mf x (tg T t) true && cv L (ap (tg T t) x).2)
theorem wo_some {T : List Tr} {L : List Cf} {x : Cf} {t : Nat} (ht : t < T.length) (h1 : mf x (tg T t) true = true) (h2 : cv L (ap (tg T t) x).2 = true) (h3 : ∀ j, j < t → (mf x (tg T j) true && cv L (ap (tg T j) x).2) = false) : wo T L x = some t := by
  unfold wo
  rw [List.find?_range_eq_some]
  exact ⟨by rw [h1, h2]; rfl, List.mem_range.mpr ht, fun j hj => by rw [h3 j hj]; rfl⟩
theorem wo_none {T : List Tr} {L : List Cf} {x : Cf} (h3 : ∀ j, j < T.length → (mf x (tg T j) true && cv L (ap (tg T j) x).2) = false) : wo T L x = none := by
  unfold wo
  rw [List.find?_eq_none]
  intro j hj
  rw [h3 j (List.mem_range.mp hj)]
  decide
theorem wo_lt {T : List Tr} {L : List Cf} {x : Cf} {t : Nat} (h : wo T L x = some t) : t < T.length ∧ mf x (tg T t) true = true ∧ cv L (ap (tg T t) x).2 = true := by
  unfold wo at h
  rw [List.find?_range_eq_some] at h
  have h1 := h.1
  rw [Bool.and_eq_true] at h1
  exact ⟨List.mem_range.mp h.2.1, h1.1, h1.2⟩
/-- one firing of the covering run: where it leads, its transition, its losses -/
def wst (T : List Tr) (L : List Cf) (s : Cf × Nat × Nat) : Cf × Nat × Nat := match wo T L s.1 with
  | some t => ((ap (tg T t) s.1).2, t, (ap (tg T t) s.1).1)
  | none => s
theorem wst_some {T : List Tr} {L : List Cf} {s : Cf × Nat × Nat} {t : Nat} (h : wo T L s.1 = some t) : wst T L s = ((ap (tg T t) s.1).2, t, (ap (tg T t) s.1).1) := by unfold wst; rw [h]
theorem wst_none {T : List Tr} {L : List Cf} {s : Cf × Nat × Nat} (h : wo T L s.1 = none) : wst T L s = s := by unfold wst; rw [h]
theorem wst_ok {k : Nat} {T : List Tr} {L : List Cf} {s : Cf × Nat × Nat} (hT : trs T) (h : cfW k s.1) : cfW (k + 1) (wst T L s).1 := by
  cases hw : wo T L s.1 with
  | none => rw [wst_none hw]; exact h.le (Nat.le_succ k)
  | some t => rw [wst_some hw]; exact ap_ok h (trs_tg hT (wo_lt hw).1)
def wsq (T : List Tr) (B : Nat → List Cf) (d : Nat) (s : Cf × Nat × Nat) : Nat → Cf × Nat × Nat
  | 0 => s
  | i + 1 => wst T (B (d - 1 - i)) (wsq T B d s i)
theorem wsq_ok {k : Nat} {T : List Tr} {B : Nat → List Cf} {d : Nat} {s : Cf × Nat × Nat} (hT : trs T) (h : cfW k s.1) (i : Nat) : cfW (k + i) (wsq T B d s i).1 := by
  induction i with
  | zero => exact h
  | succ i ih => exact wst_ok hT ih
set_option maxHeartbeats 4000000 in
set_option maxRecDepth 100000 in
theorem c_X0_walkOn_l {l : Launch} (hl : l.stackTraces = false)  (o : Nat) (cu co : Bool) (la : Nat) (m : Nat) (T : List Tr) (hmo : m + 2 ≤ o ∨ o + 60 ≤ m) (hT : trs T) (B : Nat → List Cf) (d : Nat) (hd : d < 13) (hB25 : cfs 25 (B d)) (s : Cf × Nat × Nat) (hs : cfW 24 s.1) (M0 : ev_M) (hOz : RAo M0 o cu co la s.2.1 s.2.2) (hmz : RM M0 m T) (hBz : RBs M0 o B) (hFz : RF M0 (o + 59) s.1) : ∀ (n9 : Nat) (t : Nat) (M : ev_M), t ≤ T.length → Fr (o + 58) (o + 59) M0 M → RWk M (o + 58) → (∀ j, j < t → (mf s.1 (tg T j) true && cv (B d) (ap (tg T j) s.1).2) = false) → T.length - t < n9 → ev_ l m_X0_walkOn 0 0 2 [some (.ref (o)), some (.ref (m)), some (.int (nI d)), some (.int (nI t)), none] [] M (fun r M1 => r = .inl none ∧ RAo M1 o cu co la (wst T (B d) s).2.1 (wst T (B d) s).2.2 ∧ RF M1 (o + 59) (wst T (B d) s).1 ∧ RWk M1 (o + 58) ∧ Fw o M0 M1) := by
  intro n9
  induction n9 with
  | zero => intro t M ht hFr hWk hn hm9; exact absurd hm9 (by omega)
  | succ n9 ih =>
    intro t M ht hFr hWk hn hm9
    have hO := hOz.fr hFr (by omega)
    have hm := hmz.fr hFr (by omega)
    have hBs := hBz.fr hFr (by omega)
    have hF := hFz.fr hFr (by omega)
    obtain ⟨y, hW⟩ := hWk
    have hten := hm.1
    have hO9 := hO
    obtain ⟨hO0, fr, hO1, hO2⟩ := hO9
    refine ev_blk (B := [(.iload_n 3, 1), (.aload_n 1, 1)]) (pe := 4) (ls' := [some (.ref (o)), some (.ref (m)), some (.int (nI d)), some (.int (nI t)), none]) (st' := [.ref (m), .int (nI t)]) ⟨dX0_walkOn_2, dX0_walkOn_3, rfl⟩ rfl ?_
    refine ev_cVv Y_X4_count L_RX0_113 dX0_walkOn_4 ⟨Nat.le_of_ble_eq_true rfl, Nat.le_of_ble_eq_true rfl, Nat.le_of_ble_eq_true rfl, Nat.le_of_ble_eq_true rfl, Nat.le_of_ble_eq_true rfl⟩ hm.obj (as := []) rfl rfl (c_X4_count hl _ _ hm) ?_
    refine ev_iN_ge dX0_walkOn_7 (tgt := 86) (by decide) (by omega) (by omega) (fun q7 => ?_) (fun q7 => ?_)
    · refine ev_vret dX0_walkOn_86 rfl ⟨Nat.le_of_ble_eq_true rfl, Nat.le_of_ble_eq_true rfl⟩ ?_
      have hw := wst_none (s := s) (wo_none (L := B d) (fun j hj => hn j (by omega)))
      rw [hw]
      exact ⟨rfl, hO, hF, hW.wk, Fw.of hFr (Or.inl ⟨Nat.le_refl _, by omega⟩)⟩
    · refine ev_blk (B := [(.aload_n 1, 1), (.iload_n 3, 1), (.aload_n 0, 1)]) (pe := 13) (ls' := [some (.ref (o)), some (.ref (m)), some (.int (nI d)), some (.int (nI t)), none]) (st' := [.ref (o), .int (nI t), .ref (m)]) ⟨dX0_walkOn_10, dX0_walkOn_11, dX0_walkOn_12, rfl⟩ rfl ?_
      refine ev_getf (v := .ref (o + 59)) F_RX0_31 dX0_walkOn_13 hO0 rfl ?_
      refine ev_blk (B := [(.iconst 1, 1)]) (pe := 17) (ls' := [some (.ref (o)), some (.ref (m)), some (.int (nI d)), some (.int (nI t)), none]) (st' := [.int (nI 1), .ref (o + 59), .int (nI t), .ref (m)]) ⟨dX0_walkOn_16, rfl⟩ rfl ?_
      refine ev_cVv Y_X4_canFire L_RX0_132 dX0_walkOn_17 ⟨Nat.le_of_ble_eq_true rfl, Nat.le_of_ble_eq_true rfl, Nat.le_of_ble_eq_true rfl, Nat.le_of_ble_eq_true rfl, Nat.le_of_ble_eq_true rfl⟩ hm.obj (as := [.int (nI t), .ref (o + 59), .int (nI 1)]) rfl rfl (c_X4_canFire hl _ _ hm hT (t) (by omega) _ _ hF hs true) ?_
      refine ev_ifB_eq dX0_walkOn_20 (tgt := 80) (by decide) (fun q20 => ?_) (fun q20 => ?_)
      · refine ev_blk (B := [(.iinc 3 1, 3)]) (pe := 83) (ls' := [some (.ref (o)), some (.ref (m)), some (.int (nI d)), some (.int (nI (t + 1))), none]) (st' := []) ⟨dX0_walkOn_80, rfl⟩ (by show some (([some (.ref (o)), some (.ref (m)), some (.int (nI d)), some (.int ((nI t) + Int32.ofInt (1))), none] : ev_L), ([] : List Value)) = _; rw [ev_inc1 t]) ?_
        refine ev_goto (tgt := 2) dX0_walkOn_83 (by decide) ?_
        refine ih (t + 1) M (by omega) hFr hW.wk (fun j hj => by
          by_cases e : j = t
          · subst e; rw [q20, Bool.false_and]
          · exact hn j (by omega)) (by omega)
      · refine ev_blk (B := [(.aload_n 0, 1)]) (pe := 24) (ls' := [some (.ref (o)), some (.ref (m)), some (.int (nI d)), some (.int (nI t)), none]) (st' := [.ref (o)]) ⟨dX0_walkOn_23, rfl⟩ rfl ?_
        refine ev_getf (v := .ref (o + 58)) F_RX0_27 dX0_walkOn_24 hO0 rfl ?_
        refine ev_blk (B := [(.aload_n 0, 1)]) (pe := 28) (ls' := [some (.ref (o)), some (.ref (m)), some (.int (nI d)), some (.int (nI t)), none]) (st' := [.ref (o), .ref (o + 58)]) ⟨dX0_walkOn_27, rfl⟩ rfl ?_
        refine ev_getf (v := .ref (o + 59)) F_RX0_31 dX0_walkOn_28 hO0 rfl ?_
        refine ev_cVn Y_X1_copyFrom L_RX0_91 dX0_walkOn_31 ⟨Nat.le_of_ble_eq_true rfl, Nat.le_of_ble_eq_true rfl, Nat.le_of_ble_eq_true rfl, Nat.le_of_ble_eq_true rfl, Nat.le_of_ble_eq_true rfl⟩ hW (as := [.ref (o + 59)]) rfl rfl (c_X1_copyFrom hl _ _ hW _ _ hF (by omega)) (fun M1 hL1 hB1 => ?_)
        obtain ⟨hC1, hC2⟩ := hB1
        have hO3 := hO.fr hC2 (by omega)
        have hO4 := hO3
        obtain ⟨hO5, fr1, hO6, hO7⟩ := hO4
        have hm3 := hm.fr hC2 (by omega)
        have hB3 := hBs.fr hC2 (by omega)
        have hF3 := hF.fr hC2 (by omega)
        refine ev_blk (B := [(.aload_n 1, 1), (.iload_n 3, 1), (.aload_n 0, 1)]) (pe := 37) (ls' := [some (.ref (o)), some (.ref (m)), some (.int (nI d)), some (.int (nI t)), none]) (st' := [.ref (o), .int (nI t), .ref (m)]) ⟨dX0_walkOn_34, dX0_walkOn_35, dX0_walkOn_36, rfl⟩ rfl ?_
        refine ev_getf (v := .ref (o + 58)) F_RX0_27 dX0_walkOn_37 hO5 rfl ?_
        refine ev_cVw Y_X4_apply L_RX0_136 dX0_walkOn_40 ⟨Nat.le_of_ble_eq_true rfl, Nat.le_of_ble_eq_true rfl, Nat.le_of_ble_eq_true rfl, Nat.le_of_ble_eq_true rfl, Nat.le_of_ble_eq_true rfl⟩ hm3.obj (as := [.int (nI t), .ref (o + 58)]) rfl rfl (c_X4_apply hl _ _ hm3 hT (t) (by omega) _ _ hC1 hs (by omega) q20) (fun M2 hL2 hB2 => ?_)
        obtain ⟨hD1, hD2⟩ := hB2
        have hP3 := hO3.fr hD2 (by omega)
        have hP4 := hP3
        obtain ⟨hP5, fr2, hP6, hP7⟩ := hP4
        have hB4 := hB3.fr hD2 (by omega)
        have hF4 := hF3.fr hD2 (by omega)
        have hF12 := (hFr.tr hC2).tr hD2
        refine ev_blk (B := [(.istore 4, 2), (.aload_n 0, 1), (.iload_n 2, 1), (.aload_n 0, 1)]) (pe := 48) (ls' := [some (.ref (o)), some (.ref (m)), some (.int (nI d)), some (.int (nI t)), some (.int (nI ((ap (tg T t) s.1).1)))]) (st' := [.ref (o), .int (nI d), .ref (o)]) ⟨dX0_walkOn_43, dX0_walkOn_45, dX0_walkOn_46, dX0_walkOn_47, rfl⟩ rfl ?_
        refine ev_getf (v := .ref (o + 58)) F_RX0_27 dX0_walkOn_48 hP5 rfl ?_
        refine ev_cVv Y_X0_isCovering L_RX0_83 dX0_walkOn_51 ⟨Nat.le_of_ble_eq_true rfl, Nat.le_of_ble_eq_true rfl, Nat.le_of_ble_eq_true rfl, Nat.le_of_ble_eq_true rfl, Nat.le_of_ble_eq_true rfl⟩ hP5 (as := [.int (nI d), .ref (o + 58)]) rfl rfl (c_X0_isCovering hl o _ _ _ _ _ hP3 B hB4 d hd hB25 _ _ hD1 (ap_ok hs (trs_tg hT (by omega)))) ?_
        refine ev_ifB_eq dX0_walkOn_54 (tgt := 80) (by decide) (fun q54 => ?_) (fun q54 => ?_)
        · refine ev_blk (B := [(.iinc 3 1, 3)]) (pe := 83) (ls' := [some (.ref (o)), some (.ref (m)), some (.int (nI d)), some (.int (nI (t + 1))), some (.int (nI ((ap (tg T t) s.1).1)))]) (st' := []) ⟨dX0_walkOn_80, rfl⟩ (by show some (([some (.ref (o)), some (.ref (m)), some (.int (nI d)), some (.int ((nI t) + Int32.ofInt (1))), some (.int (nI ((ap (tg T t) s.1).1)))] : ev_L), ([] : List Value)) = _; rw [ev_inc1 t]) ?_
          refine ev_goto (tgt := 2) dX0_walkOn_83 (by decide) ?_
          refine ev_fgt (ls' := [some (.ref (o)), some (.ref (m)), some (.int (nI d)), some (.int (nI (t + 1))), none]) ⟨Or.inr rfl, Or.inr rfl, Or.inr rfl, Or.inr rfl, Or.inl rfl, trivial⟩ ?_
          refine ih (t + 1) M2 (by omega) hF12 hD1.wk (fun j hj => by
            by_cases e : j = t
            · subst e; rw [q54, Bool.and_false]
            · exact hn j (by omega)) (by omega)
        · refine ev_blk (B := [(.aload_n 0, 1)]) (pe := 58) (ls' := [some (.ref (o)), some (.ref (m)), some (.int (nI d)), some (.int (nI t)), some (.int (nI ((ap (tg T t) s.1).1)))]) (st' := [.ref (o)]) ⟨dX0_walkOn_57, rfl⟩ rfl ?_
          refine ev_getf (v := .ref (o + 59)) F_RX0_31 dX0_walkOn_58 hP5 rfl ?_
          refine ev_blk (B := [(.aload_n 0, 1)]) (pe := 62) (ls' := [some (.ref (o)), some (.ref (m)), some (.int (nI d)), some (.int (nI t)), some (.int (nI ((ap (tg T t) s.1).1)))]) (st' := [.ref (o), .ref (o + 59)]) ⟨dX0_walkOn_61, rfl⟩ rfl ?_
          refine ev_getf (v := .ref (o + 58)) F_RX0_27 dX0_walkOn_62 hP5 rfl ?_
          refine ev_cVn Y_X1_copyFrom L_RX0_91 dX0_walkOn_65 ⟨Nat.le_of_ble_eq_true rfl, Nat.le_of_ble_eq_true rfl, Nat.le_of_ble_eq_true rfl, Nat.le_of_ble_eq_true rfl, Nat.le_of_ble_eq_true rfl⟩ hF4 (as := [.ref (o + 58)]) rfl rfl (c_X1_copyFrom hl _ _ hF4 _ _ hD1 (by omega)) (fun M3 hL3 hB3 => ?_)
          obtain ⟨hE1, hE2⟩ := hB3
          have hQ3 := hP3.fr hE2 (by omega)
          have hQ4 := hQ3
          obtain ⟨hQ5, fr3, hQ6, hQ7⟩ := hQ4
          refine ev_blk (B := [(.aload_n 0, 1), (.iload_n 3, 1)]) (pe := 70) (ls' := [some (.ref (o)), some (.ref (m)), some (.int (nI d)), some (.int (nI t)), some (.int (nI ((ap (tg T t) s.1).1)))]) (st' := [.int (nI t), .ref (o)]) ⟨dX0_walkOn_68, dX0_walkOn_69, rfl⟩ rfl ?_
          refine ev_put F_RX0_45 dX0_walkOn_70 hQ5 (Nat.le_of_ble_eq_true rfl) (fun _ _ => ⟨rfl, rfl⟩) ?_
          refine ev_nm (M0 := M3.set (o) (.inr (0, [.ref (o + 1), .ref (o + 54), .ref (o + 58), .ref (o + 59), .int (ev_b (cu)), .int (ev_b (co)), .int (nI la), .int (nI t), .int (nI (s.2.2))]))) (fun M4 eM4 => ?_)
          have f5 : M4[o]? = some (.inr (0, [.ref (o + 1), .ref (o + 54), .ref (o + 58), .ref (o + 59), .int (ev_b (cu)), .int (ev_b (co)), .int (nI la), .int (nI t), .int (nI (s.2.2))])) := by rw [eM4]; exact ev_sg hQ5
          have f6 : M4[o + 1]? = some (.inl (3, 13, .inr (.inr (.inr (.inr (fr3)))))) := by rw [eM4, ev_sn (by omega)]; exact hQ6
          refine ev_blk (B := [(.aload_n 0, 1), (.iload 4, 2)]) (pe := 76) (ls' := [some (.ref (o)), some (.ref (m)), some (.int (nI d)), some (.int (nI t)), some (.int (nI ((ap (tg T t) s.1).1)))]) (st' := [.int (nI ((ap (tg T t) s.1).1)), .ref (o)]) ⟨dX0_walkOn_73, dX0_walkOn_74, rfl⟩ rfl ?_
          refine ev_put F_RX0_48 dX0_walkOn_76 f5 (Nat.le_of_ble_eq_true rfl) (fun _ _ => ⟨rfl, rfl⟩) ?_
          refine ev_nm (M0 := M4.set (o) (.inr (0, [.ref (o + 1), .ref (o + 54), .ref (o + 58), .ref (o + 59), .int (ev_b (cu)), .int (ev_b (co)), .int (nI la), .int (nI t), .int (nI ((ap (tg T t) s.1).1))]))) (fun M7 eM7 => ?_)
          have f8 : M7[o]? = some (.inr (0, [.ref (o + 1), .ref (o + 54), .ref (o + 58), .ref (o + 59), .int (ev_b (cu)), .int (ev_b (co)), .int (nI la), .int (nI t), .int (nI ((ap (tg T t) s.1).1))])) := by rw [eM7]; exact ev_sg f5
          have f9 : M7[o + 1]? = some (.inl (3, 13, .inr (.inr (.inr (.inr (fr3)))))) := by rw [eM7, ev_sn (by omega)]; exact f6
          refine ev_vret dX0_walkOn_79 rfl ⟨Nat.le_of_ble_eq_true rfl, Nat.le_of_ble_eq_true rfl⟩ ?_
          have hw := wst_some (s := s) (wo_some (by omega) q20 q54 hn)
          have hFe : Fr o (o + 1) M3 M7 := ⟨by rw [eM7, eM4]; simp only [List.length_set], fun j hj => by rw [eM7, ev_sn (by omega), eM4, ev_sn (by omega)]⟩
          rw [hw]
          exact ⟨rfl, ⟨f8, fr3, f9, hQ7⟩, hE1.fr hFe (by omega), ((hD1.fr hE2 (by omega)).fr hFe (by omega)).wk, ((Fw.of hF12 (Or.inl ⟨Nat.le_refl _, by omega⟩)).tr (Fw.of hE2 (Or.inl ⟨by omega, by omega⟩))).tr (Fw.of hFe (Or.inr ⟨rfl, rfl⟩))⟩

set_option maxHeartbeats 4000000 in
set_option maxRecDepth 100000 in
theorem c_X0_walkOn {l : Launch} (hl : l.stackTraces = false) {M : ev_M} (o : Nat) (cu co : Bool) (la : Nat) (m : Nat) (T : List Tr) (hmo : m + 2 ≤ o ∨ o + 60 ≤ m) (hT : trs T) (B : Nat → List Cf) (d : Nat) (hd : d < 13) (hB25 : cfs 25 (B d)) (s : Cf × Nat × Nat) (hs : cfW 24 s.1) (hOz : RAo M o cu co la s.2.1 s.2.2) (hmz : RM M m T) (hBz : RBs M o B) (hFz : RF M (o + 59) s.1) (hWk : RWk M (o + 58)) : ev_Mt l m_X0_walkOn [.ref (o), .ref (m), .int (nI d)] M (fun r M1 => r = .inl none ∧ RAo M1 o cu co la (wst T (B d) s).2.1 (wst T (B d) s).2.2 ∧ RF M1 (o + 59) (wst T (B d) s).1 ∧ RWk M1 (o + 58) ∧ Fw o M M1) := by
  refine ev_body hl rfl (by decide +kernel) (Nat.le_of_ble_eq_true rfl) ?_
  show ev_ l m_X0_walkOn 0 0 0 [some (.ref (o)), some (.ref (m)), some (.int (nI d)), none, none] [] M _
  refine ev_blk (B := [(.iconst 0, 1), (.istore_n 3, 1)]) (pe := 2) (ls' := [some (.ref (o)), some (.ref (m)), some (.int (nI d)), some (.int (nI 0)), none]) (st' := []) ⟨dX0_walkOn_0, dX0_walkOn_1, rfl⟩ rfl ?_
  exact c_X0_walkOn_l hl o cu co la m T hmo hT B d hd hB25 s hs M hOz hmz hBz hFz _ 0 M (Nat.zero_le _) Fr.rf hWk (fun j hj => absurd hj (Nat.not_lt_zero _)) (Nat.lt_succ_self _)

set_option maxHeartbeats 4000000 in
set_option maxRecDepth 100000 in
theorem c_X0_walkTo_l {l : Launch} (hl : l.stackTraces = false)  (o : Nat) (cu co : Bool) (la tr lo : Nat) (m : Nat) (T : List Tr) (hmo : m + 2 ≤ o ∨ o + 60 ≤ m) (hT : trs T) (B : Nat → List Cf) (hla : la < 13) (hB25 : ∀ k, k ≤ la → cfs 25 (B k)) (c : Nat) (hco : c < o ∨ o + 60 ≤ c) (x : Cf) (hx : cfW 10 x) (d n : Nat) (hd : d ≤ la) (hnd : n < d) (M0 : ev_M) (hmz : RM M0 m T) (hBz : RBs M0 o B) : ∀ (n9 : Nat) (i : Nat) (M : ev_M), i ≤ n + 1 → Fw o M0 M → RAo M o cu co la (wsq T B d (x, tr, lo) i).2.1 (wsq T B d (x, tr, lo) i).2.2 → RF M (o + 59) (wsq T B d (x, tr, lo) i).1 → RWk M (o + 58) → n + 1 - i < n9 → ev_ l m_X0_walkTo 0 0 30 [some (.ref (o)), some (.ref (m)), some (.ref (c)), some (.int (nI n)), some (.int (nI d)), some (.int (nI i))] [] M (fun r M1 => r = .inl (some (.int (ev_b true))) ∧ RAo M1 o cu co la (wsq T B d (x, tr, lo) (n + 1)).2.1 (wsq T B d (x, tr, lo) (n + 1)).2.2 ∧ RWk M1 (o + 59) ∧ RWk M1 (o + 58) ∧ Fw o M0 M1) := by
  intro n9
  induction n9 with
  | zero => intro i M hi hFw hO hF hWk hm9; exact absurd hm9 (by omega)
  | succ n9 ih =>
    intro i M hi hFw hO hF hWk hm9
    have hm := hmz.fr hFw.fr (by omega)
    have hBs := hBz.fw hFw
    have hO9 := hO
    obtain ⟨hO0, fr, hO1, hO2⟩ := hO9
    refine ev_blk (B := [(.iload 5, 2), (.iload_n 3, 1)]) (pe := 33) (ls' := [some (.ref (o)), some (.ref (m)), some (.ref (c)), some (.int (nI n)), some (.int (nI d)), some (.int (nI i))]) (st' := [.int (nI n), .int (nI i)]) ⟨dX0_walkTo_30, dX0_walkTo_32, rfl⟩ rfl ?_
    refine ev_iN_gt dX0_walkTo_33 (tgt := 54) (by decide) (by omega) (by omega) (fun q33 => ?_) (fun q33 => ?_)
    · refine ev_blk (B := [(.iconst 1, 1)]) (pe := 55) (ls' := [some (.ref (o)), some (.ref (m)), some (.ref (c)), some (.int (nI n)), some (.int (nI d)), some (.int (nI i))]) (st' := [.int (nI 1)]) ⟨dX0_walkTo_54, rfl⟩ rfl ?_
      refine ev_iret dX0_walkTo_55 rfl (rfl) ⟨Nat.le_of_ble_eq_true rfl, Nat.le_of_ble_eq_true rfl⟩ ?_
      have e7 : i = n + 1 := by omega
      subst e7
      exact ⟨rfl, hO, hF.wk, hWk, hFw⟩
    · refine ev_blk (B := [(.aload_n 0, 1), (.aload_n 1, 1), (.iload 4, 2), (.iconst 1, 1), (.isub, 1), (.iload 5, 2), (.isub, 1)]) (pe := 45) (ls' := [some (.ref (o)), some (.ref (m)), some (.ref (c)), some (.int (nI n)), some (.int (nI d)), some (.int (nI i))]) (st' := [.int (nI ((d - 1) - i)), .ref (m), .ref (o)]) ⟨dX0_walkTo_36, dX0_walkTo_37, dX0_walkTo_38, dX0_walkTo_40, dX0_walkTo_41, dX0_walkTo_42, dX0_walkTo_44, rfl⟩ (by show some (([some (.ref (o)), some (.ref (m)), some (.ref (c)), some (.int (nI n)), some (.int (nI d)), some (.int (nI i))] : ev_L), ([.int (((nI d) - (nI 1)) - (nI i)), .ref (m), .ref (o)] : List Value)) = _; rw [pk_sub (show 1 ≤ d by omega), pk_sub (show i ≤ (d - 1) by omega)]) ?_
      refine ev_cVn Y_X0_walkOn L_RX0_94 dX0_walkTo_45 ⟨Nat.le_of_ble_eq_true rfl, Nat.le_of_ble_eq_true rfl, Nat.le_of_ble_eq_true rfl, Nat.le_of_ble_eq_true rfl, Nat.le_of_ble_eq_true rfl⟩ hO0 (as := [.ref (m), .int (nI ((d - 1) - i))]) rfl rfl (c_X0_walkOn hl o cu co la m T hmo hT B (d - 1 - i) (by omega) (hB25 _ (by omega)) (wsq T B d (x, tr, lo) i) ((wsq_ok (k := 10) hT hx i).le (by omega)) hO hm hBs hF hWk) (fun M1 hL1 hB1 => ?_)
      obtain ⟨hB1, hB2, hB3, hB4⟩ := hB1
      refine ev_blk (B := [(.iinc 5 1, 3)]) (pe := 51) (ls' := [some (.ref (o)), some (.ref (m)), some (.ref (c)), some (.int (nI n)), some (.int (nI d)), some (.int (nI (i + 1)))]) (st' := []) ⟨dX0_walkTo_48, rfl⟩ (by show some (([some (.ref (o)), some (.ref (m)), some (.ref (c)), some (.int (nI n)), some (.int (nI d)), some (.int ((nI i) + Int32.ofInt (1)))] : ev_L), ([] : List Value)) = _; rw [ev_inc1 i]) ?_
      refine ev_goto (tgt := 30) dX0_walkTo_51 (by decide) ?_
      exact ih (i + 1) _ (by omega) (hFw.tr hB4) hB1 hB2 hB3 (by omega)

set_option maxHeartbeats 4000000 in
set_option maxRecDepth 100000 in
theorem c_X0_walkToT {l : Launch} (hl : l.stackTraces = false) {M : ev_M} (o : Nat) (cu co : Bool) (la tr lo : Nat) (m : Nat) (T : List Tr) (hmo : m + 2 ≤ o ∨ o + 60 ≤ m) (hT : trs T) (B : Nat → List Cf) (hla : la < 13) (hB25 : ∀ k, k ≤ la → cfs 25 (B k)) (c : Nat) (hco : c < o ∨ o + 60 ≤ c) (x : Cf) (hx : cfW 10 x) (d n : Nat) (hdd : ds B la x = some d) (hnd : n < d) (hO : RAo M o cu co la tr lo) (hm : RM M m T) (hBs : RBs M o B) (hF : RF M c x) (hW58 : RWk M (o + 58)) (hW59 : RWk M (o + 59)) : ev_Mt l m_X0_walkTo [.ref (o), .ref (m), .ref (c), .int (nI n)] M (fun r M1 => r = .inl (some (.int (ev_b true))) ∧ RAo M1 o cu co la (wsq T B d (x, tr, lo) (n + 1)).2.1 (wsq T B d (x, tr, lo) (n + 1)).2.2 ∧ RWk M1 (o + 59) ∧ RWk M1 (o + 58) ∧ Fw o M M1) := by
  have hd := (ds_lt hdd).1
  have hdo : oI (ds B la x) = nI d := by rw [hdd]; rfl
  obtain ⟨y, hV⟩ := hW59
  have hO9 := hO
  obtain ⟨hO0, fr, hO1, hO2⟩ := hO9
  refine ev_body hl rfl (by decide +kernel) (Nat.le_of_ble_eq_true rfl) ?_
  show ev_ l m_X0_walkTo 0 0 0 [some (.ref (o)), some (.ref (m)), some (.ref (c)), some (.int (nI n)), none, none] [] M _
  refine ev_blk (B := [(.aload_n 0, 1), (.aload_n 2, 1)]) (pe := 2) (ls' := [some (.ref (o)), some (.ref (m)), some (.ref (c)), some (.int (nI n)), none, none]) (st' := [.ref (c), .ref (o)]) ⟨dX0_walkTo_0, dX0_walkTo_1, rfl⟩ rfl ?_
  have hDs := c_X0_distanceFrom hl o _ _ _ _ _ hO hla B hBs hB25 c x hF (hx.le (by omega))
  rw [hdo] at hDs
  refine ev_cVv Y_X0_distanceFrom L_RX0_87 dX0_walkTo_2 ⟨Nat.le_of_ble_eq_true rfl, Nat.le_of_ble_eq_true rfl, Nat.le_of_ble_eq_true rfl, Nat.le_of_ble_eq_true rfl, Nat.le_of_ble_eq_true rfl⟩ hO0 (as := [.ref (c)]) rfl rfl (hDs) ?_
  refine ev_blk (B := [(.istore 4, 2), (.iload_n 3, 1)]) (pe := 8) (ls' := [some (.ref (o)), some (.ref (m)), some (.ref (c)), some (.int (nI n)), some (.int (nI d)), none]) (st' := [.int (nI n)]) ⟨dX0_walkTo_5, dX0_walkTo_7, rfl⟩ rfl ?_
  refine ev_fN_lt dX0_walkTo_8 (tgt := 17) (by decide) (by omega) ?_
  refine ev_blk (B := [(.iload_n 3, 1), (.iload 4, 2)]) (pe := 14) (ls' := [some (.ref (o)), some (.ref (m)), some (.ref (c)), some (.int (nI n)), some (.int (nI d)), none]) (st' := [.int (nI d), .int (nI n)]) ⟨dX0_walkTo_11, dX0_walkTo_12, rfl⟩ rfl ?_
  refine ev_iN_lt dX0_walkTo_14 (tgt := 19) (by decide) (by omega) (by omega) (fun q14 => ?_) (fun q14 => ?_)
  · refine ev_blk (B := [(.aload_n 0, 1)]) (pe := 20) (ls' := [some (.ref (o)), some (.ref (m)), some (.ref (c)), some (.int (nI n)), some (.int (nI d)), none]) (st' := [.ref (o)]) ⟨dX0_walkTo_19, rfl⟩ rfl ?_
    refine ev_getf (v := .ref (o + 59)) F_RX0_31 dX0_walkTo_20 hO0 rfl ?_
    refine ev_blk (B := [(.aload_n 2, 1)]) (pe := 24) (ls' := [some (.ref (o)), some (.ref (m)), some (.ref (c)), some (.int (nI n)), some (.int (nI d)), none]) (st' := [.ref (c), .ref (o + 59)]) ⟨dX0_walkTo_23, rfl⟩ rfl ?_
    refine ev_cVn Y_X1_copyFrom L_RX0_91 dX0_walkTo_24 ⟨Nat.le_of_ble_eq_true rfl, Nat.le_of_ble_eq_true rfl, Nat.le_of_ble_eq_true rfl, Nat.le_of_ble_eq_true rfl, Nat.le_of_ble_eq_true rfl⟩ hV (as := [.ref (c)]) rfl rfl (c_X1_copyFrom hl _ _ hV _ _ hF (by omega)) (fun M1 hL1 hB1 => ?_)
    obtain ⟨hB1, hB2⟩ := hB1
    refine ev_blk (B := [(.iconst 0, 1), (.istore 5, 2)]) (pe := 30) (ls' := [some (.ref (o)), some (.ref (m)), some (.ref (c)), some (.int (nI n)), some (.int (nI d)), some (.int (nI 0))]) (st' := []) ⟨dX0_walkTo_27, dX0_walkTo_28, rfl⟩ rfl ?_
    exact c_X0_walkTo_l hl o cu co la tr lo m T hmo hT B hla hB25 c hco x hx d n hd hnd M hm hBs _ 0 _ (by omega) (Fw.of hB2 (Or.inl ⟨by omega, by omega⟩)) (hO.fr hB2 (by omega)) hB1 (hW58.fr hB2 (by omega)) (Nat.lt_succ_self _)
  · exfalso; omega

set_option maxHeartbeats 4000000 in
set_option maxRecDepth 100000 in
theorem c_X0_walkToF {l : Launch} (hl : l.stackTraces = false) {M : ev_M} (o : Nat) (cu co : Bool) (la tr lo : Nat) (m : Nat) (T : List Tr) (hmo : m + 2 ≤ o ∨ o + 60 ≤ m) (hT : trs T) (B : Nat → List Cf) (hla : la < 13) (hB25 : ∀ k, k ≤ la → cfs 25 (B k)) (c : Nat) (hco : c < o ∨ o + 60 ≤ c) (x : Cf) (hx : cfW 10 x) (i9 : Int32) (hno : ¬ (0 ≤ i9 ∧ i9 < oI (ds B la x))) (hO : RAo M o cu co la tr lo) (hm : RM M m T) (hBs : RBs M o B) (hF : RF M c x) : ev_Mt l m_X0_walkTo [.ref (o), .ref (m), .ref (c), .int (i9)] M (ev_q (.inl (some (.int (ev_b false)))) M) := by
  have hO9 := hO
  obtain ⟨hO0, fr, hO1, hO2⟩ := hO9
  refine ev_body hl rfl (by decide +kernel) (Nat.le_of_ble_eq_true rfl) ?_
  show ev_ l m_X0_walkTo 0 0 0 [some (.ref (o)), some (.ref (m)), some (.ref (c)), some (.int (i9)), none, none] [] M _
  refine ev_blk (B := [(.aload_n 0, 1), (.aload_n 2, 1)]) (pe := 2) (ls' := [some (.ref (o)), some (.ref (m)), some (.ref (c)), some (.int (i9)), none, none]) (st' := [.ref (c), .ref (o)]) ⟨dX0_walkTo_0, dX0_walkTo_1, rfl⟩ rfl ?_
  refine ev_cVv Y_X0_distanceFrom L_RX0_87 dX0_walkTo_2 ⟨Nat.le_of_ble_eq_true rfl, Nat.le_of_ble_eq_true rfl, Nat.le_of_ble_eq_true rfl, Nat.le_of_ble_eq_true rfl, Nat.le_of_ble_eq_true rfl⟩ hO0 (as := [.ref (c)]) rfl rfl (c_X0_distanceFrom hl o _ _ _ _ _ hO hla B hBs hB25 c x hF (hx.le (by omega))) ?_
  refine ev_blk (B := [(.istore 4, 2), (.iload_n 3, 1)]) (pe := 8) (ls' := [some (.ref (o)), some (.ref (m)), some (.ref (c)), some (.int (i9)), some (.int (oI (ds B la x))), none]) (st' := [.int (i9)]) ⟨dX0_walkTo_5, dX0_walkTo_7, rfl⟩ rfl ?_
  refine ev_if_lt dX0_walkTo_8 (tgt := 17) (by decide) (fun q8 => ?_) (fun q8 => ?_)
  · refine ev_blk (B := [(.iconst 0, 1)]) (pe := 18) (ls' := [some (.ref (o)), some (.ref (m)), some (.ref (c)), some (.int (i9)), some (.int (oI (ds B la x))), none]) (st' := [.int (nI 0)]) ⟨dX0_walkTo_17, rfl⟩ rfl ?_
    refine ev_iret dX0_walkTo_18 rfl (rfl) ⟨Nat.le_of_ble_eq_true rfl, Nat.le_of_ble_eq_true rfl⟩ ?_
    exact ⟨rfl, rfl⟩
  · refine ev_blk (B := [(.iload_n 3, 1), (.iload 4, 2)]) (pe := 14) (ls' := [some (.ref (o)), some (.ref (m)), some (.ref (c)), some (.int (i9)), some (.int (oI (ds B la x))), none]) (st' := [.int (oI (ds B la x)), .int (i9)]) ⟨dX0_walkTo_11, dX0_walkTo_12, rfl⟩ rfl ?_
    refine ev_ic_lt dX0_walkTo_14 (tgt := 19) (by decide) (fun q14 => ?_) (fun q14 => ?_)
    · exact absurd ⟨Int32.not_lt.mp q8, q14⟩ hno
    · refine ev_blk (B := [(.iconst 0, 1)]) (pe := 18) (ls' := [some (.ref (o)), some (.ref (m)), some (.ref (c)), some (.int (i9)), some (.int (oI (ds B la x))), none]) (st' := [.int (nI 0)]) ⟨dX0_walkTo_17, rfl⟩ rfl ?_
      refine ev_iret dX0_walkTo_18 rfl (rfl) ⟨Nat.le_of_ble_eq_true rfl, Nat.le_of_ble_eq_true rfl⟩ ?_
      exact ⟨rfl, rfl⟩

