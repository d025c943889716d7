theorem pl_le {t : Nat → Nat} {n : Nat} (k : Nat) : ∀ (p : Nat) (T : List Tr) (G : List Cf) (c : Nat), p ≤ n → (pl t n k p T G c).2.2.2.1 ≤ n := by
  induction k with
  | zero => intro p T G c hp; exact hp
  | succ k ih =>
    intro p T G c hp
    show (bif (!(cm t n p).1.2 && decide ((cm t n p).1.1 < n)) then pl t n k (cm t n p).1.1 (cT (cm t n p).2 T) (cG (cm t n p).2 G) (c + 1) else (cT (cm t n p).2 T, cG (cm t n p).2 G, c + 1, (cm t n p).1.1, (cm t n p).1.2)).2.2.2.1 ≤ n
    cases (!(cm t n p).1.2 && decide ((cm t n p).1.1 < n)) with
    | true => exact ih _ _ _ _ (cm_le hp)
    | false => exact cm_le hp
theorem cm_ok {t : Nat → Nat} {n p : Nat} (hp : p ≤ n) : (∀ x, (cm t n p).2 = some (.inl x) → trO x) ∧ ∀ g, (cm t n p).2 = some (.inr g) → cfW 10 g := by
  have hA : cmA t n p < 6 := sv_lt (by decide)
  unfold cm
  split
  · rename_i q
    refine ⟨fun x hx => ?_, fun g hg => ?_⟩
    · simp only at hx
      split at hx <;> cases hx
    · simp only at hg
      split at hg
      · cases hg
      · cases hg
        have w1 := pw_ok (t := t) (n := n) (b := (hs t n p).2) 10 (hs t n p).1 (hs_le hp)
        have w2 := pw_ok (t := t) (n := n) (b := (ps t n (pwS t n (hs t n p)).2 44 1).2) 10 (ps t n (pwS t n (hs t n p)).2 44 1).1 (ps_le w1.2.2.1).1
        exact ⟨hA, w1.1, w1.2.1, w2.1, w2.2.1⟩
  · rename_i q
    refine ⟨fun x hx => ?_, fun g hg => ?_⟩
    · simp only at hx
      split at hx
      · cases hx
      · cases hx
        have h3 : (nk t p (nd t n (n - p) p)).getD 0 < 3 := by
          cases hk : nk t p (nd t n (n - p) p) with
          | none => exact Nat.zero_lt_succ _
          | some a =>
            have h4 := (nk_lt hk).1
            have h5 : a ≠ 3 := fun z => q (by rw [hk, z])
            show a < 3
            omega
        have h6 : (cmT t n p).1 < 6 ∧ (cmT t n p).2.1 < 2 ∧ (cmT t n p).2.2.1 < 3 := by
          unfold cmT tl
          split
          · exact ⟨sv_lt (by decide), Nat.zero_lt_succ _, Nat.zero_lt_succ _⟩
          · exact ⟨sv_lt (by decide), sv_lt (by decide), sv_lt (by decide)⟩
        exact ⟨hA, h6.1, h3, h6.2.1, h6.2.2⟩
    · simp only at hg
      split at hg <;> cases hg
theorem cTG_ok {r : Option (Tr ⊕ Cf)} {T : List Tr} {G : List Cf} (h1 : ∀ x, r = some (.inl x) → trO x) (h2 : ∀ g, r = some (.inr g) → cfW 10 g) (hT : trs T) (hG : cfs 10 G) : trs (cT r T) ∧ cfs 10 (cG r G) := by
  rcases r with _ | x | g
  · exact ⟨hT, hG⟩
  · refine ⟨fun y hy => ?_, hG⟩
    rcases List.mem_append.mp hy with q | q
    · exact hT y q
    · rw [List.mem_singleton.mp q]; exact h1 x rfl
  · exact ⟨hT, cfs_app.mpr ⟨hG, cfs_one.mpr (h2 g rfl)⟩⟩
theorem pl_ok {t : Nat → Nat} {n : Nat} (k : Nat) : ∀ (p : Nat) (T : List Tr) (G : List Cf) (c : Nat), p ≤ n → trs T → cfs 10 G → trs (pl t n k p T G c).1 ∧ cfs 10 (pl t n k p T G c).2.1 := by
  induction k with
  | zero => intro p T G c hp hT hG; exact ⟨hT, hG⟩
  | succ k ih =>
    intro p T G c hp hT hG
    obtain ⟨h1, h2⟩ := cTG_ok (cm_ok (t := t) hp).1 (cm_ok (t := t) hp).2 hT hG
    show trs (bif (!(cm t n p).1.2 && decide ((cm t n p).1.1 < n)) then pl t n k (cm t n p).1.1 (cT (cm t n p).2 T) (cG (cm t n p).2 G) (c + 1) else (cT (cm t n p).2 T, cG (cm t n p).2 G, c + 1, (cm t n p).1.1, (cm t n p).1.2)).1 ∧ cfs 10 (bif (!(cm t n p).1.2 && decide ((cm t n p).1.1 < n)) then pl t n k (cm t n p).1.1 (cT (cm t n p).2 T) (cG (cm t n p).2 G) (c + 1) else (cT (cm t n p).2 T, cG (cm t n p).2 G, c + 1, (cm t n p).1.1, (cm t n p).1.2)).2.1
    cases (!(cm t n p).1.2 && decide ((cm t n p).1.1 < n)) with
    | true => exact ih _ _ _ _ (cm_le hp) h1 h2
    | false => exact ⟨h1, h2⟩
theorem rdF_T {S : St} (hS : S.n ≤ 80) (h : rdF S < 0) : ¬ (rdP S).2.2.2.2 = true := by
  intro q
  unfold rdF at h
  rw [if_pos q] at h
  have h9 := pl_le (t := S.t) (n := S.n) 81 0 [] [] 0 (Nat.zero_le _)
  exact nI_pos (show (rdP S).2.2.2.1 < 2 ^ 31 by show (pl S.t S.n 81 0 [] [] 0).2.2.2.1 < 2 ^ 31; omega) h
theorem rdF_F {S : St} (h : ¬ rdF S < 0) : (rdP S).2.2.2.2 = true := by
  cases q : (rdP S).2.2.2.2 with
  | true => rfl
  | false =>
    unfold rdF at h
    rw [if_neg (by rw [q]; decide)] at h
    exact absurd (by decide) h
set_option maxHeartbeats 4000000 in
set_option maxRecDepth 100000 in
theorem c_X10_append {l : Launch} (hl : l.stackTraces = false) {M : ev_M} (S : St) (hS : okS S) (hR : RCl M S) (c : Nat) (hc : c < 65536) : ev_Mt l m_X10_append [.ref (0), .int (nI c)] M (fun r M1 => r = cV [eIS] (sApp S c).1 ∧ RCl M1 (sApp S c).2 ∧ Fr 0 104 M M1) := by
  have hTl : S.T.length ≤ 10 := hR.m.1
  have hGl : S.G.length ≤ 3 := hR.g.2.1
  obtain ⟨s7, T7, G7, hO7, hM7, hQ7, hW7⟩ := hR.r
  refine ev_body hl rfl (by decide +kernel) (Nat.le_of_ble_eq_true rfl) ?_
  show ev_ l m_X10_append 0 0 0 [some (.ref (0)), some (.int (nI c))] [] M _
  refine ev_blk (B := [(.aload_n 0, 1)]) (pe := 1) (ls' := [some (.ref (0)), some (.int (nI c))]) (st' := [.ref (0)]) ⟨dX10_append_0, rfl⟩ rfl ?_
  refine ev_getf (v := .ref (87)) F_RX10_63 dX10_append_1 hR.o rfl ?_
  refine ev_cVv Y_X7_isFull L_RX10_297 dX10_append_4 ⟨Nat.le_of_ble_eq_true rfl, Nat.le_of_ble_eq_true rfl, Nat.le_of_ble_eq_true rfl, Nat.le_of_ble_eq_true rfl, Nat.le_of_ble_eq_true rfl⟩ hO7 (as := []) rfl rfl (c_X7_isFull hl 87 S.n s7 S.f hO7 hS.n) ?_
  refine ev_ifB_eq dX10_append_7 (tgt := 21) (by decide) (fun q7 => ?_) (fun q7 => ?_)
  · refine ev_blk (B := [(.aload_n 0, 1)]) (pe := 22) (ls' := [some (.ref (0)), some (.int (nI c))]) (st' := [.ref (0)]) ⟨dX10_append_21, rfl⟩ rfl ?_
    refine ev_getf (v := .ref (87)) F_RX10_63 dX10_append_22 hR.o rfl ?_
    refine ev_blk (B := [(.iload_n 1, 1)]) (pe := 26) (ls' := [some (.ref (0)), some (.int (nI c))]) (st' := [.int (nI c), .ref (87)]) ⟨dX10_append_25, rfl⟩ rfl ?_
    refine ev_cVn Y_X7_add L_RX10_303 dX10_append_26 ⟨Nat.le_of_ble_eq_true rfl, Nat.le_of_ble_eq_true rfl, Nat.le_of_ble_eq_true rfl, Nat.le_of_ble_eq_true rfl, Nat.le_of_ble_eq_true rfl⟩ hO7 (as := [.int (nI c)]) rfl rfl (c_X7_add hl 87 S.n s7 S.f hO7 S.t hR.w (by have y1 := of_decide_eq_false q7; omega) c hc) (fun M1 hL1 hB1 => ?_)
    obtain ⟨Da, Db, Df⟩ := hB1
    refine ev_vret dX10_append_29 rfl ⟨Nat.le_of_ble_eq_true rfl, Nat.le_of_ble_eq_true rfl⟩ ?_
    have e9 : sApp S c = (0, (St.mk S.T S.x S.G S.H (S.n + 1) (fun i => if i = S.n then c else S.t i) S.f S.tk S.T9 S.x9 S.G9)) := if_neg (of_decide_eq_false q7)
    rw [e9]
    exact ⟨rfl, ⟨(hR.o.fr Df (by omega)), (hR.m.fr Df (by omega)), (hR.x.fr Df (by omega)), (hR.g.fr Df (by omega)), (hR.h.fr Df (by omega)), (hR.k.fr Df (by omega)), (hR.a.fr Df (by omega)), (hR.l.fr Df (by omega)), ⟨s7, T7, G7, Da, hM7.fr Df (by omega), hQ7.fr Df (by omega), RWk.fr hW7 Df (by omega)⟩, Db, (hR.s.fr Df (by omega))⟩, (Df.to (by omega) (by omega))⟩
  · refine ev_throwW (cls := "java/lang/IllegalStateException") (text := "the buffer contains 80 characters") (names := ev_nmR) (ic := 101) (ik := 97) rfl (by decide +kernel) (by decide +kernel) T_IllegalStateException (by decide +kernel) dX10_append_10 dX10_append_13 dX10_append_14 dX10_append_17 dX10_append_20 ⟨Nat.le_of_ble_eq_true rfl, Nat.le_of_ble_eq_true rfl, Nat.le_of_ble_eq_true rfl, Nat.le_of_ble_eq_true rfl⟩ ?_
    have e9 : sApp S c = (1, S) := if_pos (of_decide_eq_true q7)
    rw [e9]
    exact ⟨rfl, ⟨hR.o, hR.m, hR.x, hR.g, hR.h, hR.k, hR.a, hR.l, hR.r, hR.w, hR.s⟩, Fr.rf⟩

set_option maxHeartbeats 4000000 in
set_option maxRecDepth 100000 in
theorem c_X10_faultPosition {l : Launch} (hl : l.stackTraces = false) {M : ev_M} (S : St) (hS : okS S) (hR : RCl M S) : ev_Mt l m_X10_faultPosition [.ref (0)] M (fun r M1 => r = cA [] (sFau S) ∧ RCl M1 S ∧ Fr 0 104 M M1) := by
  have hTl : S.T.length ≤ 10 := hR.m.1
  have hGl : S.G.length ≤ 3 := hR.g.2.1
  obtain ⟨s7, T7, G7, hO7, hM7, hQ7, hW7⟩ := hR.r
  refine ev_body hl rfl (by decide +kernel) (Nat.le_of_ble_eq_true rfl) ?_
  show ev_ l m_X10_faultPosition 0 0 0 [some (.ref (0))] [] M _
  refine ev_blk (B := [(.aload_n 0, 1)]) (pe := 1) (ls' := [some (.ref (0))]) (st' := [.ref (0)]) ⟨dX10_faultPosition_0, rfl⟩ rfl ?_
  refine ev_getf (v := .ref (87)) F_RX10_63 dX10_faultPosition_1 hR.o rfl ?_
  refine ev_cVv Y_X7_fault L_RX10_309 dX10_faultPosition_4 ⟨Nat.le_of_ble_eq_true rfl, Nat.le_of_ble_eq_true rfl, Nat.le_of_ble_eq_true rfl, Nat.le_of_ble_eq_true rfl, Nat.le_of_ble_eq_true rfl⟩ hO7 (as := []) rfl rfl (c_X7_fault hl 87 S.n s7 S.f hO7) ?_
  refine ev_iret dX10_faultPosition_7 rfl (rfl) ⟨Nat.le_of_ble_eq_true rfl, Nat.le_of_ble_eq_true rfl⟩ ?_
  exact ⟨rfl, ⟨hR.o, hR.m, hR.x, hR.g, hR.h, hR.k, hR.a, hR.l, hR.r, hR.w, hR.s⟩, Fr.rf⟩

set_option maxHeartbeats 4000000 in
set_option maxRecDepth 100000 in
theorem c_X10_save {l : Launch} (hl : l.stackTraces = false) {M : ev_M} (S : St) (hS : okS S) (hR : RCl M S) : ev_Mt l m_X10_save [.ref (0)] M (fun r M1 => r = .inl none ∧ RCl M1 (sSav S) ∧ Fr 0 104 M M1) := by
  have hTl : S.T.length ≤ 10 := hR.m.1
  have hGl : S.G.length ≤ 3 := hR.g.2.1
  obtain ⟨s7, T7, G7, hO7, hM7, hQ7, hW7⟩ := hR.r
  refine ev_body hl rfl (by decide +kernel) (Nat.le_of_ble_eq_true rfl) ?_
  show ev_ l m_X10_save 0 0 0 [some (.ref (0))] [] M _
  refine ev_blk (B := [(.aload_n 0, 1)]) (pe := 1) (ls' := [some (.ref (0))]) (st' := [.ref (0)]) ⟨dX10_save_0, rfl⟩ rfl ?_
  refine ev_getf (v := .ref (96)) F_RX10_70 dX10_save_1 hR.o rfl ?_
  refine ev_blk (B := [(.aload_n 0, 1)]) (pe := 5) (ls' := [some (.ref (0))]) (st' := [.ref (0), .ref (96)]) ⟨dX10_save_4, rfl⟩ rfl ?_
  refine ev_getf (v := .ref (1)) F_RX10_10 dX10_save_5 hR.o rfl ?_
  refine ev_blk (B := [(.aload_n 0, 1)]) (pe := 9) (ls' := [some (.ref (0))]) (st' := [.ref (0), .ref (1), .ref (96)]) ⟨dX10_save_8, rfl⟩ rfl ?_
  refine ev_getf (v := .ref (3)) F_RX10_19 dX10_save_9 hR.o rfl ?_
  refine ev_blk (B := [(.aload_n 0, 1)]) (pe := 13) (ls' := [some (.ref (0))]) (st' := [.ref (0), .ref (3), .ref (1), .ref (96)]) ⟨dX10_save_12, rfl⟩ rfl ?_
  refine ev_getf (v := .ref (4)) F_RX10_28 dX10_save_13 hR.o rfl ?_
  refine ev_cVn Y_X6_take L_RX10_330 dX10_save_16 ⟨Nat.le_of_ble_eq_true rfl, Nat.le_of_ble_eq_true rfl, Nat.le_of_ble_eq_true rfl, Nat.le_of_ble_eq_true rfl, Nat.le_of_ble_eq_true rfl⟩ (hR.s).1 (as := [.ref (1), .ref (3), .ref (4)]) rfl rfl (c_X6_take hl 96 S.tk S.T9 S.x9 S.G9 hR.s 1 S.T hR.m 3 S.x hR.x 4 S.G hR.g (by omega) (by omega) (by omega) hS.T) (fun M1 hL1 hB1 => ?_)
  obtain ⟨Da, Df⟩ := hB1
  refine ev_vret dX10_save_19 rfl ⟨Nat.le_of_ble_eq_true rfl, Nat.le_of_ble_eq_true rfl⟩ ?_
  exact ⟨rfl, ⟨(hR.o.fr Df (by omega)), (hR.m.fr Df (by omega)), (hR.x.fr Df (by omega)), (hR.g.fr Df (by omega)), (hR.h.fr Df (by omega)), (hR.k.fr Df (by omega)), (hR.a.fr Df (by omega)), (hR.l.fr Df (by omega)), (hR.r.fr Df (by omega)), (hR.w.fr Df (by omega)), Da⟩, (Df.to (by omega) (by omega))⟩

set_option maxHeartbeats 4000000 in
set_option maxRecDepth 100000 in
theorem c_X10_restore {l : Launch} (hl : l.stackTraces = false) {M : ev_M} (S : St) (hS : okS S) (hR : RCl M S) : ev_Mt l m_X10_restore [.ref (0)] M (fun r M1 => r = cV [eIS] (sRes S).1 ∧ RCl M1 (sRes S).2 ∧ Fr 0 104 M M1) := by
  have hTl : S.T.length ≤ 10 := hR.m.1
  have hGl : S.G.length ≤ 3 := hR.g.2.1
  obtain ⟨s7, T7, G7, hO7, hM7, hQ7, hW7⟩ := hR.r
  refine ev_body hl rfl (by decide +kernel) (Nat.le_of_ble_eq_true rfl) ?_
  show ev_ l m_X10_restore 0 0 0 [some (.ref (0))] [] M _
  refine ev_blk (B := [(.aload_n 0, 1)]) (pe := 1) (ls' := [some (.ref (0))]) (st' := [.ref (0)]) ⟨dX10_restore_0, rfl⟩ rfl ?_
  refine ev_getf (v := .ref (96)) F_RX10_70 dX10_restore_1 hR.o rfl ?_
  refine ev_cVv Y_X6_isTaken L_RX10_334 dX10_restore_4 ⟨Nat.le_of_ble_eq_true rfl, Nat.le_of_ble_eq_true rfl, Nat.le_of_ble_eq_true rfl, Nat.le_of_ble_eq_true rfl, Nat.le_of_ble_eq_true rfl⟩ (hR.s).1 (as := []) rfl rfl (c_X6_isTaken hl 96 S.tk S.T9 S.x9 S.G9 hR.s) ?_
  refine ev_ifB_ne dX10_restore_7 (tgt := 21) (by decide) (fun q7 => ?_) (fun q7 => ?_)
  · refine ev_blk (B := [(.aload_n 0, 1)]) (pe := 22) (ls' := [some (.ref (0))]) (st' := [.ref (0)]) ⟨dX10_restore_21, rfl⟩ rfl ?_
    refine ev_getf (v := .ref (96)) F_RX10_70 dX10_restore_22 hR.o rfl ?_
    refine ev_blk (B := [(.aload_n 0, 1)]) (pe := 26) (ls' := [some (.ref (0))]) (st' := [.ref (0), .ref (96)]) ⟨dX10_restore_25, rfl⟩ rfl ?_
    refine ev_getf (v := .ref (1)) F_RX10_10 dX10_restore_26 hR.o rfl ?_
    refine ev_blk (B := [(.aload_n 0, 1)]) (pe := 30) (ls' := [some (.ref (0))]) (st' := [.ref (0), .ref (1), .ref (96)]) ⟨dX10_restore_29, rfl⟩ rfl ?_
    refine ev_getf (v := .ref (3)) F_RX10_19 dX10_restore_30 hR.o rfl ?_
    refine ev_blk (B := [(.aload_n 0, 1)]) (pe := 34) (ls' := [some (.ref (0))]) (st' := [.ref (0), .ref (3), .ref (1), .ref (96)]) ⟨dX10_restore_33, rfl⟩ rfl ?_
    refine ev_getf (v := .ref (4)) F_RX10_28 dX10_restore_34 hR.o rfl ?_
    refine ev_cVn Y_X6_putBack L_RX10_339 dX10_restore_37 ⟨Nat.le_of_ble_eq_true rfl, Nat.le_of_ble_eq_true rfl, Nat.le_of_ble_eq_true rfl, Nat.le_of_ble_eq_true rfl, Nat.le_of_ble_eq_true rfl⟩ (hR.s).1 (as := [.ref (1), .ref (3), .ref (4)]) rfl rfl (c_X6_putBack hl 96 S.tk S.T9 S.x9 S.G9 hR.s 1 S.T hR.m 3 S.x hR.x 4 S.G hR.g (by omega) (by omega) (by omega) hS.T9 (by omega) (by omega) (by omega)) (fun M1 hL1 hB1 => ?_)
    obtain ⟨Da, Db, Dc, Dl, Dr⟩ := hB1
    have Df : Fr 1 8 M M1 := ⟨Dl, fun j hj => Dr j (by omega) (by omega) (by omega)⟩
    refine ev_blk (B := [(.aload_n 0, 1)]) (pe := 41) (ls' := [some (.ref (0))]) (st' := [.ref (0)]) ⟨dX10_restore_40, rfl⟩ rfl ?_
    refine ev_getf (v := .ref (8)) F_RX10_35 dX10_restore_41 (hR.o.fr Df (by omega)) rfl ?_
    refine ev_cVn Y_X8_forget L_RX10_127 dX10_restore_44 ⟨Nat.le_of_ble_eq_true rfl, Nat.le_of_ble_eq_true rfl, Nat.le_of_ble_eq_true rfl, Nat.le_of_ble_eq_true rfl, Nat.le_of_ble_eq_true rfl⟩ ((hR.h.fr Df (by omega))).1 (as := []) rfl rfl (c_X8_forget hl 8 S.H (hR.h.fr Df (by omega))) (fun M2 hL2 hB2 => ?_)
    obtain ⟨D3a, D3f⟩ := hB2
    refine ev_blk (B := [(.aload_n 0, 1)]) (pe := 48) (ls' := [some (.ref (0))]) (st' := [.ref (0)]) ⟨dX10_restore_47, rfl⟩ rfl ?_
    refine ev_getf (v := .ref (17)) F_RX10_49 dX10_restore_48 ((hR.o.fr Df (by omega)).fr D3f (by omega)) rfl ?_
    obtain ⟨cu, tr9, lo9, B9, co, la, N9, hA, hBs, hAN, hA8, hA9, hAf⟩ := ((hR.a.fr Df (by omega)).fr D3f (by omega))
    refine ev_cVn Y_X0_discard L_RX10_106 dX10_restore_51 ⟨Nat.le_of_ble_eq_true rfl, Nat.le_of_ble_eq_true rfl, Nat.le_of_ble_eq_true rfl, Nat.le_of_ble_eq_true rfl, Nat.le_of_ble_eq_true rfl⟩ hA.1 (as := []) rfl rfl (c_X0_discard hl 17 cu co la tr9 lo9 hA) (fun M4 hL4 hB4 => ?_)
    obtain ⟨D5a, D5f⟩ := hB4
    refine ev_vret dX10_restore_54 rfl ⟨Nat.le_of_ble_eq_true rfl, Nat.le_of_ble_eq_true rfl⟩ ?_
    have e9 : sRes S = (0, (St.mk S.T9 S.x9 S.G9 [] S.n S.t S.f S.tk S.T9 S.x9 S.G9)) := if_neg (by rw [q7]; decide)
    rw [e9]
    exact ⟨rfl, ⟨(((hR.o.fr Df (by omega)).fr D3f (by omega)).fr D5f (by omega)), ((Da.fr D3f (by omega)).fr D5f (by omega)), ((Db.fr D3f (by omega)).fr D5f (by omega)), ((Dc.fr D3f (by omega)).fr D5f (by omega)), (D3a.fr D5f (by omega)), (((hR.k.fr Df (by omega)).fr D3f (by omega)).fr D5f (by omega)), ⟨false, tr9, lo9, B9, co, la, N9, D5a, hBs.fr D5f (by omega), hAN.fr D5f (by omega), RWk.fr hA8 D5f (by omega), RWk.fr hA9 D5f (by omega), fun z => nomatch z⟩, (((hR.l.fr Df (by omega)).fr D3f (by omega)).fr D5f (by omega)), (((hR.r.fr Df (by omega)).fr D3f (by omega)).fr D5f (by omega)), (((hR.w.fr Df (by omega)).fr D3f (by omega)).fr D5f (by omega)), (((hR.s.fr Df (by omega)).fr D3f (by omega)).fr D5f (by omega))⟩, (((Df.to (by omega) (by omega)).tr (D3f.to (by omega) (by omega))).tr (D5f.to (by omega) (by omega)))⟩
  · refine ev_throwW (cls := "java/lang/IllegalStateException") (text := "there is no snapshot") (names := ev_nmR) (ic := 101) (ik := 97) rfl (by decide +kernel) (by decide +kernel) T_IllegalStateException (by decide +kernel) dX10_restore_10 dX10_restore_13 dX10_restore_14 dX10_restore_17 dX10_restore_20 ⟨Nat.le_of_ble_eq_true rfl, Nat.le_of_ble_eq_true rfl, Nat.le_of_ble_eq_true rfl, Nat.le_of_ble_eq_true rfl⟩ ?_
    have e9 : sRes S = (1, S) := if_pos q7
    rw [e9]
    exact ⟨rfl, ⟨hR.o, hR.m, hR.x, hR.g, hR.h, hR.k, hR.a, hR.l, hR.r, hR.w, hR.s⟩, Fr.rf⟩

set_option maxHeartbeats 4000000 in
set_option maxRecDepth 100000 in
theorem c_X10_read {l : Launch} (hl : l.stackTraces = false) {M : ev_M} (S : St) (hS : okS S) (hR : RCl M S) : ev_Mt l m_X10_read [.ref (0)] M (fun r M1 => r = cA [eIA, eIS] (sRea S).1 ∧ RCl M1 (sRea S).2 ∧ Fr 0 104 M M1) := by
  have hTl : S.T.length ≤ 10 := hR.m.1
  have hGl : S.G.length ≤ 3 := hR.g.2.1
  obtain ⟨s7, T7, G7, hO7, hM7, hQ7, hW7⟩ := hR.r
  refine ev_body hl rfl (by decide +kernel) (Nat.le_of_ble_eq_true rfl) ?_
  show ev_ l m_X10_read 0 0 0 [some (.ref (0)), none] [] M _
  refine ev_blk (B := [(.aload_n 0, 1)]) (pe := 1) (ls' := [some (.ref (0)), none]) (st' := [.ref (0)]) ⟨dX10_read_0, rfl⟩ rfl ?_
  refine ev_getf (v := .ref (87)) F_RX10_63 dX10_read_1 hR.o rfl ?_
  refine ev_cVw Y_X7_parse L_RX10_306 dX10_read_4 ⟨Nat.le_of_ble_eq_true rfl, Nat.le_of_ble_eq_true rfl, Nat.le_of_ble_eq_true rfl, Nat.le_of_ble_eq_true rfl, Nat.le_of_ble_eq_true rfl⟩ hO7 (as := []) rfl rfl (c_X7_parse hl 87 S.n s7 S.f S.t hS.t hS.n hO7 hR.w T7 G7 hM7 hQ7 hW7) (fun M1 hL1 hB1 => ?_)
  obtain ⟨Pa, Pm, Pg, Pk, Pw, Pf⟩ := hB1
  have hPm : (rdP S).1.length ≤ 10 := Pm.1
  have hPg : (rdP S).2.1.length ≤ 8 := Pg.2.1
  have hPo := pl_ok (t := S.t) (n := S.n) 81 0 [] [] 0 (Nat.zero_le _) (fun x hx => absurd hx List.not_mem_nil) cfs_nil
  have Pr : RRd M1 0 (rdF S) := ⟨(rdP S).2.2.2, (rdP S).1, (rdP S).2.1, Pa, Pm, Pg, Pk⟩
  refine ev_blk (B := [(.istore_n 1, 1), (.aload_n 0, 1)]) (pe := 9) (ls' := [some (.ref (0)), some (.int (nI ((rdP S).2.2.1)))]) (st' := [.ref (0)]) ⟨dX10_read_7, dX10_read_8, rfl⟩ rfl ?_
  refine ev_getf (v := .ref (87)) F_RX10_63 dX10_read_9 (hR.o.fr Pf (by omega)) rfl ?_
  refine ev_cVv Y_X7_fault L_RX10_309 dX10_read_12 ⟨Nat.le_of_ble_eq_true rfl, Nat.le_of_ble_eq_true rfl, Nat.le_of_ble_eq_true rfl, Nat.le_of_ble_eq_true rfl, Nat.le_of_ble_eq_true rfl⟩ Pa (as := []) rfl rfl (c_X7_fault hl 87 0 (rdP S).2.2.2 (rdF S) Pa) ?_
  refine ev_if_lt dX10_read_15 (tgt := 29) (by decide) (fun q15 => ?_) (fun q15 => ?_)
  · refine ev_blk (B := [(.aload_n 0, 1)]) (pe := 30) (ls' := [some (.ref (0)), some (.int (nI ((rdP S).2.2.1)))]) (st' := [.ref (0)]) ⟨dX10_read_29, rfl⟩ rfl ?_
    refine ev_getf (v := .ref (1)) F_RX10_10 dX10_read_30 (hR.o.fr Pf (by omega)) rfl ?_
    refine ev_cVv Y_X4_count L_RX10_93 dX10_read_33 ⟨Nat.le_of_ble_eq_true rfl, Nat.le_of_ble_eq_true rfl, Nat.le_of_ble_eq_true rfl, Nat.le_of_ble_eq_true rfl, Nat.le_of_ble_eq_true rfl⟩ ((hR.m.fr Pf (by omega))).obj (as := []) rfl rfl (c_X4_count hl 1 S.T (hR.m.fr Pf (by omega))) ?_
    refine ev_blk (B := [(.aload_n 0, 1)]) (pe := 37) (ls' := [some (.ref (0)), some (.int (nI ((rdP S).2.2.1)))]) (st' := [.ref (0), .int (nI (S.T.length))]) ⟨dX10_read_36, rfl⟩ rfl ?_
    refine ev_getf (v := .ref (87)) F_RX10_63 dX10_read_37 (hR.o.fr Pf (by omega)) rfl ?_
    refine ev_cVv Y_X7_transitions L_RX10_314 dX10_read_40 ⟨Nat.le_of_ble_eq_true rfl, Nat.le_of_ble_eq_true rfl, Nat.le_of_ble_eq_true rfl, Nat.le_of_ble_eq_true rfl, Nat.le_of_ble_eq_true rfl⟩ Pa (as := []) rfl rfl (c_X7_transitions hl 87 0 (rdP S).2.2.2 (rdF S) Pa) ?_
    refine ev_cVv Y_X4_count L_RX10_93 dX10_read_43 ⟨Nat.le_of_ble_eq_true rfl, Nat.le_of_ble_eq_true rfl, Nat.le_of_ble_eq_true rfl, Nat.le_of_ble_eq_true rfl, Nat.le_of_ble_eq_true rfl⟩ Pm.obj (as := []) rfl rfl (c_X4_count hl (87 + 2) (rdP S).1 Pm) ?_
    refine ev_blk (B := [(.iadd, 1), (.bipush 10, 2)]) (pe := 49) (ls' := [some (.ref (0)), some (.int (nI ((rdP S).2.2.1)))]) (st' := [.int (nI 10), .int (nI ((S.T.length) + ((rdP S).1.length)))]) ⟨dX10_read_46, dX10_read_47, rfl⟩ (by show some (([some (.ref (0)), some (.int (nI ((rdP S).2.2.1)))] : ev_L), ([.int (nI 10), .int ((nI (S.T.length)) + (nI ((rdP S).1.length)))] : List Value)) = _; rw [nI_add (S.T.length) ((rdP S).1.length)]) ?_
    refine ev_iN_gt dX10_read_49 (tgt := 74) (by decide) (by omega) (by omega) (fun q49 => ?_) (fun q49 => ?_)
    · refine ev_throwW (cls := "java/lang/IllegalStateException") (text := "too many transitions or goals") (names := ev_nmR) (ic := 101) (ik := 97) rfl (by decide +kernel) (by decide +kernel) T_IllegalStateException (by decide +kernel) dX10_read_74 dX10_read_77 dX10_read_78 dX10_read_81 dX10_read_84 ⟨Nat.le_of_ble_eq_true rfl, Nat.le_of_ble_eq_true rfl, Nat.le_of_ble_eq_true rfl, Nat.le_of_ble_eq_true rfl⟩ ?_
      have e9 : sRea S = ((2, 0), (St.mk S.T S.x S.G S.H (0) S.t (rdF S) S.tk S.T9 S.x9 S.G9)) := (if_neg (rdF_T hS.n q15)).trans (if_pos q49)
      rw [e9]
      exact ⟨rfl, ⟨(hR.o.fr Pf (by omega)), (hR.m.fr Pf (by omega)), (hR.x.fr Pf (by omega)), (hR.g.fr Pf (by omega)), (hR.h.fr Pf (by omega)), (hR.k.fr Pf (by omega)), (hR.a.fr Pf (by omega)), (hR.l.fr Pf (by omega)), Pr, Pw, (hR.s.fr Pf (by omega))⟩, (Pf.to (by omega) (by omega))⟩
    · refine ev_blk (B := [(.aload_n 0, 1)]) (pe := 53) (ls' := [some (.ref (0)), some (.int (nI ((rdP S).2.2.1)))]) (st' := [.ref (0)]) ⟨dX10_read_52, rfl⟩ rfl ?_
      refine ev_getf (v := .ref (4)) F_RX10_28 dX10_read_53 (hR.o.fr Pf (by omega)) rfl ?_
      refine ev_cVv Y_X2_size L_RX10_225 dX10_read_56 ⟨Nat.le_of_ble_eq_true rfl, Nat.le_of_ble_eq_true rfl, Nat.le_of_ble_eq_true rfl, Nat.le_of_ble_eq_true rfl, Nat.le_of_ble_eq_true rfl⟩ ((hR.g.fr Pf (by omega))).obj (as := []) rfl rfl (c_X2_size hl 4 3 S.G (hR.g.fr Pf (by omega))) ?_
      refine ev_blk (B := [(.aload_n 0, 1)]) (pe := 60) (ls' := [some (.ref (0)), some (.int (nI ((rdP S).2.2.1)))]) (st' := [.ref (0), .int (nI (S.G.length))]) ⟨dX10_read_59, rfl⟩ rfl ?_
      refine ev_getf (v := .ref (87)) F_RX10_63 dX10_read_60 (hR.o.fr Pf (by omega)) rfl ?_
      refine ev_cVv Y_X7_goals L_RX10_318 dX10_read_63 ⟨Nat.le_of_ble_eq_true rfl, Nat.le_of_ble_eq_true rfl, Nat.le_of_ble_eq_true rfl, Nat.le_of_ble_eq_true rfl, Nat.le_of_ble_eq_true rfl⟩ Pa (as := []) rfl rfl (c_X7_goals hl 87 0 (rdP S).2.2.2 (rdF S) Pa) ?_
      refine ev_cVv Y_X2_size L_RX10_225 dX10_read_66 ⟨Nat.le_of_ble_eq_true rfl, Nat.le_of_ble_eq_true rfl, Nat.le_of_ble_eq_true rfl, Nat.le_of_ble_eq_true rfl, Nat.le_of_ble_eq_true rfl⟩ Pg.obj (as := []) rfl rfl (c_X2_size hl (87 + 4) 8 (rdP S).2.1 Pg) ?_
      refine ev_blk (B := [(.iadd, 1), (.iconst 3, 1)]) (pe := 71) (ls' := [some (.ref (0)), some (.int (nI ((rdP S).2.2.1)))]) (st' := [.int (nI 3), .int (nI ((S.G.length) + ((rdP S).2.1.length)))]) ⟨dX10_read_69, dX10_read_70, rfl⟩ (by show some (([some (.ref (0)), some (.int (nI ((rdP S).2.2.1)))] : ev_L), ([.int (nI 3), .int ((nI (S.G.length)) + (nI ((rdP S).2.1.length)))] : List Value)) = _; rw [nI_add (S.G.length) ((rdP S).2.1.length)]) ?_
      refine ev_iN_le dX10_read_71 (tgt := 85) (by decide) (by omega) (by omega) (fun q71 => ?_) (fun q71 => ?_)
      · refine ev_blk (B := [(.aload_n 0, 1)]) (pe := 86) (ls' := [some (.ref (0)), some (.int (nI ((rdP S).2.2.1)))]) (st' := [.ref (0)]) ⟨dX10_read_85, rfl⟩ rfl ?_
        refine ev_getf (v := .ref (1)) F_RX10_10 dX10_read_86 (hR.o.fr Pf (by omega)) rfl ?_
        refine ev_blk (B := [(.aload_n 0, 1)]) (pe := 90) (ls' := [some (.ref (0)), some (.int (nI ((rdP S).2.2.1)))]) (st' := [.ref (0), .ref (1)]) ⟨dX10_read_89, rfl⟩ rfl ?_
        refine ev_getf (v := .ref (87)) F_RX10_63 dX10_read_90 (hR.o.fr Pf (by omega)) rfl ?_
        refine ev_cVv Y_X7_transitions L_RX10_314 dX10_read_93 ⟨Nat.le_of_ble_eq_true rfl, Nat.le_of_ble_eq_true rfl, Nat.le_of_ble_eq_true rfl, Nat.le_of_ble_eq_true rfl, Nat.le_of_ble_eq_true rfl⟩ Pa (as := []) rfl rfl (c_X7_transitions hl 87 0 (rdP S).2.2.2 (rdF S) Pa) ?_
        refine ev_cVn Y_X4_addAll L_RX10_323 dX10_read_96 ⟨Nat.le_of_ble_eq_true rfl, Nat.le_of_ble_eq_true rfl, Nat.le_of_ble_eq_true rfl, Nat.le_of_ble_eq_true rfl, Nat.le_of_ble_eq_true rfl⟩ ((hR.m.fr Pf (by omega))).obj (as := [.ref (87 + 2)]) rfl rfl (c_X4_addAll hl 1 (87 + 2) S.T (rdP S).1 (hR.m.fr Pf (by omega)) Pm hPo.1 (by omega) (by omega)) (fun M2 hL2 hB2 => ?_)
        obtain ⟨Aa, Af⟩ := hB2
        have Pa2 := (Af.2 87 (by omega)).trans Pa
        have Pg2 := Pg.fr Af (by omega)
        refine ev_blk (B := [(.aload_n 0, 1)]) (pe := 100) (ls' := [some (.ref (0)), some (.int (nI ((rdP S).2.2.1)))]) (st' := [.ref (0)]) ⟨dX10_read_99, rfl⟩ rfl ?_
        refine ev_getf (v := .ref (4)) F_RX10_28 dX10_read_100 ((hR.o.fr Pf (by omega)).fr Af (by omega)) rfl ?_
        refine ev_blk (B := [(.aload_n 0, 1)]) (pe := 104) (ls' := [some (.ref (0)), some (.int (nI ((rdP S).2.2.1)))]) (st' := [.ref (0), .ref (4)]) ⟨dX10_read_103, rfl⟩ rfl ?_
        refine ev_getf (v := .ref (87)) F_RX10_63 dX10_read_104 ((hR.o.fr Pf (by omega)).fr Af (by omega)) rfl ?_
        refine ev_cVv Y_X7_goals L_RX10_318 dX10_read_107 ⟨Nat.le_of_ble_eq_true rfl, Nat.le_of_ble_eq_true rfl, Nat.le_of_ble_eq_true rfl, Nat.le_of_ble_eq_true rfl, Nat.le_of_ble_eq_true rfl⟩ Pa2 (as := []) rfl rfl (c_X7_goals hl 87 0 (rdP S).2.2.2 (rdF S) Pa2) ?_
        refine ev_cVn Y_X2_addAll L_RX10_327 dX10_read_110 ⟨Nat.le_of_ble_eq_true rfl, Nat.le_of_ble_eq_true rfl, Nat.le_of_ble_eq_true rfl, Nat.le_of_ble_eq_true rfl, Nat.le_of_ble_eq_true rfl⟩ (((hR.g.fr Pf (by omega)).fr Af (by omega))).obj (as := [.ref (87 + 4)]) rfl rfl (c_X2_addAll hl 4 3 (87 + 4) 8 S.G (rdP S).2.1 ((hR.g.fr Pf (by omega)).fr Af (by omega)) Pg2 (by omega) (by omega)) (fun M3 hL3 hB3 => ?_)
        obtain ⟨Ga, Gf⟩ := hB3
        refine ev_blk (B := [(.aload_n 0, 1)]) (pe := 114) (ls' := [some (.ref (0)), some (.int (nI ((rdP S).2.2.1)))]) (st' := [.ref (0)]) ⟨dX10_read_113, rfl⟩ rfl ?_
        refine ev_getf (v := .ref (17)) F_RX10_49 dX10_read_114 (((hR.o.fr Pf (by omega)).fr Af (by omega)).fr Gf (by omega)) rfl ?_
        obtain ⟨cu, tr9, lo9, B9, co, la, N9, hA, hBs, hAN, hA8, hA9, hAf⟩ := (((hR.a.fr Pf (by omega)).fr Af (by omega)).fr Gf (by omega))
        refine ev_cVn Y_X0_discard L_RX10_106 dX10_read_117 ⟨Nat.le_of_ble_eq_true rfl, Nat.le_of_ble_eq_true rfl, Nat.le_of_ble_eq_true rfl, Nat.le_of_ble_eq_true rfl, Nat.le_of_ble_eq_true rfl⟩ hA.1 (as := []) rfl rfl (c_X0_discard hl 17 cu co la tr9 lo9 hA) (fun M4 hL4 hB4 => ?_)
        obtain ⟨D5a, D5f⟩ := hB4
        refine ev_blk (B := [(.iload_n 1, 1)]) (pe := 121) (ls' := [some (.ref (0)), some (.int (nI ((rdP S).2.2.1)))]) (st' := [.int (nI ((rdP S).2.2.1))]) ⟨dX10_read_120, rfl⟩ rfl ?_
        refine ev_iret dX10_read_121 rfl (rfl) ⟨Nat.le_of_ble_eq_true rfl, Nat.le_of_ble_eq_true rfl⟩ ?_
        have e9 : sRea S = ((0, nI (rdP S).2.2.1), (St.mk (S.T ++ (rdP S).1) S.x (S.G ++ (rdP S).2.1) S.H (0) S.t (rdF S) S.tk S.T9 S.x9 S.G9)) := (if_neg (rdF_T hS.n q15)).trans ((if_neg (Nat.not_lt.mpr q49)).trans (if_neg (Nat.not_lt.mpr q71)))
        rw [e9]
        exact ⟨rfl, ⟨((((hR.o.fr Pf (by omega)).fr Af (by omega)).fr Gf (by omega)).fr D5f (by omega)), ((Aa.fr Gf (by omega)).fr D5f (by omega)), ((((hR.x.fr Pf (by omega)).fr Af (by omega)).fr Gf (by omega)).fr D5f (by omega)), (Ga.fr D5f (by omega)), ((((hR.h.fr Pf (by omega)).fr Af (by omega)).fr Gf (by omega)).fr D5f (by omega)), ((((hR.k.fr Pf (by omega)).fr Af (by omega)).fr Gf (by omega)).fr D5f (by omega)), ⟨false, tr9, lo9, B9, co, la, N9, D5a, hBs.fr D5f (by omega), hAN.fr D5f (by omega), RWk.fr hA8 D5f (by omega), RWk.fr hA9 D5f (by omega), fun z => nomatch z⟩, ((((hR.l.fr Pf (by omega)).fr Af (by omega)).fr Gf (by omega)).fr D5f (by omega)), (((Pr.fr Af (by omega)).fr Gf (by omega)).fr D5f (by omega)), (((Pw.fr Af (by omega)).fr Gf (by omega)).fr D5f (by omega)), ((((hR.s.fr Pf (by omega)).fr Af (by omega)).fr Gf (by omega)).fr D5f (by omega))⟩, ((((Pf.to (by omega) (by omega)).tr (Af.to (by omega) (by omega))).tr (Gf.to (by omega) (by omega))).tr (D5f.to (by omega) (by omega)))⟩
      · refine ev_throwW (cls := "java/lang/IllegalStateException") (text := "too many transitions or goals") (names := ev_nmR) (ic := 101) (ik := 97) rfl (by decide +kernel) (by decide +kernel) T_IllegalStateException (by decide +kernel) dX10_read_74 dX10_read_77 dX10_read_78 dX10_read_81 dX10_read_84 ⟨Nat.le_of_ble_eq_true rfl, Nat.le_of_ble_eq_true rfl, Nat.le_of_ble_eq_true rfl, Nat.le_of_ble_eq_true rfl⟩ ?_
        have e9 : sRea S = ((2, 0), (St.mk S.T S.x S.G S.H (0) S.t (rdF S) S.tk S.T9 S.x9 S.G9)) := (if_neg (rdF_T hS.n q15)).trans ((if_neg (Nat.not_lt.mpr q49)).trans (if_pos q71))
        rw [e9]
        exact ⟨rfl, ⟨(hR.o.fr Pf (by omega)), (hR.m.fr Pf (by omega)), (hR.x.fr Pf (by omega)), (hR.g.fr Pf (by omega)), (hR.h.fr Pf (by omega)), (hR.k.fr Pf (by omega)), (hR.a.fr Pf (by omega)), (hR.l.fr Pf (by omega)), Pr, Pw, (hR.s.fr Pf (by omega))⟩, (Pf.to (by omega) (by omega))⟩
  · refine ev_throwW (cls := "java/lang/IllegalArgumentException") (text := "the text has a fault") (names := ev_nmR) (ic := 82) (ik := 78) rfl (by decide +kernel) (by decide +kernel) T_IllegalArgumentException (by decide +kernel) dX10_read_18 dX10_read_21 dX10_read_22 dX10_read_25 dX10_read_28 ⟨Nat.le_of_ble_eq_true rfl, Nat.le_of_ble_eq_true rfl, Nat.le_of_ble_eq_true rfl, Nat.le_of_ble_eq_true rfl⟩ ?_
    have e9 : sRea S = ((1, 0), (St.mk S.T S.x S.G S.H (0) S.t (rdF S) S.tk S.T9 S.x9 S.G9)) := if_pos (rdF_F q15)
    rw [e9]
    exact ⟨rfl, ⟨(hR.o.fr Pf (by omega)), (hR.m.fr Pf (by omega)), (hR.x.fr Pf (by omega)), (hR.g.fr Pf (by omega)), (hR.h.fr Pf (by omega)), (hR.k.fr Pf (by omega)), (hR.a.fr Pf (by omega)), (hR.l.fr Pf (by omega)), Pr, Pw, (hR.s.fr Pf (by omega))⟩, (Pf.to (by omega) (by omega))⟩

