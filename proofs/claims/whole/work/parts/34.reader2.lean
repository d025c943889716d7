set_option maxHeartbeats 4000000 in
set_option maxRecDepth 100000 in
theorem c_X7_parseGoal {l : Launch} (hl : l.stackTraces = false) {M : ev_M} (o n : Nat) (s : Nat × Bool) (f : Int32) (t : Nat → Nat) (ht : tOk t) (hn : n ≤ 80) (hp : s.1 ≤ n) (hO : Ro M o n s f) (hT : Rr M o t) (T : List Tr) (G : List Cf) (hM : RM M (o + 2) T) (hQ : RQ M (o + 4) 8 G) (hG8 : G.length < 8) (hWk : RWk M (o + 8)) (st : Nat) (hst : st < 6) : ev_Mt l m_X7_parseGoal [.ref (o), .int (nI st)] M (fun r M1 => r = .inl none ∧ Ro M1 o n (gl t n s).2.2 f ∧ RQ M1 (o + 4) 8 (if (gl t n s).2.2.2 = true then G else G ++ [(st, (gl t n s).1, (gl t n s).2.1)]) ∧ RWk M1 (o + 8) ∧ Rr M1 o t ∧ RM M1 (o + 2) T ∧ Fr o (o + 9) M M1) := by
  obtain ⟨y, hW⟩ := hWk
  have hFr0 : Fdd o (o + 8) M M := Fdd.rf
  refine ev_body hl rfl (by decide +kernel) (Nat.le_of_ble_eq_true rfl) ?_
  show ev_ l m_X7_parseGoal 0 0 0 [some (.ref (o)), some (.int (nI st))] [] M _
  refine ev_blk (B := [(.aload_n 0, 1)]) (pe := 1) (ls' := [some (.ref (o)), some (.int (nI st))]) (st' := [.ref (o)]) ⟨dX7_parseGoal_0, rfl⟩ rfl ?_
  refine ev_getf (v := .ref (o + 8)) F_RX7_34 dX7_parseGoal_1 hO rfl ?_
  refine ev_blk (B := [(.iload_n 1, 1)]) (pe := 5) (ls' := [some (.ref (o)), some (.int (nI st))]) (st' := [.int (nI st), .ref (o + 8)]) ⟨dX7_parseGoal_4, rfl⟩ rfl ?_
  refine ev_put F_RX7_82 dX7_parseGoal_5 hW (Nat.le_of_ble_eq_true rfl) (fun _ _ => ⟨rfl, rfl⟩) ?_
  refine ev_nm (M0 := M.set (o + 8) (.inr (1, [.int (nI st), .long (e1 y.2.1), .long (e1 y.2.2)]))) (fun M1 eM1 => ?_)
  have f2 : M1[o]? = some (.inr (7, [.ref (o + 1), .ref (o + 2), .ref (o + 4), .ref (o + 8), .int (nI n), .int (nI (s.1)), .int (ev_b (s.2)), .int (f)])) := by rw [eM1, ev_sn (by omega)]; exact hO
  have f3 : M1[o + 1]? = some (.inl (2, 80, .inl (fun i => nI (t i)))) := by rw [eM1, ev_sn (by omega)]; exact hT
  have f4 : M1[o + 8]? = some (.inr (1, [.int (nI st), .long (e1 y.2.1), .long (e1 y.2.2)])) := by rw [eM1]; exact ev_sg hW
  have f5 : M1[o + 4]? = some (.inr (2, [.ref ((o + 4) + 1), .ref ((o + 4) + 2), .ref ((o + 4) + 3), .int (nI (G.length))])) := by rw [eM1, ev_sn (by omega)]; exact (hQ.fd hFr0 (by omega) (by omega)).obj
  refine ev_blk (B := [(.aload_n 0, 1)]) (pe := 9) (ls' := [some (.ref (o)), some (.int (nI st))]) (st' := [.ref (o)]) ⟨dX7_parseGoal_8, rfl⟩ rfl ?_
  refine ev_getf (v := .ref (o + 8)) F_RX7_34 dX7_parseGoal_9 f2 rfl ?_
  refine ev_blk (B := [(.aload_n 0, 1)]) (pe := 13) (ls' := [some (.ref (o)), some (.int (nI st))]) (st' := [.ref (o), .ref (o + 8)]) ⟨dX7_parseGoal_12, rfl⟩ rfl ?_
  have g6 : Fdd o (o + 8) M M1 := hFr0.tr ⟨by rw [eM1]; simp only [List.length_set], fun j hj1 hj2 => by rw [eM1, ev_sn (by omega)]⟩
  refine ev_cVw Y_X7_parseWord L_RX7_85 dX7_parseGoal_13 ⟨Nat.le_of_ble_eq_true rfl, Nat.le_of_ble_eq_true rfl, Nat.le_of_ble_eq_true rfl, Nat.le_of_ble_eq_true rfl, Nat.le_of_ble_eq_true rfl⟩ f2 (as := []) rfl rfl (c_X7_parseWord hl o n s f t ht hn hp f2 f3) (fun M7 hL7 hB7 => ?_)
  obtain ⟨uO8, uF8⟩ := hB7
  obtain ⟨s8, es8⟩ : ∃ z : Nat × Bool, z = (pwS t n s).2 := ⟨_, rfl⟩
  rw [← es8] at uO8
  have hp8 : s8.1 ≤ n := by rw [es8]; exact (pw_ok 10 _ hp).2.2.1
  have fr8 : Fdd o (o + 8) M M7 := g6.tr (Fdd.of uF8 (Or.inl ⟨rfl, rfl⟩))
  have f9 : M7[o + 1]? = some (.inl (2, 80, .inl (fun i => nI (t i)))) := (uF8.2 (o + 1) (by omega)).trans f3
  have f10 : M7[o + 8]? = some (.inr (1, [.int (nI st), .long (e1 y.2.1), .long (e1 y.2.2)])) := (uF8.2 (o + 8) (by omega)).trans f4
  refine ev_put F_RX7_89 dX7_parseGoal_16 f10 (Nat.le_of_ble_eq_true rfl) (fun _ _ => ⟨rfl, rfl⟩) ?_
  refine ev_nm (M0 := M7.set (o + 8) (.inr (1, [.int (nI st), .long (e1 (pwS t n s).1), .long (e1 y.2.2)]))) (fun M11 eM11 => ?_)
  have f12 : M11[o]? = some (.inr (7, [.ref (o + 1), .ref (o + 2), .ref (o + 4), .ref (o + 8), .int (nI n), .int (nI (s8.1)), .int (ev_b (s8.2)), .int (f)])) := by rw [eM11, ev_sn (by omega)]; exact uO8
  have f13 : M11[o + 1]? = some (.inl (2, 80, .inl (fun i => nI (t i)))) := by rw [eM11, ev_sn (by omega)]; exact f9
  have f14 : M11[o + 8]? = some (.inr (1, [.int (nI st), .long (e1 (pwS t n s).1), .long (e1 y.2.2)])) := by rw [eM11]; exact ev_sg f10
  refine ev_blk (B := [(.aload_n 0, 1), (.bipush 44, 2)]) (pe := 22) (ls' := [some (.ref (o)), some (.int (nI st))]) (st' := [.int (nI 44), .ref (o)]) ⟨dX7_parseGoal_19, dX7_parseGoal_20, rfl⟩ rfl ?_
  have g15 : Fdd o (o + 8) M M11 := fr8.tr ⟨by rw [eM11]; simp only [List.length_set], fun j hj1 hj2 => by rw [eM11, ev_sn (by omega)]⟩
  refine ev_cVn Y_X7_expect L_RX7_67 dX7_parseGoal_22 ⟨Nat.le_of_ble_eq_true rfl, Nat.le_of_ble_eq_true rfl, Nat.le_of_ble_eq_true rfl, Nat.le_of_ble_eq_true rfl, Nat.le_of_ble_eq_true rfl⟩ f12 (as := [.int (nI 44)]) rfl rfl (c_X7_expect hl o n s8 f t f12 f13 ht hn hp8 44 (by decide)) (fun M16 hL16 hB16 => ?_)
  obtain ⟨uO17, uF17⟩ := hB16
  obtain ⟨s17, es17⟩ : ∃ z : Nat × Bool, z = ps t n s8 44 1 := ⟨_, rfl⟩
  rw [← es17] at uO17
  have hp17 : s17.1 ≤ n := by rw [es17]; exact (ps_le hp8).1
  have fr17 : Fdd o (o + 8) M M16 := g15.tr (Fdd.of uF17 (Or.inl ⟨rfl, rfl⟩))
  have f18 : M16[o + 1]? = some (.inl (2, 80, .inl (fun i => nI (t i)))) := (uF17.2 (o + 1) (by omega)).trans f13
  have f19 : M16[o + 8]? = some (.inr (1, [.int (nI st), .long (e1 (pwS t n s).1), .long (e1 y.2.2)])) := (uF17.2 (o + 8) (by omega)).trans f14
  refine ev_blk (B := [(.aload_n 0, 1)]) (pe := 26) (ls' := [some (.ref (o)), some (.int (nI st))]) (st' := [.ref (o)]) ⟨dX7_parseGoal_25, rfl⟩ rfl ?_
  refine ev_getf (v := .ref (o + 8)) F_RX7_34 dX7_parseGoal_26 uO17 rfl ?_
  refine ev_blk (B := [(.aload_n 0, 1)]) (pe := 30) (ls' := [some (.ref (o)), some (.int (nI st))]) (st' := [.ref (o), .ref (o + 8)]) ⟨dX7_parseGoal_29, rfl⟩ rfl ?_
  refine ev_cVw Y_X7_parseWord L_RX7_85 dX7_parseGoal_30 ⟨Nat.le_of_ble_eq_true rfl, Nat.le_of_ble_eq_true rfl, Nat.le_of_ble_eq_true rfl, Nat.le_of_ble_eq_true rfl, Nat.le_of_ble_eq_true rfl⟩ uO17 (as := []) rfl rfl (c_X7_parseWord hl o n s17 f t ht hn hp17 uO17 f18) (fun M20 hL20 hB20 => ?_)
  obtain ⟨uO21, uF21⟩ := hB20
  obtain ⟨s21, es21⟩ : ∃ z : Nat × Bool, z = (pwS t n s17).2 := ⟨_, rfl⟩
  rw [← es21] at uO21
  have hp21 : s21.1 ≤ n := by rw [es21]; exact (pw_ok 10 _ hp17).2.2.1
  have fr21 : Fdd o (o + 8) M M20 := fr17.tr (Fdd.of uF21 (Or.inl ⟨rfl, rfl⟩))
  have f22 : M20[o + 1]? = some (.inl (2, 80, .inl (fun i => nI (t i)))) := (uF21.2 (o + 1) (by omega)).trans f18
  have f23 : M20[o + 8]? = some (.inr (1, [.int (nI st), .long (e1 (pwS t n s).1), .long (e1 y.2.2)])) := (uF21.2 (o + 8) (by omega)).trans f19
  refine ev_put F_RX7_93 dX7_parseGoal_33 f23 (Nat.le_of_ble_eq_true rfl) (fun _ _ => ⟨rfl, rfl⟩) ?_
  refine ev_nm (M0 := M20.set (o + 8) (.inr (1, [.int (nI st), .long (e1 (pwS t n s).1), .long (e1 (pwS t n s17).1)]))) (fun M24 eM24 => ?_)
  have f25 : M24[o]? = some (.inr (7, [.ref (o + 1), .ref (o + 2), .ref (o + 4), .ref (o + 8), .int (nI n), .int (nI (s21.1)), .int (ev_b (s21.2)), .int (f)])) := by rw [eM24, ev_sn (by omega)]; exact uO21
  have f26 : M24[o + 1]? = some (.inl (2, 80, .inl (fun i => nI (t i)))) := by rw [eM24, ev_sn (by omega)]; exact f22
  have f27 : M24[o + 8]? = some (.inr (1, [.int (nI st), .long (e1 (pwS t n s).1), .long (e1 (pwS t n s17).1)])) := by rw [eM24]; exact ev_sg f23
  refine ev_blk (B := [(.aload_n 0, 1), (.bipush 41, 2)]) (pe := 39) (ls' := [some (.ref (o)), some (.int (nI st))]) (st' := [.int (nI 41), .ref (o)]) ⟨dX7_parseGoal_36, dX7_parseGoal_37, rfl⟩ rfl ?_
  have g28 : Fdd o (o + 8) M M24 := fr21.tr ⟨by rw [eM24]; simp only [List.length_set], fun j hj1 hj2 => by rw [eM24, ev_sn (by omega)]⟩
  refine ev_cVn Y_X7_expect L_RX7_67 dX7_parseGoal_39 ⟨Nat.le_of_ble_eq_true rfl, Nat.le_of_ble_eq_true rfl, Nat.le_of_ble_eq_true rfl, Nat.le_of_ble_eq_true rfl, Nat.le_of_ble_eq_true rfl⟩ f25 (as := [.int (nI 41)]) rfl rfl (c_X7_expect hl o n s21 f t f25 f26 ht hn hp21 41 (by decide)) (fun M29 hL29 hB29 => ?_)
  obtain ⟨uO30, uF30⟩ := hB29
  obtain ⟨s30, es30⟩ : ∃ z : Nat × Bool, z = ps t n s21 41 1 := ⟨_, rfl⟩
  rw [← es30] at uO30
  have hp30 : s30.1 ≤ n := by rw [es30]; exact (ps_le hp21).1
  have fr30 : Fdd o (o + 8) M M29 := g28.tr (Fdd.of uF30 (Or.inl ⟨rfl, rfl⟩))
  have f31 : M29[o + 1]? = some (.inl (2, 80, .inl (fun i => nI (t i)))) := (uF30.2 (o + 1) (by omega)).trans f26
  have f32 : M29[o + 8]? = some (.inr (1, [.int (nI st), .long (e1 (pwS t n s).1), .long (e1 (pwS t n s17).1)])) := (uF30.2 (o + 8) (by omega)).trans f27
  refine ev_blk (B := [(.aload_n 0, 1), (.bipush 59, 2)]) (pe := 45) (ls' := [some (.ref (o)), some (.int (nI st))]) (st' := [.int (nI 59), .ref (o)]) ⟨dX7_parseGoal_42, dX7_parseGoal_43, rfl⟩ rfl ?_
  refine ev_cVn Y_X7_expect L_RX7_67 dX7_parseGoal_45 ⟨Nat.le_of_ble_eq_true rfl, Nat.le_of_ble_eq_true rfl, Nat.le_of_ble_eq_true rfl, Nat.le_of_ble_eq_true rfl, Nat.le_of_ble_eq_true rfl⟩ uO30 (as := [.int (nI 59)]) rfl rfl (c_X7_expect hl o n s30 f t uO30 f31 ht hn hp30 59 (by decide)) (fun M33 hL33 hB33 => ?_)
  obtain ⟨uO34, uF34⟩ := hB33
  obtain ⟨s34, es34⟩ : ∃ z : Nat × Bool, z = ps t n s30 59 1 := ⟨_, rfl⟩
  rw [← es34] at uO34
  have hp34 : s34.1 ≤ n := by rw [es34]; exact (ps_le hp30).1
  have fr34 : Fdd o (o + 8) M M33 := fr30.tr (Fdd.of uF34 (Or.inl ⟨rfl, rfl⟩))
  have f35 : M33[o + 1]? = some (.inl (2, 80, .inl (fun i => nI (t i)))) := (uF34.2 (o + 1) (by omega)).trans f31
  have f36 : M33[o + 8]? = some (.inr (1, [.int (nI st), .long (e1 (pwS t n s).1), .long (e1 (pwS t n s17).1)])) := (uF34.2 (o + 8) (by omega)).trans f32
  refine ev_blk (B := [(.aload_n 0, 1)]) (pe := 49) (ls' := [some (.ref (o)), some (.int (nI st))]) (st' := [.ref (o)]) ⟨dX7_parseGoal_48, rfl⟩ rfl ?_
  refine ev_getf (v := .int (ev_b (s34.2))) F_RX7_45 dX7_parseGoal_49 uO34 rfl ?_
  refine ev_ifB_ne dX7_parseGoal_52 (tgt := 66) (by decide) (fun q52 => ?_) (fun q52 => ?_)
  · refine ev_vret dX7_parseGoal_66 rfl ⟨Nat.le_of_ble_eq_true rfl, Nat.le_of_ble_eq_true rfl⟩ ?_
    have e9 : (gl t n s).2.2 = s34 := by rw [es34, es30, es21, es17, es8]; rfl
    rw [e9, if_pos q52]
    exact ⟨rfl, uO34, hQ.fd fr34 (by omega) (by omega), ⟨(st, (pwS t n s).1, (pwS t n s17).1), f36⟩, f35, hM.fd fr34 (by omega) (by omega), fr34.fr (by omega) (by omega)⟩
  · refine ev_blk (B := [(.aload_n 0, 1)]) (pe := 56) (ls' := [some (.ref (o)), some (.int (nI st))]) (st' := [.ref (o)]) ⟨dX7_parseGoal_55, rfl⟩ rfl ?_
    refine ev_getf (v := .ref (o + 4)) F_RX7_27 dX7_parseGoal_56 uO34 rfl ?_
    refine ev_blk (B := [(.aload_n 0, 1)]) (pe := 60) (ls' := [some (.ref (o)), some (.int (nI st))]) (st' := [.ref (o), .ref (o + 4)]) ⟨dX7_parseGoal_59, rfl⟩ rfl ?_
    refine ev_getf (v := .ref (o + 8)) F_RX7_34 dX7_parseGoal_60 uO34 rfl ?_
    have hQ9 : RQ M33 (o + 4) 8 G := hQ.fd fr34 (by omega) (by omega)
    refine ev_cVn Y_X2_add L_RX7_96 dX7_parseGoal_63 ⟨Nat.le_of_ble_eq_true rfl, Nat.le_of_ble_eq_true rfl, Nat.le_of_ble_eq_true rfl, Nat.le_of_ble_eq_true rfl, Nat.le_of_ble_eq_true rfl⟩ hQ9.obj (as := [.ref (o + 8)]) rfl rfl (c_X2_add hl (o + 4) 8 G hQ9 (o + 8) (st, (pwS t n s).1, (pwS t n s17).1) f36 (by omega) hG8) (fun M37 hL37 hB37 => ?_)
    obtain ⟨hB1, hB2⟩ := hB37
    have hO9 := (hB2.2 o (by omega)).trans uO34
    have hT9 := (hB2.2 (o + 1) (by omega)).trans f35
    have hW9 := (hB2.2 (o + 8) (by omega)).trans f36
    have hM9 := (hM.fd fr34 (by omega) (by omega)).fr hB2 (by omega)
    refine ev_vret dX7_parseGoal_66 rfl ⟨Nat.le_of_ble_eq_true rfl, Nat.le_of_ble_eq_true rfl⟩ ?_
    have e9 : (gl t n s).2.2 = s34 := by rw [es34, es30, es21, es17, es8]; rfl
    rw [e9, if_neg (show ¬ s34.2 = true by rw [q52]; decide)]
    exact ⟨rfl, hO9, by rw [show (gl t n s).1 = (pwS t n s).1 from rfl, show (gl t n s).2.1 = (pwS t n s17).1 from by rw [es17, es8]; rfl]; exact hB1, ⟨(st, (pwS t n s).1, (pwS t n s17).1), hW9⟩, hT9, hM9, (fr34.fr (by omega) (by omega)).tr (hB2.to (by omega) (by omega))⟩

set_option maxHeartbeats 4000000 in
set_option maxRecDepth 100000 in
theorem c_X7_tra {l : Launch} (hl : l.stackTraces = false) {M : ev_M} (o n : Nat) (s : Nat × Bool) (f : Int32) (t : Nat → Nat) (ht : tOk t) (hn : n ≤ 80) (hp : s.1 ≤ n) (hO : Ro M o n s f) (hT : Rr M o t) (T : List Tr) (G : List Cf) (hM : RM M (o + 2) T) (hQ : RQ M (o + 4) 8 G) (hT10 : T.length < 10) (hWk : RWk M (o + 8)) (st : Nat) (hst : st < 6) (a : Nat) (ha : a < 3) : ev_Mt l m_X7_parseTransition [.ref (o), .int (nI a), .int (nI st)] M (fun r M1 => r = .inl none ∧ Ro M1 o n (tl t n (some a) s).2.2.2 f ∧ RM M1 (o + 2) (if (tl t n (some a) s).2.2.2.2 = true then T else T ++ [(st, (tl t n (some a) s).1, a, (tl t n (some a) s).2.1, (tl t n (some a) s).2.2.1)]) ∧ RQ M1 (o + 4) 8 G ∧ RWk M1 (o + 8) ∧ Rr M1 o t ∧ Fr o (o + 9) M M1) := by
  have hFr0 : Fdd o o M M := Fdd.rf
  refine ev_body hl rfl (by decide +kernel) (Nat.le_of_ble_eq_true rfl) ?_
  show ev_ l m_X7_parseTransition 0 0 0 [some (.ref (o)), some (.int (nI a)), some (.int (nI st)), none, none, none] [] M _
  refine ev_blk (B := [(.aload_n 0, 1), (.bipush 48, 2), (.bipush 6, 2)]) (pe := 5) (ls' := [some (.ref (o)), some (.int (nI a)), some (.int (nI st)), none, none, none]) (st' := [.int (nI 6), .int (nI 48), .ref (o)]) ⟨dX7_parseTransition_0, dX7_parseTransition_1, dX7_parseTransition_3, rfl⟩ rfl ?_
  refine ev_cVw Y_X7_parseSymbol L_RX7_71 dX7_parseTransition_5 ⟨Nat.le_of_ble_eq_true rfl, Nat.le_of_ble_eq_true rfl, Nat.le_of_ble_eq_true rfl, Nat.le_of_ble_eq_true rfl, Nat.le_of_ble_eq_true rfl⟩ hO (as := [.int (nI 48), .int (nI 6)]) rfl rfl (c_X7_sym hl o n s f t hO hT ht hn hp 48 6 (by decide) (by decide)) (fun M1 hL1 hB1 => ?_)
  obtain ⟨uO2, uF2⟩ := hB1
  obtain ⟨s2, es2⟩ : ∃ z : Nat × Bool, z = ps t n s 48 6 := ⟨_, rfl⟩
  rw [← es2] at uO2
  have hp2 : s2.1 ≤ n := by rw [es2]; exact (ps_le hp).1
  have fr2 : Fdd o o M M1 := hFr0.tr (Fdd.of uF2 (Or.inl ⟨rfl, rfl⟩))
  have f3 : M1[o + 1]? = some (.inl (2, 80, .inl (fun i => nI (t i)))) := (uF2.2 (o + 1) (by omega)).trans hT
  refine ev_blk (B := [(.istore_n 3, 1), (.iconst 0, 1), (.istore 4, 2), (.iconst 0, 1), (.istore 5, 2), (.iload_n 1, 1)]) (pe := 16) (ls' := [some (.ref (o)), some (.int (nI a)), some (.int (nI st)), some (.int (nI (sv t n s 48 6))), some (.int (nI 0)), some (.int (nI 0))]) (st' := [.int (nI a)]) ⟨dX7_parseTransition_8, dX7_parseTransition_9, dX7_parseTransition_10, dX7_parseTransition_12, dX7_parseTransition_13, dX7_parseTransition_15, rfl⟩ rfl ?_
  refine ev_fN_eq dX7_parseTransition_16 (tgt := 49) (by decide) (by omega) (fun q16 => ?_) (fun q16 => ?_)
  · refine ev_blk (B := [(.aload_n 0, 1), (.bipush 41, 2)]) (pe := 52) (ls' := [some (.ref (o)), some (.int (nI a)), some (.int (nI st)), some (.int (nI (sv t n s 48 6))), some (.int (nI 0)), some (.int (nI 0))]) (st' := [.int (nI 41), .ref (o)]) ⟨dX7_parseTransition_49, dX7_parseTransition_50, rfl⟩ rfl ?_
    refine ev_cVn Y_X7_expect L_RX7_67 dX7_parseTransition_52 ⟨Nat.le_of_ble_eq_true rfl, Nat.le_of_ble_eq_true rfl, Nat.le_of_ble_eq_true rfl, Nat.le_of_ble_eq_true rfl, Nat.le_of_ble_eq_true rfl⟩ uO2 (as := [.int (nI 41)]) rfl rfl (c_X7_expect hl o n s2 f t uO2 f3 ht hn hp2 41 (by decide)) (fun M4 hL4 hB4 => ?_)
    obtain ⟨uO5, uF5⟩ := hB4
    obtain ⟨s5, es5⟩ : ∃ z : Nat × Bool, z = ps t n s2 41 1 := ⟨_, rfl⟩
    rw [← es5] at uO5
    have hp5 : s5.1 ≤ n := by rw [es5]; exact (ps_le hp2).1
    have fr5 : Fdd o o M M4 := fr2.tr (Fdd.of uF5 (Or.inl ⟨rfl, rfl⟩))
    have f6 : M4[o + 1]? = some (.inl (2, 80, .inl (fun i => nI (t i)))) := (uF5.2 (o + 1) (by omega)).trans f3
    refine ev_blk (B := [(.aload_n 0, 1), (.bipush 59, 2)]) (pe := 58) (ls' := [some (.ref (o)), some (.int (nI a)), some (.int (nI st)), some (.int (nI (sv t n s 48 6))), some (.int (nI 0)), some (.int (nI 0))]) (st' := [.int (nI 59), .ref (o)]) ⟨dX7_parseTransition_55, dX7_parseTransition_56, rfl⟩ rfl ?_
    refine ev_cVn Y_X7_expect L_RX7_67 dX7_parseTransition_58 ⟨Nat.le_of_ble_eq_true rfl, Nat.le_of_ble_eq_true rfl, Nat.le_of_ble_eq_true rfl, Nat.le_of_ble_eq_true rfl, Nat.le_of_ble_eq_true rfl⟩ uO5 (as := [.int (nI 59)]) rfl rfl (c_X7_expect hl o n s5 f t uO5 f6 ht hn hp5 59 (by decide)) (fun M7 hL7 hB7 => ?_)
    obtain ⟨uO8, uF8⟩ := hB7
    obtain ⟨s8, es8⟩ : ∃ z : Nat × Bool, z = ps t n s5 59 1 := ⟨_, rfl⟩
    rw [← es8] at uO8
    have hp8 : s8.1 ≤ n := by rw [es8]; exact (ps_le hp5).1
    have fr8 : Fdd o o M M7 := fr5.tr (Fdd.of uF8 (Or.inl ⟨rfl, rfl⟩))
    have f9 : M7[o + 1]? = some (.inl (2, 80, .inl (fun i => nI (t i)))) := (uF8.2 (o + 1) (by omega)).trans f6
    refine ev_blk (B := [(.aload_n 0, 1)]) (pe := 62) (ls' := [some (.ref (o)), some (.int (nI a)), some (.int (nI st)), some (.int (nI (sv t n s 48 6))), some (.int (nI 0)), some (.int (nI 0))]) (st' := [.ref (o)]) ⟨dX7_parseTransition_61, rfl⟩ rfl ?_
    refine ev_getf (v := .int (ev_b (s8.2))) F_RX7_45 dX7_parseTransition_62 uO8 rfl ?_
    refine ev_ifB_ne dX7_parseTransition_65 (tgt := 82) (by decide) (fun q65 => ?_) (fun q65 => ?_)
    · refine ev_vret dX7_parseTransition_82 rfl ⟨Nat.le_of_ble_eq_true rfl, Nat.le_of_ble_eq_true rfl⟩ ?_
      have e8 : tl t n (some a) s = (sv t n s 48 6, 0, 0, s8) := by rw [es8, es5, es2]; exact if_pos (congrArg some q16)
      rw [e8]
      refine ⟨rfl, uO8, ?_, hQ.fd fr8 (by omega) (by omega), hWk.fd fr8 (by omega) (by omega), f9, fr8.fr (by omega) (by omega)⟩
      rw [if_pos q65]
      exact hM.fd fr8 (by omega) (by omega)
    · refine ev_blk (B := [(.aload_n 0, 1)]) (pe := 69) (ls' := [some (.ref (o)), some (.int (nI a)), some (.int (nI st)), some (.int (nI (sv t n s 48 6))), some (.int (nI 0)), some (.int (nI 0))]) (st' := [.ref (o)]) ⟨dX7_parseTransition_68, rfl⟩ rfl ?_
      refine ev_getf (v := .ref (o + 2)) F_RX7_18 dX7_parseTransition_69 uO8 rfl ?_
      refine ev_blk (B := [(.iload_n 2, 1), (.iload_n 3, 1), (.iload_n 1, 1), (.iload 4, 2), (.iload 5, 2)]) (pe := 79) (ls' := [some (.ref (o)), some (.int (nI a)), some (.int (nI st)), some (.int (nI (sv t n s 48 6))), some (.int (nI 0)), some (.int (nI 0))]) (st' := [.int (nI 0), .int (nI 0), .int (nI a), .int (nI (sv t n s 48 6)), .int (nI st), .ref (o + 2)]) ⟨dX7_parseTransition_72, dX7_parseTransition_73, dX7_parseTransition_74, dX7_parseTransition_75, dX7_parseTransition_77, rfl⟩ rfl ?_
      have hM9 : RM M7 (o + 2) T := hM.fd fr8 (by omega) (by omega)
      have hto : trO ((st, sv t n s 48 6, a, 0, 0) : Tr) := ⟨hst, sv_lt (by decide), ha, Nat.zero_lt_succ _, Nat.zero_lt_succ _⟩
      refine ev_cVn Y_X4_add L_RX7_100 dX7_parseTransition_79 ⟨Nat.le_of_ble_eq_true rfl, Nat.le_of_ble_eq_true rfl, Nat.le_of_ble_eq_true rfl, Nat.le_of_ble_eq_true rfl, Nat.le_of_ble_eq_true rfl⟩ hM9.obj (as := [.int (nI st), .int (nI (sv t n s 48 6)), .int (nI a), .int (nI 0), .int (nI 0)]) rfl rfl (c_X4_add hl (o + 2) T hM9 hT10 ((st, sv t n s 48 6, a, 0, 0) : Tr) (nI 0) (nI 0) (fun z => (tp3 z).symm) (fun z => (tp4 z).symm) hto) (fun M10 hL10 hB10 => ?_)
      obtain ⟨hB1, hB2⟩ := hB10
      have hO9 := (hB2.2 o (by omega)).trans uO8
      have hT9 := (hB2.2 (o + 1) (by omega)).trans f9
      have hQ9 := (hQ.fd fr8 (by omega) (by omega)).fr hB2 (by omega)
      have hW9 := (hWk.fd fr8 (by omega) (by omega)).fr hB2 (by omega)
      refine ev_vret dX7_parseTransition_82 rfl ⟨Nat.le_of_ble_eq_true rfl, Nat.le_of_ble_eq_true rfl⟩ ?_
      have e8 : tl t n (some a) s = (sv t n s 48 6, 0, 0, s8) := by rw [es8, es5, es2]; exact if_pos (congrArg some q16)
      rw [e8]
      refine ⟨rfl, hO9, ?_, hQ9, hW9, hT9, (fr8.fr (by omega) (by omega)).tr (hB2.to (by omega) (by omega))⟩
      rw [if_neg (show ¬ s8.2 = true by rw [q65]; decide)]
      exact hB1
  · refine ev_blk (B := [(.aload_n 0, 1), (.bipush 44, 2)]) (pe := 22) (ls' := [some (.ref (o)), some (.int (nI a)), some (.int (nI st)), some (.int (nI (sv t n s 48 6))), some (.int (nI 0)), some (.int (nI 0))]) (st' := [.int (nI 44), .ref (o)]) ⟨dX7_parseTransition_19, dX7_parseTransition_20, rfl⟩ rfl ?_
    refine ev_cVn Y_X7_expect L_RX7_67 dX7_parseTransition_22 ⟨Nat.le_of_ble_eq_true rfl, Nat.le_of_ble_eq_true rfl, Nat.le_of_ble_eq_true rfl, Nat.le_of_ble_eq_true rfl, Nat.le_of_ble_eq_true rfl⟩ uO2 (as := [.int (nI 44)]) rfl rfl (c_X7_expect hl o n s2 f t uO2 f3 ht hn hp2 44 (by decide)) (fun M11 hL11 hB11 => ?_)
    obtain ⟨uO12, uF12⟩ := hB11
    obtain ⟨s12, es12⟩ : ∃ z : Nat × Bool, z = ps t n s2 44 1 := ⟨_, rfl⟩
    rw [← es12] at uO12
    have hp12 : s12.1 ≤ n := by rw [es12]; exact (ps_le hp2).1
    have fr12 : Fdd o o M M11 := fr2.tr (Fdd.of uF12 (Or.inl ⟨rfl, rfl⟩))
    have f13 : M11[o + 1]? = some (.inl (2, 80, .inl (fun i => nI (t i)))) := (uF12.2 (o + 1) (by omega)).trans f3
    refine ev_blk (B := [(.aload_n 0, 1), (.bipush 48, 2), (.iconst 2, 1)]) (pe := 29) (ls' := [some (.ref (o)), some (.int (nI a)), some (.int (nI st)), some (.int (nI (sv t n s 48 6))), some (.int (nI 0)), some (.int (nI 0))]) (st' := [.int (nI 2), .int (nI 48), .ref (o)]) ⟨dX7_parseTransition_25, dX7_parseTransition_26, dX7_parseTransition_28, rfl⟩ rfl ?_
    refine ev_cVw Y_X7_parseSymbol L_RX7_71 dX7_parseTransition_29 ⟨Nat.le_of_ble_eq_true rfl, Nat.le_of_ble_eq_true rfl, Nat.le_of_ble_eq_true rfl, Nat.le_of_ble_eq_true rfl, Nat.le_of_ble_eq_true rfl⟩ uO12 (as := [.int (nI 48), .int (nI 2)]) rfl rfl (c_X7_sym hl o n s12 f t uO12 f13 ht hn hp12 48 2 (by decide) (by decide)) (fun M14 hL14 hB14 => ?_)
    obtain ⟨uO15, uF15⟩ := hB14
    obtain ⟨s15, es15⟩ : ∃ z : Nat × Bool, z = ps t n s12 48 2 := ⟨_, rfl⟩
    rw [← es15] at uO15
    have hp15 : s15.1 ≤ n := by rw [es15]; exact (ps_le hp12).1
    have fr15 : Fdd o o M M14 := fr12.tr (Fdd.of uF15 (Or.inl ⟨rfl, rfl⟩))
    have f16 : M14[o + 1]? = some (.inl (2, 80, .inl (fun i => nI (t i)))) := (uF15.2 (o + 1) (by omega)).trans f13
    refine ev_blk (B := [(.istore 4, 2), (.aload_n 0, 1), (.bipush 44, 2)]) (pe := 37) (ls' := [some (.ref (o)), some (.int (nI a)), some (.int (nI st)), some (.int (nI (sv t n s 48 6))), some (.int (nI (sv t n s12 48 2))), some (.int (nI 0))]) (st' := [.int (nI 44), .ref (o)]) ⟨dX7_parseTransition_32, dX7_parseTransition_34, dX7_parseTransition_35, rfl⟩ rfl ?_
    refine ev_cVn Y_X7_expect L_RX7_67 dX7_parseTransition_37 ⟨Nat.le_of_ble_eq_true rfl, Nat.le_of_ble_eq_true rfl, Nat.le_of_ble_eq_true rfl, Nat.le_of_ble_eq_true rfl, Nat.le_of_ble_eq_true rfl⟩ uO15 (as := [.int (nI 44)]) rfl rfl (c_X7_expect hl o n s15 f t uO15 f16 ht hn hp15 44 (by decide)) (fun M17 hL17 hB17 => ?_)
    obtain ⟨uO18, uF18⟩ := hB17
    obtain ⟨s18, es18⟩ : ∃ z : Nat × Bool, z = ps t n s15 44 1 := ⟨_, rfl⟩
    rw [← es18] at uO18
    have hp18 : s18.1 ≤ n := by rw [es18]; exact (ps_le hp15).1
    have fr18 : Fdd o o M M17 := fr15.tr (Fdd.of uF18 (Or.inl ⟨rfl, rfl⟩))
    have f19 : M17[o + 1]? = some (.inl (2, 80, .inl (fun i => nI (t i)))) := (uF18.2 (o + 1) (by omega)).trans f16
    refine ev_blk (B := [(.aload_n 0, 1), (.bipush 97, 2), (.iconst 3, 1)]) (pe := 44) (ls' := [some (.ref (o)), some (.int (nI a)), some (.int (nI st)), some (.int (nI (sv t n s 48 6))), some (.int (nI (sv t n s12 48 2))), some (.int (nI 0))]) (st' := [.int (nI 3), .int (nI 97), .ref (o)]) ⟨dX7_parseTransition_40, dX7_parseTransition_41, dX7_parseTransition_43, rfl⟩ rfl ?_
    refine ev_cVw Y_X7_parseSymbol L_RX7_71 dX7_parseTransition_44 ⟨Nat.le_of_ble_eq_true rfl, Nat.le_of_ble_eq_true rfl, Nat.le_of_ble_eq_true rfl, Nat.le_of_ble_eq_true rfl, Nat.le_of_ble_eq_true rfl⟩ uO18 (as := [.int (nI 97), .int (nI 3)]) rfl rfl (c_X7_sym hl o n s18 f t uO18 f19 ht hn hp18 97 3 (by decide) (by decide)) (fun M20 hL20 hB20 => ?_)
    obtain ⟨uO21, uF21⟩ := hB20
    obtain ⟨s21, es21⟩ : ∃ z : Nat × Bool, z = ps t n s18 97 3 := ⟨_, rfl⟩
    rw [← es21] at uO21
    have hp21 : s21.1 ≤ n := by rw [es21]; exact (ps_le hp18).1
    have fr21 : Fdd o o M M20 := fr18.tr (Fdd.of uF21 (Or.inl ⟨rfl, rfl⟩))
    have f22 : M20[o + 1]? = some (.inl (2, 80, .inl (fun i => nI (t i)))) := (uF21.2 (o + 1) (by omega)).trans f19
    refine ev_blk (B := [(.istore 5, 2), (.aload_n 0, 1), (.bipush 41, 2)]) (pe := 52) (ls' := [some (.ref (o)), some (.int (nI a)), some (.int (nI st)), some (.int (nI (sv t n s 48 6))), some (.int (nI (sv t n s12 48 2))), some (.int (nI (sv t n s18 97 3)))]) (st' := [.int (nI 41), .ref (o)]) ⟨dX7_parseTransition_47, dX7_parseTransition_49, dX7_parseTransition_50, rfl⟩ rfl ?_
    refine ev_cVn Y_X7_expect L_RX7_67 dX7_parseTransition_52 ⟨Nat.le_of_ble_eq_true rfl, Nat.le_of_ble_eq_true rfl, Nat.le_of_ble_eq_true rfl, Nat.le_of_ble_eq_true rfl, Nat.le_of_ble_eq_true rfl⟩ uO21 (as := [.int (nI 41)]) rfl rfl (c_X7_expect hl o n s21 f t uO21 f22 ht hn hp21 41 (by decide)) (fun M23 hL23 hB23 => ?_)
    obtain ⟨uO24, uF24⟩ := hB23
    obtain ⟨s24, es24⟩ : ∃ z : Nat × Bool, z = ps t n s21 41 1 := ⟨_, rfl⟩
    rw [← es24] at uO24
    have hp24 : s24.1 ≤ n := by rw [es24]; exact (ps_le hp21).1
    have fr24 : Fdd o o M M23 := fr21.tr (Fdd.of uF24 (Or.inl ⟨rfl, rfl⟩))
    have f25 : M23[o + 1]? = some (.inl (2, 80, .inl (fun i => nI (t i)))) := (uF24.2 (o + 1) (by omega)).trans f22
    refine ev_blk (B := [(.aload_n 0, 1), (.bipush 59, 2)]) (pe := 58) (ls' := [some (.ref (o)), some (.int (nI a)), some (.int (nI st)), some (.int (nI (sv t n s 48 6))), some (.int (nI (sv t n s12 48 2))), some (.int (nI (sv t n s18 97 3)))]) (st' := [.int (nI 59), .ref (o)]) ⟨dX7_parseTransition_55, dX7_parseTransition_56, rfl⟩ rfl ?_
    refine ev_cVn Y_X7_expect L_RX7_67 dX7_parseTransition_58 ⟨Nat.le_of_ble_eq_true rfl, Nat.le_of_ble_eq_true rfl, Nat.le_of_ble_eq_true rfl, Nat.le_of_ble_eq_true rfl, Nat.le_of_ble_eq_true rfl⟩ uO24 (as := [.int (nI 59)]) rfl rfl (c_X7_expect hl o n s24 f t uO24 f25 ht hn hp24 59 (by decide)) (fun M26 hL26 hB26 => ?_)
    obtain ⟨uO27, uF27⟩ := hB26
    obtain ⟨s27, es27⟩ : ∃ z : Nat × Bool, z = ps t n s24 59 1 := ⟨_, rfl⟩
    rw [← es27] at uO27
    have hp27 : s27.1 ≤ n := by rw [es27]; exact (ps_le hp24).1
    have fr27 : Fdd o o M M26 := fr24.tr (Fdd.of uF27 (Or.inl ⟨rfl, rfl⟩))
    have f28 : M26[o + 1]? = some (.inl (2, 80, .inl (fun i => nI (t i)))) := (uF27.2 (o + 1) (by omega)).trans f25
    refine ev_blk (B := [(.aload_n 0, 1)]) (pe := 62) (ls' := [some (.ref (o)), some (.int (nI a)), some (.int (nI st)), some (.int (nI (sv t n s 48 6))), some (.int (nI (sv t n s12 48 2))), some (.int (nI (sv t n s18 97 3)))]) (st' := [.ref (o)]) ⟨dX7_parseTransition_61, rfl⟩ rfl ?_
    refine ev_getf (v := .int (ev_b (s27.2))) F_RX7_45 dX7_parseTransition_62 uO27 rfl ?_
    refine ev_ifB_ne dX7_parseTransition_65 (tgt := 82) (by decide) (fun q65 => ?_) (fun q65 => ?_)
    · refine ev_vret dX7_parseTransition_82 rfl ⟨Nat.le_of_ble_eq_true rfl, Nat.le_of_ble_eq_true rfl⟩ ?_
      have e8 : tl t n (some a) s = (sv t n s 48 6, sv t n s12 48 2, sv t n s18 97 3, s27) := by rw [es27, es24, es21, es18, es15, es12, es2]; exact if_neg (fun z => q16 (Option.some.inj z))
      rw [e8]
      refine ⟨rfl, uO27, ?_, hQ.fd fr27 (by omega) (by omega), hWk.fd fr27 (by omega) (by omega), f28, fr27.fr (by omega) (by omega)⟩
      rw [if_pos q65]
      exact hM.fd fr27 (by omega) (by omega)
    · refine ev_blk (B := [(.aload_n 0, 1)]) (pe := 69) (ls' := [some (.ref (o)), some (.int (nI a)), some (.int (nI st)), some (.int (nI (sv t n s 48 6))), some (.int (nI (sv t n s12 48 2))), some (.int (nI (sv t n s18 97 3)))]) (st' := [.ref (o)]) ⟨dX7_parseTransition_68, rfl⟩ rfl ?_
      refine ev_getf (v := .ref (o + 2)) F_RX7_18 dX7_parseTransition_69 uO27 rfl ?_
      refine ev_blk (B := [(.iload_n 2, 1), (.iload_n 3, 1), (.iload_n 1, 1), (.iload 4, 2), (.iload 5, 2)]) (pe := 79) (ls' := [some (.ref (o)), some (.int (nI a)), some (.int (nI st)), some (.int (nI (sv t n s 48 6))), some (.int (nI (sv t n s12 48 2))), some (.int (nI (sv t n s18 97 3)))]) (st' := [.int (nI (sv t n s18 97 3)), .int (nI (sv t n s12 48 2)), .int (nI a), .int (nI (sv t n s 48 6)), .int (nI st), .ref (o + 2)]) ⟨dX7_parseTransition_72, dX7_parseTransition_73, dX7_parseTransition_74, dX7_parseTransition_75, dX7_parseTransition_77, rfl⟩ rfl ?_
      have hM9 : RM M26 (o + 2) T := hM.fd fr27 (by omega) (by omega)
      have hto : trO ((st, sv t n s 48 6, a, sv t n s12 48 2, sv t n s18 97 3) : Tr) := ⟨hst, sv_lt (by decide), ha, sv_lt (by decide), sv_lt (by decide)⟩
      refine ev_cVn Y_X4_add L_RX7_100 dX7_parseTransition_79 ⟨Nat.le_of_ble_eq_true rfl, Nat.le_of_ble_eq_true rfl, Nat.le_of_ble_eq_true rfl, Nat.le_of_ble_eq_true rfl, Nat.le_of_ble_eq_true rfl⟩ hM9.obj (as := [.int (nI st), .int (nI (sv t n s 48 6)), .int (nI a), .int (nI (sv t n s12 48 2)), .int (nI (sv t n s18 97 3))]) rfl rfl (c_X4_add hl (o + 2) T hM9 hT10 ((st, sv t n s 48 6, a, sv t n s12 48 2, sv t n s18 97 3) : Tr) (nI (sv t n s12 48 2)) (nI (sv t n s18 97 3)) (fun z => (tp3 z).symm) (fun z => (tp4 z).symm) hto) (fun M29 hL29 hB29 => ?_)
      obtain ⟨hB1, hB2⟩ := hB29
      have hO9 := (hB2.2 o (by omega)).trans uO27
      have hT9 := (hB2.2 (o + 1) (by omega)).trans f28
      have hQ9 := (hQ.fd fr27 (by omega) (by omega)).fr hB2 (by omega)
      have hW9 := (hWk.fd fr27 (by omega) (by omega)).fr hB2 (by omega)
      refine ev_vret dX7_parseTransition_82 rfl ⟨Nat.le_of_ble_eq_true rfl, Nat.le_of_ble_eq_true rfl⟩ ?_
      have e8 : tl t n (some a) s = (sv t n s 48 6, sv t n s12 48 2, sv t n s18 97 3, s27) := by rw [es27, es24, es21, es18, es15, es12, es2]; exact if_neg (fun z => q16 (Option.some.inj z))
      rw [e8]
      refine ⟨rfl, hO9, ?_, hQ9, hW9, hT9, (fr27.fr (by omega) (by omega)).tr (hB2.to (by omega) (by omega))⟩
      rw [if_neg (show ¬ s27.2 = true by rw [q65]; decide)]
      exact hB1

set_option maxHeartbeats 4000000 in
set_option maxRecDepth 100000 in
theorem c_X7_trn {l : Launch} (hl : l.stackTraces = false) {M : ev_M} (o n : Nat) (s : Nat × Bool) (f : Int32) (t : Nat → Nat) (ht : tOk t) (hn : n ≤ 80) (hp : s.1 ≤ n) (hO : Ro M o n s f) (hT : Rr M o t) (T : List Tr) (G : List Cf) (hM : RM M (o + 2) T) (hQ : RQ M (o + 4) 8 G) (hT10 : T.length < 10) (hWk : RWk M (o + 8)) (st : Nat) (hst : st < 6) (hs2 : s.2 = true) : ev_Mt l m_X7_parseTransition [.ref (o), .int (oI (none)), .int (nI st)] M (fun r M1 => r = .inl none ∧ Ro M1 o n (tl t n (none) s).2.2.2 f ∧ (tl t n none s).2.2.2.2 = true ∧ RM M1 (o + 2) T ∧ RQ M1 (o + 4) 8 G ∧ RWk M1 (o + 8) ∧ Rr M1 o t ∧ Fr o (o + 9) M M1) := by
  have hFr0 : Fdd o o M M := Fdd.rf
  refine ev_body hl rfl (by decide +kernel) (Nat.le_of_ble_eq_true rfl) ?_
  show ev_ l m_X7_parseTransition 0 0 0 [some (.ref (o)), some (.int (oI (none))), some (.int (nI st)), none, none, none] [] M _
  refine ev_blk (B := [(.aload_n 0, 1), (.bipush 48, 2), (.bipush 6, 2)]) (pe := 5) (ls' := [some (.ref (o)), some (.int (oI (none))), some (.int (nI st)), none, none, none]) (st' := [.int (nI 6), .int (nI 48), .ref (o)]) ⟨dX7_parseTransition_0, dX7_parseTransition_1, dX7_parseTransition_3, rfl⟩ rfl ?_
  refine ev_cVw Y_X7_parseSymbol L_RX7_71 dX7_parseTransition_5 ⟨Nat.le_of_ble_eq_true rfl, Nat.le_of_ble_eq_true rfl, Nat.le_of_ble_eq_true rfl, Nat.le_of_ble_eq_true rfl, Nat.le_of_ble_eq_true rfl⟩ hO (as := [.int (nI 48), .int (nI 6)]) rfl rfl (c_X7_sym hl o n s f t hO hT ht hn hp 48 6 (by decide) (by decide)) (fun M1 hL1 hB1 => ?_)
  obtain ⟨uO2, uF2⟩ := hB1
  obtain ⟨s2, es2⟩ : ∃ z : Nat × Bool, z = ps t n s 48 6 := ⟨_, rfl⟩
  rw [← es2] at uO2
  have hp2 : s2.1 ≤ n := by rw [es2]; exact (ps_le hp).1
  have fr2 : Fdd o o M M1 := hFr0.tr (Fdd.of uF2 (Or.inl ⟨rfl, rfl⟩))
  have f3 : M1[o + 1]? = some (.inl (2, 80, .inl (fun i => nI (t i)))) := (uF2.2 (o + 1) (by omega)).trans hT
  refine ev_blk (B := [(.istore_n 3, 1), (.iconst 0, 1), (.istore 4, 2), (.iconst 0, 1), (.istore 5, 2), (.iload_n 1, 1)]) (pe := 16) (ls' := [some (.ref (o)), some (.int (oI (none))), some (.int (nI st)), some (.int (nI (sv t n s 48 6))), some (.int (nI 0)), some (.int (nI 0))]) (st' := [.int (oI (none))]) ⟨dX7_parseTransition_8, dX7_parseTransition_9, dX7_parseTransition_10, dX7_parseTransition_12, dX7_parseTransition_13, dX7_parseTransition_15, rfl⟩ rfl ?_
  refine ev_if_eq dX7_parseTransition_16 (tgt := 49) (by decide) (fun q16 => ?_) (fun q16 => ?_)
  · exact absurd q16 (by decide)
  · refine ev_blk (B := [(.aload_n 0, 1), (.bipush 44, 2)]) (pe := 22) (ls' := [some (.ref (o)), some (.int (oI (none))), some (.int (nI st)), some (.int (nI (sv t n s 48 6))), some (.int (nI 0)), some (.int (nI 0))]) (st' := [.int (nI 44), .ref (o)]) ⟨dX7_parseTransition_19, dX7_parseTransition_20, rfl⟩ rfl ?_
    refine ev_cVn Y_X7_expect L_RX7_67 dX7_parseTransition_22 ⟨Nat.le_of_ble_eq_true rfl, Nat.le_of_ble_eq_true rfl, Nat.le_of_ble_eq_true rfl, Nat.le_of_ble_eq_true rfl, Nat.le_of_ble_eq_true rfl⟩ uO2 (as := [.int (nI 44)]) rfl rfl (c_X7_expect hl o n s2 f t uO2 f3 ht hn hp2 44 (by decide)) (fun M4 hL4 hB4 => ?_)
    obtain ⟨uO5, uF5⟩ := hB4
    obtain ⟨s5, es5⟩ : ∃ z : Nat × Bool, z = ps t n s2 44 1 := ⟨_, rfl⟩
    rw [← es5] at uO5
    have hp5 : s5.1 ≤ n := by rw [es5]; exact (ps_le hp2).1
    have fr5 : Fdd o o M M4 := fr2.tr (Fdd.of uF5 (Or.inl ⟨rfl, rfl⟩))
    have f6 : M4[o + 1]? = some (.inl (2, 80, .inl (fun i => nI (t i)))) := (uF5.2 (o + 1) (by omega)).trans f3
    refine ev_blk (B := [(.aload_n 0, 1), (.bipush 48, 2), (.iconst 2, 1)]) (pe := 29) (ls' := [some (.ref (o)), some (.int (oI (none))), some (.int (nI st)), some (.int (nI (sv t n s 48 6))), some (.int (nI 0)), some (.int (nI 0))]) (st' := [.int (nI 2), .int (nI 48), .ref (o)]) ⟨dX7_parseTransition_25, dX7_parseTransition_26, dX7_parseTransition_28, rfl⟩ rfl ?_
    refine ev_cVw Y_X7_parseSymbol L_RX7_71 dX7_parseTransition_29 ⟨Nat.le_of_ble_eq_true rfl, Nat.le_of_ble_eq_true rfl, Nat.le_of_ble_eq_true rfl, Nat.le_of_ble_eq_true rfl, Nat.le_of_ble_eq_true rfl⟩ uO5 (as := [.int (nI 48), .int (nI 2)]) rfl rfl (c_X7_sym hl o n s5 f t uO5 f6 ht hn hp5 48 2 (by decide) (by decide)) (fun M7 hL7 hB7 => ?_)
    obtain ⟨uO8, uF8⟩ := hB7
    obtain ⟨s8, es8⟩ : ∃ z : Nat × Bool, z = ps t n s5 48 2 := ⟨_, rfl⟩
    rw [← es8] at uO8
    have hp8 : s8.1 ≤ n := by rw [es8]; exact (ps_le hp5).1
    have fr8 : Fdd o o M M7 := fr5.tr (Fdd.of uF8 (Or.inl ⟨rfl, rfl⟩))
    have f9 : M7[o + 1]? = some (.inl (2, 80, .inl (fun i => nI (t i)))) := (uF8.2 (o + 1) (by omega)).trans f6
    refine ev_blk (B := [(.istore 4, 2), (.aload_n 0, 1), (.bipush 44, 2)]) (pe := 37) (ls' := [some (.ref (o)), some (.int (oI (none))), some (.int (nI st)), some (.int (nI (sv t n s 48 6))), some (.int (nI (sv t n s5 48 2))), some (.int (nI 0))]) (st' := [.int (nI 44), .ref (o)]) ⟨dX7_parseTransition_32, dX7_parseTransition_34, dX7_parseTransition_35, rfl⟩ rfl ?_
    refine ev_cVn Y_X7_expect L_RX7_67 dX7_parseTransition_37 ⟨Nat.le_of_ble_eq_true rfl, Nat.le_of_ble_eq_true rfl, Nat.le_of_ble_eq_true rfl, Nat.le_of_ble_eq_true rfl, Nat.le_of_ble_eq_true rfl⟩ uO8 (as := [.int (nI 44)]) rfl rfl (c_X7_expect hl o n s8 f t uO8 f9 ht hn hp8 44 (by decide)) (fun M10 hL10 hB10 => ?_)
    obtain ⟨uO11, uF11⟩ := hB10
    obtain ⟨s11, es11⟩ : ∃ z : Nat × Bool, z = ps t n s8 44 1 := ⟨_, rfl⟩
    rw [← es11] at uO11
    have hp11 : s11.1 ≤ n := by rw [es11]; exact (ps_le hp8).1
    have fr11 : Fdd o o M M10 := fr8.tr (Fdd.of uF11 (Or.inl ⟨rfl, rfl⟩))
    have f12 : M10[o + 1]? = some (.inl (2, 80, .inl (fun i => nI (t i)))) := (uF11.2 (o + 1) (by omega)).trans f9
    refine ev_blk (B := [(.aload_n 0, 1), (.bipush 97, 2), (.iconst 3, 1)]) (pe := 44) (ls' := [some (.ref (o)), some (.int (oI (none))), some (.int (nI st)), some (.int (nI (sv t n s 48 6))), some (.int (nI (sv t n s5 48 2))), some (.int (nI 0))]) (st' := [.int (nI 3), .int (nI 97), .ref (o)]) ⟨dX7_parseTransition_40, dX7_parseTransition_41, dX7_parseTransition_43, rfl⟩ rfl ?_
    refine ev_cVw Y_X7_parseSymbol L_RX7_71 dX7_parseTransition_44 ⟨Nat.le_of_ble_eq_true rfl, Nat.le_of_ble_eq_true rfl, Nat.le_of_ble_eq_true rfl, Nat.le_of_ble_eq_true rfl, Nat.le_of_ble_eq_true rfl⟩ uO11 (as := [.int (nI 97), .int (nI 3)]) rfl rfl (c_X7_sym hl o n s11 f t uO11 f12 ht hn hp11 97 3 (by decide) (by decide)) (fun M13 hL13 hB13 => ?_)
    obtain ⟨uO14, uF14⟩ := hB13
    obtain ⟨s14, es14⟩ : ∃ z : Nat × Bool, z = ps t n s11 97 3 := ⟨_, rfl⟩
    rw [← es14] at uO14
    have hp14 : s14.1 ≤ n := by rw [es14]; exact (ps_le hp11).1
    have fr14 : Fdd o o M M13 := fr11.tr (Fdd.of uF14 (Or.inl ⟨rfl, rfl⟩))
    have f15 : M13[o + 1]? = some (.inl (2, 80, .inl (fun i => nI (t i)))) := (uF14.2 (o + 1) (by omega)).trans f12
    refine ev_blk (B := [(.istore 5, 2), (.aload_n 0, 1), (.bipush 41, 2)]) (pe := 52) (ls' := [some (.ref (o)), some (.int (oI (none))), some (.int (nI st)), some (.int (nI (sv t n s 48 6))), some (.int (nI (sv t n s5 48 2))), some (.int (nI (sv t n s11 97 3)))]) (st' := [.int (nI 41), .ref (o)]) ⟨dX7_parseTransition_47, dX7_parseTransition_49, dX7_parseTransition_50, rfl⟩ rfl ?_
    refine ev_cVn Y_X7_expect L_RX7_67 dX7_parseTransition_52 ⟨Nat.le_of_ble_eq_true rfl, Nat.le_of_ble_eq_true rfl, Nat.le_of_ble_eq_true rfl, Nat.le_of_ble_eq_true rfl, Nat.le_of_ble_eq_true rfl⟩ uO14 (as := [.int (nI 41)]) rfl rfl (c_X7_expect hl o n s14 f t uO14 f15 ht hn hp14 41 (by decide)) (fun M16 hL16 hB16 => ?_)
    obtain ⟨uO17, uF17⟩ := hB16
    obtain ⟨s17, es17⟩ : ∃ z : Nat × Bool, z = ps t n s14 41 1 := ⟨_, rfl⟩
    rw [← es17] at uO17
    have hp17 : s17.1 ≤ n := by rw [es17]; exact (ps_le hp14).1
    have fr17 : Fdd o o M M16 := fr14.tr (Fdd.of uF17 (Or.inl ⟨rfl, rfl⟩))
    have f18 : M16[o + 1]? = some (.inl (2, 80, .inl (fun i => nI (t i)))) := (uF17.2 (o + 1) (by omega)).trans f15
    refine ev_blk (B := [(.aload_n 0, 1), (.bipush 59, 2)]) (pe := 58) (ls' := [some (.ref (o)), some (.int (oI (none))), some (.int (nI st)), some (.int (nI (sv t n s 48 6))), some (.int (nI (sv t n s5 48 2))), some (.int (nI (sv t n s11 97 3)))]) (st' := [.int (nI 59), .ref (o)]) ⟨dX7_parseTransition_55, dX7_parseTransition_56, rfl⟩ rfl ?_
    refine ev_cVn Y_X7_expect L_RX7_67 dX7_parseTransition_58 ⟨Nat.le_of_ble_eq_true rfl, Nat.le_of_ble_eq_true rfl, Nat.le_of_ble_eq_true rfl, Nat.le_of_ble_eq_true rfl, Nat.le_of_ble_eq_true rfl⟩ uO17 (as := [.int (nI 59)]) rfl rfl (c_X7_expect hl o n s17 f t uO17 f18 ht hn hp17 59 (by decide)) (fun M19 hL19 hB19 => ?_)
    obtain ⟨uO20, uF20⟩ := hB19
    obtain ⟨s20, es20⟩ : ∃ z : Nat × Bool, z = ps t n s17 59 1 := ⟨_, rfl⟩
    rw [← es20] at uO20
    have hp20 : s20.1 ≤ n := by rw [es20]; exact (ps_le hp17).1
    have fr20 : Fdd o o M M19 := fr17.tr (Fdd.of uF20 (Or.inl ⟨rfl, rfl⟩))
    have f21 : M19[o + 1]? = some (.inl (2, 80, .inl (fun i => nI (t i)))) := (uF20.2 (o + 1) (by omega)).trans f18
    refine ev_blk (B := [(.aload_n 0, 1)]) (pe := 62) (ls' := [some (.ref (o)), some (.int (oI (none))), some (.int (nI st)), some (.int (nI (sv t n s 48 6))), some (.int (nI (sv t n s5 48 2))), some (.int (nI (sv t n s11 97 3)))]) (st' := [.ref (o)]) ⟨dX7_parseTransition_61, rfl⟩ rfl ?_
    refine ev_getf (v := .int (ev_b (s20.2))) F_RX7_45 dX7_parseTransition_62 uO20 rfl ?_
    refine ev_ifB_ne dX7_parseTransition_65 (tgt := 82) (by decide) (fun q65 => ?_) (fun q65 => ?_)
    · refine ev_vret dX7_parseTransition_82 rfl ⟨Nat.le_of_ble_eq_true rfl, Nat.le_of_ble_eq_true rfl⟩ ?_
      have e8 : tl t n (none) s = (sv t n s 48 6, sv t n s5 48 2, sv t n s11 97 3, s20) := by rw [es20, es17, es14, es11, es8, es5, es2]; exact if_neg (fun z => nomatch z)
      rw [e8]
      refine ⟨rfl, uO20, q65, hM.fd fr20 (by omega) (by omega), hQ.fd fr20 (by omega) (by omega), hWk.fd fr20 (by omega) (by omega), f21, fr20.fr (by omega) (by omega)⟩
    · have z9 : s.2 = false := (ps_ok (by rw [← es2]; exact (ps_ok (by rw [← es5]; exact (ps_ok (by rw [← es8]; exact (ps_ok (by rw [← es11]; exact (ps_ok (by rw [← es14]; exact (ps_ok (by rw [← es17]; exact (ps_ok (by rw [← es20]; exact q65)).1)).1)).1)).1)).1)).1)).1
      rw [hs2] at z9
      cases z9


set_option maxHeartbeats 4000000 in
set_option maxRecDepth 100000 in
theorem c_X7_command {l : Launch} (hl : l.stackTraces = false) {M : ev_M} (o n p : Nat) (f : Int32) (t : Nat → Nat) (ht : tOk t) (hn : n ≤ 80) (hp : p ≤ n) (hO : Ro M o n (p, false) f) (hT : Rr M o t) (T : List Tr) (G : List Cf) (hM : RM M (o + 2) T) (hQ : RQ M (o + 4) 8 G) (hc8 : T.length + G.length < 8) (hWk : RWk M (o + 8)) : ev_Mt l m_X7_parseCommand [.ref (o)] M (fun r M1 => r = .inl none ∧ Ro M1 o n (cm t n p).1 f ∧ RM M1 (o + 2) (cT (cm t n p).2 T) ∧ RQ M1 (o + 4) 8 (cG (cm t n p).2 G) ∧ RWk M1 (o + 8) ∧ Rr M1 o t ∧ Fr o (o + 9) M M1) := by
  have hFr0 : Fdd o o M M := Fdd.rf
  refine ev_body hl rfl (by decide +kernel) (Nat.le_of_ble_eq_true rfl) ?_
  show ev_ l m_X7_parseCommand 0 0 0 [some (.ref (o)), none, none] [] M _
  refine ev_blk (B := [(.aload_n 0, 1)]) (pe := 1) (ls' := [some (.ref (o)), none, none]) (st' := [.ref (o)]) ⟨dX7_parseCommand_0, rfl⟩ rfl ?_
  refine ev_cVw Y_X7_parseName L_RX7_63 dX7_parseCommand_1 ⟨Nat.le_of_ble_eq_true rfl, Nat.le_of_ble_eq_true rfl, Nat.le_of_ble_eq_true rfl, Nat.le_of_ble_eq_true rfl, Nat.le_of_ble_eq_true rfl⟩ hO (as := []) rfl rfl (c_X7_parseName hl o n p f t ht hn hp hO hT) (fun M1 hL1 hB1 => ?_)
  obtain ⟨uO2, uF2⟩ := hB1
  obtain ⟨s2, es2⟩ : ∃ z : Nat × Bool, z = ns t n p := ⟨_, rfl⟩
  rw [← es2] at uO2
  have hp2 : s2.1 ≤ n := by rw [es2]; exact (ns_le hp)
  have fr2 : Fdd o o M M1 := hFr0.tr (Fdd.of uF2 (Or.inl ⟨rfl, rfl⟩))
  have f3 : M1[o + 1]? = some (.inl (2, 80, .inl (fun i => nI (t i)))) := (uF2.2 (o + 1) (by omega)).trans hT
  rcases hk9 : nk t p (nd t n (n - p) p) with _ | a
  · have y6 : True := trivial
    refine ev_blk (B := [(.istore_n 1, 1), (.aload_n 0, 1), (.bipush 40, 2)]) (pe := 8) (ls' := [some (.ref (o)), some (.int (oI (none))), none]) (st' := [.int (nI 40), .ref (o)]) ⟨dX7_parseCommand_4, dX7_parseCommand_5, dX7_parseCommand_6, rfl⟩ rfl ?_
    refine ev_cVn Y_X7_expect L_RX7_67 dX7_parseCommand_8 ⟨Nat.le_of_ble_eq_true rfl, Nat.le_of_ble_eq_true rfl, Nat.le_of_ble_eq_true rfl, Nat.le_of_ble_eq_true rfl, Nat.le_of_ble_eq_true rfl⟩ uO2 (as := [.int (nI 40)]) rfl rfl (c_X7_expect hl o n s2 f t uO2 f3 ht hn hp2 40 (by decide)) (fun M4 hL4 hB4 => ?_)
    obtain ⟨uO5, uF5⟩ := hB4
    obtain ⟨s5, es5⟩ : ∃ z : Nat × Bool, z = ps t n s2 40 1 := ⟨_, rfl⟩
    rw [← es5] at uO5
    have hp5 : s5.1 ≤ n := by rw [es5]; exact (ps_le hp2).1
    have fr5 : Fdd o o M M4 := fr2.tr (Fdd.of uF5 (Or.inl ⟨rfl, rfl⟩))
    have f6 : M4[o + 1]? = some (.inl (2, 80, .inl (fun i => nI (t i)))) := (uF5.2 (o + 1) (by omega)).trans f3
    refine ev_blk (B := [(.aload_n 0, 1), (.bipush 48, 2), (.bipush 6, 2)]) (pe := 16) (ls' := [some (.ref (o)), some (.int (oI (none))), none]) (st' := [.int (nI 6), .int (nI 48), .ref (o)]) ⟨dX7_parseCommand_11, dX7_parseCommand_12, dX7_parseCommand_14, rfl⟩ rfl ?_
    refine ev_cVw Y_X7_parseSymbol L_RX7_71 dX7_parseCommand_16 ⟨Nat.le_of_ble_eq_true rfl, Nat.le_of_ble_eq_true rfl, Nat.le_of_ble_eq_true rfl, Nat.le_of_ble_eq_true rfl, Nat.le_of_ble_eq_true rfl⟩ uO5 (as := [.int (nI 48), .int (nI 6)]) rfl rfl (c_X7_sym hl o n s5 f t uO5 f6 ht hn hp5 48 6 (by decide) (by decide)) (fun M7 hL7 hB7 => ?_)
    obtain ⟨uO8, uF8⟩ := hB7
    obtain ⟨s8, es8⟩ : ∃ z : Nat × Bool, z = ps t n s5 48 6 := ⟨_, rfl⟩
    rw [← es8] at uO8
    have hp8 : s8.1 ≤ n := by rw [es8]; exact (ps_le hp5).1
    have fr8 : Fdd o o M M7 := fr5.tr (Fdd.of uF8 (Or.inl ⟨rfl, rfl⟩))
    have f9 : M7[o + 1]? = some (.inl (2, 80, .inl (fun i => nI (t i)))) := (uF8.2 (o + 1) (by omega)).trans f6
    refine ev_blk (B := [(.istore_n 2, 1), (.aload_n 0, 1), (.bipush 44, 2)]) (pe := 23) (ls' := [some (.ref (o)), some (.int (oI (none))), some (.int (nI (sv t n s5 48 6)))]) (st' := [.int (nI 44), .ref (o)]) ⟨dX7_parseCommand_19, dX7_parseCommand_20, dX7_parseCommand_21, rfl⟩ rfl ?_
    refine ev_cVn Y_X7_expect L_RX7_67 dX7_parseCommand_23 ⟨Nat.le_of_ble_eq_true rfl, Nat.le_of_ble_eq_true rfl, Nat.le_of_ble_eq_true rfl, Nat.le_of_ble_eq_true rfl, Nat.le_of_ble_eq_true rfl⟩ uO8 (as := [.int (nI 44)]) rfl rfl (c_X7_expect hl o n s8 f t uO8 f9 ht hn hp8 44 (by decide)) (fun M10 hL10 hB10 => ?_)
    obtain ⟨uO11, uF11⟩ := hB10
    obtain ⟨s11, es11⟩ : ∃ z : Nat × Bool, z = ps t n s8 44 1 := ⟨_, rfl⟩
    rw [← es11] at uO11
    have hp11 : s11.1 ≤ n := by rw [es11]; exact (ps_le hp8).1
    have fr11 : Fdd o o M M10 := fr8.tr (Fdd.of uF11 (Or.inl ⟨rfl, rfl⟩))
    have f12 : M10[o + 1]? = some (.inl (2, 80, .inl (fun i => nI (t i)))) := (uF11.2 (o + 1) (by omega)).trans f9
    refine ev_blk (B := [(.iload_n 1, 1), (.iconst 3, 1)]) (pe := 28) (ls' := [some (.ref (o)), some (.int (oI (none))), some (.int (nI (sv t n s5 48 6)))]) (st' := [.int (nI 3), .int (oI (none))]) ⟨dX7_parseCommand_26, dX7_parseCommand_27, rfl⟩ rfl ?_
    refine ev_ic_ne dX7_parseCommand_28 (tgt := 39) (by decide) (fun q28 => ?_) (fun q28 => ?_)
    · refine ev_blk (B := [(.aload_n 0, 1), (.iload_n 1, 1), (.iload_n 2, 1)]) (pe := 42) (ls' := [some (.ref (o)), some (.int (oI (none))), some (.int (nI (sv t n s5 48 6)))]) (st' := [.int (nI (sv t n s5 48 6)), .int (oI (none)), .ref (o)]) ⟨dX7_parseCommand_39, dX7_parseCommand_40, dX7_parseCommand_41, rfl⟩ rfl ?_
      have hM9 := hM.fd fr11 (by omega) (by omega)
      have hQ9 := hQ.fd fr11 (by omega) (by omega)
      have hW9 := hWk.fd fr11 (by omega) (by omega)
      have hs2 : s11.2 = true := by
        cases z8 : s11.2 with
        | true => rfl
        | false =>
          obtain ⟨k9, hk8, -⟩ := ns_ok (t := t) (n := n) (p := p) (by rw [← es2]; exact (ps_ok (by rw [← es5]; exact (ps_ok (by rw [← es8]; exact (ps_ok (by rw [← es11]; exact z8)).1)).1)).1)
          rw [hk9] at hk8; cases hk8
      refine ev_cVn Y_X7_parseTransition L_RX7_78 dX7_parseCommand_42 ⟨Nat.le_of_ble_eq_true rfl, Nat.le_of_ble_eq_true rfl, Nat.le_of_ble_eq_true rfl, Nat.le_of_ble_eq_true rfl, Nat.le_of_ble_eq_true rfl⟩ uO11 (as := [.int (oI (none)), .int (nI (sv t n s5 48 6))]) rfl rfl (c_X7_trn hl o n s11 f t ht hn hp11 uO11 f12 T G hM9 hQ9 (by omega) hW9 (sv t n s5 48 6) (sv_lt (by decide)) hs2) (fun M13 hL13 hB13 => ?_)
      obtain ⟨hO9, hz9, hM8, hQ8, hW8, hT8, hF8⟩ := hB13
      refine ev_vret dX7_parseCommand_45 rfl ⟨Nat.le_of_ble_eq_true rfl, Nat.le_of_ble_eq_true rfl⟩ ?_
      have e9 : cm t n p = ((cmT t n p).2.2.2, if (cmT t n p).2.2.2.2 = true then none else some (.inl (cmA t n p, (cmT t n p).1, (nk t p (nd t n (n - p) p)).getD 0, (cmT t n p).2.1, (cmT t n p).2.2.1))) := if_neg (show ¬ nk t p (nd t n (n - p) p) = some 3 by rw [hk9]; exact fun z => nomatch z)
      have e8 : cmT t n p = tl t n (none) s11 := by rw [es11, es8, es5, es2, ← hk9]; rfl
      have e7 : cmA t n p = sv t n s5 48 6 := by rw [es5, es2]; rfl
      rw [e9, e8, e7]
      exact ⟨rfl, hO9, by rw [if_pos hz9]; exact hM8, by rw [cG_inl]; exact hQ8, hW8, hT8, (fr11.fr (by omega) (by omega)).tr hF8⟩
    · exact absurd q28 (by decide)
  · have ha9 := (nk_lt hk9).1
    refine ev_blk (B := [(.istore_n 1, 1), (.aload_n 0, 1), (.bipush 40, 2)]) (pe := 8) (ls' := [some (.ref (o)), some (.int (oI (some a))), none]) (st' := [.int (nI 40), .ref (o)]) ⟨dX7_parseCommand_4, dX7_parseCommand_5, dX7_parseCommand_6, rfl⟩ rfl ?_
    refine ev_cVn Y_X7_expect L_RX7_67 dX7_parseCommand_8 ⟨Nat.le_of_ble_eq_true rfl, Nat.le_of_ble_eq_true rfl, Nat.le_of_ble_eq_true rfl, Nat.le_of_ble_eq_true rfl, Nat.le_of_ble_eq_true rfl⟩ uO2 (as := [.int (nI 40)]) rfl rfl (c_X7_expect hl o n s2 f t uO2 f3 ht hn hp2 40 (by decide)) (fun M14 hL14 hB14 => ?_)
    obtain ⟨uO15, uF15⟩ := hB14
    obtain ⟨s15, es15⟩ : ∃ z : Nat × Bool, z = ps t n s2 40 1 := ⟨_, rfl⟩
    rw [← es15] at uO15
    have hp15 : s15.1 ≤ n := by rw [es15]; exact (ps_le hp2).1
    have fr15 : Fdd o o M M14 := fr2.tr (Fdd.of uF15 (Or.inl ⟨rfl, rfl⟩))
    have f16 : M14[o + 1]? = some (.inl (2, 80, .inl (fun i => nI (t i)))) := (uF15.2 (o + 1) (by omega)).trans f3
    refine ev_blk (B := [(.aload_n 0, 1), (.bipush 48, 2), (.bipush 6, 2)]) (pe := 16) (ls' := [some (.ref (o)), some (.int (oI (some a))), none]) (st' := [.int (nI 6), .int (nI 48), .ref (o)]) ⟨dX7_parseCommand_11, dX7_parseCommand_12, dX7_parseCommand_14, rfl⟩ rfl ?_
    refine ev_cVw Y_X7_parseSymbol L_RX7_71 dX7_parseCommand_16 ⟨Nat.le_of_ble_eq_true rfl, Nat.le_of_ble_eq_true rfl, Nat.le_of_ble_eq_true rfl, Nat.le_of_ble_eq_true rfl, Nat.le_of_ble_eq_true rfl⟩ uO15 (as := [.int (nI 48), .int (nI 6)]) rfl rfl (c_X7_sym hl o n s15 f t uO15 f16 ht hn hp15 48 6 (by decide) (by decide)) (fun M17 hL17 hB17 => ?_)
    obtain ⟨uO18, uF18⟩ := hB17
    obtain ⟨s18, es18⟩ : ∃ z : Nat × Bool, z = ps t n s15 48 6 := ⟨_, rfl⟩
    rw [← es18] at uO18
    have hp18 : s18.1 ≤ n := by rw [es18]; exact (ps_le hp15).1
    have fr18 : Fdd o o M M17 := fr15.tr (Fdd.of uF18 (Or.inl ⟨rfl, rfl⟩))
    have f19 : M17[o + 1]? = some (.inl (2, 80, .inl (fun i => nI (t i)))) := (uF18.2 (o + 1) (by omega)).trans f16
    refine ev_blk (B := [(.istore_n 2, 1), (.aload_n 0, 1), (.bipush 44, 2)]) (pe := 23) (ls' := [some (.ref (o)), some (.int (oI (some a))), some (.int (nI (sv t n s15 48 6)))]) (st' := [.int (nI 44), .ref (o)]) ⟨dX7_parseCommand_19, dX7_parseCommand_20, dX7_parseCommand_21, rfl⟩ rfl ?_
    refine ev_cVn Y_X7_expect L_RX7_67 dX7_parseCommand_23 ⟨Nat.le_of_ble_eq_true rfl, Nat.le_of_ble_eq_true rfl, Nat.le_of_ble_eq_true rfl, Nat.le_of_ble_eq_true rfl, Nat.le_of_ble_eq_true rfl⟩ uO18 (as := [.int (nI 44)]) rfl rfl (c_X7_expect hl o n s18 f t uO18 f19 ht hn hp18 44 (by decide)) (fun M20 hL20 hB20 => ?_)
    obtain ⟨uO21, uF21⟩ := hB20
    obtain ⟨s21, es21⟩ : ∃ z : Nat × Bool, z = ps t n s18 44 1 := ⟨_, rfl⟩
    rw [← es21] at uO21
    have hp21 : s21.1 ≤ n := by rw [es21]; exact (ps_le hp18).1
    have fr21 : Fdd o o M M20 := fr18.tr (Fdd.of uF21 (Or.inl ⟨rfl, rfl⟩))
    have f22 : M20[o + 1]? = some (.inl (2, 80, .inl (fun i => nI (t i)))) := (uF21.2 (o + 1) (by omega)).trans f19
    refine ev_blk (B := [(.iload_n 1, 1), (.iconst 3, 1)]) (pe := 28) (ls' := [some (.ref (o)), some (.int (oI (some a))), some (.int (nI (sv t n s15 48 6)))]) (st' := [.int (nI 3), .int (oI (some a))]) ⟨dX7_parseCommand_26, dX7_parseCommand_27, rfl⟩ rfl ?_
    refine ev_ic_ne dX7_parseCommand_28 (tgt := 39) (by decide) (fun q28 => ?_) (fun q28 => ?_)
    · have q28n : ¬ a = 3 := fun z => q28 (by rw [z]; rfl)
      refine ev_blk (B := [(.aload_n 0, 1), (.iload_n 1, 1), (.iload_n 2, 1)]) (pe := 42) (ls' := [some (.ref (o)), some (.int (oI (some a))), some (.int (nI (sv t n s15 48 6)))]) (st' := [.int (nI (sv t n s15 48 6)), .int (oI (some a)), .ref (o)]) ⟨dX7_parseCommand_39, dX7_parseCommand_40, dX7_parseCommand_41, rfl⟩ rfl ?_
      have hM9 := hM.fd fr21 (by omega) (by omega)
      have hQ9 := hQ.fd fr21 (by omega) (by omega)
      have hW9 := hWk.fd fr21 (by omega) (by omega)
      refine ev_cVn Y_X7_parseTransition L_RX7_78 dX7_parseCommand_42 ⟨Nat.le_of_ble_eq_true rfl, Nat.le_of_ble_eq_true rfl, Nat.le_of_ble_eq_true rfl, Nat.le_of_ble_eq_true rfl, Nat.le_of_ble_eq_true rfl⟩ uO21 (as := [.int (oI (some a)), .int (nI (sv t n s15 48 6))]) rfl rfl (c_X7_tra hl o n s21 f t ht hn hp21 uO21 f22 T G hM9 hQ9 (by omega) hW9 (sv t n s15 48 6) (sv_lt (by decide)) a (by omega)) (fun M23 hL23 hB23 => ?_)
      obtain ⟨hO9, hM8, hQ8, hW8, hT8, hF8⟩ := hB23
      refine ev_vret dX7_parseCommand_45 rfl ⟨Nat.le_of_ble_eq_true rfl, Nat.le_of_ble_eq_true rfl⟩ ?_
      have e9 : cm t n p = ((cmT t n p).2.2.2, if (cmT t n p).2.2.2.2 = true then none else some (.inl (cmA t n p, (cmT t n p).1, (nk t p (nd t n (n - p) p)).getD 0, (cmT t n p).2.1, (cmT t n p).2.2.1))) := if_neg (show ¬ nk t p (nd t n (n - p) p) = some 3 by rw [hk9]; exact fun z => q28n (Option.some.inj z))
      have e8 : cmT t n p = tl t n (some a) s21 := by rw [es21, es18, es15, es2, ← hk9]; rfl
      have e7 : cmA t n p = sv t n s15 48 6 := by rw [es15, es2]; rfl
      rw [e9, e8, e7]
      exact ⟨rfl, hO9, by rw [cT_inl, hk9]; exact hM8, by rw [cG_inl]; exact hQ8, hW8, hT8, (fr21.fr (by omega) (by omega)).tr hF8⟩
    · have q28e : a = 3 := (nI_eq (by omega) (by decide)).mp q28
      refine ev_blk (B := [(.aload_n 0, 1), (.iload_n 2, 1)]) (pe := 33) (ls' := [some (.ref (o)), some (.int (oI (some a))), some (.int (nI (sv t n s15 48 6)))]) (st' := [.int (nI (sv t n s15 48 6)), .ref (o)]) ⟨dX7_parseCommand_31, dX7_parseCommand_32, rfl⟩ rfl ?_
      have hM9 := hM.fd fr21 (by omega) (by omega)
      have hQ9 := hQ.fd fr21 (by omega) (by omega)
      have hW9 := hWk.fd fr21 (by omega) (by omega)
      refine ev_cVn Y_X7_parseGoal L_RX7_75 dX7_parseCommand_33 ⟨Nat.le_of_ble_eq_true rfl, Nat.le_of_ble_eq_true rfl, Nat.le_of_ble_eq_true rfl, Nat.le_of_ble_eq_true rfl, Nat.le_of_ble_eq_true rfl⟩ uO21 (as := [.int (nI (sv t n s15 48 6))]) rfl rfl (c_X7_parseGoal hl o n s21 f t ht hn hp21 uO21 f22 T G hM9 hQ9 (by omega) hW9 (sv t n s15 48 6) (sv_lt (by decide))) (fun M24 hL24 hB24 => ?_)
      obtain ⟨hO9, hQ8, hW8, hT8, hM8, hF8⟩ := hB24
      refine ev_goto (tgt := 45) dX7_parseCommand_36 (by decide) ?_
      refine ev_vret dX7_parseCommand_45 rfl ⟨Nat.le_of_ble_eq_true rfl, Nat.le_of_ble_eq_true rfl⟩ ?_
      have e9 : cm t n p = ((cmG t n p).2.2, if (cmG t n p).2.2.2 = true then none else some (.inr (cmA t n p, (cmG t n p).1, (cmG t n p).2.1))) := if_pos (show nk t p (nd t n (n - p) p) = some 3 by rw [hk9, q28e])
      have e8 : cmG t n p = gl t n s21 := by rw [es21, es18, es15, es2]; rfl
      have e7 : cmA t n p = sv t n s15 48 6 := by rw [es15, es2]; rfl
      rw [e9, e8, e7]
      exact ⟨rfl, hO9, by rw [cT_inr]; exact hM8, by rw [cG_inr]; exact hQ8, hW8, hT8, (fr21.fr (by omega) (by omega)).tr hF8⟩

set_option maxHeartbeats 4000000 in
set_option maxRecDepth 100000 in
theorem c_X7_parse_l {l : Launch} (hl : l.stackTraces = false)  (o n : Nat) (f : Int32) (t : Nat → Nat) (ht : tOk t) (hn : n ≤ 80) (M0 : ev_M) : ∀ (n9 : Nat) (k0 : Nat) (p : Nat) (c : Nat) (T : List Tr) (G : List Cf) (M : ev_M), p ≤ n → n - p < k0 → (p < n ∨ p = 0) → 10 * (T.length + G.length) ≤ p → 10 * c ≤ p → pl t n k0 p T G c = (pl t n 81 0 [] [] 0) → Ro M o n (p, false) f → Rr M o t → RM M (o + 2) T → RQ M (o + 4) 8 G → RWk M (o + 8) → Fr o (o + 9) M0 M → n - p < n9 → ev_ l m_X7_parse 0 0 26 [some (.ref (o)), some (.int (nI c))] [] M (fun r M1 => r = .inl (some (.int (nI (pl t n 81 0 [] [] 0).2.2.1))) ∧ Ro M1 o 0 (pl t n 81 0 [] [] 0).2.2.2 (if (pl t n 81 0 [] [] 0).2.2.2.2 = true then nI (pl t n 81 0 [] [] 0).2.2.2.1 else -1) ∧ RM M1 (o + 2) (pl t n 81 0 [] [] 0).1 ∧ RQ M1 (o + 4) 8 (pl t n 81 0 [] [] 0).2.1 ∧ RWk M1 (o + 8) ∧ Rr M1 o t ∧ Fr o (o + 9) M0 M1) := by
  intro n9
  induction n9 with
  | zero => intro k0 p c T G M hp hk hpp hTG hcp hpl hO hT hM hQ hWk hFr hm9; exact absurd hm9 (by omega)
  | succ n9 ih =>
    intro k0 p c T G M hp hk hpp hTG hcp hpl hO hT hM hQ hWk hFr hm9
    have hc8 : T.length + G.length < 8 := by omega
    obtain ⟨k, rfl⟩ : ∃ k1, k0 = k1 + 1 := ⟨k0 - 1, by omega⟩
    refine ev_blk (B := [(.aload_n 0, 1)]) (pe := 27) (ls' := [some (.ref (o)), some (.int (nI c))]) (st' := [.ref (o)]) ⟨dX7_parse_26, rfl⟩ rfl ?_
    refine ev_cVn Y_X7_parseCommand L_RX7_60 dX7_parse_27 ⟨Nat.le_of_ble_eq_true rfl, Nat.le_of_ble_eq_true rfl, Nat.le_of_ble_eq_true rfl, Nat.le_of_ble_eq_true rfl, Nat.le_of_ble_eq_true rfl⟩ hO (as := []) rfl rfl (c_X7_command hl o n p f t ht hn hp hO hT T G hM hQ hc8 hWk) (fun M1 hL1 hB1 => ?_)
    obtain ⟨hO1, hM1, hQ1, hW1, hT1, hF1⟩ := hB1
    obtain ⟨⟨p1, b1⟩, ec⟩ : ∃ z : Nat × Bool, z = (cm t n p).1 := ⟨_, rfl⟩
    rw [← ec] at hO1
    have hadv := cm_adv (t := t) hp
    have hle := cm_le (t := t) hp
    rw [← ec] at hadv hle
    have hlen := cT_len (r := (cm t n p).2) (T := T) (G := G)
    have hadv2 : b1 = false → p + 10 ≤ p1 := hadv
    have hle2 : p1 ≤ n := hle
    refine ev_blk (B := [(.iinc 1 1, 3), (.aload_n 0, 1)]) (pe := 34) (ls' := [some (.ref (o)), some (.int (nI (c + 1)))]) (st' := [.ref (o)]) ⟨dX7_parse_30, dX7_parse_33, rfl⟩ (by show some (([some (.ref (o)), some (.int ((nI c) + Int32.ofInt (1)))] : ev_L), ([.ref (o)] : List Value)) = _; rw [ev_inc1 c]) ?_
    refine ev_getf (v := .int (ev_b (b1))) F_RX7_45 dX7_parse_34 hO1 rfl ?_
    refine ev_ifB_ne dX7_parse_37 (tgt := 57) (by decide) (fun q37 => ?_) (fun q37 => ?_)
    · have e5 : pl t n (k + 1) p T G c = (cT (cm t n p).2 T, cG (cm t n p).2 G, c + 1, p1, b1) := by
        show (bif (!(cm t n p).1.2 && decide ((cm t n p).1.1 < n)) then pl t n k (cm t n p).1.1 (cT (cm t n p).2 T) (cG (cm t n p).2 G) (c + 1) else (cT (cm t n p).2 T, cG (cm t n p).2 G, c + 1, (cm t n p).1.1, (cm t n p).1.2)) = _
        rw [← ec]
        exact if_neg_b (by rw [q37]; rfl)
      rw [e5] at hpl
      refine ev_blk (B := [(.aload_n 0, 1), (.aload_n 0, 1)]) (pe := 59) (ls' := [some (.ref (o)), some (.int (nI (c + 1)))]) (st' := [.ref (o), .ref (o)]) ⟨dX7_parse_57, dX7_parse_58, rfl⟩ rfl ?_
      refine ev_getf (v := .int (ev_b (b1))) F_RX7_45 dX7_parse_59 hO1 rfl ?_
      refine ev_ifB_eq dX7_parse_62 (tgt := 72) (by decide) (fun q62 => ?_) (fun q62 => ?_)
      · refine ev_blk (B := [(.iconst (-1), 1)]) (pe := 73) (ls' := [some (.ref (o)), some (.int (nI (c + 1)))]) (st' := [.int ((-1)), .ref (o)]) ⟨dX7_parse_72, rfl⟩ rfl ?_
        refine ev_put F_RX7_49 dX7_parse_73 hO1 (Nat.le_of_ble_eq_true rfl) (fun _ _ => ⟨rfl, rfl⟩) ?_
        refine ev_nm (M0 := M1.set (o) (.inr (7, [.ref (o + 1), .ref (o + 2), .ref (o + 4), .ref (o + 8), .int (nI n), .int (nI p1), .int (ev_b (b1)), .int ((-1))]))) (fun M2 eM2 => ?_)
        have f3 : M2[o]? = some (.inr (7, [.ref (o + 1), .ref (o + 2), .ref (o + 4), .ref (o + 8), .int (nI n), .int (nI p1), .int (ev_b (b1)), .int ((-1))])) := by rw [eM2]; exact ev_sg hO1
        refine ev_blk (B := [(.aload_n 0, 1), (.iconst 0, 1)]) (pe := 78) (ls' := [some (.ref (o)), some (.int (nI (c + 1)))]) (st' := [.int (nI 0), .ref (o)]) ⟨dX7_parse_76, dX7_parse_77, rfl⟩ rfl ?_
        refine ev_put F_RX7_38 dX7_parse_78 f3 (Nat.le_of_ble_eq_true rfl) (fun _ _ => ⟨rfl, rfl⟩) ?_
        refine ev_nm (M0 := M2.set (o) (.inr (7, [.ref (o + 1), .ref (o + 2), .ref (o + 4), .ref (o + 8), .int (nI 0), .int (nI p1), .int (ev_b (b1)), .int ((-1))]))) (fun M4 eM4 => ?_)
        have f5 : M4[o]? = some (.inr (7, [.ref (o + 1), .ref (o + 2), .ref (o + 4), .ref (o + 8), .int (nI 0), .int (nI p1), .int (ev_b (b1)), .int ((-1))])) := by rw [eM4]; exact ev_sg f3
        refine ev_blk (B := [(.iload_n 1, 1)]) (pe := 82) (ls' := [some (.ref (o)), some (.int (nI (c + 1)))]) (st' := [.int (nI (c + 1))]) ⟨dX7_parse_81, rfl⟩ rfl ?_
        refine ev_iret dX7_parse_82 rfl (rfl) ⟨Nat.le_of_ble_eq_true rfl, Nat.le_of_ble_eq_true rfl⟩ ?_
        have hE1 : Fr o (o + 1) M1 M4 := ⟨by rw [eM4, eM2]; simp only [List.length_set], fun j hj => by rw [eM4, ev_sn (by omega), eM2, ev_sn (by omega)]⟩
        rw [← hpl]
        refine ⟨rfl, ?_, hM1.fr hE1 (by omega), hQ1.fr hE1 (by omega), RWk.fr hW1 hE1 (by omega), hT1.fr hE1 (by omega), (hFr.tr hF1).tr (hE1.to (by omega) (by omega))⟩
        show Ro _ o 0 (p1, b1) (if b1 = true then nI p1 else -1)
        rw [if_neg (show ¬ b1 = true by rw [q62]; decide)]
        exact f5
      · refine ev_blk (B := [(.aload_n 0, 1)]) (pe := 66) (ls' := [some (.ref (o)), some (.int (nI (c + 1)))]) (st' := [.ref (o), .ref (o)]) ⟨dX7_parse_65, rfl⟩ rfl ?_
        refine ev_getf (v := .int (nI p1)) F_RX7_42 dX7_parse_66 hO1 rfl ?_
        refine ev_goto (tgt := 73) dX7_parse_69 (by decide) ?_
        refine ev_put F_RX7_49 dX7_parse_73 hO1 (Nat.le_of_ble_eq_true rfl) (fun _ _ => ⟨rfl, rfl⟩) ?_
        refine ev_nm (M0 := M1.set (o) (.inr (7, [.ref (o + 1), .ref (o + 2), .ref (o + 4), .ref (o + 8), .int (nI n), .int (nI p1), .int (ev_b (b1)), .int (nI p1)]))) (fun M6 eM6 => ?_)
        have f7 : M6[o]? = some (.inr (7, [.ref (o + 1), .ref (o + 2), .ref (o + 4), .ref (o + 8), .int (nI n), .int (nI p1), .int (ev_b (b1)), .int (nI p1)])) := by rw [eM6]; exact ev_sg hO1
        refine ev_blk (B := [(.aload_n 0, 1), (.iconst 0, 1)]) (pe := 78) (ls' := [some (.ref (o)), some (.int (nI (c + 1)))]) (st' := [.int (nI 0), .ref (o)]) ⟨dX7_parse_76, dX7_parse_77, rfl⟩ rfl ?_
        refine ev_put F_RX7_38 dX7_parse_78 f7 (Nat.le_of_ble_eq_true rfl) (fun _ _ => ⟨rfl, rfl⟩) ?_
        refine ev_nm (M0 := M6.set (o) (.inr (7, [.ref (o + 1), .ref (o + 2), .ref (o + 4), .ref (o + 8), .int (nI 0), .int (nI p1), .int (ev_b (b1)), .int (nI p1)]))) (fun M8 eM8 => ?_)
        have f9 : M8[o]? = some (.inr (7, [.ref (o + 1), .ref (o + 2), .ref (o + 4), .ref (o + 8), .int (nI 0), .int (nI p1), .int (ev_b (b1)), .int (nI p1)])) := by rw [eM8]; exact ev_sg f7
        refine ev_blk (B := [(.iload_n 1, 1)]) (pe := 82) (ls' := [some (.ref (o)), some (.int (nI (c + 1)))]) (st' := [.int (nI (c + 1))]) ⟨dX7_parse_81, rfl⟩ rfl ?_
        refine ev_iret dX7_parse_82 rfl (rfl) ⟨Nat.le_of_ble_eq_true rfl, Nat.le_of_ble_eq_true rfl⟩ ?_
        have hE1 : Fr o (o + 1) M1 M8 := ⟨by rw [eM8, eM6]; simp only [List.length_set], fun j hj => by rw [eM8, ev_sn (by omega), eM6, ev_sn (by omega)]⟩
        rw [← hpl]
        refine ⟨rfl, ?_, hM1.fr hE1 (by omega), hQ1.fr hE1 (by omega), RWk.fr hW1 hE1 (by omega), hT1.fr hE1 (by omega), (hFr.tr hF1).tr (hE1.to (by omega) (by omega))⟩
        show Ro _ o 0 (p1, b1) (if b1 = true then nI p1 else -1)
        rw [if_pos q62]
        exact f9
    · refine ev_blk (B := [(.aload_n 0, 1)]) (pe := 41) (ls' := [some (.ref (o)), some (.int (nI (c + 1)))]) (st' := [.ref (o)]) ⟨dX7_parse_40, rfl⟩ rfl ?_
      refine ev_getf (v := .int (nI p1)) F_RX7_42 dX7_parse_41 hO1 rfl ?_
      refine ev_blk (B := [(.aload_n 0, 1)]) (pe := 45) (ls' := [some (.ref (o)), some (.int (nI (c + 1)))]) (st' := [.ref (o), .int (nI p1)]) ⟨dX7_parse_44, rfl⟩ rfl ?_
      refine ev_getf (v := .int (nI n)) F_RX7_38 dX7_parse_45 hO1 rfl ?_
      refine ev_iN_ge dX7_parse_48 (tgt := 57) (by decide) (by omega) (by omega) (fun q48 => ?_) (fun q48 => ?_)
      · have e5 : pl t n (k + 1) p T G c = (cT (cm t n p).2 T, cG (cm t n p).2 G, c + 1, p1, b1) := by
          show (bif (!(cm t n p).1.2 && decide ((cm t n p).1.1 < n)) then pl t n k (cm t n p).1.1 (cT (cm t n p).2 T) (cG (cm t n p).2 G) (c + 1) else (cT (cm t n p).2 T, cG (cm t n p).2 G, c + 1, (cm t n p).1.1, (cm t n p).1.2)) = _
          rw [← ec]
          exact if_neg_b (by rw [q37, decide_eq_false (show ¬ p1 < n by omega)]; rfl)
        rw [e5] at hpl
        refine ev_blk (B := [(.aload_n 0, 1), (.aload_n 0, 1)]) (pe := 59) (ls' := [some (.ref (o)), some (.int (nI (c + 1)))]) (st' := [.ref (o), .ref (o)]) ⟨dX7_parse_57, dX7_parse_58, rfl⟩ rfl ?_
        refine ev_getf (v := .int (ev_b (b1))) F_RX7_45 dX7_parse_59 hO1 rfl ?_
        refine ev_ifB_eq dX7_parse_62 (tgt := 72) (by decide) (fun q62 => ?_) (fun q62 => ?_)
        · refine ev_blk (B := [(.iconst (-1), 1)]) (pe := 73) (ls' := [some (.ref (o)), some (.int (nI (c + 1)))]) (st' := [.int ((-1)), .ref (o)]) ⟨dX7_parse_72, rfl⟩ rfl ?_
          refine ev_put F_RX7_49 dX7_parse_73 hO1 (Nat.le_of_ble_eq_true rfl) (fun _ _ => ⟨rfl, rfl⟩) ?_
          refine ev_nm (M0 := M1.set (o) (.inr (7, [.ref (o + 1), .ref (o + 2), .ref (o + 4), .ref (o + 8), .int (nI n), .int (nI p1), .int (ev_b (b1)), .int ((-1))]))) (fun M10 eM10 => ?_)
          have f11 : M10[o]? = some (.inr (7, [.ref (o + 1), .ref (o + 2), .ref (o + 4), .ref (o + 8), .int (nI n), .int (nI p1), .int (ev_b (b1)), .int ((-1))])) := by rw [eM10]; exact ev_sg hO1
          refine ev_blk (B := [(.aload_n 0, 1), (.iconst 0, 1)]) (pe := 78) (ls' := [some (.ref (o)), some (.int (nI (c + 1)))]) (st' := [.int (nI 0), .ref (o)]) ⟨dX7_parse_76, dX7_parse_77, rfl⟩ rfl ?_
          refine ev_put F_RX7_38 dX7_parse_78 f11 (Nat.le_of_ble_eq_true rfl) (fun _ _ => ⟨rfl, rfl⟩) ?_
          refine ev_nm (M0 := M10.set (o) (.inr (7, [.ref (o + 1), .ref (o + 2), .ref (o + 4), .ref (o + 8), .int (nI 0), .int (nI p1), .int (ev_b (b1)), .int ((-1))]))) (fun M12 eM12 => ?_)
          have f13 : M12[o]? = some (.inr (7, [.ref (o + 1), .ref (o + 2), .ref (o + 4), .ref (o + 8), .int (nI 0), .int (nI p1), .int (ev_b (b1)), .int ((-1))])) := by rw [eM12]; exact ev_sg f11
          refine ev_blk (B := [(.iload_n 1, 1)]) (pe := 82) (ls' := [some (.ref (o)), some (.int (nI (c + 1)))]) (st' := [.int (nI (c + 1))]) ⟨dX7_parse_81, rfl⟩ rfl ?_
          refine ev_iret dX7_parse_82 rfl (rfl) ⟨Nat.le_of_ble_eq_true rfl, Nat.le_of_ble_eq_true rfl⟩ ?_
          have hE1 : Fr o (o + 1) M1 M12 := ⟨by rw [eM12, eM10]; simp only [List.length_set], fun j hj => by rw [eM12, ev_sn (by omega), eM10, ev_sn (by omega)]⟩
          rw [← hpl]
          refine ⟨rfl, ?_, hM1.fr hE1 (by omega), hQ1.fr hE1 (by omega), RWk.fr hW1 hE1 (by omega), hT1.fr hE1 (by omega), (hFr.tr hF1).tr (hE1.to (by omega) (by omega))⟩
          show Ro _ o 0 (p1, b1) (if b1 = true then nI p1 else -1)
          rw [if_neg (show ¬ b1 = true by rw [q62]; decide)]
          exact f13
        · refine ev_blk (B := [(.aload_n 0, 1)]) (pe := 66) (ls' := [some (.ref (o)), some (.int (nI (c + 1)))]) (st' := [.ref (o), .ref (o)]) ⟨dX7_parse_65, rfl⟩ rfl ?_
          refine ev_getf (v := .int (nI p1)) F_RX7_42 dX7_parse_66 hO1 rfl ?_
          refine ev_goto (tgt := 73) dX7_parse_69 (by decide) ?_
          refine ev_put F_RX7_49 dX7_parse_73 hO1 (Nat.le_of_ble_eq_true rfl) (fun _ _ => ⟨rfl, rfl⟩) ?_
          refine ev_nm (M0 := M1.set (o) (.inr (7, [.ref (o + 1), .ref (o + 2), .ref (o + 4), .ref (o + 8), .int (nI n), .int (nI p1), .int (ev_b (b1)), .int (nI p1)]))) (fun M14 eM14 => ?_)
          have f15 : M14[o]? = some (.inr (7, [.ref (o + 1), .ref (o + 2), .ref (o + 4), .ref (o + 8), .int (nI n), .int (nI p1), .int (ev_b (b1)), .int (nI p1)])) := by rw [eM14]; exact ev_sg hO1
          refine ev_blk (B := [(.aload_n 0, 1), (.iconst 0, 1)]) (pe := 78) (ls' := [some (.ref (o)), some (.int (nI (c + 1)))]) (st' := [.int (nI 0), .ref (o)]) ⟨dX7_parse_76, dX7_parse_77, rfl⟩ rfl ?_
          refine ev_put F_RX7_38 dX7_parse_78 f15 (Nat.le_of_ble_eq_true rfl) (fun _ _ => ⟨rfl, rfl⟩) ?_
          refine ev_nm (M0 := M14.set (o) (.inr (7, [.ref (o + 1), .ref (o + 2), .ref (o + 4), .ref (o + 8), .int (nI 0), .int (nI p1), .int (ev_b (b1)), .int (nI p1)]))) (fun M16 eM16 => ?_)
          have f17 : M16[o]? = some (.inr (7, [.ref (o + 1), .ref (o + 2), .ref (o + 4), .ref (o + 8), .int (nI 0), .int (nI p1), .int (ev_b (b1)), .int (nI p1)])) := by rw [eM16]; exact ev_sg f15
          refine ev_blk (B := [(.iload_n 1, 1)]) (pe := 82) (ls' := [some (.ref (o)), some (.int (nI (c + 1)))]) (st' := [.int (nI (c + 1))]) ⟨dX7_parse_81, rfl⟩ rfl ?_
          refine ev_iret dX7_parse_82 rfl (rfl) ⟨Nat.le_of_ble_eq_true rfl, Nat.le_of_ble_eq_true rfl⟩ ?_
          have hE1 : Fr o (o + 1) M1 M16 := ⟨by rw [eM16, eM14]; simp only [List.length_set], fun j hj => by rw [eM16, ev_sn (by omega), eM14, ev_sn (by omega)]⟩
          rw [← hpl]
          refine ⟨rfl, ?_, hM1.fr hE1 (by omega), hQ1.fr hE1 (by omega), RWk.fr hW1 hE1 (by omega), hT1.fr hE1 (by omega), (hFr.tr hF1).tr (hE1.to (by omega) (by omega))⟩
          show Ro _ o 0 (p1, b1) (if b1 = true then nI p1 else -1)
          rw [if_pos q62]
          exact f17
      · refine ev_blk (B := [(.iload_n 1, 1), (.bipush 80, 2)]) (pe := 54) (ls' := [some (.ref (o)), some (.int (nI (c + 1)))]) (st' := [.int (nI 80), .int (nI (c + 1))]) ⟨dX7_parse_51, dX7_parse_52, rfl⟩ rfl ?_
        refine ev_iN_lt dX7_parse_54 (tgt := 26) (by decide) (by omega) (by omega) (fun q54 => ?_) (fun q54 => ?_)
        · have e5 : pl t n (k + 1) p T G c = pl t n k p1 (cT (cm t n p).2 T) (cG (cm t n p).2 G) (c + 1) := by
            show (bif (!(cm t n p).1.2 && decide ((cm t n p).1.1 < n)) then pl t n k (cm t n p).1.1 (cT (cm t n p).2 T) (cG (cm t n p).2 G) (c + 1) else (cT (cm t n p).2 T, cG (cm t n p).2 G, c + 1, (cm t n p).1.1, (cm t n p).1.2)) = _
            rw [← ec]
            exact if_pos_b (by rw [q37, decide_eq_true (show p1 < n by omega)]; rfl)
          rw [q37] at hO1
          have hadv3 := hadv2 q37
          exact ih k p1 (c + 1) _ _ _ hle2 (by omega) (by omega) (by omega) (by omega) (by rw [← e5]; exact hpl) hO1 hT1 hM1 hQ1 hW1 (hFr.tr hF1) (by omega)
        · exact absurd q54 (by omega)

set_option maxHeartbeats 4000000 in
set_option maxRecDepth 100000 in
theorem c_X7_parse {l : Launch} (hl : l.stackTraces = false) {M : ev_M} (o n : Nat) (s : Nat × Bool) (f : Int32) (t : Nat → Nat) (ht : tOk t) (hn : n ≤ 80) (hO : Ro M o n s f) (hT : Rr M o t) (T : List Tr) (G : List Cf) (hM : RM M (o + 2) T) (hQ : RQ M (o + 4) 8 G) (hWk : RWk M (o + 8)) : ev_Mt l m_X7_parse [.ref (o)] M (fun r M1 => r = .inl (some (.int (nI (pl t n 81 0 [] [] 0).2.2.1))) ∧ Ro M1 o 0 (pl t n 81 0 [] [] 0).2.2.2 (if (pl t n 81 0 [] [] 0).2.2.2.2 = true then nI (pl t n 81 0 [] [] 0).2.2.2.1 else -1) ∧ RM M1 (o + 2) (pl t n 81 0 [] [] 0).1 ∧ RQ M1 (o + 4) 8 (pl t n 81 0 [] [] 0).2.1 ∧ RWk M1 (o + 8) ∧ Rr M1 o t ∧ Fr o (o + 9) M M1) := by
  refine ev_body hl rfl (by decide +kernel) (Nat.le_of_ble_eq_true rfl) ?_
  show ev_ l m_X7_parse 0 0 0 [some (.ref (o)), none] [] M _
  refine ev_blk (B := [(.aload_n 0, 1)]) (pe := 1) (ls' := [some (.ref (o)), none]) (st' := [.ref (o)]) ⟨dX7_parse_0, rfl⟩ rfl ?_
  refine ev_getf (v := .ref (o + 2)) F_RX7_18 dX7_parse_1 hO rfl ?_
  refine ev_cVn Y_X4_removeAll L_RX7_56 dX7_parse_4 ⟨Nat.le_of_ble_eq_true rfl, Nat.le_of_ble_eq_true rfl, Nat.le_of_ble_eq_true rfl, Nat.le_of_ble_eq_true rfl, Nat.le_of_ble_eq_true rfl⟩ hM.obj (as := []) rfl rfl (c_X4_removeAll hl (o + 2) T hM) (fun M1 hL1 hB1 => ?_)
  obtain ⟨hA1, hA2⟩ := hB1
  have hO1 := (hA2.2 o (by omega)).trans hO
  have hT1 := hT.fr hA2 (by omega)
  have hQ1 := hQ.fr hA2 (by omega)
  have hW1 := RWk.fr hWk hA2 (by omega)
  refine ev_blk (B := [(.aload_n 0, 1)]) (pe := 8) (ls' := [some (.ref (o)), none]) (st' := [.ref (o)]) ⟨dX7_parse_7, rfl⟩ rfl ?_
  refine ev_getf (v := .ref (o + 4)) F_RX7_27 dX7_parse_8 hO1 rfl ?_
  refine ev_cVn Y_X2_removeAll L_RX7_59 dX7_parse_11 ⟨Nat.le_of_ble_eq_true rfl, Nat.le_of_ble_eq_true rfl, Nat.le_of_ble_eq_true rfl, Nat.le_of_ble_eq_true rfl, Nat.le_of_ble_eq_true rfl⟩ hQ1.obj (as := []) rfl rfl (c_X2_removeAll hl (o + 4) 8 G hQ1) (fun M2 hL2 hB2 => ?_)
  obtain ⟨hC1, hC2⟩ := hB2
  have hO2 := (hC2.2 o (by omega)).trans hO1
  have hT2 := hT1.fr hC2 (by omega)
  have hM2 := hA1.fr hC2 (by omega)
  have hW2 := RWk.fr hW1 hC2 (by omega)
  refine ev_blk (B := [(.aload_n 0, 1), (.iconst 0, 1)]) (pe := 16) (ls' := [some (.ref (o)), none]) (st' := [.int (nI 0), .ref (o)]) ⟨dX7_parse_14, dX7_parse_15, rfl⟩ rfl ?_
  refine ev_put F_RX7_42 dX7_parse_16 hO2 (Nat.le_of_ble_eq_true rfl) (fun _ _ => ⟨rfl, rfl⟩) ?_
  refine ev_nm (M0 := M2.set (o) (.inr (7, [.ref (o + 1), .ref (o + 2), .ref (o + 4), .ref (o + 8), .int (nI n), .int (nI 0), .int (ev_b (s.2)), .int (f)]))) (fun M3 eM3 => ?_)
  have f4 : M3[o]? = some (.inr (7, [.ref (o + 1), .ref (o + 2), .ref (o + 4), .ref (o + 8), .int (nI n), .int (nI 0), .int (ev_b (s.2)), .int (f)])) := by rw [eM3]; exact ev_sg hO2
  refine ev_blk (B := [(.aload_n 0, 1), (.iconst 0, 1)]) (pe := 21) (ls' := [some (.ref (o)), none]) (st' := [.int (nI 0), .ref (o)]) ⟨dX7_parse_19, dX7_parse_20, rfl⟩ rfl ?_
  refine ev_put F_RX7_45 dX7_parse_21 f4 (Nat.le_of_ble_eq_true rfl) (fun _ _ => ⟨rfl, rfl⟩) ?_
  refine ev_nm (M0 := M3.set (o) (.inr (7, [.ref (o + 1), .ref (o + 2), .ref (o + 4), .ref (o + 8), .int (nI n), .int (nI 0), .int (nI 0), .int (f)]))) (fun M5 eM5 => ?_)
  have f6 : M5[o]? = some (.inr (7, [.ref (o + 1), .ref (o + 2), .ref (o + 4), .ref (o + 8), .int (nI n), .int (nI 0), .int (nI 0), .int (f)])) := by rw [eM5]; exact ev_sg f4
  refine ev_blk (B := [(.iconst 0, 1), (.istore_n 1, 1)]) (pe := 26) (ls' := [some (.ref (o)), some (.int (nI 0))]) (st' := []) ⟨dX7_parse_24, dX7_parse_25, rfl⟩ rfl ?_
  have hE1 : Fr o (o + 1) M2 M5 := ⟨by rw [eM5, eM3]; simp only [List.length_set], fun j hj => by rw [eM5, ev_sn (by omega), eM3, ev_sn (by omega)]⟩
  exact c_X7_parse_l hl o n f t ht hn _ _ 81 0 0 [] [] _ (Nat.zero_le _) (by omega) (Or.inr rfl) (Nat.le_refl _) (Nat.le_refl _) rfl f6 (hT2.fr hE1 (by omega)) (hM2.fr hE1 (by omega)) (hC1.fr hE1 (by omega)) (RWk.fr hW2 hE1 (by omega)) (((hA2.to (by omega) (by omega)).tr (hC2.to (by omega) (by omega))).tr (hE1.to (by omega) (by omega))) (Nat.lt_succ_self _)

set_option maxHeartbeats 4000000 in
set_option maxRecDepth 100000 in
theorem c_X7_isFull {l : Launch} (hl : l.stackTraces = false) {M : ev_M} (o n : Nat) (s : Nat × Bool) (f : Int32) (hO : Ro M o n s f) (hn : n ≤ 80) : ev_Mt l m_X7_isFull [.ref (o)] M (ev_q (.inl (some (.int (ev_b (decide (80 ≤ n)))))) M) := by
  refine ev_body hl rfl (by decide +kernel) (Nat.le_of_ble_eq_true rfl) ?_
  show ev_ l m_X7_isFull 0 0 0 [some (.ref (o))] [] M _
  refine ev_blk (B := [(.aload_n 0, 1)]) (pe := 1) (ls' := [some (.ref (o))]) (st' := [.ref (o)]) ⟨dX7_isFull_0, rfl⟩ rfl ?_
  refine ev_getf (v := .int (nI n)) F_RX7_38 dX7_isFull_1 hO rfl ?_
  refine ev_blk (B := [(.bipush 80, 2)]) (pe := 6) (ls' := [some (.ref (o))]) (st' := [.int (nI 80), .int (nI n)]) ⟨dX7_isFull_4, rfl⟩ rfl ?_
  refine ev_iN_lt dX7_isFull_6 (tgt := 13) (by decide) (by omega) (by omega) (fun q6 => ?_) (fun q6 => ?_)
  · refine ev_blk (B := [(.iconst 0, 1)]) (pe := 14) (ls' := [some (.ref (o))]) (st' := [.int (nI 0)]) ⟨dX7_isFull_13, rfl⟩ rfl ?_
    refine ev_iret dX7_isFull_14 rfl (rfl) ⟨Nat.le_of_ble_eq_true rfl, Nat.le_of_ble_eq_true rfl⟩ ?_
    have e9 : decide (80 ≤ n) = false := decide_eq_false (by omega)
    rw [e9]
    exact ⟨rfl, rfl⟩
  · refine ev_blk (B := [(.iconst 1, 1)]) (pe := 10) (ls' := [some (.ref (o))]) (st' := [.int (nI 1)]) ⟨dX7_isFull_9, rfl⟩ rfl ?_
    refine ev_goto (tgt := 14) dX7_isFull_10 (by decide) ?_
    refine ev_iret dX7_isFull_14 rfl (rfl) ⟨Nat.le_of_ble_eq_true rfl, Nat.le_of_ble_eq_true rfl⟩ ?_
    have e9 : decide (80 ≤ n) = true := decide_eq_true (by omega)
    rw [e9]
    exact ⟨rfl, rfl⟩

set_option maxHeartbeats 4000000 in
set_option maxRecDepth 100000 in
theorem c_X7_fault {l : Launch} (hl : l.stackTraces = false) {M : ev_M} (o n : Nat) (s : Nat × Bool) (f : Int32) (hO : Ro M o n s f) : ev_Mt l m_X7_fault [.ref (o)] M (ev_q (.inl (some (.int f))) M) := by
  refine ev_body hl rfl (by decide +kernel) (Nat.le_of_ble_eq_true rfl) ?_
  show ev_ l m_X7_fault 0 0 0 [some (.ref (o))] [] M _
  refine ev_blk (B := [(.aload_n 0, 1)]) (pe := 1) (ls' := [some (.ref (o))]) (st' := [.ref (o)]) ⟨dX7_fault_0, rfl⟩ rfl ?_
  refine ev_getf (v := .int (f)) F_RX7_49 dX7_fault_1 hO rfl ?_
  refine ev_iret dX7_fault_4 rfl (rfl) ⟨Nat.le_of_ble_eq_true rfl, Nat.le_of_ble_eq_true rfl⟩ ?_
  exact ⟨rfl, rfl⟩

set_option maxHeartbeats 4000000 in
set_option maxRecDepth 100000 in
theorem c_X7_transitions {l : Launch} (hl : l.stackTraces = false) {M : ev_M} (o n : Nat) (s : Nat × Bool) (f : Int32) (hO : Ro M o n s f) : ev_Mt l m_X7_transitions [.ref (o)] M (ev_q (.inl (some (.ref (o + 2)))) M) := by
  refine ev_body hl rfl (by decide +kernel) (Nat.le_of_ble_eq_true rfl) ?_
  show ev_ l m_X7_transitions 0 0 0 [some (.ref (o))] [] M _
  refine ev_blk (B := [(.aload_n 0, 1)]) (pe := 1) (ls' := [some (.ref (o))]) (st' := [.ref (o)]) ⟨dX7_transitions_0, rfl⟩ rfl ?_
  refine ev_getf (v := .ref (o + 2)) F_RX7_18 dX7_transitions_1 hO rfl ?_
  refine ev_aret dX7_transitions_4 rfl (by first | exact Or.inl ⟨_, rfl⟩ | exact Or.inr ⟨_, rfl⟩) ⟨Nat.le_of_ble_eq_true rfl, Nat.le_of_ble_eq_true rfl⟩ ?_
  exact ⟨rfl, rfl⟩

set_option maxHeartbeats 4000000 in
set_option maxRecDepth 100000 in
theorem c_X7_goals {l : Launch} (hl : l.stackTraces = false) {M : ev_M} (o n : Nat) (s : Nat × Bool) (f : Int32) (hO : Ro M o n s f) : ev_Mt l m_X7_goals [.ref (o)] M (ev_q (.inl (some (.ref (o + 4)))) M) := by
  refine ev_body hl rfl (by decide +kernel) (Nat.le_of_ble_eq_true rfl) ?_
  show ev_ l m_X7_goals 0 0 0 [some (.ref (o))] [] M _
  refine ev_blk (B := [(.aload_n 0, 1)]) (pe := 1) (ls' := [some (.ref (o))]) (st' := [.ref (o)]) ⟨dX7_goals_0, rfl⟩ rfl ?_
  refine ev_getf (v := .ref (o + 4)) F_RX7_27 dX7_goals_1 hO rfl ?_
  refine ev_aret dX7_goals_4 rfl (by first | exact Or.inl ⟨_, rfl⟩ | exact Or.inr ⟨_, rfl⟩) ⟨Nat.le_of_ble_eq_true rfl, Nat.le_of_ble_eq_true rfl⟩ ?_
  exact ⟨rfl, rfl⟩

theorem c_nar {c : Nat} (hc : c < 65536) : narrow .char (.int (nI c)) = .int (nI c) ∧ vp_nar .char (nI c) = nI c := by
  have h : (nI c).toUInt32 % 65536 = UInt32.ofNat c := by
    have h1 : (nI c).toUInt32 = UInt32.ofNat c := by
      apply UInt32.toNat_inj.mp
      show ((Int32.ofNat c).toUInt32).toNat = (UInt32.ofNat c).toNat
      rfl
    rw [h1]
    apply UInt32.toNat_inj.mp
    rw [UInt32.toNat_mod]
    have : (UInt32.ofNat c).toNat = c := by rw [UInt32.toNat_ofNat']; omega
    rw [this]
    exact Nat.mod_eq_of_lt hc
  have h2 : ((nI c).toUInt32 % 65536).toInt32 = nI c := by
    rw [h]; rfl
  exact ⟨congrArg Value.int h2, h2⟩
set_option maxHeartbeats 4000000 in
set_option maxRecDepth 100000 in
theorem c_X7_add {l : Launch} (hl : l.stackTraces = false) {M : ev_M} (o n : Nat) (s : Nat × Bool) (f : Int32) (hO : Ro M o n s f) (t : Nat → Nat) (hT : Rr M o t) (hn : n < 80) (c : Nat) (hc : c < 65536) : ev_Mt l m_X7_add [.ref (o), .int (nI c)] M (fun r M1 => r = .inl none ∧ Ro M1 o (n + 1) s f ∧ Rr M1 o (fun i => if i = n then c else t i) ∧ Fr o (o + 2) M M1) := by
  refine ev_body hl rfl (by decide +kernel) (Nat.le_of_ble_eq_true rfl) ?_
  show ev_ l m_X7_add 0 0 0 [some (.ref (o)), some (.int (nI c))] [] M _
  refine ev_blk (B := [(.aload_n 0, 1)]) (pe := 1) (ls' := [some (.ref (o)), some (.int (nI c))]) (st' := [.ref (o)]) ⟨dX7_add_0, rfl⟩ rfl ?_
  refine ev_cVv Y_X7_isFull L_RX7_52 dX7_add_1 ⟨Nat.le_of_ble_eq_true rfl, Nat.le_of_ble_eq_true rfl, Nat.le_of_ble_eq_true rfl, Nat.le_of_ble_eq_true rfl, Nat.le_of_ble_eq_true rfl⟩ hO (as := []) rfl rfl (c_X7_isFull hl o n s f hO (by omega)) ?_
  refine ev_ifB_ne dX7_add_4 (tgt := 27) (by decide) (fun q4 => ?_) (fun q4 => ?_)
  · exact absurd (of_decide_eq_true q4) (by omega)
  · refine ev_blk (B := [(.aload_n 0, 1)]) (pe := 8) (ls' := [some (.ref (o)), some (.int (nI c))]) (st' := [.ref (o)]) ⟨dX7_add_7, rfl⟩ rfl ?_
    refine ev_getf (v := .ref (o + 1)) F_RX7_9 dX7_add_8 hO rfl ?_
    refine ev_blk (B := [(.aload_n 0, 1)]) (pe := 12) (ls' := [some (.ref (o)), some (.int (nI c))]) (st' := [.ref (o), .ref (o + 1)]) ⟨dX7_add_11, rfl⟩ rfl ?_
    refine ev_getf (v := .int (nI n)) F_RX7_38 dX7_add_12 hO rfl ?_
    refine ev_blk (B := [(.iload_n 1, 1)]) (pe := 16) (ls' := [some (.ref (o)), some (.int (nI c))]) (st' := [.int (nI c), .int (nI n), .ref (o + 1)]) ⟨dX7_add_15, rfl⟩ rfl ?_
    refine ev_cast dX7_add_16 hT (vp_in_nI (show n < 80 by omega) (by omega)) ?_
    rw [nI_clamp (show n < 2 ^ 31 by omega)]
    refine ev_nm (M0 := M.set (o + 1) (.inl (2, 80, .inl (upd (fun i => nI (t i)) n (vp_nar .char (nI c)))))) (fun M1 eM1 => ?_)
    have f2 : M1[o]? = some (.inr (7, [.ref (o + 1), .ref (o + 2), .ref (o + 4), .ref (o + 8), .int (nI n), .int (nI (s.1)), .int (ev_b (s.2)), .int (f)])) := by rw [eM1, ev_sn (by omega)]; exact hO
    have f3 : M1[o + 1]? = some (.inl (2, 80, .inl (upd (fun i => nI (t i)) n (vp_nar .char (nI c))))) := by rw [eM1]; exact ev_sg hT
    refine ev_blk (B := [(.aload_n 0, 1), (.dup, 1)]) (pe := 19) (ls' := [some (.ref (o)), some (.int (nI c))]) (st' := [.ref (o), .ref (o)]) ⟨dX7_add_17, dX7_add_18, rfl⟩ rfl ?_
    refine ev_getf (v := .int (nI n)) F_RX7_38 dX7_add_19 f2 rfl ?_
    refine ev_blk (B := [(.iconst 1, 1), (.iadd, 1)]) (pe := 24) (ls' := [some (.ref (o)), some (.int (nI c))]) (st' := [.int (nI (n + 1)), .ref (o)]) ⟨dX7_add_22, dX7_add_23, rfl⟩ (by show some (([some (.ref (o)), some (.int (nI c))] : ev_L), ([.int ((nI n) + (nI 1)), .ref (o)] : List Value)) = _; rw [nI_add n 1]) ?_
    refine ev_put F_RX7_38 dX7_add_24 f2 (Nat.le_of_ble_eq_true rfl) (fun _ _ => ⟨rfl, rfl⟩) ?_
    refine ev_nm (M0 := M1.set (o) (.inr (7, [.ref (o + 1), .ref (o + 2), .ref (o + 4), .ref (o + 8), .int (nI (n + 1)), .int (nI (s.1)), .int (ev_b (s.2)), .int (f)]))) (fun M4 eM4 => ?_)
    have f5 : M4[o]? = some (.inr (7, [.ref (o + 1), .ref (o + 2), .ref (o + 4), .ref (o + 8), .int (nI (n + 1)), .int (nI (s.1)), .int (ev_b (s.2)), .int (f)])) := by rw [eM4]; exact ev_sg f2
    have f6 : M4[o + 1]? = some (.inl (2, 80, .inl (upd (fun i => nI (t i)) n (vp_nar .char (nI c))))) := by rw [eM4, ev_sn (by omega)]; exact f3
    refine ev_vret dX7_add_27 rfl ⟨Nat.le_of_ble_eq_true rfl, Nat.le_of_ble_eq_true rfl⟩ ?_
    refine ⟨rfl, f5, ?_, ⟨by rw [eM4, eM1]; simp only [List.length_set], fun j hj => by rw [eM4, ev_sn (by omega), eM1, ev_sn (by omega)]⟩⟩
    have e9 : (fun i => nI ((fun i => if i = n then c else t i) i)) = upd (fun i => nI (t i)) n (vp_nar .char (nI c)) := by
      funext i
      rw [(c_nar hc).2]
      show nI (if i = n then c else t i) = if i = n then nI c else nI (t i)
      split <;> rfl
    show M4[o + 1]? = some (.inl (2, 80, .inl (fun i => nI ((fun i => if i = n then c else t i) i))))
    rw [e9]
    exact f6

