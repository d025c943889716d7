/-! ===== what each call answers, and the state behind it ===== -/
theorem inR_no {a : Int32} {n : Nat} (h : inR a n = false) (h1 : ¬ a < 0) (h2 : a < nI n) : False := by
  have : inR a n = true := decide_eq_true ⟨Int32.not_lt.mp h1, h2⟩
  rw [h] at this; cases this
theorem gd_at {w : List Nat} {i : Nat} (h : i < w.length) : w[i] = w.getD i 0 := by
  rw [List.getD_eq_getElem?_getD, List.getElem?_eq_getElem h]; rfl
/-- transitions -/
def sAdd (S : St) (a b c d e : Int32) : (Nat × Int32) × St :=
  if inR a 6 = false then ((1, 0), S) else if inR b 6 = false then ((1, 0), S) else if inR c 3 = false then ((1, 0), S)
  else if tN c ≠ 0 ∧ inR d 2 = false then ((1, 0), S) else if tN c ≠ 0 ∧ inR e 3 = false then ((1, 0), S)
  else if 10 ≤ S.T.length then ((2, 0), S) else ((0, nI S.T.length), St.mk (S.T ++ [(tN a, tN b, tN c, if tN c = 0 then 0 else tN d, if tN c = 0 then 0 else tN e)]) S.x S.G S.H S.n S.t S.f S.tk S.T9 S.x9 S.G9)
def sRem (S : St) (a : Int32) : (Nat × Int32) × St := if inR a S.T.length = false then ((1, 0), S) else ((0, nI (S.T.length - 1)), St.mk (S.T.eraseIdx (tN a)) S.x S.G S.H S.n S.t S.f S.tk S.T9 S.x9 S.G9)
def sTra (S : St) (a b : Int32) : Nat × Int32 := if inR a S.T.length = false then (1, 0) else if inR b 5 = false then (2, 0) else (0, tp (tg S.T (tN a)) (tN b))
def sCnt (S : St) : Nat × Int32 := (0, nI S.T.length)
/-- the present configuration -/
def sSet (S : St) (a : Int32) : (Nat × Int32) × St := if inR a 6 = false then ((1, 0), S) else ((0, nI S.x.1), St.mk S.T (tN a, S.x.2) S.G [] S.n S.t S.f S.tk S.T9 S.x9 S.G9)
def sPut (S : St) (a b : Int32) : (Nat × Int32) × St := if inR a 2 = false then ((1, 0), S) else if inR b 3 = false then ((2, 0), S) else if 10 ≤ (cw S.x (tN a)).length then ((3, 0), S)
  else ((0, nI ((cw S.x (tN a)).length + 1)), St.mk S.T (cset S.x (tN a) (cw S.x (tN a) ++ [tN b])) S.G [] S.n S.t S.f S.tk S.T9 S.x9 S.G9)
def sClr (S : St) (a : Int32) : (Nat × Int32) × St := if inR a 2 = false then ((1, 0), S) else ((0, nI (cw S.x (tN a)).length), St.mk S.T (cset S.x (tN a) []) S.G [] S.n S.t S.f S.tk S.T9 S.x9 S.G9)
def sSta (S : St) : Nat × Int32 := (0, nI S.x.1)
def sLen (S : St) (a : Int32) : Nat × Int32 := if inR a 2 = false then (1, 0) else (0, nI (cw S.x (tN a)).length)
def sLet (S : St) (a b : Int32) : Nat × Int32 := if inR a 2 = false then (1, 0) else if inR b (cw S.x (tN a)).length = false then (2, 0) else (0, nI ((cw S.x (tN a)).getD (tN b) 0))
def sEna (S : St) (b : Bool) : Int32 := mk (fun t => mf S.x (tg S.T t) b) S.T.length
def sFir (S : St) (a : Int32) : (Nat × Int32) × St := if inR a S.T.length = false then ((1, 0), S) else if mf S.x (tg S.T (tN a)) false = false then ((2, 0), S)
  else if ((tg S.T (tN a)).2.2.1 == 1 && decide (10 ≤ (cw S.x (tg S.T (tN a)).2.2.2.1).length)) = true then ((2, 0), S) else ((0, nI (ap (tg S.T (tN a)) S.x).2.1), St.mk S.T (ap (tg S.T (tN a)) S.x).2 S.G (rec S.H S.x 0) S.n S.t S.f S.tk S.T9 S.x9 S.G9)
def sLos (S : St) (a b : Int32) : (Nat × Int32) × St := if inR a 2 = false then ((1, 0), S) else if inR b (cw S.x (tN a)).length = false then ((2, 0), S)
  else ((0, nI ((cw S.x (tN a)).getD (tN b) 0)), St.mk S.T (cset S.x (tN a) ((cw S.x (tN a)).eraseIdx (tN b))) S.G (rec S.H S.x 1) S.n S.t S.f S.tk S.T9 S.x9 S.G9)
def sUnd (S : St) : (Nat × Int32) × St := if S.H.length = 0 then ((1, 0), S) else ((0, nI (kg S.H (S.H.length - 1))), St.mk S.T (cg (hL S.H) (S.H.length - 1)) S.G S.H.dropLast S.n S.t S.f S.tk S.T9 S.x9 S.G9)
def sInc (S : St) : Nat × Int32 := (0, fiI (fi (hL S.H) S.x))
set_option maxHeartbeats 4000000 in
set_option maxRecDepth 100000 in
theorem c_X10_reqTT {l : Launch} (hl : l.stackTraces = false) {M : ev_M} (S : St) (hR : RCl M S) (a : Int32) (hk : inR a S.T.length = true) : ev_Mt l m_X10_requireTransition [.ref (0), .int (a)] M (ev_q (.inl none) M) := by
  refine ev_body hl rfl (by decide +kernel) (Nat.le_of_ble_eq_true rfl) ?_
  show ev_ l m_X10_requireTransition 0 0 0 [some (.ref (0)), some (.int (a))] [] M _
  refine ev_blk (B := [(.aload_n 0, 1)]) (pe := 1) (ls' := [some (.ref (0)), some (.int (a))]) (st' := [.ref (0)]) ⟨dX10_requireTransition_0, rfl⟩ rfl ?_
  refine ev_getf (v := .ref (1)) F_RX10_10 dX10_requireTransition_1 hR.o rfl ?_
  refine ev_blk (B := [(.iload_n 1, 1)]) (pe := 5) (ls' := [some (.ref (0)), some (.int (a))]) (st' := [.int (a), .ref (1)]) ⟨dX10_requireTransition_4, rfl⟩ rfl ?_
  refine ev_cVv Y_X4_has L_RX10_344 dX10_requireTransition_5 ⟨Nat.le_of_ble_eq_true rfl, Nat.le_of_ble_eq_true rfl, Nat.le_of_ble_eq_true rfl, Nat.le_of_ble_eq_true rfl, Nat.le_of_ble_eq_true rfl⟩ (hR.m).obj (as := [.int (a)]) rfl rfl (c_X4_hasI hl 1 S.T.length hR.m.obj a) ?_
  refine ev_ifB_ne dX10_requireTransition_8 (tgt := 22) (by decide) (fun q8 => ?_) (fun q8 => ?_)
  · refine ev_vret dX10_requireTransition_22 rfl ⟨Nat.le_of_ble_eq_true rfl, Nat.le_of_ble_eq_true rfl⟩ ?_
    exact ⟨rfl, rfl⟩
  · exact absurd (hk.symm.trans q8) (by decide)

set_option maxHeartbeats 4000000 in
set_option maxRecDepth 100000 in
theorem c_X10_reqTF {l : Launch} (hl : l.stackTraces = false) {M : ev_M} (S : St) (hR : RCl M S) (a : Int32) (hk : inR a S.T.length = false) : ev_Mt l m_X10_requireTransition [.ref (0), .int (a)] M (ev_q (.inr eIB) M) := by
  refine ev_body hl rfl (by decide +kernel) (Nat.le_of_ble_eq_true rfl) ?_
  show ev_ l m_X10_requireTransition 0 0 0 [some (.ref (0)), some (.int (a))] [] M _
  refine ev_blk (B := [(.aload_n 0, 1)]) (pe := 1) (ls' := [some (.ref (0)), some (.int (a))]) (st' := [.ref (0)]) ⟨dX10_requireTransition_0, rfl⟩ rfl ?_
  refine ev_getf (v := .ref (1)) F_RX10_10 dX10_requireTransition_1 hR.o rfl ?_
  refine ev_blk (B := [(.iload_n 1, 1)]) (pe := 5) (ls' := [some (.ref (0)), some (.int (a))]) (st' := [.int (a), .ref (1)]) ⟨dX10_requireTransition_4, rfl⟩ rfl ?_
  refine ev_cVv Y_X4_has L_RX10_344 dX10_requireTransition_5 ⟨Nat.le_of_ble_eq_true rfl, Nat.le_of_ble_eq_true rfl, Nat.le_of_ble_eq_true rfl, Nat.le_of_ble_eq_true rfl, Nat.le_of_ble_eq_true rfl⟩ (hR.m).obj (as := [.int (a)]) rfl rfl (c_X4_hasI hl 1 S.T.length hR.m.obj a) ?_
  refine ev_ifB_ne dX10_requireTransition_8 (tgt := 22) (by decide) (fun q8 => ?_) (fun q8 => ?_)
  · exact absurd (hk.symm.trans q8) (by decide)
  · refine ev_throwW (cls := "java/lang/IndexOutOfBoundsException") (text := "no such transition") (names := ev_nmR) (ic := 259) (ik := 255) rfl (by decide +kernel) (by decide +kernel) T_IndexOutOfBoundsException (by decide +kernel) dX10_requireTransition_11 dX10_requireTransition_14 dX10_requireTransition_15 dX10_requireTransition_18 dX10_requireTransition_21 ⟨Nat.le_of_ble_eq_true rfl, Nat.le_of_ble_eq_true rfl, Nat.le_of_ble_eq_true rfl, Nat.le_of_ble_eq_true rfl⟩ ?_
    exact ⟨rfl, rfl⟩

set_option maxHeartbeats 4000000 in
set_option maxRecDepth 100000 in
theorem c_X10_addTransition {l : Launch} (hl : l.stackTraces = false) {M : ev_M} (S : St) (hS : okS S) (hR : RCl M S) (a : Int32) (b : Int32) (c : Int32) (d : Int32) (e : Int32) : ev_Mt l m_X10_addTransition [.ref (0), .int (a), .int (b), .int (c), .int (d), .int (e)] M (fun r M1 => r = cA [eIA, eIS] (sAdd S a b c d e).1 ∧ RCl M1 (sAdd S a b c d e).2 ∧ Fr 0 104 M M1) := by
  have hTl : S.T.length ≤ 10 := hR.m.1
  have hGl : S.G.length ≤ 3 := hR.g.2.1
  rcases inR_c a 6 (by omega) with ⟨k1, hk1, rfl⟩ | ia
  · have jk1 : inR (nI k1) 6 = true := inR_n hk1 (by omega)
    have tk1 : (nI k1).toNatClampNeg = k1 := nI_clamp (by omega)
    rcases inR_c b 6 (by omega) with ⟨k2, hk2, rfl⟩ | ib
    · have jk2 : inR (nI k2) 6 = true := inR_n hk2 (by omega)
      have tk2 : (nI k2).toNatClampNeg = k2 := nI_clamp (by omega)
      rcases inR_c c 3 (by omega) with ⟨k3, hk3, rfl⟩ | ic
      · have jk3 : inR (nI k3) 3 = true := inR_n hk3 (by omega)
        have tk3 : (nI k3).toNatClampNeg = k3 := nI_clamp (by omega)
        refine ev_body hl rfl (by decide +kernel) (Nat.le_of_ble_eq_true rfl) ?_
        show ev_ l m_X10_addTransition 0 0 0 [some (.ref (0)), some (.int (nI k1)), some (.int (nI k2)), some (.int (nI k3)), some (.int (d)), some (.int (e))] [] M _
        refine ev_blk (B := [(.iload_n 1, 1)]) (pe := 1) (ls' := [some (.ref (0)), some (.int (nI k1)), some (.int (nI k2)), some (.int (nI k3)), some (.int (d)), some (.int (e))]) (st' := [.int (nI k1)]) ⟨dX10_addTransition_0, rfl⟩ rfl ?_
        refine ev_cSv Y_X10_isState L_RX10_74 dX10_addTransition_1 ⟨Nat.le_of_ble_eq_true rfl, Nat.le_of_ble_eq_true rfl, Nat.le_of_ble_eq_true rfl, Nat.le_of_ble_eq_true rfl, Nat.le_of_ble_eq_true rfl⟩ (as := [.int (nI k1)]) rfl rfl (c_X10_isState hl (nI k1)) ?_
        refine ev_ifB_eq dX10_addTransition_4 (tgt := 23) (by decide) (fun q4 => ?_) (fun q4 => ?_)
        · exact absurd (jk1.symm.trans q4) (by decide)
        · refine ev_blk (B := [(.iload_n 2, 1)]) (pe := 8) (ls' := [some (.ref (0)), some (.int (nI k1)), some (.int (nI k2)), some (.int (nI k3)), some (.int (d)), some (.int (e))]) (st' := [.int (nI k2)]) ⟨dX10_addTransition_7, rfl⟩ rfl ?_
          refine ev_cSv Y_X10_isState L_RX10_74 dX10_addTransition_8 ⟨Nat.le_of_ble_eq_true rfl, Nat.le_of_ble_eq_true rfl, Nat.le_of_ble_eq_true rfl, Nat.le_of_ble_eq_true rfl, Nat.le_of_ble_eq_true rfl⟩ (as := [.int (nI k2)]) rfl rfl (c_X10_isState hl (nI k2)) ?_
          refine ev_ifB_eq dX10_addTransition_11 (tgt := 23) (by decide) (fun q11 => ?_) (fun q11 => ?_)
          · exact absurd (jk2.symm.trans q11) (by decide)
          · refine ev_blk (B := [(.iload_n 3, 1)]) (pe := 15) (ls' := [some (.ref (0)), some (.int (nI k1)), some (.int (nI k2)), some (.int (nI k3)), some (.int (d)), some (.int (e))]) (st' := [.int (nI k3)]) ⟨dX10_addTransition_14, rfl⟩ rfl ?_
            refine ev_fN_lt dX10_addTransition_15 (tgt := 23) (by decide) (by omega) ?_
            refine ev_blk (B := [(.iload_n 3, 1), (.iconst 3, 1)]) (pe := 20) (ls' := [some (.ref (0)), some (.int (nI k1)), some (.int (nI k2)), some (.int (nI k3)), some (.int (d)), some (.int (e))]) (st' := [.int (nI 3), .int (nI k3)]) ⟨dX10_addTransition_18, dX10_addTransition_19, rfl⟩ rfl ?_
            refine ev_iN_lt dX10_addTransition_20 (tgt := 33) (by decide) (by omega) (by omega) (fun q20 => ?_) (fun q20 => ?_)
            · refine ev_blk (B := [(.iload_n 3, 1)]) (pe := 34) (ls' := [some (.ref (0)), some (.int (nI k1)), some (.int (nI k2)), some (.int (nI k3)), some (.int (d)), some (.int (e))]) (st' := [.int (nI k3)]) ⟨dX10_addTransition_33, rfl⟩ rfl ?_
              refine ev_fN_eq dX10_addTransition_34 (tgt := 63) (by decide) (by omega) (fun q34 => ?_) (fun q34 => ?_)
              · refine ev_blk (B := [(.aload_n 0, 1)]) (pe := 64) (ls' := [some (.ref (0)), some (.int (nI k1)), some (.int (nI k2)), some (.int (nI k3)), some (.int (d)), some (.int (e))]) (st' := [.ref (0)]) ⟨dX10_addTransition_63, rfl⟩ rfl ?_
                refine ev_getf (v := .ref (1)) F_RX10_10 dX10_addTransition_64 hR.o rfl ?_
                refine ev_cVv Y_X4_count L_RX10_93 dX10_addTransition_67 ⟨Nat.le_of_ble_eq_true rfl, Nat.le_of_ble_eq_true rfl, Nat.le_of_ble_eq_true rfl, Nat.le_of_ble_eq_true rfl, Nat.le_of_ble_eq_true rfl⟩ (hR.m).obj (as := []) rfl rfl (c_X4_count hl 1 S.T hR.m) ?_
                refine ev_blk (B := [(.bipush 10, 2)]) (pe := 72) (ls' := [some (.ref (0)), some (.int (nI k1)), some (.int (nI k2)), some (.int (nI k3)), some (.int (d)), some (.int (e))]) (st' := [.int (nI 10), .int (nI (S.T.length))]) ⟨dX10_addTransition_70, rfl⟩ rfl ?_
                refine ev_iN_lt dX10_addTransition_72 (tgt := 85) (by decide) (by omega) (by omega) (fun q72 => ?_) (fun q72 => ?_)
                · refine ev_blk (B := [(.aload_n 0, 1)]) (pe := 86) (ls' := [some (.ref (0)), some (.int (nI k1)), some (.int (nI k2)), some (.int (nI k3)), some (.int (d)), some (.int (e))]) (st' := [.ref (0)]) ⟨dX10_addTransition_85, rfl⟩ rfl ?_
                  refine ev_getf (v := .ref (1)) F_RX10_10 dX10_addTransition_86 hR.o rfl ?_
                  refine ev_blk (B := [(.iload_n 1, 1), (.iload_n 2, 1), (.iload_n 3, 1), (.iload 4, 2), (.iload 5, 2)]) (pe := 96) (ls' := [some (.ref (0)), some (.int (nI k1)), some (.int (nI k2)), some (.int (nI k3)), some (.int (d)), some (.int (e))]) (st' := [.int (e), .int (d), .int (nI k3), .int (nI k2), .int (nI k1), .ref (1)]) ⟨dX10_addTransition_89, dX10_addTransition_90, dX10_addTransition_91, dX10_addTransition_92, dX10_addTransition_94, rfl⟩ rfl ?_
                  refine ev_cVn Y_X4_add L_RX10_102 dX10_addTransition_96 ⟨Nat.le_of_ble_eq_true rfl, Nat.le_of_ble_eq_true rfl, Nat.le_of_ble_eq_true rfl, Nat.le_of_ble_eq_true rfl, Nat.le_of_ble_eq_true rfl⟩ (hR.m).obj (as := [.int (nI k1), .int (nI k2), .int (nI k3), .int (d), .int (e)]) rfl rfl (c_X4_add hl 1 S.T hR.m (by omega) ((k1, k2, k3, if k3 = 0 then 0 else tN d, if k3 = 0 then 0 else tN e) : Tr) d e (fun z => absurd q34 z) (fun z => absurd q34 z) ⟨hk1, hk2, hk3, (by show (if k3 = 0 then 0 else tN d) < 2; rw [if_pos q34]; decide), (by show (if k3 = 0 then 0 else tN e) < 3; rw [if_pos q34]; decide)⟩) (fun M1 hL1 hB1 => ?_)
                  obtain ⟨D2a, D2f⟩ := hB1
                  refine ev_blk (B := [(.aload_n 0, 1)]) (pe := 100) (ls' := [some (.ref (0)), some (.int (nI k1)), some (.int (nI k2)), some (.int (nI k3)), some (.int (d)), some (.int (e))]) (st' := [.ref (0)]) ⟨dX10_addTransition_99, rfl⟩ rfl ?_
                  refine ev_getf (v := .ref (17)) F_RX10_49 dX10_addTransition_100 (hR.o.fr D2f (by omega)) rfl ?_
                  obtain ⟨cu, tr9, lo9, B9, co, la, N9, hA, hBs, hAN, hA8, hA9, hAf⟩ := (hR.a.fr D2f (by omega))
                  refine ev_cVn Y_X0_discard L_RX10_106 dX10_addTransition_103 ⟨Nat.le_of_ble_eq_true rfl, Nat.le_of_ble_eq_true rfl, Nat.le_of_ble_eq_true rfl, Nat.le_of_ble_eq_true rfl, Nat.le_of_ble_eq_true rfl⟩ hA.1 (as := []) rfl rfl (c_X0_discard hl 17 cu co la tr9 lo9 hA) (fun M3 hL3 hB3 => ?_)
                  obtain ⟨D4a, D4f⟩ := hB3
                  refine ev_blk (B := [(.aload_n 0, 1)]) (pe := 107) (ls' := [some (.ref (0)), some (.int (nI k1)), some (.int (nI k2)), some (.int (nI k3)), some (.int (d)), some (.int (e))]) (st' := [.ref (0)]) ⟨dX10_addTransition_106, rfl⟩ rfl ?_
                  refine ev_getf (v := .ref (1)) F_RX10_10 dX10_addTransition_107 ((hR.o.fr D2f (by omega)).fr D4f (by omega)) rfl ?_
                  refine ev_cVv Y_X4_count L_RX10_93 dX10_addTransition_110 ⟨Nat.le_of_ble_eq_true rfl, Nat.le_of_ble_eq_true rfl, Nat.le_of_ble_eq_true rfl, Nat.le_of_ble_eq_true rfl, Nat.le_of_ble_eq_true rfl⟩ ((D2a.fr D4f (by omega))).obj (as := []) rfl rfl (c_X4_count hl 1 ((S.T ++ [((k1, k2, k3, if k3 = 0 then 0 else tN d, if k3 = 0 then 0 else tN e) : Tr)])) (D2a.fr D4f (by omega))) ?_
                  rw [List.length_append, List.length_singleton]
                  refine ev_blk (B := [(.iconst 1, 1), (.isub, 1)]) (pe := 115) (ls' := [some (.ref (0)), some (.int (nI k1)), some (.int (nI k2)), some (.int (nI k3)), some (.int (d)), some (.int (e))]) (st' := [.int (nI ((S.T.length + 1) - 1))]) ⟨dX10_addTransition_113, dX10_addTransition_114, rfl⟩ (by show some (([some (.ref (0)), some (.int (nI k1)), some (.int (nI k2)), some (.int (nI k3)), some (.int (d)), some (.int (e))] : ev_L), ([.int ((nI (S.T.length + 1)) - (nI 1))] : List Value)) = _; rw [pk_sub (show 1 ≤ (S.T.length + 1) by omega)]) ?_
                  refine ev_iret dX10_addTransition_115 rfl (rfl) ⟨Nat.le_of_ble_eq_true rfl, Nat.le_of_ble_eq_true rfl⟩ ?_
                  have e9 : sAdd S (nI k1) (nI k2) (nI k3) d e = ((0, nI S.T.length), (St.mk (S.T ++ [(k1, k2, k3, if k3 = 0 then 0 else tN d, if k3 = 0 then 0 else tN e)]) S.x S.G S.H S.n S.t S.f S.tk S.T9 S.x9 S.G9)) := by simp [sAdd, jk1, tk1, jk2, tk2, jk3, tk3, nI_0, (show inR 0 3 = true by decide), (show tN 0 = 0 by decide), (Nat.not_le.mpr q72), q4, q11, q20, q34, q72]
                  rw [e9]
                  exact ⟨rfl, ⟨((hR.o.fr D2f (by omega)).fr D4f (by omega)), (D2a.fr D4f (by omega)), ((hR.x.fr D2f (by omega)).fr D4f (by omega)), ((hR.g.fr D2f (by omega)).fr D4f (by omega)), ((hR.h.fr D2f (by omega)).fr D4f (by omega)), ((hR.k.fr D2f (by omega)).fr D4f (by omega)), ⟨false, tr9, lo9, B9, co, la, N9, D4a, hBs.fr D4f (by omega), hAN.fr D4f (by omega), RWk.fr hA8 D4f (by omega), RWk.fr hA9 D4f (by omega), fun z => nomatch z⟩, ((hR.l.fr D2f (by omega)).fr D4f (by omega)), ((hR.r.fr D2f (by omega)).fr D4f (by omega)), ((hR.w.fr D2f (by omega)).fr D4f (by omega)), ((hR.s.fr D2f (by omega)).fr D4f (by omega))⟩, ((D2f.to (by omega) (by omega)).tr (D4f.to (by omega) (by omega)))⟩
                · refine ev_throw (cls := "java/lang/IllegalStateException") (text := "there are 10 transitions") (names := ev_nmR) (ic := 101) (ik := 97) rfl (by decide +kernel) (by decide +kernel) T_IllegalStateException (by decide +kernel) dX10_addTransition_75 dX10_addTransition_78 dX10_addTransition_79 dX10_addTransition_81 dX10_addTransition_84 ⟨Nat.le_of_ble_eq_true rfl, Nat.le_of_ble_eq_true rfl, Nat.le_of_ble_eq_true rfl, Nat.le_of_ble_eq_true rfl⟩ ?_
                  have e9 : sAdd S (nI k1) (nI k2) (nI k3) d e = ((2, 0), S) := by simp [sAdd, jk1, tk1, jk2, tk2, jk3, tk3, nI_0, (show inR 0 3 = true by decide), (show tN 0 = 0 by decide), q4, q11, q20, q34, q72]
                  rw [e9]
                  exact ⟨rfl, ⟨hR.o, hR.m, hR.x, hR.g, hR.h, hR.k, hR.a, hR.l, hR.r, hR.w, hR.s⟩, Fr.rf⟩
              · refine ev_blk (B := [(.iload 4, 2)]) (pe := 39) (ls' := [some (.ref (0)), some (.int (nI k1)), some (.int (nI k2)), some (.int (nI k3)), some (.int (d)), some (.int (e))]) (st' := [.int (d)]) ⟨dX10_addTransition_37, rfl⟩ rfl ?_
                refine ev_cSv Y_X10_isChannel L_RX10_85 dX10_addTransition_39 ⟨Nat.le_of_ble_eq_true rfl, Nat.le_of_ble_eq_true rfl, Nat.le_of_ble_eq_true rfl, Nat.le_of_ble_eq_true rfl, Nat.le_of_ble_eq_true rfl⟩ (as := [.int (d)]) rfl rfl (c_X10_isChannel hl d) ?_
                refine ev_ifB_eq dX10_addTransition_42 (tgt := 53) (by decide) (fun q42 => ?_) (fun q42 => ?_)
                · refine ev_throw (cls := "java/lang/IllegalArgumentException") (text := "no such channel or letter") (names := ev_nmR) (ic := 82) (ik := 78) rfl (by decide +kernel) (by decide +kernel) T_IllegalArgumentException (by decide +kernel) dX10_addTransition_53 dX10_addTransition_56 dX10_addTransition_57 dX10_addTransition_59 dX10_addTransition_62 ⟨Nat.le_of_ble_eq_true rfl, Nat.le_of_ble_eq_true rfl, Nat.le_of_ble_eq_true rfl, Nat.le_of_ble_eq_true rfl⟩ ?_
                  have e9 : sAdd S (nI k1) (nI k2) (nI k3) d e = ((1, 0), S) := by simp [sAdd, jk1, tk1, jk2, tk2, jk3, tk3, q4, q11, q20, q34, q42]
                  rw [e9]
                  exact ⟨rfl, ⟨hR.o, hR.m, hR.x, hR.g, hR.h, hR.k, hR.a, hR.l, hR.r, hR.w, hR.s⟩, Fr.rf⟩
                · refine ev_blk (B := [(.iload 5, 2)]) (pe := 47) (ls' := [some (.ref (0)), some (.int (nI k1)), some (.int (nI k2)), some (.int (nI k3)), some (.int (d)), some (.int (e))]) (st' := [.int (e)]) ⟨dX10_addTransition_45, rfl⟩ rfl ?_
                  refine ev_cSv Y_X10_isLetter L_RX10_88 dX10_addTransition_47 ⟨Nat.le_of_ble_eq_true rfl, Nat.le_of_ble_eq_true rfl, Nat.le_of_ble_eq_true rfl, Nat.le_of_ble_eq_true rfl, Nat.le_of_ble_eq_true rfl⟩ (as := [.int (e)]) rfl rfl (c_X10_isLetter hl e) ?_
                  refine ev_ifB_ne dX10_addTransition_50 (tgt := 63) (by decide) (fun q50 => ?_) (fun q50 => ?_)
                  · refine ev_blk (B := [(.aload_n 0, 1)]) (pe := 64) (ls' := [some (.ref (0)), some (.int (nI k1)), some (.int (nI k2)), some (.int (nI k3)), some (.int (d)), some (.int (e))]) (st' := [.ref (0)]) ⟨dX10_addTransition_63, rfl⟩ rfl ?_
                    refine ev_getf (v := .ref (1)) F_RX10_10 dX10_addTransition_64 hR.o rfl ?_
                    refine ev_cVv Y_X4_count L_RX10_93 dX10_addTransition_67 ⟨Nat.le_of_ble_eq_true rfl, Nat.le_of_ble_eq_true rfl, Nat.le_of_ble_eq_true rfl, Nat.le_of_ble_eq_true rfl, Nat.le_of_ble_eq_true rfl⟩ (hR.m).obj (as := []) rfl rfl (c_X4_count hl 1 S.T hR.m) ?_
                    refine ev_blk (B := [(.bipush 10, 2)]) (pe := 72) (ls' := [some (.ref (0)), some (.int (nI k1)), some (.int (nI k2)), some (.int (nI k3)), some (.int (d)), some (.int (e))]) (st' := [.int (nI 10), .int (nI (S.T.length))]) ⟨dX10_addTransition_70, rfl⟩ rfl ?_
                    refine ev_iN_lt dX10_addTransition_72 (tgt := 85) (by decide) (by omega) (by omega) (fun q72 => ?_) (fun q72 => ?_)
                    · refine ev_blk (B := [(.aload_n 0, 1)]) (pe := 86) (ls' := [some (.ref (0)), some (.int (nI k1)), some (.int (nI k2)), some (.int (nI k3)), some (.int (d)), some (.int (e))]) (st' := [.ref (0)]) ⟨dX10_addTransition_85, rfl⟩ rfl ?_
                      refine ev_getf (v := .ref (1)) F_RX10_10 dX10_addTransition_86 hR.o rfl ?_
                      refine ev_blk (B := [(.iload_n 1, 1), (.iload_n 2, 1), (.iload_n 3, 1), (.iload 4, 2), (.iload 5, 2)]) (pe := 96) (ls' := [some (.ref (0)), some (.int (nI k1)), some (.int (nI k2)), some (.int (nI k3)), some (.int (d)), some (.int (e))]) (st' := [.int (e), .int (d), .int (nI k3), .int (nI k2), .int (nI k1), .ref (1)]) ⟨dX10_addTransition_89, dX10_addTransition_90, dX10_addTransition_91, dX10_addTransition_92, dX10_addTransition_94, rfl⟩ rfl ?_
                      have hd9 := inR_t (by omega) q42
                      have he9 := inR_t (by omega) q50
                      refine ev_cVn Y_X4_add L_RX10_102 dX10_addTransition_96 ⟨Nat.le_of_ble_eq_true rfl, Nat.le_of_ble_eq_true rfl, Nat.le_of_ble_eq_true rfl, Nat.le_of_ble_eq_true rfl, Nat.le_of_ble_eq_true rfl⟩ (hR.m).obj (as := [.int (nI k1), .int (nI k2), .int (nI k3), .int (d), .int (e)]) rfl rfl (c_X4_add hl 1 S.T hR.m (by omega) ((k1, k2, k3, if k3 = 0 then 0 else tN d, if k3 = 0 then 0 else tN e) : Tr) d e (fun z => by rw [tp3 z]; show d = nI (if k3 = 0 then 0 else tN d); rw [if_neg q34]; exact hd9.2) (fun z => by rw [tp4 z]; show e = nI (if k3 = 0 then 0 else tN e); rw [if_neg q34]; exact he9.2) ⟨hk1, hk2, hk3, (by show (if k3 = 0 then 0 else tN d) < 2; rw [if_neg q34]; exact hd9.1), (by show (if k3 = 0 then 0 else tN e) < 3; rw [if_neg q34]; exact he9.1)⟩) (fun M5 hL5 hB5 => ?_)
                      obtain ⟨D6a, D6f⟩ := hB5
                      refine ev_blk (B := [(.aload_n 0, 1)]) (pe := 100) (ls' := [some (.ref (0)), some (.int (nI k1)), some (.int (nI k2)), some (.int (nI k3)), some (.int (d)), some (.int (e))]) (st' := [.ref (0)]) ⟨dX10_addTransition_99, rfl⟩ rfl ?_
                      refine ev_getf (v := .ref (17)) F_RX10_49 dX10_addTransition_100 (hR.o.fr D6f (by omega)) rfl ?_
                      obtain ⟨cu, tr9, lo9, B9, co, la, N9, hA, hBs, hAN, hA8, hA9, hAf⟩ := (hR.a.fr D6f (by omega))
                      refine ev_cVn Y_X0_discard L_RX10_106 dX10_addTransition_103 ⟨Nat.le_of_ble_eq_true rfl, Nat.le_of_ble_eq_true rfl, Nat.le_of_ble_eq_true rfl, Nat.le_of_ble_eq_true rfl, Nat.le_of_ble_eq_true rfl⟩ hA.1 (as := []) rfl rfl (c_X0_discard hl 17 cu co la tr9 lo9 hA) (fun M7 hL7 hB7 => ?_)
                      obtain ⟨D8a, D8f⟩ := hB7
                      refine ev_blk (B := [(.aload_n 0, 1)]) (pe := 107) (ls' := [some (.ref (0)), some (.int (nI k1)), some (.int (nI k2)), some (.int (nI k3)), some (.int (d)), some (.int (e))]) (st' := [.ref (0)]) ⟨dX10_addTransition_106, rfl⟩ rfl ?_
                      refine ev_getf (v := .ref (1)) F_RX10_10 dX10_addTransition_107 ((hR.o.fr D6f (by omega)).fr D8f (by omega)) rfl ?_
                      refine ev_cVv Y_X4_count L_RX10_93 dX10_addTransition_110 ⟨Nat.le_of_ble_eq_true rfl, Nat.le_of_ble_eq_true rfl, Nat.le_of_ble_eq_true rfl, Nat.le_of_ble_eq_true rfl, Nat.le_of_ble_eq_true rfl⟩ ((D6a.fr D8f (by omega))).obj (as := []) rfl rfl (c_X4_count hl 1 ((S.T ++ [((k1, k2, k3, if k3 = 0 then 0 else tN d, if k3 = 0 then 0 else tN e) : Tr)])) (D6a.fr D8f (by omega))) ?_
                      rw [List.length_append, List.length_singleton]
                      refine ev_blk (B := [(.iconst 1, 1), (.isub, 1)]) (pe := 115) (ls' := [some (.ref (0)), some (.int (nI k1)), some (.int (nI k2)), some (.int (nI k3)), some (.int (d)), some (.int (e))]) (st' := [.int (nI ((S.T.length + 1) - 1))]) ⟨dX10_addTransition_113, dX10_addTransition_114, rfl⟩ (by show some (([some (.ref (0)), some (.int (nI k1)), some (.int (nI k2)), some (.int (nI k3)), some (.int (d)), some (.int (e))] : ev_L), ([.int ((nI (S.T.length + 1)) - (nI 1))] : List Value)) = _; rw [pk_sub (show 1 ≤ (S.T.length + 1) by omega)]) ?_
                      refine ev_iret dX10_addTransition_115 rfl (rfl) ⟨Nat.le_of_ble_eq_true rfl, Nat.le_of_ble_eq_true rfl⟩ ?_
                      have e9 : sAdd S (nI k1) (nI k2) (nI k3) d e = ((0, nI S.T.length), (St.mk (S.T ++ [(k1, k2, k3, if k3 = 0 then 0 else tN d, if k3 = 0 then 0 else tN e)]) S.x S.G S.H S.n S.t S.f S.tk S.T9 S.x9 S.G9)) := by simp [sAdd, jk1, tk1, jk2, tk2, jk3, tk3, (Nat.not_le.mpr q72), q4, q11, q20, q34, q42, q50, q72]
                      rw [e9]
                      exact ⟨rfl, ⟨((hR.o.fr D6f (by omega)).fr D8f (by omega)), (D6a.fr D8f (by omega)), ((hR.x.fr D6f (by omega)).fr D8f (by omega)), ((hR.g.fr D6f (by omega)).fr D8f (by omega)), ((hR.h.fr D6f (by omega)).fr D8f (by omega)), ((hR.k.fr D6f (by omega)).fr D8f (by omega)), ⟨false, tr9, lo9, B9, co, la, N9, D8a, hBs.fr D8f (by omega), hAN.fr D8f (by omega), RWk.fr hA8 D8f (by omega), RWk.fr hA9 D8f (by omega), fun z => nomatch z⟩, ((hR.l.fr D6f (by omega)).fr D8f (by omega)), ((hR.r.fr D6f (by omega)).fr D8f (by omega)), ((hR.w.fr D6f (by omega)).fr D8f (by omega)), ((hR.s.fr D6f (by omega)).fr D8f (by omega))⟩, ((D6f.to (by omega) (by omega)).tr (D8f.to (by omega) (by omega)))⟩
                    · refine ev_throw (cls := "java/lang/IllegalStateException") (text := "there are 10 transitions") (names := ev_nmR) (ic := 101) (ik := 97) rfl (by decide +kernel) (by decide +kernel) T_IllegalStateException (by decide +kernel) dX10_addTransition_75 dX10_addTransition_78 dX10_addTransition_79 dX10_addTransition_81 dX10_addTransition_84 ⟨Nat.le_of_ble_eq_true rfl, Nat.le_of_ble_eq_true rfl, Nat.le_of_ble_eq_true rfl, Nat.le_of_ble_eq_true rfl⟩ ?_
                      have e9 : sAdd S (nI k1) (nI k2) (nI k3) d e = ((2, 0), S) := by simp [sAdd, jk1, tk1, jk2, tk2, jk3, tk3, q4, q11, q20, q34, q42, q50, q72]
                      rw [e9]
                      exact ⟨rfl, ⟨hR.o, hR.m, hR.x, hR.g, hR.h, hR.k, hR.a, hR.l, hR.r, hR.w, hR.s⟩, Fr.rf⟩
                  · refine ev_throw (cls := "java/lang/IllegalArgumentException") (text := "no such channel or letter") (names := ev_nmR) (ic := 82) (ik := 78) rfl (by decide +kernel) (by decide +kernel) T_IllegalArgumentException (by decide +kernel) dX10_addTransition_53 dX10_addTransition_56 dX10_addTransition_57 dX10_addTransition_59 dX10_addTransition_62 ⟨Nat.le_of_ble_eq_true rfl, Nat.le_of_ble_eq_true rfl, Nat.le_of_ble_eq_true rfl, Nat.le_of_ble_eq_true rfl⟩ ?_
                    have e9 : sAdd S (nI k1) (nI k2) (nI k3) d e = ((1, 0), S) := by simp [sAdd, jk1, tk1, jk2, tk2, jk3, tk3, q4, q11, q20, q34, q42, q50]
                    rw [e9]
                    exact ⟨rfl, ⟨hR.o, hR.m, hR.x, hR.g, hR.h, hR.k, hR.a, hR.l, hR.r, hR.w, hR.s⟩, Fr.rf⟩
            · exact absurd q20 (by omega)
      · have ic9 := ic
        refine ev_body hl rfl (by decide +kernel) (Nat.le_of_ble_eq_true rfl) ?_
        show ev_ l m_X10_addTransition 0 0 0 [some (.ref (0)), some (.int (nI k1)), some (.int (nI k2)), some (.int (c)), some (.int (d)), some (.int (e))] [] M _
        refine ev_blk (B := [(.iload_n 1, 1)]) (pe := 1) (ls' := [some (.ref (0)), some (.int (nI k1)), some (.int (nI k2)), some (.int (c)), some (.int (d)), some (.int (e))]) (st' := [.int (nI k1)]) ⟨dX10_addTransition_0, rfl⟩ rfl ?_
        refine ev_cSv Y_X10_isState L_RX10_74 dX10_addTransition_1 ⟨Nat.le_of_ble_eq_true rfl, Nat.le_of_ble_eq_true rfl, Nat.le_of_ble_eq_true rfl, Nat.le_of_ble_eq_true rfl, Nat.le_of_ble_eq_true rfl⟩ (as := [.int (nI k1)]) rfl rfl (c_X10_isState hl (nI k1)) ?_
        refine ev_ifB_eq dX10_addTransition_4 (tgt := 23) (by decide) (fun q4 => ?_) (fun q4 => ?_)
        · exact absurd (jk1.symm.trans q4) (by decide)
        · refine ev_blk (B := [(.iload_n 2, 1)]) (pe := 8) (ls' := [some (.ref (0)), some (.int (nI k1)), some (.int (nI k2)), some (.int (c)), some (.int (d)), some (.int (e))]) (st' := [.int (nI k2)]) ⟨dX10_addTransition_7, rfl⟩ rfl ?_
          refine ev_cSv Y_X10_isState L_RX10_74 dX10_addTransition_8 ⟨Nat.le_of_ble_eq_true rfl, Nat.le_of_ble_eq_true rfl, Nat.le_of_ble_eq_true rfl, Nat.le_of_ble_eq_true rfl, Nat.le_of_ble_eq_true rfl⟩ (as := [.int (nI k2)]) rfl rfl (c_X10_isState hl (nI k2)) ?_
          refine ev_ifB_eq dX10_addTransition_11 (tgt := 23) (by decide) (fun q11 => ?_) (fun q11 => ?_)
          · exact absurd (jk2.symm.trans q11) (by decide)
          · refine ev_blk (B := [(.iload_n 3, 1)]) (pe := 15) (ls' := [some (.ref (0)), some (.int (nI k1)), some (.int (nI k2)), some (.int (c)), some (.int (d)), some (.int (e))]) (st' := [.int (c)]) ⟨dX10_addTransition_14, rfl⟩ rfl ?_
            refine ev_if_lt dX10_addTransition_15 (tgt := 23) (by decide) (fun q15 => ?_) (fun q15 => ?_)
            · refine ev_throw (cls := "java/lang/IllegalArgumentException") (text := "no such state or action") (names := ev_nmR) (ic := 82) (ik := 78) rfl (by decide +kernel) (by decide +kernel) T_IllegalArgumentException (by decide +kernel) dX10_addTransition_23 dX10_addTransition_26 dX10_addTransition_27 dX10_addTransition_29 dX10_addTransition_32 ⟨Nat.le_of_ble_eq_true rfl, Nat.le_of_ble_eq_true rfl, Nat.le_of_ble_eq_true rfl, Nat.le_of_ble_eq_true rfl⟩ ?_
              have e9 : sAdd S (nI k1) (nI k2) c d e = ((1, 0), S) := by simp [sAdd, jk1, tk1, jk2, tk2, ic, q4, q11, q15]
              rw [e9]
              exact ⟨rfl, ⟨hR.o, hR.m, hR.x, hR.g, hR.h, hR.k, hR.a, hR.l, hR.r, hR.w, hR.s⟩, Fr.rf⟩
            · refine ev_blk (B := [(.iload_n 3, 1), (.iconst 3, 1)]) (pe := 20) (ls' := [some (.ref (0)), some (.int (nI k1)), some (.int (nI k2)), some (.int (c)), some (.int (d)), some (.int (e))]) (st' := [.int (nI 3), .int (c)]) ⟨dX10_addTransition_18, dX10_addTransition_19, rfl⟩ rfl ?_
              refine ev_ic_lt dX10_addTransition_20 (tgt := 33) (by decide) (fun q20 => ?_) (fun q20 => ?_)
              · exact (inR_no ic q15 q20).elim
              · refine ev_throw (cls := "java/lang/IllegalArgumentException") (text := "no such state or action") (names := ev_nmR) (ic := 82) (ik := 78) rfl (by decide +kernel) (by decide +kernel) T_IllegalArgumentException (by decide +kernel) dX10_addTransition_23 dX10_addTransition_26 dX10_addTransition_27 dX10_addTransition_29 dX10_addTransition_32 ⟨Nat.le_of_ble_eq_true rfl, Nat.le_of_ble_eq_true rfl, Nat.le_of_ble_eq_true rfl, Nat.le_of_ble_eq_true rfl⟩ ?_
                have e9 : sAdd S (nI k1) (nI k2) c d e = ((1, 0), S) := by simp [sAdd, jk1, tk1, jk2, tk2, ic, q4, q11, q15, q20]
                rw [e9]
                exact ⟨rfl, ⟨hR.o, hR.m, hR.x, hR.g, hR.h, hR.k, hR.a, hR.l, hR.r, hR.w, hR.s⟩, Fr.rf⟩
    · have ib9 := ib
      refine ev_body hl rfl (by decide +kernel) (Nat.le_of_ble_eq_true rfl) ?_
      show ev_ l m_X10_addTransition 0 0 0 [some (.ref (0)), some (.int (nI k1)), some (.int (b)), some (.int (c)), some (.int (d)), some (.int (e))] [] M _
      refine ev_blk (B := [(.iload_n 1, 1)]) (pe := 1) (ls' := [some (.ref (0)), some (.int (nI k1)), some (.int (b)), some (.int (c)), some (.int (d)), some (.int (e))]) (st' := [.int (nI k1)]) ⟨dX10_addTransition_0, rfl⟩ rfl ?_
      refine ev_cSv Y_X10_isState L_RX10_74 dX10_addTransition_1 ⟨Nat.le_of_ble_eq_true rfl, Nat.le_of_ble_eq_true rfl, Nat.le_of_ble_eq_true rfl, Nat.le_of_ble_eq_true rfl, Nat.le_of_ble_eq_true rfl⟩ (as := [.int (nI k1)]) rfl rfl (c_X10_isState hl (nI k1)) ?_
      refine ev_ifB_eq dX10_addTransition_4 (tgt := 23) (by decide) (fun q4 => ?_) (fun q4 => ?_)
      · exact absurd (jk1.symm.trans q4) (by decide)
      · refine ev_blk (B := [(.iload_n 2, 1)]) (pe := 8) (ls' := [some (.ref (0)), some (.int (nI k1)), some (.int (b)), some (.int (c)), some (.int (d)), some (.int (e))]) (st' := [.int (b)]) ⟨dX10_addTransition_7, rfl⟩ rfl ?_
        refine ev_cSv Y_X10_isState L_RX10_74 dX10_addTransition_8 ⟨Nat.le_of_ble_eq_true rfl, Nat.le_of_ble_eq_true rfl, Nat.le_of_ble_eq_true rfl, Nat.le_of_ble_eq_true rfl, Nat.le_of_ble_eq_true rfl⟩ (as := [.int (b)]) rfl rfl (c_X10_isState hl b) ?_
        refine ev_ifB_eq dX10_addTransition_11 (tgt := 23) (by decide) (fun q11 => ?_) (fun q11 => ?_)
        · refine ev_throw (cls := "java/lang/IllegalArgumentException") (text := "no such state or action") (names := ev_nmR) (ic := 82) (ik := 78) rfl (by decide +kernel) (by decide +kernel) T_IllegalArgumentException (by decide +kernel) dX10_addTransition_23 dX10_addTransition_26 dX10_addTransition_27 dX10_addTransition_29 dX10_addTransition_32 ⟨Nat.le_of_ble_eq_true rfl, Nat.le_of_ble_eq_true rfl, Nat.le_of_ble_eq_true rfl, Nat.le_of_ble_eq_true rfl⟩ ?_
          have e9 : sAdd S (nI k1) b c d e = ((1, 0), S) := by simp [sAdd, jk1, tk1, ib, q4, q11]
          rw [e9]
          exact ⟨rfl, ⟨hR.o, hR.m, hR.x, hR.g, hR.h, hR.k, hR.a, hR.l, hR.r, hR.w, hR.s⟩, Fr.rf⟩
        · exact absurd (ib.symm.trans q11) (by decide)
  · have ia9 := ia
    refine ev_body hl rfl (by decide +kernel) (Nat.le_of_ble_eq_true rfl) ?_
    show ev_ l m_X10_addTransition 0 0 0 [some (.ref (0)), some (.int (a)), some (.int (b)), some (.int (c)), some (.int (d)), some (.int (e))] [] M _
    refine ev_blk (B := [(.iload_n 1, 1)]) (pe := 1) (ls' := [some (.ref (0)), some (.int (a)), some (.int (b)), some (.int (c)), some (.int (d)), some (.int (e))]) (st' := [.int (a)]) ⟨dX10_addTransition_0, rfl⟩ rfl ?_
    refine ev_cSv Y_X10_isState L_RX10_74 dX10_addTransition_1 ⟨Nat.le_of_ble_eq_true rfl, Nat.le_of_ble_eq_true rfl, Nat.le_of_ble_eq_true rfl, Nat.le_of_ble_eq_true rfl, Nat.le_of_ble_eq_true rfl⟩ (as := [.int (a)]) rfl rfl (c_X10_isState hl a) ?_
    refine ev_ifB_eq dX10_addTransition_4 (tgt := 23) (by decide) (fun q4 => ?_) (fun q4 => ?_)
    · refine ev_throw (cls := "java/lang/IllegalArgumentException") (text := "no such state or action") (names := ev_nmR) (ic := 82) (ik := 78) rfl (by decide +kernel) (by decide +kernel) T_IllegalArgumentException (by decide +kernel) dX10_addTransition_23 dX10_addTransition_26 dX10_addTransition_27 dX10_addTransition_29 dX10_addTransition_32 ⟨Nat.le_of_ble_eq_true rfl, Nat.le_of_ble_eq_true rfl, Nat.le_of_ble_eq_true rfl, Nat.le_of_ble_eq_true rfl⟩ ?_
      have e9 : sAdd S a b c d e = ((1, 0), S) := by simp [sAdd, ia, q4]
      rw [e9]
      exact ⟨rfl, ⟨hR.o, hR.m, hR.x, hR.g, hR.h, hR.k, hR.a, hR.l, hR.r, hR.w, hR.s⟩, Fr.rf⟩
    · exact absurd (ia.symm.trans q4) (by decide)

set_option maxHeartbeats 4000000 in
set_option maxRecDepth 100000 in
theorem c_X10_removeTransition {l : Launch} (hl : l.stackTraces = false) {M : ev_M} (S : St) (hS : okS S) (hR : RCl M S) (a : Int32) : ev_Mt l m_X10_removeTransition [.ref (0), .int (a)] M (fun r M1 => r = cA [eIB] (sRem S a).1 ∧ RCl M1 (sRem S a).2 ∧ Fr 0 104 M M1) := by
  have hTl : S.T.length ≤ 10 := hR.m.1
  have hGl : S.G.length ≤ 3 := hR.g.2.1
  rcases inR_c a S.T.length (by omega) with ⟨k, hk, rfl⟩ | ia
  · have jk : inR (nI k) S.T.length = true := inR_n hk (by omega)
    have tk : (nI k).toNatClampNeg = k := nI_clamp (by omega)
    refine ev_body hl rfl (by decide +kernel) (Nat.le_of_ble_eq_true rfl) ?_
    show ev_ l m_X10_removeTransition 0 0 0 [some (.ref (0)), some (.int (nI k))] [] M _
    refine ev_blk (B := [(.aload_n 0, 1), (.iload_n 1, 1)]) (pe := 2) (ls' := [some (.ref (0)), some (.int (nI k))]) (st' := [.int (nI k), .ref (0)]) ⟨dX10_removeTransition_0, dX10_removeTransition_1, rfl⟩ rfl ?_
    refine ev_cV0 Y_X10_requireTransition L_RX10_109 dX10_removeTransition_2 ⟨Nat.le_of_ble_eq_true rfl, Nat.le_of_ble_eq_true rfl, Nat.le_of_ble_eq_true rfl, Nat.le_of_ble_eq_true rfl, Nat.le_of_ble_eq_true rfl⟩ hR.o (as := [.int (nI k)]) rfl rfl (c_X10_reqTT hl S hR _ jk) ?_
    refine ev_blk (B := [(.aload_n 0, 1)]) (pe := 6) (ls' := [some (.ref (0)), some (.int (nI k))]) (st' := [.ref (0)]) ⟨dX10_removeTransition_5, rfl⟩ rfl ?_
    refine ev_getf (v := .ref (1)) F_RX10_10 dX10_removeTransition_6 hR.o rfl ?_
    refine ev_blk (B := [(.iload_n 1, 1)]) (pe := 10) (ls' := [some (.ref (0)), some (.int (nI k))]) (st' := [.int (nI k), .ref (1)]) ⟨dX10_removeTransition_9, rfl⟩ rfl ?_
    refine ev_cVn Y_X4_remove L_RX10_112 dX10_removeTransition_10 ⟨Nat.le_of_ble_eq_true rfl, Nat.le_of_ble_eq_true rfl, Nat.le_of_ble_eq_true rfl, Nat.le_of_ble_eq_true rfl, Nat.le_of_ble_eq_true rfl⟩ (hR.m).obj (as := [.int (nI k)]) rfl rfl (c_X4_remove hl 1 S.T hR.m k hk) (fun M1 hL1 hB1 => ?_)
    obtain ⟨D2a, D2f⟩ := hB1
    refine ev_blk (B := [(.aload_n 0, 1)]) (pe := 14) (ls' := [some (.ref (0)), some (.int (nI k))]) (st' := [.ref (0)]) ⟨dX10_removeTransition_13, rfl⟩ rfl ?_
    refine ev_getf (v := .ref (17)) F_RX10_49 dX10_removeTransition_14 (hR.o.fr D2f (by omega)) rfl ?_
    obtain ⟨cu, tr9, lo9, B9, co, la, N9, hA, hBs, hAN, hA8, hA9, hAf⟩ := (hR.a.fr D2f (by omega))
    refine ev_cVn Y_X0_discard L_RX10_106 dX10_removeTransition_17 ⟨Nat.le_of_ble_eq_true rfl, Nat.le_of_ble_eq_true rfl, Nat.le_of_ble_eq_true rfl, Nat.le_of_ble_eq_true rfl, Nat.le_of_ble_eq_true rfl⟩ hA.1 (as := []) rfl rfl (c_X0_discard hl 17 cu co la tr9 lo9 hA) (fun M3 hL3 hB3 => ?_)
    obtain ⟨D4a, D4f⟩ := hB3
    refine ev_blk (B := [(.aload_n 0, 1)]) (pe := 21) (ls' := [some (.ref (0)), some (.int (nI k))]) (st' := [.ref (0)]) ⟨dX10_removeTransition_20, rfl⟩ rfl ?_
    refine ev_getf (v := .ref (1)) F_RX10_10 dX10_removeTransition_21 ((hR.o.fr D2f (by omega)).fr D4f (by omega)) rfl ?_
    refine ev_cVv Y_X4_count L_RX10_93 dX10_removeTransition_24 ⟨Nat.le_of_ble_eq_true rfl, Nat.le_of_ble_eq_true rfl, Nat.le_of_ble_eq_true rfl, Nat.le_of_ble_eq_true rfl, Nat.le_of_ble_eq_true rfl⟩ ((D2a.fr D4f (by omega))).obj (as := []) rfl rfl (c_X4_count hl 1 ((S.T.eraseIdx k)) (D2a.fr D4f (by omega))) ?_
    rw [List.length_eraseIdx, if_pos hk]
    refine ev_iret dX10_removeTransition_27 rfl (rfl) ⟨Nat.le_of_ble_eq_true rfl, Nat.le_of_ble_eq_true rfl⟩ ?_
    have e9 : sRem S (nI k) = ((0, nI (S.T.length - 1)), (St.mk (S.T.eraseIdx k) S.x S.G S.H S.n S.t S.f S.tk S.T9 S.x9 S.G9)) := by simp [sRem, jk, tk]
    rw [e9]
    exact ⟨rfl, ⟨((hR.o.fr D2f (by omega)).fr D4f (by omega)), (D2a.fr D4f (by omega)), ((hR.x.fr D2f (by omega)).fr D4f (by omega)), ((hR.g.fr D2f (by omega)).fr D4f (by omega)), ((hR.h.fr D2f (by omega)).fr D4f (by omega)), ((hR.k.fr D2f (by omega)).fr D4f (by omega)), ⟨false, tr9, lo9, B9, co, la, N9, D4a, hBs.fr D4f (by omega), hAN.fr D4f (by omega), RWk.fr hA8 D4f (by omega), RWk.fr hA9 D4f (by omega), fun z => nomatch z⟩, ((hR.l.fr D2f (by omega)).fr D4f (by omega)), ((hR.r.fr D2f (by omega)).fr D4f (by omega)), ((hR.w.fr D2f (by omega)).fr D4f (by omega)), ((hR.s.fr D2f (by omega)).fr D4f (by omega))⟩, ((D2f.to (by omega) (by omega)).tr (D4f.to (by omega) (by omega)))⟩
  · have ia9 := ia
    refine ev_body hl rfl (by decide +kernel) (Nat.le_of_ble_eq_true rfl) ?_
    show ev_ l m_X10_removeTransition 0 0 0 [some (.ref (0)), some (.int (a))] [] M _
    refine ev_blk (B := [(.aload_n 0, 1), (.iload_n 1, 1)]) (pe := 2) (ls' := [some (.ref (0)), some (.int (a))]) (st' := [.int (a), .ref (0)]) ⟨dX10_removeTransition_0, dX10_removeTransition_1, rfl⟩ rfl ?_
    refine ev_cVx Y_X10_requireTransition L_RX10_109 dX10_removeTransition_2 ⟨Nat.le_of_ble_eq_true rfl, Nat.le_of_ble_eq_true rfl, Nat.le_of_ble_eq_true rfl, Nat.le_of_ble_eq_true rfl, Nat.le_of_ble_eq_true rfl⟩ hR.o (as := [.int (a)]) rfl rfl (c_X10_reqTF hl S hR _ ia) ?_
    refine ev_Th_out rfl ⟨Nat.le_of_ble_eq_true rfl, Nat.le_of_ble_eq_true rfl⟩ ?_
    have e9 : sRem S a = ((1, 0), S) := by simp [sRem, ia]
    rw [e9]
    exact ⟨rfl, ⟨hR.o, hR.m, hR.x, hR.g, hR.h, hR.k, hR.a, hR.l, hR.r, hR.w, hR.s⟩, Fr.rf⟩

set_option maxHeartbeats 4000000 in
set_option maxRecDepth 100000 in
theorem c_X10_transition {l : Launch} (hl : l.stackTraces = false) {M : ev_M} (S : St) (hS : okS S) (hR : RCl M S) (a : Int32) (b : Int32) : ev_Mt l m_X10_transition [.ref (0), .int (a), .int (b)] M (fun r M1 => r = cA [eIB, eIA] (sTra S a b) ∧ RCl M1 S ∧ Fr 0 104 M M1) := by
  have hTl : S.T.length ≤ 10 := hR.m.1
  have hGl : S.G.length ≤ 3 := hR.g.2.1
  rcases inR_c a S.T.length (by omega) with ⟨k, hk, rfl⟩ | ia
  · have jk : inR (nI k) S.T.length = true := inR_n hk (by omega)
    have tk : (nI k).toNatClampNeg = k := nI_clamp (by omega)
    rcases inR_c b 5 (by omega) with ⟨j, hj, rfl⟩ | ib
    · have jj : inR (nI j) 5 = true := inR_n hj (by omega)
      have tj : (nI j).toNatClampNeg = j := nI_clamp (by omega)
      refine ev_body hl rfl (by decide +kernel) (Nat.le_of_ble_eq_true rfl) ?_
      show ev_ l m_X10_transition 0 0 0 [some (.ref (0)), some (.int (nI k)), some (.int (nI j))] [] M _
      refine ev_blk (B := [(.aload_n 0, 1), (.iload_n 1, 1)]) (pe := 2) (ls' := [some (.ref (0)), some (.int (nI k)), some (.int (nI j))]) (st' := [.int (nI k), .ref (0)]) ⟨dX10_transition_0, dX10_transition_1, rfl⟩ rfl ?_
      refine ev_cV0 Y_X10_requireTransition L_RX10_109 dX10_transition_2 ⟨Nat.le_of_ble_eq_true rfl, Nat.le_of_ble_eq_true rfl, Nat.le_of_ble_eq_true rfl, Nat.le_of_ble_eq_true rfl, Nat.le_of_ble_eq_true rfl⟩ hR.o (as := [.int (nI k)]) rfl rfl (c_X10_reqTT hl S hR _ jk) ?_
      refine ev_blk (B := [(.iload_n 2, 1)]) (pe := 6) (ls' := [some (.ref (0)), some (.int (nI k)), some (.int (nI j))]) (st' := [.int (nI j)]) ⟨dX10_transition_5, rfl⟩ rfl ?_
      refine ev_fN_lt dX10_transition_6 (tgt := 14) (by decide) (by omega) ?_
      refine ev_blk (B := [(.iload_n 2, 1), (.iconst 5, 1)]) (pe := 11) (ls' := [some (.ref (0)), some (.int (nI k)), some (.int (nI j))]) (st' := [.int (nI 5), .int (nI j)]) ⟨dX10_transition_9, dX10_transition_10, rfl⟩ rfl ?_
      refine ev_iN_lt dX10_transition_11 (tgt := 24) (by decide) (by omega) (by omega) (fun q11 => ?_) (fun q11 => ?_)
      · refine ev_blk (B := [(.aload_n 0, 1)]) (pe := 25) (ls' := [some (.ref (0)), some (.int (nI k)), some (.int (nI j))]) (st' := [.ref (0)]) ⟨dX10_transition_24, rfl⟩ rfl ?_
        refine ev_getf (v := .ref (1)) F_RX10_10 dX10_transition_25 hR.o rfl ?_
        refine ev_blk (B := [(.iload_n 1, 1), (.iload_n 2, 1)]) (pe := 30) (ls' := [some (.ref (0)), some (.int (nI k)), some (.int (nI j))]) (st' := [.int (nI j), .int (nI k), .ref (1)]) ⟨dX10_transition_28, dX10_transition_29, rfl⟩ rfl ?_
        refine ev_cVv Y_X4_part L_RX10_117 dX10_transition_30 ⟨Nat.le_of_ble_eq_true rfl, Nat.le_of_ble_eq_true rfl, Nat.le_of_ble_eq_true rfl, Nat.le_of_ble_eq_true rfl, Nat.le_of_ble_eq_true rfl⟩ (hR.m).obj (as := [.int (nI k), .int (nI j)]) rfl rfl (c_X4_part hl 1 S.T hR.m k hk j (by omega)) ?_
        refine ev_iret dX10_transition_33 rfl (rfl) ⟨Nat.le_of_ble_eq_true rfl, Nat.le_of_ble_eq_true rfl⟩ ?_
        have e9 : sTra S (nI k) (nI j) = (0, tp (tg S.T k) j) := by simp [sTra, jk, tk, jj, tj, q11]
        rw [e9]
        exact ⟨rfl, ⟨hR.o, hR.m, hR.x, hR.g, hR.h, hR.k, hR.a, hR.l, hR.r, hR.w, hR.s⟩, Fr.rf⟩
      · exact absurd q11 (by omega)
    · have ib9 := ib
      refine ev_body hl rfl (by decide +kernel) (Nat.le_of_ble_eq_true rfl) ?_
      show ev_ l m_X10_transition 0 0 0 [some (.ref (0)), some (.int (nI k)), some (.int (b))] [] M _
      refine ev_blk (B := [(.aload_n 0, 1), (.iload_n 1, 1)]) (pe := 2) (ls' := [some (.ref (0)), some (.int (nI k)), some (.int (b))]) (st' := [.int (nI k), .ref (0)]) ⟨dX10_transition_0, dX10_transition_1, rfl⟩ rfl ?_
      refine ev_cV0 Y_X10_requireTransition L_RX10_109 dX10_transition_2 ⟨Nat.le_of_ble_eq_true rfl, Nat.le_of_ble_eq_true rfl, Nat.le_of_ble_eq_true rfl, Nat.le_of_ble_eq_true rfl, Nat.le_of_ble_eq_true rfl⟩ hR.o (as := [.int (nI k)]) rfl rfl (c_X10_reqTT hl S hR _ jk) ?_
      refine ev_blk (B := [(.iload_n 2, 1)]) (pe := 6) (ls' := [some (.ref (0)), some (.int (nI k)), some (.int (b))]) (st' := [.int (b)]) ⟨dX10_transition_5, rfl⟩ rfl ?_
      refine ev_if_lt dX10_transition_6 (tgt := 14) (by decide) (fun q6 => ?_) (fun q6 => ?_)
      · refine ev_throw (cls := "java/lang/IllegalArgumentException") (text := "no such part of a transition") (names := ev_nmR) (ic := 82) (ik := 78) rfl (by decide +kernel) (by decide +kernel) T_IllegalArgumentException (by decide +kernel) dX10_transition_14 dX10_transition_17 dX10_transition_18 dX10_transition_20 dX10_transition_23 ⟨Nat.le_of_ble_eq_true rfl, Nat.le_of_ble_eq_true rfl, Nat.le_of_ble_eq_true rfl, Nat.le_of_ble_eq_true rfl⟩ ?_
        have e9 : sTra S (nI k) b = (2, 0) := by simp [sTra, jk, tk, ib, q6]
        rw [e9]
        exact ⟨rfl, ⟨hR.o, hR.m, hR.x, hR.g, hR.h, hR.k, hR.a, hR.l, hR.r, hR.w, hR.s⟩, Fr.rf⟩
      · refine ev_blk (B := [(.iload_n 2, 1), (.iconst 5, 1)]) (pe := 11) (ls' := [some (.ref (0)), some (.int (nI k)), some (.int (b))]) (st' := [.int (nI 5), .int (b)]) ⟨dX10_transition_9, dX10_transition_10, rfl⟩ rfl ?_
        refine ev_ic_lt dX10_transition_11 (tgt := 24) (by decide) (fun q11 => ?_) (fun q11 => ?_)
        · exact (inR_no ib q6 q11).elim
        · refine ev_throw (cls := "java/lang/IllegalArgumentException") (text := "no such part of a transition") (names := ev_nmR) (ic := 82) (ik := 78) rfl (by decide +kernel) (by decide +kernel) T_IllegalArgumentException (by decide +kernel) dX10_transition_14 dX10_transition_17 dX10_transition_18 dX10_transition_20 dX10_transition_23 ⟨Nat.le_of_ble_eq_true rfl, Nat.le_of_ble_eq_true rfl, Nat.le_of_ble_eq_true rfl, Nat.le_of_ble_eq_true rfl⟩ ?_
          have e9 : sTra S (nI k) b = (2, 0) := by simp [sTra, jk, tk, ib, q6, q11]
          rw [e9]
          exact ⟨rfl, ⟨hR.o, hR.m, hR.x, hR.g, hR.h, hR.k, hR.a, hR.l, hR.r, hR.w, hR.s⟩, Fr.rf⟩
  · have ia9 := ia
    refine ev_body hl rfl (by decide +kernel) (Nat.le_of_ble_eq_true rfl) ?_
    show ev_ l m_X10_transition 0 0 0 [some (.ref (0)), some (.int (a)), some (.int (b))] [] M _
    refine ev_blk (B := [(.aload_n 0, 1), (.iload_n 1, 1)]) (pe := 2) (ls' := [some (.ref (0)), some (.int (a)), some (.int (b))]) (st' := [.int (a), .ref (0)]) ⟨dX10_transition_0, dX10_transition_1, rfl⟩ rfl ?_
    refine ev_cVx Y_X10_requireTransition L_RX10_109 dX10_transition_2 ⟨Nat.le_of_ble_eq_true rfl, Nat.le_of_ble_eq_true rfl, Nat.le_of_ble_eq_true rfl, Nat.le_of_ble_eq_true rfl, Nat.le_of_ble_eq_true rfl⟩ hR.o (as := [.int (a)]) rfl rfl (c_X10_reqTF hl S hR _ ia) ?_
    refine ev_Th_out rfl ⟨Nat.le_of_ble_eq_true rfl, Nat.le_of_ble_eq_true rfl⟩ ?_
    have e9 : sTra S a b = (1, 0) := by simp [sTra, ia]
    rw [e9]
    exact ⟨rfl, ⟨hR.o, hR.m, hR.x, hR.g, hR.h, hR.k, hR.a, hR.l, hR.r, hR.w, hR.s⟩, Fr.rf⟩

set_option maxHeartbeats 4000000 in
set_option maxRecDepth 100000 in
theorem c_X10_transitionCount {l : Launch} (hl : l.stackTraces = false) {M : ev_M} (S : St) (hS : okS S) (hR : RCl M S) : ev_Mt l m_X10_transitionCount [.ref (0)] M (fun r M1 => r = cA [] (sCnt S) ∧ RCl M1 S ∧ Fr 0 104 M M1) := by
  have hTl : S.T.length ≤ 10 := hR.m.1
  have hGl : S.G.length ≤ 3 := hR.g.2.1
  refine ev_body hl rfl (by decide +kernel) (Nat.le_of_ble_eq_true rfl) ?_
  show ev_ l m_X10_transitionCount 0 0 0 [some (.ref (0))] [] M _
  refine ev_blk (B := [(.aload_n 0, 1)]) (pe := 1) (ls' := [some (.ref (0))]) (st' := [.ref (0)]) ⟨dX10_transitionCount_0, rfl⟩ rfl ?_
  refine ev_getf (v := .ref (1)) F_RX10_10 dX10_transitionCount_1 hR.o rfl ?_
  refine ev_cVv Y_X4_count L_RX10_93 dX10_transitionCount_4 ⟨Nat.le_of_ble_eq_true rfl, Nat.le_of_ble_eq_true rfl, Nat.le_of_ble_eq_true rfl, Nat.le_of_ble_eq_true rfl, Nat.le_of_ble_eq_true rfl⟩ (hR.m).obj (as := []) rfl rfl (c_X4_count hl 1 S.T hR.m) ?_
  refine ev_iret dX10_transitionCount_7 rfl (rfl) ⟨Nat.le_of_ble_eq_true rfl, Nat.le_of_ble_eq_true rfl⟩ ?_
  have e9 : sCnt S = (0, nI S.T.length) := by simp [sCnt]
  rw [e9]
  exact ⟨rfl, ⟨hR.o, hR.m, hR.x, hR.g, hR.h, hR.k, hR.a, hR.l, hR.r, hR.w, hR.s⟩, Fr.rf⟩

