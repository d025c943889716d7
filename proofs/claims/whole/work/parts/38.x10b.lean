theorem mf_up {x : Cf} {t : Tr} (h : mf x t false = true) : mf x t true = true := by
  unfold mf at h ⊢
  cases hi : ix (cw x t.2.2.2.1) t.2.2.2.2 with
  | none => rw [hi] at h; exact h
  | some i =>
    rw [Bool.and_eq_true] at h ⊢
    exact ⟨h.1, by simp⟩
theorem len_eq {M M1 : ev_M} (hL : M.length ≤ M1.length) (h1 : 104 ≤ M.length) (hr : ∀ j, 104 ≤ j → M1[j]? = M[j]?) : M1.length = M.length := by
  have h2 := hr M.length h1
  rw [List.getElem?_eq_none (Nat.le_refl _)] at h2
  have := List.getElem?_eq_none_iff.mp h2
  omega
set_option maxHeartbeats 4000000 in
set_option maxRecDepth 100000 in
theorem c_X10_setState {l : Launch} (hl : l.stackTraces = false) {M : ev_M} (S : St) (hS : okS S) (hR : RCl M S) (a : Int32) : ev_Mt l m_X10_setState [.ref (0), .int (a)] M (fun r M1 => r = cA [eIA] (sSet S a).1 ∧ RCl M1 (sSet S a).2 ∧ Fr 0 104 M M1) := by
  have hTl : S.T.length ≤ 10 := hR.m.1
  have hGl : S.G.length ≤ 3 := hR.g.2.1
  rcases inR_c a 6 (by omega) with ⟨k, hk, rfl⟩ | ia
  · have jk : inR (nI k) 6 = true := inR_n hk (by omega)
    have tk : (nI k).toNatClampNeg = k := nI_clamp (by omega)
    refine ev_body hl rfl (by decide +kernel) (Nat.le_of_ble_eq_true rfl) ?_
    show ev_ l m_X10_setState 0 0 0 [some (.ref (0)), some (.int (nI k)), none] [] M _
    refine ev_blk (B := [(.iload_n 1, 1)]) (pe := 1) (ls' := [some (.ref (0)), some (.int (nI k)), none]) (st' := [.int (nI k)]) ⟨dX10_setState_0, rfl⟩ rfl ?_
    refine ev_cSv Y_X10_isState L_RX10_74 dX10_setState_1 ⟨Nat.le_of_ble_eq_true rfl, Nat.le_of_ble_eq_true rfl, Nat.le_of_ble_eq_true rfl, Nat.le_of_ble_eq_true rfl, Nat.le_of_ble_eq_true rfl⟩ (as := [.int (nI k)]) rfl rfl (c_X10_isState hl (nI k)) ?_
    refine ev_ifB_ne dX10_setState_4 (tgt := 17) (by decide) (fun q4 => ?_) (fun q4 => ?_)
    · refine ev_blk (B := [(.aload_n 0, 1)]) (pe := 18) (ls' := [some (.ref (0)), some (.int (nI k)), none]) (st' := [.ref (0)]) ⟨dX10_setState_17, rfl⟩ rfl ?_
      refine ev_getf (v := .ref (3)) F_RX10_19 dX10_setState_18 hR.o rfl ?_
      refine ev_getf (v := .int (nI (S.x.1))) F_RX10_123 dX10_setState_21 hR.x rfl ?_
      refine ev_blk (B := [(.istore_n 2, 1), (.aload_n 0, 1)]) (pe := 26) (ls' := [some (.ref (0)), some (.int (nI k)), some (.int (nI (S.x.1)))]) (st' := [.ref (0)]) ⟨dX10_setState_24, dX10_setState_25, rfl⟩ rfl ?_
      refine ev_getf (v := .ref (3)) F_RX10_19 dX10_setState_26 hR.o rfl ?_
      refine ev_blk (B := [(.iload_n 1, 1)]) (pe := 30) (ls' := [some (.ref (0)), some (.int (nI k)), some (.int (nI (S.x.1)))]) (st' := [.int (nI k), .ref (3)]) ⟨dX10_setState_29, rfl⟩ rfl ?_
      refine ev_put F_RX10_123 dX10_setState_30 hR.x (Nat.le_of_ble_eq_true rfl) (fun _ _ => ⟨rfl, rfl⟩) ?_
      refine ev_nm (M0 := M.set (3) (.inr (1, [.int (nI k), .long (e1 S.x.2.1), .long (e1 S.x.2.2)]))) (fun M1 eM1 => ?_)
      have f2 : M1[0]? = some (.inr (9, [.ref (1), .ref (3), .ref (4), .ref (8), .ref (15), .ref (17), .ref (77), .ref (87), .ref (96)])) := by rw [eM1, ev_sn (by omega)]; exact hR.o
      have f3 : M1[1]? = some (.inr (4, [.ref (1 + 1), .int (nI (S.T.length))])) := by rw [eM1, ev_sn (by omega)]; exact (hR.m).obj
      have f4 : M1[3]? = some (.inr (1, [.int (nI k), .long (e1 S.x.2.1), .long (e1 S.x.2.2)])) := by rw [eM1]; exact ev_sg hR.x
      have f5 : M1[4]? = some (.inr (2, [.ref (4 + 1), .ref (4 + 2), .ref (4 + 3), .int (nI (S.G.length))])) := by rw [eM1, ev_sn (by omega)]; exact (hR.g).obj
      have f6 : M1[8]? = some (.inr (8, [.ref (8 + 1), .ref (8 + 5), .ref (8 + 6)])) := by rw [eM1, ev_sn (by omega)]; exact (hR.h).1
      have f7 : M1[15]? = some (.inr (3, [.ref (15 + 1)])) := by rw [eM1, ev_sn (by omega)]; exact (hR.k).obj
      have f8 : M1[96]? = some (.inr (6, [.ref (96 + 1), .ref (96 + 3), .ref (96 + 4), .int (ev_b (S.tk))])) := by rw [eM1, ev_sn (by omega)]; exact (hR.s).1
      have P9f : Fr 3 4 M M1 := ⟨by rw [eM1]; simp only [List.length_set], fun j hj => by rw [eM1, ev_sn (by omega)]⟩
      have P9x : RF M1 3 (k, S.x.2) := f4
      refine ev_blk (B := [(.aload_n 0, 1)]) (pe := 34) (ls' := [some (.ref (0)), some (.int (nI k)), some (.int (nI (S.x.1)))]) (st' := [.ref (0)]) ⟨dX10_setState_33, rfl⟩ rfl ?_
      refine ev_getf (v := .ref (8)) F_RX10_35 dX10_setState_34 (hR.o.fr P9f (by omega)) rfl ?_
      refine ev_cVn Y_X8_forget L_RX10_127 dX10_setState_37 ⟨Nat.le_of_ble_eq_true rfl, Nat.le_of_ble_eq_true rfl, Nat.le_of_ble_eq_true rfl, Nat.le_of_ble_eq_true rfl, Nat.le_of_ble_eq_true rfl⟩ ((hR.h.fr P9f (by omega))).1 (as := []) rfl rfl (c_X8_forget hl 8 S.H (hR.h.fr P9f (by omega))) (fun M10 hL10 hB10 => ?_)
      obtain ⟨D11a, D11f⟩ := hB10
      refine ev_blk (B := [(.iload_n 2, 1)]) (pe := 41) (ls' := [some (.ref (0)), some (.int (nI k)), some (.int (nI (S.x.1)))]) (st' := [.int (nI (S.x.1))]) ⟨dX10_setState_40, rfl⟩ rfl ?_
      refine ev_iret dX10_setState_41 rfl (rfl) ⟨Nat.le_of_ble_eq_true rfl, Nat.le_of_ble_eq_true rfl⟩ ?_
      have e9 : sSet S (nI k) = ((0, nI S.x.1), (St.mk S.T ((k, S.x.2)) S.G ([]) S.n S.t S.f S.tk S.T9 S.x9 S.G9)) := by simp [sSet, jk, tk, q4]
      rw [e9]
      exact ⟨rfl, ⟨((hR.o.fr P9f (by omega)).fr D11f (by omega)), ((hR.m.fr P9f (by omega)).fr D11f (by omega)), (P9x.fr D11f (by omega)), ((hR.g.fr P9f (by omega)).fr D11f (by omega)), D11a, ((hR.k.fr P9f (by omega)).fr D11f (by omega)), ((hR.a.fr P9f (by omega)).fr D11f (by omega)), ((hR.l.fr P9f (by omega)).fr D11f (by omega)), ((hR.r.fr P9f (by omega)).fr D11f (by omega)), ((hR.w.fr P9f (by omega)).fr D11f (by omega)), ((hR.s.fr P9f (by omega)).fr D11f (by omega))⟩, ((P9f.to (by omega) (by omega)).tr (D11f.to (by omega) (by omega)))⟩
    · exact absurd (jk.symm.trans q4) (by decide)
  · have ia9 := ia
    refine ev_body hl rfl (by decide +kernel) (Nat.le_of_ble_eq_true rfl) ?_
    show ev_ l m_X10_setState 0 0 0 [some (.ref (0)), some (.int (a)), none] [] M _
    refine ev_blk (B := [(.iload_n 1, 1)]) (pe := 1) (ls' := [some (.ref (0)), some (.int (a)), none]) (st' := [.int (a)]) ⟨dX10_setState_0, rfl⟩ rfl ?_
    refine ev_cSv Y_X10_isState L_RX10_74 dX10_setState_1 ⟨Nat.le_of_ble_eq_true rfl, Nat.le_of_ble_eq_true rfl, Nat.le_of_ble_eq_true rfl, Nat.le_of_ble_eq_true rfl, Nat.le_of_ble_eq_true rfl⟩ (as := [.int (a)]) rfl rfl (c_X10_isState hl a) ?_
    refine ev_ifB_ne dX10_setState_4 (tgt := 17) (by decide) (fun q4 => ?_) (fun q4 => ?_)
    · exact absurd (ia.symm.trans q4) (by decide)
    · refine ev_throw (cls := "java/lang/IllegalArgumentException") (text := "no such state") (names := ev_nmR) (ic := 82) (ik := 78) rfl (by decide +kernel) (by decide +kernel) T_IllegalArgumentException (by decide +kernel) dX10_setState_7 dX10_setState_10 dX10_setState_11 dX10_setState_13 dX10_setState_16 ⟨Nat.le_of_ble_eq_true rfl, Nat.le_of_ble_eq_true rfl, Nat.le_of_ble_eq_true rfl, Nat.le_of_ble_eq_true rfl⟩ ?_
      have e9 : sSet S a = ((1, 0), S) := by simp [sSet, ia, q4]
      rw [e9]
      exact ⟨rfl, ⟨hR.o, hR.m, hR.x, hR.g, hR.h, hR.k, hR.a, hR.l, hR.r, hR.w, hR.s⟩, Fr.rf⟩

set_option maxHeartbeats 4000000 in
set_option maxRecDepth 100000 in
theorem c_X10_put {l : Launch} (hl : l.stackTraces = false) {M : ev_M} (S : St) (hS : okS S) (hR : RCl M S) (a : Int32) (b : Int32) : ev_Mt l m_X10_put [.ref (0), .int (a), .int (b)] M (fun r M1 => r = cA [eIB, eIA, eIS] (sPut S a b).1 ∧ RCl M1 (sPut S a b).2 ∧ Fr 0 104 M M1) := by
  have hTl : S.T.length ≤ 10 := hR.m.1
  have hGl : S.G.length ≤ 3 := hR.g.2.1
  rcases inR_c a 2 (by omega) with ⟨k, hk, rfl⟩ | ia
  · have jk : inR (nI k) 2 = true := inR_n hk (by omega)
    have tk : (nI k).toNatClampNeg = k := nI_clamp (by omega)
    have hcw := cw_ok hS.x k
    have hcw9 : (cw S.x k).length ≤ 10 := hcw.2
    rcases inR_c b 3 (by omega) with ⟨j, hj, rfl⟩ | ib
    · have jj : inR (nI j) 3 = true := inR_n hj (by omega)
      have tj : (nI j).toNatClampNeg = j := nI_clamp (by omega)
      refine ev_body hl rfl (by decide +kernel) (Nat.le_of_ble_eq_true rfl) ?_
      show ev_ l m_X10_put 0 0 0 [some (.ref (0)), some (.int (nI k)), some (.int (nI j)), none] [] M _
      refine ev_blk (B := [(.iload_n 1, 1)]) (pe := 1) (ls' := [some (.ref (0)), some (.int (nI k)), some (.int (nI j)), none]) (st' := [.int (nI k)]) ⟨dX10_put_0, rfl⟩ rfl ?_
      refine ev_cS0 Y_X10_requireChannel L_RX10_130 dX10_put_1 ⟨Nat.le_of_ble_eq_true rfl, Nat.le_of_ble_eq_true rfl, Nat.le_of_ble_eq_true rfl, Nat.le_of_ble_eq_true rfl, Nat.le_of_ble_eq_true rfl⟩ (as := [.int (nI k)]) rfl rfl (c_X10_requireChannelT hl _ jk) ?_
      refine ev_blk (B := [(.iload_n 2, 1)]) (pe := 5) (ls' := [some (.ref (0)), some (.int (nI k)), some (.int (nI j)), none]) (st' := [.int (nI j)]) ⟨dX10_put_4, rfl⟩ rfl ?_
      refine ev_cSv Y_X10_isLetter L_RX10_88 dX10_put_5 ⟨Nat.le_of_ble_eq_true rfl, Nat.le_of_ble_eq_true rfl, Nat.le_of_ble_eq_true rfl, Nat.le_of_ble_eq_true rfl, Nat.le_of_ble_eq_true rfl⟩ (as := [.int (nI j)]) rfl rfl (c_X10_isLetter hl (nI j)) ?_
      refine ev_ifB_ne dX10_put_8 (tgt := 21) (by decide) (fun q8 => ?_) (fun q8 => ?_)
      · refine ev_blk (B := [(.aload_n 0, 1)]) (pe := 22) (ls' := [some (.ref (0)), some (.int (nI k)), some (.int (nI j)), none]) (st' := [.ref (0)]) ⟨dX10_put_21, rfl⟩ rfl ?_
        refine ev_getf (v := .ref (3)) F_RX10_19 dX10_put_22 hR.o rfl ?_
        refine ev_blk (B := [(.iload_n 1, 1)]) (pe := 26) (ls' := [some (.ref (0)), some (.int (nI k)), some (.int (nI j)), none]) (st' := [.int (nI k), .ref (3)]) ⟨dX10_put_25, rfl⟩ rfl ?_
        refine ev_cVv Y_X1_word L_RX10_135 dX10_put_26 ⟨Nat.le_of_ble_eq_true rfl, Nat.le_of_ble_eq_true rfl, Nat.le_of_ble_eq_true rfl, Nat.le_of_ble_eq_true rfl, Nat.le_of_ble_eq_true rfl⟩ hR.x (as := [.int (nI k)]) rfl rfl (c_X1_word hl 3 S.x hR.x k hk) ?_
        refine ev_cSv Y_X9_size L_RX10_139 dX10_put_29 ⟨Nat.le_of_ble_eq_true rfl, Nat.le_of_ble_eq_true rfl, Nat.le_of_ble_eq_true rfl, Nat.le_of_ble_eq_true rfl, Nat.le_of_ble_eq_true rfl⟩ (as := [.long (e1 (cw S.x k))]) rfl rfl (c_X9_size hl ((cw S.x k)) hcw.1 (Nat.le_trans hcw.2 (by decide))) ?_
        refine ev_blk (B := [(.istore_n 3, 1), (.iload_n 3, 1), (.bipush 10, 2)]) (pe := 36) (ls' := [some (.ref (0)), some (.int (nI k)), some (.int (nI j)), some (.int (nI (((cw S.x k)).length)))]) (st' := [.int (nI 10), .int (nI (((cw S.x k)).length))]) ⟨dX10_put_32, dX10_put_33, dX10_put_34, rfl⟩ rfl ?_
        refine ev_iN_lt dX10_put_36 (tgt := 49) (by decide) (by omega) (by omega) (fun q36 => ?_) (fun q36 => ?_)
        · refine ev_blk (B := [(.aload_n 0, 1)]) (pe := 50) (ls' := [some (.ref (0)), some (.int (nI k)), some (.int (nI j)), some (.int (nI (((cw S.x k)).length)))]) (st' := [.ref (0)]) ⟨dX10_put_49, rfl⟩ rfl ?_
          refine ev_getf (v := .ref (3)) F_RX10_19 dX10_put_50 hR.o rfl ?_
          refine ev_blk (B := [(.iload_n 1, 1), (.aload_n 0, 1)]) (pe := 55) (ls' := [some (.ref (0)), some (.int (nI k)), some (.int (nI j)), some (.int (nI (((cw S.x k)).length)))]) (st' := [.ref (0), .int (nI k), .ref (3)]) ⟨dX10_put_53, dX10_put_54, rfl⟩ rfl ?_
          refine ev_getf (v := .ref (3)) F_RX10_19 dX10_put_55 hR.o rfl ?_
          refine ev_blk (B := [(.iload_n 1, 1)]) (pe := 59) (ls' := [some (.ref (0)), some (.int (nI k)), some (.int (nI j)), some (.int (nI (((cw S.x k)).length)))]) (st' := [.int (nI k), .ref (3), .int (nI k), .ref (3)]) ⟨dX10_put_58, rfl⟩ rfl ?_
          refine ev_cVv Y_X1_word L_RX10_135 dX10_put_59 ⟨Nat.le_of_ble_eq_true rfl, Nat.le_of_ble_eq_true rfl, Nat.le_of_ble_eq_true rfl, Nat.le_of_ble_eq_true rfl, Nat.le_of_ble_eq_true rfl⟩ hR.x (as := [.int (nI k)]) rfl rfl (c_X1_word hl 3 S.x hR.x k hk) ?_
          refine ev_blk (B := [(.iload_n 2, 1)]) (pe := 63) (ls' := [some (.ref (0)), some (.int (nI k)), some (.int (nI j)), some (.int (nI (((cw S.x k)).length)))]) (st' := [.int (nI j), .long (e1 (cw S.x k)), .int (nI k), .ref (3)]) ⟨dX10_put_62, rfl⟩ rfl ?_
          refine ev_cSv Y_X9_extend L_RX10_147 dX10_put_63 ⟨Nat.le_of_ble_eq_true rfl, Nat.le_of_ble_eq_true rfl, Nat.le_of_ble_eq_true rfl, Nat.le_of_ble_eq_true rfl, Nat.le_of_ble_eq_true rfl⟩ (as := [.long (e1 (cw S.x k)), .int (nI j)]) rfl rfl (c_X9_extend hl (cw S.x k) hcw.1 (Nat.le_trans hcw.2 (by decide)) j hj) ?_
          refine ev_cVn Y_X1_setWord L_RX10_151 dX10_put_66 ⟨Nat.le_of_ble_eq_true rfl, Nat.le_of_ble_eq_true rfl, Nat.le_of_ble_eq_true rfl, Nat.le_of_ble_eq_true rfl, Nat.le_of_ble_eq_true rfl⟩ hR.x (as := [.int (nI k), .long (e1 (cw S.x k ++ [j]))]) rfl rfl (c_X1_setWord hl 3 S.x hR.x k hk (cw S.x k ++ [j])) (fun M1 hL1 hB1 => ?_)
          obtain ⟨D2a, D2f⟩ := hB1
          refine ev_blk (B := [(.aload_n 0, 1)]) (pe := 70) (ls' := [some (.ref (0)), some (.int (nI k)), some (.int (nI j)), some (.int (nI (((cw S.x k)).length)))]) (st' := [.ref (0)]) ⟨dX10_put_69, rfl⟩ rfl ?_
          refine ev_getf (v := .ref (8)) F_RX10_35 dX10_put_70 (hR.o.fr D2f (by omega)) rfl ?_
          refine ev_cVn Y_X8_forget L_RX10_127 dX10_put_73 ⟨Nat.le_of_ble_eq_true rfl, Nat.le_of_ble_eq_true rfl, Nat.le_of_ble_eq_true rfl, Nat.le_of_ble_eq_true rfl, Nat.le_of_ble_eq_true rfl⟩ ((hR.h.fr D2f (by omega))).1 (as := []) rfl rfl (c_X8_forget hl 8 S.H (hR.h.fr D2f (by omega))) (fun M3 hL3 hB3 => ?_)
          obtain ⟨D4a, D4f⟩ := hB3
          refine ev_blk (B := [(.iload_n 3, 1), (.iconst 1, 1), (.iadd, 1)]) (pe := 79) (ls' := [some (.ref (0)), some (.int (nI k)), some (.int (nI j)), some (.int (nI (((cw S.x k)).length)))]) (st' := [.int (nI ((((cw S.x k)).length) + 1))]) ⟨dX10_put_76, dX10_put_77, dX10_put_78, rfl⟩ (by show some (([some (.ref (0)), some (.int (nI k)), some (.int (nI j)), some (.int (nI (((cw S.x k)).length)))] : ev_L), ([.int ((nI (((cw S.x k)).length)) + (nI 1))] : List Value)) = _; rw [nI_add (((cw S.x k)).length) 1]) ?_
          refine ev_iret dX10_put_79 rfl (rfl) ⟨Nat.le_of_ble_eq_true rfl, Nat.le_of_ble_eq_true rfl⟩ ?_
          have e9 : sPut S (nI k) (nI j) = ((0, nI ((cw S.x k).length + 1)), (St.mk S.T (cset S.x k (cw S.x k ++ [j])) S.G ([]) S.n S.t S.f S.tk S.T9 S.x9 S.G9)) := by simp [sPut, jk, tk, jj, tj, (Nat.not_le.mpr q36), q8, q36]
          rw [e9]
          exact ⟨rfl, ⟨((hR.o.fr D2f (by omega)).fr D4f (by omega)), ((hR.m.fr D2f (by omega)).fr D4f (by omega)), (D2a.fr D4f (by omega)), ((hR.g.fr D2f (by omega)).fr D4f (by omega)), D4a, ((hR.k.fr D2f (by omega)).fr D4f (by omega)), ((hR.a.fr D2f (by omega)).fr D4f (by omega)), ((hR.l.fr D2f (by omega)).fr D4f (by omega)), ((hR.r.fr D2f (by omega)).fr D4f (by omega)), ((hR.w.fr D2f (by omega)).fr D4f (by omega)), ((hR.s.fr D2f (by omega)).fr D4f (by omega))⟩, ((D2f.to (by omega) (by omega)).tr (D4f.to (by omega) (by omega)))⟩
        · refine ev_throw (cls := "java/lang/IllegalStateException") (text := "the channel has 10 letters") (names := ev_nmR) (ic := 101) (ik := 97) rfl (by decide +kernel) (by decide +kernel) T_IllegalStateException (by decide +kernel) dX10_put_39 dX10_put_42 dX10_put_43 dX10_put_45 dX10_put_48 ⟨Nat.le_of_ble_eq_true rfl, Nat.le_of_ble_eq_true rfl, Nat.le_of_ble_eq_true rfl, Nat.le_of_ble_eq_true rfl⟩ ?_
          have e9 : sPut S (nI k) (nI j) = ((3, 0), S) := by simp [sPut, jk, tk, jj, tj, q8, q36]
          rw [e9]
          exact ⟨rfl, ⟨hR.o, hR.m, hR.x, hR.g, hR.h, hR.k, hR.a, hR.l, hR.r, hR.w, hR.s⟩, Fr.rf⟩
      · exact absurd (jj.symm.trans q8) (by decide)
    · have ib9 := ib
      refine ev_body hl rfl (by decide +kernel) (Nat.le_of_ble_eq_true rfl) ?_
      show ev_ l m_X10_put 0 0 0 [some (.ref (0)), some (.int (nI k)), some (.int (b)), none] [] M _
      refine ev_blk (B := [(.iload_n 1, 1)]) (pe := 1) (ls' := [some (.ref (0)), some (.int (nI k)), some (.int (b)), none]) (st' := [.int (nI k)]) ⟨dX10_put_0, rfl⟩ rfl ?_
      refine ev_cS0 Y_X10_requireChannel L_RX10_130 dX10_put_1 ⟨Nat.le_of_ble_eq_true rfl, Nat.le_of_ble_eq_true rfl, Nat.le_of_ble_eq_true rfl, Nat.le_of_ble_eq_true rfl, Nat.le_of_ble_eq_true rfl⟩ (as := [.int (nI k)]) rfl rfl (c_X10_requireChannelT hl _ jk) ?_
      refine ev_blk (B := [(.iload_n 2, 1)]) (pe := 5) (ls' := [some (.ref (0)), some (.int (nI k)), some (.int (b)), none]) (st' := [.int (b)]) ⟨dX10_put_4, rfl⟩ rfl ?_
      refine ev_cSv Y_X10_isLetter L_RX10_88 dX10_put_5 ⟨Nat.le_of_ble_eq_true rfl, Nat.le_of_ble_eq_true rfl, Nat.le_of_ble_eq_true rfl, Nat.le_of_ble_eq_true rfl, Nat.le_of_ble_eq_true rfl⟩ (as := [.int (b)]) rfl rfl (c_X10_isLetter hl b) ?_
      refine ev_ifB_ne dX10_put_8 (tgt := 21) (by decide) (fun q8 => ?_) (fun q8 => ?_)
      · exact absurd (ib.symm.trans q8) (by decide)
      · refine ev_throw (cls := "java/lang/IllegalArgumentException") (text := "no such letter") (names := ev_nmR) (ic := 82) (ik := 78) rfl (by decide +kernel) (by decide +kernel) T_IllegalArgumentException (by decide +kernel) dX10_put_11 dX10_put_14 dX10_put_15 dX10_put_17 dX10_put_20 ⟨Nat.le_of_ble_eq_true rfl, Nat.le_of_ble_eq_true rfl, Nat.le_of_ble_eq_true rfl, Nat.le_of_ble_eq_true rfl⟩ ?_
        have e9 : sPut S (nI k) b = ((2, 0), S) := by simp [sPut, jk, tk, ib, q8]
        rw [e9]
        exact ⟨rfl, ⟨hR.o, hR.m, hR.x, hR.g, hR.h, hR.k, hR.a, hR.l, hR.r, hR.w, hR.s⟩, Fr.rf⟩
  · have ia9 := ia
    refine ev_body hl rfl (by decide +kernel) (Nat.le_of_ble_eq_true rfl) ?_
    show ev_ l m_X10_put 0 0 0 [some (.ref (0)), some (.int (a)), some (.int (b)), none] [] M _
    refine ev_blk (B := [(.iload_n 1, 1)]) (pe := 1) (ls' := [some (.ref (0)), some (.int (a)), some (.int (b)), none]) (st' := [.int (a)]) ⟨dX10_put_0, rfl⟩ rfl ?_
    refine ev_cSx Y_X10_requireChannel L_RX10_130 dX10_put_1 ⟨Nat.le_of_ble_eq_true rfl, Nat.le_of_ble_eq_true rfl, Nat.le_of_ble_eq_true rfl, Nat.le_of_ble_eq_true rfl, Nat.le_of_ble_eq_true rfl⟩ (as := [.int (a)]) rfl rfl (c_X10_requireChannelF hl _ ia) ?_
    refine ev_Th_out rfl ⟨Nat.le_of_ble_eq_true rfl, Nat.le_of_ble_eq_true rfl⟩ ?_
    have e9 : sPut S a b = ((1, 0), S) := by simp [sPut, ia]
    rw [e9]
    exact ⟨rfl, ⟨hR.o, hR.m, hR.x, hR.g, hR.h, hR.k, hR.a, hR.l, hR.r, hR.w, hR.s⟩, Fr.rf⟩

set_option maxHeartbeats 4000000 in
set_option maxRecDepth 100000 in
theorem c_X10_clear {l : Launch} (hl : l.stackTraces = false) {M : ev_M} (S : St) (hS : okS S) (hR : RCl M S) (a : Int32) : ev_Mt l m_X10_clear [.ref (0), .int (a)] M (fun r M1 => r = cA [eIB] (sClr S a).1 ∧ RCl M1 (sClr S a).2 ∧ Fr 0 104 M M1) := by
  have hTl : S.T.length ≤ 10 := hR.m.1
  have hGl : S.G.length ≤ 3 := hR.g.2.1
  rcases inR_c a 2 (by omega) with ⟨k, hk, rfl⟩ | ia
  · have jk : inR (nI k) 2 = true := inR_n hk (by omega)
    have tk : (nI k).toNatClampNeg = k := nI_clamp (by omega)
    have hcw := cw_ok hS.x k
    have hcw9 : (cw S.x k).length ≤ 10 := hcw.2
    refine ev_body hl rfl (by decide +kernel) (Nat.le_of_ble_eq_true rfl) ?_
    show ev_ l m_X10_clear 0 0 0 [some (.ref (0)), some (.int (nI k)), none] [] M _
    refine ev_blk (B := [(.iload_n 1, 1)]) (pe := 1) (ls' := [some (.ref (0)), some (.int (nI k)), none]) (st' := [.int (nI k)]) ⟨dX10_clear_0, rfl⟩ rfl ?_
    refine ev_cS0 Y_X10_requireChannel L_RX10_130 dX10_clear_1 ⟨Nat.le_of_ble_eq_true rfl, Nat.le_of_ble_eq_true rfl, Nat.le_of_ble_eq_true rfl, Nat.le_of_ble_eq_true rfl, Nat.le_of_ble_eq_true rfl⟩ (as := [.int (nI k)]) rfl rfl (c_X10_requireChannelT hl _ jk) ?_
    refine ev_blk (B := [(.aload_n 0, 1)]) (pe := 5) (ls' := [some (.ref (0)), some (.int (nI k)), none]) (st' := [.ref (0)]) ⟨dX10_clear_4, rfl⟩ rfl ?_
    refine ev_getf (v := .ref (3)) F_RX10_19 dX10_clear_5 hR.o rfl ?_
    refine ev_blk (B := [(.iload_n 1, 1)]) (pe := 9) (ls' := [some (.ref (0)), some (.int (nI k)), none]) (st' := [.int (nI k), .ref (3)]) ⟨dX10_clear_8, rfl⟩ rfl ?_
    refine ev_cVv Y_X1_word L_RX10_135 dX10_clear_9 ⟨Nat.le_of_ble_eq_true rfl, Nat.le_of_ble_eq_true rfl, Nat.le_of_ble_eq_true rfl, Nat.le_of_ble_eq_true rfl, Nat.le_of_ble_eq_true rfl⟩ hR.x (as := [.int (nI k)]) rfl rfl (c_X1_word hl 3 S.x hR.x k hk) ?_
    refine ev_cSv Y_X9_size L_RX10_139 dX10_clear_12 ⟨Nat.le_of_ble_eq_true rfl, Nat.le_of_ble_eq_true rfl, Nat.le_of_ble_eq_true rfl, Nat.le_of_ble_eq_true rfl, Nat.le_of_ble_eq_true rfl⟩ (as := [.long (e1 (cw S.x k))]) rfl rfl (c_X9_size hl ((cw S.x k)) hcw.1 (Nat.le_trans hcw.2 (by decide))) ?_
    refine ev_blk (B := [(.istore_n 2, 1), (.aload_n 0, 1)]) (pe := 17) (ls' := [some (.ref (0)), some (.int (nI k)), some (.int (nI (((cw S.x k)).length)))]) (st' := [.ref (0)]) ⟨dX10_clear_15, dX10_clear_16, rfl⟩ rfl ?_
    refine ev_getf (v := .ref (3)) F_RX10_19 dX10_clear_17 hR.o rfl ?_
    refine ev_blk (B := [(.iload_n 1, 1), (.lconst 1, 1)]) (pe := 22) (ls' := [some (.ref (0)), some (.int (nI k)), some (.int (nI (((cw S.x k)).length)))]) (st' := [.long (1), .int (nI k), .ref (3)]) ⟨dX10_clear_20, dX10_clear_21, rfl⟩ rfl ?_
    rw [show (1 : Int64) = e1 [] from by decide]
    refine ev_cVn Y_X1_setWord L_RX10_151 dX10_clear_22 ⟨Nat.le_of_ble_eq_true rfl, Nat.le_of_ble_eq_true rfl, Nat.le_of_ble_eq_true rfl, Nat.le_of_ble_eq_true rfl, Nat.le_of_ble_eq_true rfl⟩ hR.x (as := [.int (nI k), .long (e1 [])]) rfl rfl (c_X1_setWord hl 3 S.x hR.x k hk ([])) (fun M1 hL1 hB1 => ?_)
    obtain ⟨D2a, D2f⟩ := hB1
    refine ev_blk (B := [(.aload_n 0, 1)]) (pe := 26) (ls' := [some (.ref (0)), some (.int (nI k)), some (.int (nI (((cw S.x k)).length)))]) (st' := [.ref (0)]) ⟨dX10_clear_25, rfl⟩ rfl ?_
    refine ev_getf (v := .ref (8)) F_RX10_35 dX10_clear_26 (hR.o.fr D2f (by omega)) rfl ?_
    refine ev_cVn Y_X8_forget L_RX10_127 dX10_clear_29 ⟨Nat.le_of_ble_eq_true rfl, Nat.le_of_ble_eq_true rfl, Nat.le_of_ble_eq_true rfl, Nat.le_of_ble_eq_true rfl, Nat.le_of_ble_eq_true rfl⟩ ((hR.h.fr D2f (by omega))).1 (as := []) rfl rfl (c_X8_forget hl 8 S.H (hR.h.fr D2f (by omega))) (fun M3 hL3 hB3 => ?_)
    obtain ⟨D4a, D4f⟩ := hB3
    refine ev_blk (B := [(.iload_n 2, 1)]) (pe := 33) (ls' := [some (.ref (0)), some (.int (nI k)), some (.int (nI (((cw S.x k)).length)))]) (st' := [.int (nI (((cw S.x k)).length))]) ⟨dX10_clear_32, rfl⟩ rfl ?_
    refine ev_iret dX10_clear_33 rfl (rfl) ⟨Nat.le_of_ble_eq_true rfl, Nat.le_of_ble_eq_true rfl⟩ ?_
    have e9 : sClr S (nI k) = ((0, nI (cw S.x k).length), (St.mk S.T (cset S.x k []) S.G ([]) S.n S.t S.f S.tk S.T9 S.x9 S.G9)) := by simp [sClr, jk, tk]
    rw [e9]
    exact ⟨rfl, ⟨((hR.o.fr D2f (by omega)).fr D4f (by omega)), ((hR.m.fr D2f (by omega)).fr D4f (by omega)), (D2a.fr D4f (by omega)), ((hR.g.fr D2f (by omega)).fr D4f (by omega)), D4a, ((hR.k.fr D2f (by omega)).fr D4f (by omega)), ((hR.a.fr D2f (by omega)).fr D4f (by omega)), ((hR.l.fr D2f (by omega)).fr D4f (by omega)), ((hR.r.fr D2f (by omega)).fr D4f (by omega)), ((hR.w.fr D2f (by omega)).fr D4f (by omega)), ((hR.s.fr D2f (by omega)).fr D4f (by omega))⟩, ((D2f.to (by omega) (by omega)).tr (D4f.to (by omega) (by omega)))⟩
  · have ia9 := ia
    refine ev_body hl rfl (by decide +kernel) (Nat.le_of_ble_eq_true rfl) ?_
    show ev_ l m_X10_clear 0 0 0 [some (.ref (0)), some (.int (a)), none] [] M _
    refine ev_blk (B := [(.iload_n 1, 1)]) (pe := 1) (ls' := [some (.ref (0)), some (.int (a)), none]) (st' := [.int (a)]) ⟨dX10_clear_0, rfl⟩ rfl ?_
    refine ev_cSx Y_X10_requireChannel L_RX10_130 dX10_clear_1 ⟨Nat.le_of_ble_eq_true rfl, Nat.le_of_ble_eq_true rfl, Nat.le_of_ble_eq_true rfl, Nat.le_of_ble_eq_true rfl, Nat.le_of_ble_eq_true rfl⟩ (as := [.int (a)]) rfl rfl (c_X10_requireChannelF hl _ ia) ?_
    refine ev_Th_out rfl ⟨Nat.le_of_ble_eq_true rfl, Nat.le_of_ble_eq_true rfl⟩ ?_
    have e9 : sClr S a = ((1, 0), S) := by simp [sClr, ia]
    rw [e9]
    exact ⟨rfl, ⟨hR.o, hR.m, hR.x, hR.g, hR.h, hR.k, hR.a, hR.l, hR.r, hR.w, hR.s⟩, Fr.rf⟩

set_option maxHeartbeats 4000000 in
set_option maxRecDepth 100000 in
theorem c_X10_state {l : Launch} (hl : l.stackTraces = false) {M : ev_M} (S : St) (hS : okS S) (hR : RCl M S) : ev_Mt l m_X10_state [.ref (0)] M (fun r M1 => r = cA [] (sSta S) ∧ RCl M1 S ∧ Fr 0 104 M M1) := by
  have hTl : S.T.length ≤ 10 := hR.m.1
  have hGl : S.G.length ≤ 3 := hR.g.2.1
  refine ev_body hl rfl (by decide +kernel) (Nat.le_of_ble_eq_true rfl) ?_
  show ev_ l m_X10_state 0 0 0 [some (.ref (0))] [] M _
  refine ev_blk (B := [(.aload_n 0, 1)]) (pe := 1) (ls' := [some (.ref (0))]) (st' := [.ref (0)]) ⟨dX10_state_0, rfl⟩ rfl ?_
  refine ev_getf (v := .ref (3)) F_RX10_19 dX10_state_1 hR.o rfl ?_
  refine ev_getf (v := .int (nI (S.x.1))) F_RX10_123 dX10_state_4 hR.x rfl ?_
  refine ev_iret dX10_state_7 rfl (rfl) ⟨Nat.le_of_ble_eq_true rfl, Nat.le_of_ble_eq_true rfl⟩ ?_
  have e9 : sSta S = (0, nI S.x.1) := by simp [sSta]
  rw [e9]
  exact ⟨rfl, ⟨hR.o, hR.m, hR.x, hR.g, hR.h, hR.k, hR.a, hR.l, hR.r, hR.w, hR.s⟩, Fr.rf⟩

set_option maxHeartbeats 4000000 in
set_option maxRecDepth 100000 in
theorem c_X10_length {l : Launch} (hl : l.stackTraces = false) {M : ev_M} (S : St) (hS : okS S) (hR : RCl M S) (a : Int32) : ev_Mt l m_X10_length [.ref (0), .int (a)] M (fun r M1 => r = cA [eIB] (sLen S a) ∧ RCl M1 S ∧ Fr 0 104 M M1) := by
  have hTl : S.T.length ≤ 10 := hR.m.1
  have hGl : S.G.length ≤ 3 := hR.g.2.1
  rcases inR_c a 2 (by omega) with ⟨k, hk, rfl⟩ | ia
  · have jk : inR (nI k) 2 = true := inR_n hk (by omega)
    have tk : (nI k).toNatClampNeg = k := nI_clamp (by omega)
    have hcw := cw_ok hS.x k
    have hcw9 : (cw S.x k).length ≤ 10 := hcw.2
    refine ev_body hl rfl (by decide +kernel) (Nat.le_of_ble_eq_true rfl) ?_
    show ev_ l m_X10_length 0 0 0 [some (.ref (0)), some (.int (nI k))] [] M _
    refine ev_blk (B := [(.iload_n 1, 1)]) (pe := 1) (ls' := [some (.ref (0)), some (.int (nI k))]) (st' := [.int (nI k)]) ⟨dX10_length_0, rfl⟩ rfl ?_
    refine ev_cS0 Y_X10_requireChannel L_RX10_130 dX10_length_1 ⟨Nat.le_of_ble_eq_true rfl, Nat.le_of_ble_eq_true rfl, Nat.le_of_ble_eq_true rfl, Nat.le_of_ble_eq_true rfl, Nat.le_of_ble_eq_true rfl⟩ (as := [.int (nI k)]) rfl rfl (c_X10_requireChannelT hl _ jk) ?_
    refine ev_blk (B := [(.aload_n 0, 1)]) (pe := 5) (ls' := [some (.ref (0)), some (.int (nI k))]) (st' := [.ref (0)]) ⟨dX10_length_4, rfl⟩ rfl ?_
    refine ev_getf (v := .ref (3)) F_RX10_19 dX10_length_5 hR.o rfl ?_
    refine ev_blk (B := [(.iload_n 1, 1)]) (pe := 9) (ls' := [some (.ref (0)), some (.int (nI k))]) (st' := [.int (nI k), .ref (3)]) ⟨dX10_length_8, rfl⟩ rfl ?_
    refine ev_cVv Y_X1_word L_RX10_135 dX10_length_9 ⟨Nat.le_of_ble_eq_true rfl, Nat.le_of_ble_eq_true rfl, Nat.le_of_ble_eq_true rfl, Nat.le_of_ble_eq_true rfl, Nat.le_of_ble_eq_true rfl⟩ hR.x (as := [.int (nI k)]) rfl rfl (c_X1_word hl 3 S.x hR.x k hk) ?_
    refine ev_cSv Y_X9_size L_RX10_139 dX10_length_12 ⟨Nat.le_of_ble_eq_true rfl, Nat.le_of_ble_eq_true rfl, Nat.le_of_ble_eq_true rfl, Nat.le_of_ble_eq_true rfl, Nat.le_of_ble_eq_true rfl⟩ (as := [.long (e1 (cw S.x k))]) rfl rfl (c_X9_size hl ((cw S.x k)) hcw.1 (Nat.le_trans hcw.2 (by decide))) ?_
    refine ev_iret dX10_length_15 rfl (rfl) ⟨Nat.le_of_ble_eq_true rfl, Nat.le_of_ble_eq_true rfl⟩ ?_
    have e9 : sLen S (nI k) = (0, nI (cw S.x k).length) := by simp [sLen, jk, tk]
    rw [e9]
    exact ⟨rfl, ⟨hR.o, hR.m, hR.x, hR.g, hR.h, hR.k, hR.a, hR.l, hR.r, hR.w, hR.s⟩, Fr.rf⟩
  · have ia9 := ia
    refine ev_body hl rfl (by decide +kernel) (Nat.le_of_ble_eq_true rfl) ?_
    show ev_ l m_X10_length 0 0 0 [some (.ref (0)), some (.int (a))] [] M _
    refine ev_blk (B := [(.iload_n 1, 1)]) (pe := 1) (ls' := [some (.ref (0)), some (.int (a))]) (st' := [.int (a)]) ⟨dX10_length_0, rfl⟩ rfl ?_
    refine ev_cSx Y_X10_requireChannel L_RX10_130 dX10_length_1 ⟨Nat.le_of_ble_eq_true rfl, Nat.le_of_ble_eq_true rfl, Nat.le_of_ble_eq_true rfl, Nat.le_of_ble_eq_true rfl, Nat.le_of_ble_eq_true rfl⟩ (as := [.int (a)]) rfl rfl (c_X10_requireChannelF hl _ ia) ?_
    refine ev_Th_out rfl ⟨Nat.le_of_ble_eq_true rfl, Nat.le_of_ble_eq_true rfl⟩ ?_
    have e9 : sLen S a = (1, 0) := by simp [sLen, ia]
    rw [e9]
    exact ⟨rfl, ⟨hR.o, hR.m, hR.x, hR.g, hR.h, hR.k, hR.a, hR.l, hR.r, hR.w, hR.s⟩, Fr.rf⟩

set_option maxHeartbeats 4000000 in
set_option maxRecDepth 100000 in
theorem c_X10_reqLT {l : Launch} (hl : l.stackTraces = false) {M : ev_M} (S : St) (hS : okS S) (hR : RCl M S) (k : Nat) (hk : k < 2) (j : Nat) (hj : j < (cw S.x k).length) : ev_Mt l m_X10_requireLetter [.ref (0), .int (nI k), .int (nI j)] M (ev_q (.inl none) M) := by
  have hcw := cw_ok hS.x k
  have hcw9 : (cw S.x k).length ≤ 10 := hcw.2
  refine ev_body hl rfl (by decide +kernel) (Nat.le_of_ble_eq_true rfl) ?_
  show ev_ l m_X10_requireLetter 0 0 0 [some (.ref (0)), some (.int (nI k)), some (.int (nI j))] [] M _
  refine ev_blk (B := [(.iload_n 2, 1)]) (pe := 1) (ls' := [some (.ref (0)), some (.int (nI k)), some (.int (nI j))]) (st' := [.int (nI j)]) ⟨dX10_requireLetter_0, rfl⟩ rfl ?_
  refine ev_fN_lt dX10_requireLetter_1 (tgt := 19) (by decide) (by omega) ?_
  refine ev_blk (B := [(.iload_n 2, 1), (.aload_n 0, 1)]) (pe := 6) (ls' := [some (.ref (0)), some (.int (nI k)), some (.int (nI j))]) (st' := [.ref (0), .int (nI j)]) ⟨dX10_requireLetter_4, dX10_requireLetter_5, rfl⟩ rfl ?_
  refine ev_getf (v := .ref (3)) F_RX10_19 dX10_requireLetter_6 hR.o rfl ?_
  refine ev_blk (B := [(.iload_n 1, 1)]) (pe := 10) (ls' := [some (.ref (0)), some (.int (nI k)), some (.int (nI j))]) (st' := [.int (nI k), .ref (3), .int (nI j)]) ⟨dX10_requireLetter_9, rfl⟩ rfl ?_
  refine ev_cVv Y_X1_word L_RX10_135 dX10_requireLetter_10 ⟨Nat.le_of_ble_eq_true rfl, Nat.le_of_ble_eq_true rfl, Nat.le_of_ble_eq_true rfl, Nat.le_of_ble_eq_true rfl, Nat.le_of_ble_eq_true rfl⟩ hR.x (as := [.int (nI k)]) rfl rfl (c_X1_word hl 3 S.x hR.x k hk) ?_
  refine ev_cSv Y_X9_size L_RX10_139 dX10_requireLetter_13 ⟨Nat.le_of_ble_eq_true rfl, Nat.le_of_ble_eq_true rfl, Nat.le_of_ble_eq_true rfl, Nat.le_of_ble_eq_true rfl, Nat.le_of_ble_eq_true rfl⟩ (as := [.long (e1 (cw S.x k))]) rfl rfl (c_X9_size hl ((cw S.x k)) hcw.1 (Nat.le_trans hcw.2 (by decide))) ?_
  refine ev_iN_lt dX10_requireLetter_16 (tgt := 29) (by decide) (by omega) (by omega) (fun q16 => ?_) (fun q16 => ?_)
  · refine ev_vret dX10_requireLetter_29 rfl ⟨Nat.le_of_ble_eq_true rfl, Nat.le_of_ble_eq_true rfl⟩ ?_
    exact ⟨rfl, rfl⟩
  · exact absurd q16 (by omega)

set_option maxHeartbeats 4000000 in
set_option maxRecDepth 100000 in
theorem c_X10_reqLF {l : Launch} (hl : l.stackTraces = false) {M : ev_M} (S : St) (hS : okS S) (hR : RCl M S) (k : Nat) (hk : k < 2) (b : Int32) (hb : inR b (cw S.x k).length = false) : ev_Mt l m_X10_requireLetter [.ref (0), .int (nI k), .int (b)] M (ev_q (.inr eNS) M) := by
  have hcw := cw_ok hS.x k
  have hcw9 : (cw S.x k).length ≤ 10 := hcw.2
  refine ev_body hl rfl (by decide +kernel) (Nat.le_of_ble_eq_true rfl) ?_
  show ev_ l m_X10_requireLetter 0 0 0 [some (.ref (0)), some (.int (nI k)), some (.int (b))] [] M _
  refine ev_blk (B := [(.iload_n 2, 1)]) (pe := 1) (ls' := [some (.ref (0)), some (.int (nI k)), some (.int (b))]) (st' := [.int (b)]) ⟨dX10_requireLetter_0, rfl⟩ rfl ?_
  refine ev_if_lt dX10_requireLetter_1 (tgt := 19) (by decide) (fun q1 => ?_) (fun q1 => ?_)
  · refine ev_nse (cls := "java/util/NoSuchElementException") (text := "no such letter") (Y1 := "java/lang/RuntimeException") (r := ["java/lang/Exception"]) (ic := 351) (ik := 349) rfl (by decide +kernel) (by decide +kernel) (by decide +kernel) T_NoSuchElementException (by decide +kernel) dX10_requireLetter_19 dX10_requireLetter_22 dX10_requireLetter_23 dX10_requireLetter_25 dX10_requireLetter_28 ⟨Nat.le_of_ble_eq_true rfl, Nat.le_of_ble_eq_true rfl, Nat.le_of_ble_eq_true rfl, Nat.le_of_ble_eq_true rfl⟩ ?_
    exact ⟨rfl, rfl⟩
  · refine ev_blk (B := [(.iload_n 2, 1), (.aload_n 0, 1)]) (pe := 6) (ls' := [some (.ref (0)), some (.int (nI k)), some (.int (b))]) (st' := [.ref (0), .int (b)]) ⟨dX10_requireLetter_4, dX10_requireLetter_5, rfl⟩ rfl ?_
    refine ev_getf (v := .ref (3)) F_RX10_19 dX10_requireLetter_6 hR.o rfl ?_
    refine ev_blk (B := [(.iload_n 1, 1)]) (pe := 10) (ls' := [some (.ref (0)), some (.int (nI k)), some (.int (b))]) (st' := [.int (nI k), .ref (3), .int (b)]) ⟨dX10_requireLetter_9, rfl⟩ rfl ?_
    refine ev_cVv Y_X1_word L_RX10_135 dX10_requireLetter_10 ⟨Nat.le_of_ble_eq_true rfl, Nat.le_of_ble_eq_true rfl, Nat.le_of_ble_eq_true rfl, Nat.le_of_ble_eq_true rfl, Nat.le_of_ble_eq_true rfl⟩ hR.x (as := [.int (nI k)]) rfl rfl (c_X1_word hl 3 S.x hR.x k hk) ?_
    refine ev_cSv Y_X9_size L_RX10_139 dX10_requireLetter_13 ⟨Nat.le_of_ble_eq_true rfl, Nat.le_of_ble_eq_true rfl, Nat.le_of_ble_eq_true rfl, Nat.le_of_ble_eq_true rfl, Nat.le_of_ble_eq_true rfl⟩ (as := [.long (e1 (cw S.x k))]) rfl rfl (c_X9_size hl ((cw S.x k)) hcw.1 (Nat.le_trans hcw.2 (by decide))) ?_
    refine ev_ic_lt dX10_requireLetter_16 (tgt := 29) (by decide) (fun q16 => ?_) (fun q16 => ?_)
    · exact (inR_no hb q1 q16).elim
    · refine ev_nse (cls := "java/util/NoSuchElementException") (text := "no such letter") (Y1 := "java/lang/RuntimeException") (r := ["java/lang/Exception"]) (ic := 351) (ik := 349) rfl (by decide +kernel) (by decide +kernel) (by decide +kernel) T_NoSuchElementException (by decide +kernel) dX10_requireLetter_19 dX10_requireLetter_22 dX10_requireLetter_23 dX10_requireLetter_25 dX10_requireLetter_28 ⟨Nat.le_of_ble_eq_true rfl, Nat.le_of_ble_eq_true rfl, Nat.le_of_ble_eq_true rfl, Nat.le_of_ble_eq_true rfl⟩ ?_
      exact ⟨rfl, rfl⟩

set_option maxHeartbeats 4000000 in
set_option maxRecDepth 100000 in
theorem c_X10_letter {l : Launch} (hl : l.stackTraces = false) {M : ev_M} (S : St) (hS : okS S) (hR : RCl M S) (a : Int32) (b : Int32) : ev_Mt l m_X10_letter [.ref (0), .int (a), .int (b)] M (fun r M1 => r = cA [eIB, eNS] (sLet S a b) ∧ RCl M1 S ∧ Fr 0 104 M M1) := by
  have hTl : S.T.length ≤ 10 := hR.m.1
  have hGl : S.G.length ≤ 3 := hR.g.2.1
  rcases inR_c a 2 (by omega) with ⟨k, hk, rfl⟩ | ia
  · have jk : inR (nI k) 2 = true := inR_n hk (by omega)
    have tk : (nI k).toNatClampNeg = k := nI_clamp (by omega)
    have hcw := cw_ok hS.x k
    have hcw9 : (cw S.x k).length ≤ 10 := hcw.2
    rcases inR_c b ((cw S.x k).length) (by omega) with ⟨j, hj, rfl⟩ | ib
    · have jj : inR (nI j) ((cw S.x k).length) = true := inR_n hj (by omega)
      have tj : (nI j).toNatClampNeg = j := nI_clamp (by omega)
      refine ev_body hl rfl (by decide +kernel) (Nat.le_of_ble_eq_true rfl) ?_
      show ev_ l m_X10_letter 0 0 0 [some (.ref (0)), some (.int (nI k)), some (.int (nI j))] [] M _
      refine ev_blk (B := [(.iload_n 1, 1)]) (pe := 1) (ls' := [some (.ref (0)), some (.int (nI k)), some (.int (nI j))]) (st' := [.int (nI k)]) ⟨dX10_letter_0, rfl⟩ rfl ?_
      refine ev_cS0 Y_X10_requireChannel L_RX10_130 dX10_letter_1 ⟨Nat.le_of_ble_eq_true rfl, Nat.le_of_ble_eq_true rfl, Nat.le_of_ble_eq_true rfl, Nat.le_of_ble_eq_true rfl, Nat.le_of_ble_eq_true rfl⟩ (as := [.int (nI k)]) rfl rfl (c_X10_requireChannelT hl _ jk) ?_
      refine ev_blk (B := [(.aload_n 0, 1), (.iload_n 1, 1), (.iload_n 2, 1)]) (pe := 7) (ls' := [some (.ref (0)), some (.int (nI k)), some (.int (nI j))]) (st' := [.int (nI j), .int (nI k), .ref (0)]) ⟨dX10_letter_4, dX10_letter_5, dX10_letter_6, rfl⟩ rfl ?_
      refine ev_cV0 Y_X10_requireLetter L_RX10_155 dX10_letter_7 ⟨Nat.le_of_ble_eq_true rfl, Nat.le_of_ble_eq_true rfl, Nat.le_of_ble_eq_true rfl, Nat.le_of_ble_eq_true rfl, Nat.le_of_ble_eq_true rfl⟩ hR.o (as := [.int (nI k), .int (nI j)]) rfl rfl (c_X10_reqLT hl S hS hR k hk j hj) ?_
      refine ev_blk (B := [(.aload_n 0, 1)]) (pe := 11) (ls' := [some (.ref (0)), some (.int (nI k)), some (.int (nI j))]) (st' := [.ref (0)]) ⟨dX10_letter_10, rfl⟩ rfl ?_
      refine ev_getf (v := .ref (3)) F_RX10_19 dX10_letter_11 hR.o rfl ?_
      refine ev_blk (B := [(.iload_n 1, 1)]) (pe := 15) (ls' := [some (.ref (0)), some (.int (nI k)), some (.int (nI j))]) (st' := [.int (nI k), .ref (3)]) ⟨dX10_letter_14, rfl⟩ rfl ?_
      refine ev_cVv Y_X1_word L_RX10_135 dX10_letter_15 ⟨Nat.le_of_ble_eq_true rfl, Nat.le_of_ble_eq_true rfl, Nat.le_of_ble_eq_true rfl, Nat.le_of_ble_eq_true rfl, Nat.le_of_ble_eq_true rfl⟩ hR.x (as := [.int (nI k)]) rfl rfl (c_X1_word hl 3 S.x hR.x k hk) ?_
      refine ev_blk (B := [(.iload_n 2, 1)]) (pe := 19) (ls' := [some (.ref (0)), some (.int (nI k)), some (.int (nI j))]) (st' := [.int (nI j), .long (e1 (cw S.x k))]) ⟨dX10_letter_18, rfl⟩ rfl ?_
      refine ev_cSv Y_X9_at L_RX10_159 dX10_letter_19 ⟨Nat.le_of_ble_eq_true rfl, Nat.le_of_ble_eq_true rfl, Nat.le_of_ble_eq_true rfl, Nat.le_of_ble_eq_true rfl, Nat.le_of_ble_eq_true rfl⟩ (as := [.long (e1 (cw S.x k)), .int (nI j)]) rfl rfl (c_X9_at hl (cw S.x k) hcw.1 (Nat.le_trans hcw.2 (by decide)) j hj) ?_
      refine ev_iret dX10_letter_22 rfl (rfl) ⟨Nat.le_of_ble_eq_true rfl, Nat.le_of_ble_eq_true rfl⟩ ?_
      have e9 : sLet S (nI k) (nI j) = (0, nI ((cw S.x k).getD j 0)) := by simp [sLet, jk, tk, jj, tj]
      rw [e9]
      refine ⟨?_, ⟨hR.o, hR.m, hR.x, hR.g, hR.h, hR.k, hR.a, hR.l, hR.r, hR.w, hR.s⟩, Fr.rf⟩
      rw [gd_at hj]; rfl
    · have ib9 := ib
      refine ev_body hl rfl (by decide +kernel) (Nat.le_of_ble_eq_true rfl) ?_
      show ev_ l m_X10_letter 0 0 0 [some (.ref (0)), some (.int (nI k)), some (.int (b))] [] M _
      refine ev_blk (B := [(.iload_n 1, 1)]) (pe := 1) (ls' := [some (.ref (0)), some (.int (nI k)), some (.int (b))]) (st' := [.int (nI k)]) ⟨dX10_letter_0, rfl⟩ rfl ?_
      refine ev_cS0 Y_X10_requireChannel L_RX10_130 dX10_letter_1 ⟨Nat.le_of_ble_eq_true rfl, Nat.le_of_ble_eq_true rfl, Nat.le_of_ble_eq_true rfl, Nat.le_of_ble_eq_true rfl, Nat.le_of_ble_eq_true rfl⟩ (as := [.int (nI k)]) rfl rfl (c_X10_requireChannelT hl _ jk) ?_
      refine ev_blk (B := [(.aload_n 0, 1), (.iload_n 1, 1), (.iload_n 2, 1)]) (pe := 7) (ls' := [some (.ref (0)), some (.int (nI k)), some (.int (b))]) (st' := [.int (b), .int (nI k), .ref (0)]) ⟨dX10_letter_4, dX10_letter_5, dX10_letter_6, rfl⟩ rfl ?_
      refine ev_cVx Y_X10_requireLetter L_RX10_155 dX10_letter_7 ⟨Nat.le_of_ble_eq_true rfl, Nat.le_of_ble_eq_true rfl, Nat.le_of_ble_eq_true rfl, Nat.le_of_ble_eq_true rfl, Nat.le_of_ble_eq_true rfl⟩ hR.o (as := [.int (nI k), .int (b)]) rfl rfl (c_X10_reqLF hl S hS hR k hk _ ib) ?_
      refine ev_Th_out rfl ⟨Nat.le_of_ble_eq_true rfl, Nat.le_of_ble_eq_true rfl⟩ ?_
      have e9 : sLet S (nI k) b = (2, 0) := by simp [sLet, jk, tk, ib]
      rw [e9]
      exact ⟨rfl, ⟨hR.o, hR.m, hR.x, hR.g, hR.h, hR.k, hR.a, hR.l, hR.r, hR.w, hR.s⟩, Fr.rf⟩
  · have ia9 := ia
    refine ev_body hl rfl (by decide +kernel) (Nat.le_of_ble_eq_true rfl) ?_
    show ev_ l m_X10_letter 0 0 0 [some (.ref (0)), some (.int (a)), some (.int (b))] [] M _
    refine ev_blk (B := [(.iload_n 1, 1)]) (pe := 1) (ls' := [some (.ref (0)), some (.int (a)), some (.int (b))]) (st' := [.int (a)]) ⟨dX10_letter_0, rfl⟩ rfl ?_
    refine ev_cSx Y_X10_requireChannel L_RX10_130 dX10_letter_1 ⟨Nat.le_of_ble_eq_true rfl, Nat.le_of_ble_eq_true rfl, Nat.le_of_ble_eq_true rfl, Nat.le_of_ble_eq_true rfl, Nat.le_of_ble_eq_true rfl⟩ (as := [.int (a)]) rfl rfl (c_X10_requireChannelF hl _ ia) ?_
    refine ev_Th_out rfl ⟨Nat.le_of_ble_eq_true rfl, Nat.le_of_ble_eq_true rfl⟩ ?_
    have e9 : sLet S a b = (1, 0) := by simp [sLet, ia]
    rw [e9]
    exact ⟨rfl, ⟨hR.o, hR.m, hR.x, hR.g, hR.h, hR.k, hR.a, hR.l, hR.r, hR.w, hR.s⟩, Fr.rf⟩

set_option maxHeartbeats 4000000 in
set_option maxRecDepth 100000 in
theorem c_X10_enabled {l : Launch} (hl : l.stackTraces = false) {M : ev_M} (S : St) (hS : okS S) (hR : RCl M S) (b : Bool) : ev_Mt l m_X10_enabled [.ref (0), .int (ev_b (b))] M (ev_q (.inl (some (.int (sEna S b)))) M) := by
  refine ev_body hl rfl (by decide +kernel) (Nat.le_of_ble_eq_true rfl) ?_
  show ev_ l m_X10_enabled 0 0 0 [some (.ref (0)), some (.int (ev_b (b)))] [] M _
  refine ev_blk (B := [(.aload_n 0, 1)]) (pe := 1) (ls' := [some (.ref (0)), some (.int (ev_b (b)))]) (st' := [.ref (0)]) ⟨dX10_enabled_0, rfl⟩ rfl ?_
  refine ev_getf (v := .ref (1)) F_RX10_10 dX10_enabled_1 hR.o rfl ?_
  refine ev_blk (B := [(.aload_n 0, 1)]) (pe := 5) (ls' := [some (.ref (0)), some (.int (ev_b (b)))]) (st' := [.ref (0), .ref (1)]) ⟨dX10_enabled_4, rfl⟩ rfl ?_
  refine ev_getf (v := .ref (3)) F_RX10_19 dX10_enabled_5 hR.o rfl ?_
  refine ev_blk (B := [(.iload_n 1, 1)]) (pe := 9) (ls' := [some (.ref (0)), some (.int (ev_b (b)))]) (st' := [.int (ev_b (b)), .ref (3), .ref (1)]) ⟨dX10_enabled_8, rfl⟩ rfl ?_
  refine ev_cVv Y_X4_firable L_RX10_163 dX10_enabled_9 ⟨Nat.le_of_ble_eq_true rfl, Nat.le_of_ble_eq_true rfl, Nat.le_of_ble_eq_true rfl, Nat.le_of_ble_eq_true rfl, Nat.le_of_ble_eq_true rfl⟩ (hR.m).obj (as := [.ref (3), .int (ev_b (b))]) rfl rfl (c_X4_firable hl 1 S.T hR.m hS.T 3 S.x hR.x (hS.x.le (by omega)) b) ?_
  refine ev_iret dX10_enabled_12 rfl (rfl) ⟨Nat.le_of_ble_eq_true rfl, Nat.le_of_ble_eq_true rfl⟩ ?_
  exact ⟨rfl, rfl⟩

set_option maxHeartbeats 4000000 in
set_option maxRecDepth 100000 in
theorem c_X10_fire {l : Launch} (hl : l.stackTraces = false) {M : ev_M} (S : St) (hS : okS S) (hR : RCl M S) (a : Int32) : ev_Mt l m_X10_fire [.ref (0), .int (a)] M (fun r M1 => r = cA [eIB, eIS] (sFir S a).1 ∧ RCl M1 (sFir S a).2 ∧ Fr 0 104 M M1) := by
  have hTl : S.T.length ≤ 10 := hR.m.1
  have hGl : S.G.length ≤ 3 := hR.g.2.1
  rcases inR_c a S.T.length (by omega) with ⟨k, hk, rfl⟩ | ia
  · have jk : inR (nI k) S.T.length = true := inR_n hk (by omega)
    have tk : (nI k).toNatClampNeg = k := nI_clamp (by omega)
    refine ev_body hl rfl (by decide +kernel) (Nat.le_of_ble_eq_true rfl) ?_
    show ev_ l m_X10_fire 0 0 0 [some (.ref (0)), some (.int (nI k))] [] M _
    refine ev_blk (B := [(.aload_n 0, 1), (.iload_n 1, 1)]) (pe := 2) (ls' := [some (.ref (0)), some (.int (nI k))]) (st' := [.int (nI k), .ref (0)]) ⟨dX10_fire_0, dX10_fire_1, rfl⟩ rfl ?_
    refine ev_cV0 Y_X10_requireTransition L_RX10_109 dX10_fire_2 ⟨Nat.le_of_ble_eq_true rfl, Nat.le_of_ble_eq_true rfl, Nat.le_of_ble_eq_true rfl, Nat.le_of_ble_eq_true rfl, Nat.le_of_ble_eq_true rfl⟩ hR.o (as := [.int (nI k)]) rfl rfl (c_X10_reqTT hl S hR _ jk) ?_
    refine ev_blk (B := [(.aload_n 0, 1)]) (pe := 6) (ls' := [some (.ref (0)), some (.int (nI k))]) (st' := [.ref (0)]) ⟨dX10_fire_5, rfl⟩ rfl ?_
    refine ev_getf (v := .ref (1)) F_RX10_10 dX10_fire_6 hR.o rfl ?_
    refine ev_blk (B := [(.iload_n 1, 1), (.aload_n 0, 1)]) (pe := 11) (ls' := [some (.ref (0)), some (.int (nI k))]) (st' := [.ref (0), .int (nI k), .ref (1)]) ⟨dX10_fire_9, dX10_fire_10, rfl⟩ rfl ?_
    refine ev_getf (v := .ref (3)) F_RX10_19 dX10_fire_11 hR.o rfl ?_
    refine ev_blk (B := [(.iconst 0, 1)]) (pe := 15) (ls' := [some (.ref (0)), some (.int (nI k))]) (st' := [.int (nI 0), .ref (3), .int (nI k), .ref (1)]) ⟨dX10_fire_14, rfl⟩ rfl ?_
    refine ev_cVv Y_X4_canFire L_RX10_167 dX10_fire_15 ⟨Nat.le_of_ble_eq_true rfl, Nat.le_of_ble_eq_true rfl, Nat.le_of_ble_eq_true rfl, Nat.le_of_ble_eq_true rfl, Nat.le_of_ble_eq_true rfl⟩ (hR.m).obj (as := [.int (nI k), .ref (3), .int (nI 0)]) rfl rfl (c_X4_canFire hl 1 S.T hR.m hS.T k hk 3 S.x hR.x (hS.x.le (by omega)) false) ?_
    refine ev_ifB_ne dX10_fire_18 (tgt := 31) (by decide) (fun q18 => ?_) (fun q18 => ?_)
    · refine ev_blk (B := [(.aload_n 0, 1)]) (pe := 32) (ls' := [some (.ref (0)), some (.int (nI k))]) (st' := [.ref (0)]) ⟨dX10_fire_31, rfl⟩ rfl ?_
      refine ev_getf (v := .ref (1)) F_RX10_10 dX10_fire_32 hR.o rfl ?_
      refine ev_blk (B := [(.iload_n 1, 1), (.aload_n 0, 1)]) (pe := 37) (ls' := [some (.ref (0)), some (.int (nI k))]) (st' := [.ref (0), .int (nI k), .ref (1)]) ⟨dX10_fire_35, dX10_fire_36, rfl⟩ rfl ?_
      refine ev_getf (v := .ref (3)) F_RX10_19 dX10_fire_37 hR.o rfl ?_
      refine ev_cVv Y_X4_overfills L_RX10_173 dX10_fire_40 ⟨Nat.le_of_ble_eq_true rfl, Nat.le_of_ble_eq_true rfl, Nat.le_of_ble_eq_true rfl, Nat.le_of_ble_eq_true rfl, Nat.le_of_ble_eq_true rfl⟩ (hR.m).obj (as := [.int (nI k), .ref (3)]) rfl rfl (c_X4_overfills hl 1 S.T hR.m hS.T k hk 3 S.x hR.x (hS.x.le (by omega))) ?_
      refine ev_ifB_eq dX10_fire_43 (tgt := 56) (by decide) (fun q43 => ?_) (fun q43 => ?_)
      · refine ev_blk (B := [(.aload_n 0, 1)]) (pe := 57) (ls' := [some (.ref (0)), some (.int (nI k))]) (st' := [.ref (0)]) ⟨dX10_fire_56, rfl⟩ rfl ?_
        refine ev_getf (v := .ref (8)) F_RX10_35 dX10_fire_57 hR.o rfl ?_
        refine ev_blk (B := [(.aload_n 0, 1)]) (pe := 61) (ls' := [some (.ref (0)), some (.int (nI k))]) (st' := [.ref (0), .ref (8)]) ⟨dX10_fire_60, rfl⟩ rfl ?_
        refine ev_getf (v := .ref (3)) F_RX10_19 dX10_fire_61 hR.o rfl ?_
        refine ev_blk (B := [(.iconst 0, 1)]) (pe := 65) (ls' := [some (.ref (0)), some (.int (nI k))]) (st' := [.int (nI 0), .ref (3), .ref (8)]) ⟨dX10_fire_64, rfl⟩ rfl ?_
        refine ev_cVn Y_X8_record L_RX10_177 dX10_fire_65 ⟨Nat.le_of_ble_eq_true rfl, Nat.le_of_ble_eq_true rfl, Nat.le_of_ble_eq_true rfl, Nat.le_of_ble_eq_true rfl, Nat.le_of_ble_eq_true rfl⟩ (hR.h).1 (as := [.ref (3), .int (nI 0)]) rfl rfl (c_X8_record hl 8 S.H hR.h 3 S.x hR.x (by omega) 0) (fun M1 hL1 hB1 => ?_)
        obtain ⟨D2a, D2f⟩ := hB1
        refine ev_blk (B := [(.aload_n 0, 1)]) (pe := 69) (ls' := [some (.ref (0)), some (.int (nI k))]) (st' := [.ref (0)]) ⟨dX10_fire_68, rfl⟩ rfl ?_
        refine ev_getf (v := .ref (1)) F_RX10_10 dX10_fire_69 (hR.o.fr D2f (by omega)) rfl ?_
        refine ev_blk (B := [(.iload_n 1, 1), (.aload_n 0, 1)]) (pe := 74) (ls' := [some (.ref (0)), some (.int (nI k))]) (st' := [.ref (0), .int (nI k), .ref (1)]) ⟨dX10_fire_72, dX10_fire_73, rfl⟩ rfl ?_
        refine ev_getf (v := .ref (3)) F_RX10_19 dX10_fire_74 (hR.o.fr D2f (by omega)) rfl ?_
        refine ev_cVw Y_X4_apply L_RX10_181 dX10_fire_77 ⟨Nat.le_of_ble_eq_true rfl, Nat.le_of_ble_eq_true rfl, Nat.le_of_ble_eq_true rfl, Nat.le_of_ble_eq_true rfl, Nat.le_of_ble_eq_true rfl⟩ ((hR.m.fr D2f (by omega))).obj (as := [.int (nI k), .ref (3)]) rfl rfl (c_X4_apply hl 1 S.T (hR.m.fr D2f (by omega)) hS.T k hk 3 S.x (hR.x.fr D2f (by omega)) (hS.x.le (by omega)) (by omega) (mf_up q18)) (fun M3 hL3 hB3 => ?_)
        obtain ⟨D4a, D4f⟩ := hB3
        refine ev_blk (B := [(.pop, 1), (.aload_n 0, 1)]) (pe := 82) (ls' := [some (.ref (0)), some (.int (nI k))]) (st' := [.ref (0)]) ⟨dX10_fire_80, dX10_fire_81, rfl⟩ rfl ?_
        refine ev_getf (v := .ref (3)) F_RX10_19 dX10_fire_82 ((hR.o.fr D2f (by omega)).fr D4f (by omega)) rfl ?_
        refine ev_getf (v := .int (nI ((ap (tg S.T k) S.x).2.1))) F_RX10_123 dX10_fire_85 D4a rfl ?_
        refine ev_iret dX10_fire_88 rfl (rfl) ⟨Nat.le_of_ble_eq_true rfl, Nat.le_of_ble_eq_true rfl⟩ ?_
        have e9 : sFir S (nI k) = ((0, nI (ap (tg S.T k) S.x).2.1), (St.mk S.T ((ap (tg S.T k) S.x).2) S.G (rec S.H S.x 0) S.n S.t S.f S.tk S.T9 S.x9 S.G9)) := by
          unfold sFir tN
          rw [tk, if_neg (show ¬ inR (nI k) S.T.length = false by rw [jk]; decide), if_neg (show ¬ mf S.x (tg S.T k) false = false by rw [q18]; decide), if_neg (show ¬ ((tg S.T k).2.2.1 == 1 && decide (10 ≤ (cw S.x (tg S.T k).2.2.2.1).length)) = true by rw [q43]; decide)]
        rw [e9]
        exact ⟨rfl, ⟨((hR.o.fr D2f (by omega)).fr D4f (by omega)), ((hR.m.fr D2f (by omega)).fr D4f (by omega)), D4a, ((hR.g.fr D2f (by omega)).fr D4f (by omega)), (D2a.fr D4f (by omega)), ((hR.k.fr D2f (by omega)).fr D4f (by omega)), ((hR.a.fr D2f (by omega)).fr D4f (by omega)), ((hR.l.fr D2f (by omega)).fr D4f (by omega)), ((hR.r.fr D2f (by omega)).fr D4f (by omega)), ((hR.w.fr D2f (by omega)).fr D4f (by omega)), ((hR.s.fr D2f (by omega)).fr D4f (by omega))⟩, ((D2f.to (by omega) (by omega)).tr (D4f.to (by omega) (by omega)))⟩
      · refine ev_throw (cls := "java/lang/IllegalStateException") (text := "the channel has 10 letters") (names := ev_nmR) (ic := 101) (ik := 97) rfl (by decide +kernel) (by decide +kernel) T_IllegalStateException (by decide +kernel) dX10_fire_46 dX10_fire_49 dX10_fire_50 dX10_fire_52 dX10_fire_55 ⟨Nat.le_of_ble_eq_true rfl, Nat.le_of_ble_eq_true rfl, Nat.le_of_ble_eq_true rfl, Nat.le_of_ble_eq_true rfl⟩ ?_
        have e9 : sFir S (nI k) = ((2, 0), S) := by
          unfold sFir tN
          rw [tk, if_neg (show ¬ inR (nI k) S.T.length = false by rw [jk]; decide), if_neg (show ¬ mf S.x (tg S.T k) false = false by rw [q18]; decide), if_pos q43]
        rw [e9]
        exact ⟨rfl, ⟨hR.o, hR.m, hR.x, hR.g, hR.h, hR.k, hR.a, hR.l, hR.r, hR.w, hR.s⟩, Fr.rf⟩
    · refine ev_throw (cls := "java/lang/IllegalStateException") (text := "the transition cannot fire") (names := ev_nmR) (ic := 101) (ik := 97) rfl (by decide +kernel) (by decide +kernel) T_IllegalStateException (by decide +kernel) dX10_fire_21 dX10_fire_24 dX10_fire_25 dX10_fire_27 dX10_fire_30 ⟨Nat.le_of_ble_eq_true rfl, Nat.le_of_ble_eq_true rfl, Nat.le_of_ble_eq_true rfl, Nat.le_of_ble_eq_true rfl⟩ ?_
      have e9 : sFir S (nI k) = ((2, 0), S) := by
        unfold sFir tN
        rw [tk, if_neg (show ¬ inR (nI k) S.T.length = false by rw [jk]; decide), if_pos q18]
      rw [e9]
      exact ⟨rfl, ⟨hR.o, hR.m, hR.x, hR.g, hR.h, hR.k, hR.a, hR.l, hR.r, hR.w, hR.s⟩, Fr.rf⟩
  · have ia9 := ia
    refine ev_body hl rfl (by decide +kernel) (Nat.le_of_ble_eq_true rfl) ?_
    show ev_ l m_X10_fire 0 0 0 [some (.ref (0)), some (.int (a))] [] M _
    refine ev_blk (B := [(.aload_n 0, 1), (.iload_n 1, 1)]) (pe := 2) (ls' := [some (.ref (0)), some (.int (a))]) (st' := [.int (a), .ref (0)]) ⟨dX10_fire_0, dX10_fire_1, rfl⟩ rfl ?_
    refine ev_cVx Y_X10_requireTransition L_RX10_109 dX10_fire_2 ⟨Nat.le_of_ble_eq_true rfl, Nat.le_of_ble_eq_true rfl, Nat.le_of_ble_eq_true rfl, Nat.le_of_ble_eq_true rfl, Nat.le_of_ble_eq_true rfl⟩ hR.o (as := [.int (a)]) rfl rfl (c_X10_reqTF hl S hR _ ia) ?_
    refine ev_Th_out rfl ⟨Nat.le_of_ble_eq_true rfl, Nat.le_of_ble_eq_true rfl⟩ ?_
    have e9 : sFir S a = ((1, 0), S) := by simp [sFir, ia]
    rw [e9]
    exact ⟨rfl, ⟨hR.o, hR.m, hR.x, hR.g, hR.h, hR.k, hR.a, hR.l, hR.r, hR.w, hR.s⟩, Fr.rf⟩

set_option maxHeartbeats 4000000 in
set_option maxRecDepth 100000 in
theorem c_X10_lose {l : Launch} (hl : l.stackTraces = false) {M : ev_M} (S : St) (hS : okS S) (hR : RCl M S) (a : Int32) (b : Int32) : ev_Mt l m_X10_lose [.ref (0), .int (a), .int (b)] M (fun r M1 => r = cA [eIB, eNS] (sLos S a b).1 ∧ RCl M1 (sLos S a b).2 ∧ Fr 0 104 M M1) := by
  have hTl : S.T.length ≤ 10 := hR.m.1
  have hGl : S.G.length ≤ 3 := hR.g.2.1
  rcases inR_c a 2 (by omega) with ⟨k, hk, rfl⟩ | ia
  · have jk : inR (nI k) 2 = true := inR_n hk (by omega)
    have tk : (nI k).toNatClampNeg = k := nI_clamp (by omega)
    have hcw := cw_ok hS.x k
    have hcw9 : (cw S.x k).length ≤ 10 := hcw.2
    rcases inR_c b ((cw S.x k).length) (by omega) with ⟨j, hj, rfl⟩ | ib
    · have jj : inR (nI j) ((cw S.x k).length) = true := inR_n hj (by omega)
      have tj : (nI j).toNatClampNeg = j := nI_clamp (by omega)
      refine ev_body hl rfl (by decide +kernel) (Nat.le_of_ble_eq_true rfl) ?_
      show ev_ l m_X10_lose 0 0 0 [some (.ref (0)), some (.int (nI k)), some (.int (nI j)), none, none] [] M _
      refine ev_blk (B := [(.iload_n 1, 1)]) (pe := 1) (ls' := [some (.ref (0)), some (.int (nI k)), some (.int (nI j)), none, none]) (st' := [.int (nI k)]) ⟨dX10_lose_0, rfl⟩ rfl ?_
      refine ev_cS0 Y_X10_requireChannel L_RX10_130 dX10_lose_1 ⟨Nat.le_of_ble_eq_true rfl, Nat.le_of_ble_eq_true rfl, Nat.le_of_ble_eq_true rfl, Nat.le_of_ble_eq_true rfl, Nat.le_of_ble_eq_true rfl⟩ (as := [.int (nI k)]) rfl rfl (c_X10_requireChannelT hl _ jk) ?_
      refine ev_blk (B := [(.aload_n 0, 1), (.iload_n 1, 1), (.iload_n 2, 1)]) (pe := 7) (ls' := [some (.ref (0)), some (.int (nI k)), some (.int (nI j)), none, none]) (st' := [.int (nI j), .int (nI k), .ref (0)]) ⟨dX10_lose_4, dX10_lose_5, dX10_lose_6, rfl⟩ rfl ?_
      refine ev_cV0 Y_X10_requireLetter L_RX10_155 dX10_lose_7 ⟨Nat.le_of_ble_eq_true rfl, Nat.le_of_ble_eq_true rfl, Nat.le_of_ble_eq_true rfl, Nat.le_of_ble_eq_true rfl, Nat.le_of_ble_eq_true rfl⟩ hR.o (as := [.int (nI k), .int (nI j)]) rfl rfl (c_X10_reqLT hl S hS hR k hk j hj) ?_
      refine ev_blk (B := [(.aload_n 0, 1)]) (pe := 11) (ls' := [some (.ref (0)), some (.int (nI k)), some (.int (nI j)), none, none]) (st' := [.ref (0)]) ⟨dX10_lose_10, rfl⟩ rfl ?_
      refine ev_getf (v := .ref (3)) F_RX10_19 dX10_lose_11 hR.o rfl ?_
      refine ev_blk (B := [(.iload_n 1, 1)]) (pe := 15) (ls' := [some (.ref (0)), some (.int (nI k)), some (.int (nI j)), none, none]) (st' := [.int (nI k), .ref (3)]) ⟨dX10_lose_14, rfl⟩ rfl ?_
      refine ev_cVv Y_X1_word L_RX10_135 dX10_lose_15 ⟨Nat.le_of_ble_eq_true rfl, Nat.le_of_ble_eq_true rfl, Nat.le_of_ble_eq_true rfl, Nat.le_of_ble_eq_true rfl, Nat.le_of_ble_eq_true rfl⟩ hR.x (as := [.int (nI k)]) rfl rfl (c_X1_word hl 3 S.x hR.x k hk) ?_
      refine ev_blk (B := [(.lstore_n 3, 1), (.aload_n 0, 1)]) (pe := 20) (ls' := [some (.ref (0)), some (.int (nI k)), some (.int (nI j)), some (.long (e1 (cw S.x k))), none]) (st' := [.ref (0)]) ⟨dX10_lose_18, dX10_lose_19, rfl⟩ rfl ?_
      refine ev_getf (v := .ref (8)) F_RX10_35 dX10_lose_20 hR.o rfl ?_
      refine ev_blk (B := [(.aload_n 0, 1)]) (pe := 24) (ls' := [some (.ref (0)), some (.int (nI k)), some (.int (nI j)), some (.long (e1 (cw S.x k))), none]) (st' := [.ref (0), .ref (8)]) ⟨dX10_lose_23, rfl⟩ rfl ?_
      refine ev_getf (v := .ref (3)) F_RX10_19 dX10_lose_24 hR.o rfl ?_
      refine ev_blk (B := [(.iconst 1, 1)]) (pe := 28) (ls' := [some (.ref (0)), some (.int (nI k)), some (.int (nI j)), some (.long (e1 (cw S.x k))), none]) (st' := [.int (nI 1), .ref (3), .ref (8)]) ⟨dX10_lose_27, rfl⟩ rfl ?_
      refine ev_cVn Y_X8_record L_RX10_177 dX10_lose_28 ⟨Nat.le_of_ble_eq_true rfl, Nat.le_of_ble_eq_true rfl, Nat.le_of_ble_eq_true rfl, Nat.le_of_ble_eq_true rfl, Nat.le_of_ble_eq_true rfl⟩ (hR.h).1 (as := [.ref (3), .int (nI 1)]) rfl rfl (c_X8_record hl 8 S.H hR.h 3 S.x hR.x (by omega) 1) (fun M1 hL1 hB1 => ?_)
      obtain ⟨D2a, D2f⟩ := hB1
      refine ev_blk (B := [(.aload_n 0, 1)]) (pe := 32) (ls' := [some (.ref (0)), some (.int (nI k)), some (.int (nI j)), some (.long (e1 (cw S.x k))), none]) (st' := [.ref (0)]) ⟨dX10_lose_31, rfl⟩ rfl ?_
      refine ev_getf (v := .ref (3)) F_RX10_19 dX10_lose_32 (hR.o.fr D2f (by omega)) rfl ?_
      refine ev_blk (B := [(.iload_n 1, 1), (.lload_n 3, 1), (.iload_n 2, 1)]) (pe := 38) (ls' := [some (.ref (0)), some (.int (nI k)), some (.int (nI j)), some (.long (e1 (cw S.x k))), none]) (st' := [.int (nI j), .long (e1 (cw S.x k)), .int (nI k), .ref (3)]) ⟨dX10_lose_35, dX10_lose_36, dX10_lose_37, rfl⟩ rfl ?_
      refine ev_cSv Y_X9_without L_RX10_185 dX10_lose_38 ⟨Nat.le_of_ble_eq_true rfl, Nat.le_of_ble_eq_true rfl, Nat.le_of_ble_eq_true rfl, Nat.le_of_ble_eq_true rfl, Nat.le_of_ble_eq_true rfl⟩ (as := [.long (e1 (cw S.x k)), .int (nI j)]) rfl rfl (c_X9_without hl (cw S.x k) hcw.1 (Nat.le_trans hcw.2 (by decide)) j hj) ?_
      refine ev_cVn Y_X1_setWord L_RX10_151 dX10_lose_41 ⟨Nat.le_of_ble_eq_true rfl, Nat.le_of_ble_eq_true rfl, Nat.le_of_ble_eq_true rfl, Nat.le_of_ble_eq_true rfl, Nat.le_of_ble_eq_true rfl⟩ (hR.x.fr D2f (by omega)) (as := [.int (nI k), .long (e1 ((cw S.x k).eraseIdx j))]) rfl rfl (c_X1_setWord hl 3 S.x (hR.x.fr D2f (by omega)) k hk ((cw S.x k).eraseIdx j)) (fun M3 hL3 hB3 => ?_)
      obtain ⟨D4a, D4f⟩ := hB3
      refine ev_blk (B := [(.lload_n 3, 1), (.iload_n 2, 1)]) (pe := 46) (ls' := [some (.ref (0)), some (.int (nI k)), some (.int (nI j)), some (.long (e1 (cw S.x k))), none]) (st' := [.int (nI j), .long (e1 (cw S.x k))]) ⟨dX10_lose_44, dX10_lose_45, rfl⟩ rfl ?_
      refine ev_cSv Y_X9_at L_RX10_159 dX10_lose_46 ⟨Nat.le_of_ble_eq_true rfl, Nat.le_of_ble_eq_true rfl, Nat.le_of_ble_eq_true rfl, Nat.le_of_ble_eq_true rfl, Nat.le_of_ble_eq_true rfl⟩ (as := [.long (e1 (cw S.x k)), .int (nI j)]) rfl rfl (c_X9_at hl (cw S.x k) hcw.1 (Nat.le_trans hcw.2 (by decide)) j hj) ?_
      refine ev_iret dX10_lose_49 rfl (rfl) ⟨Nat.le_of_ble_eq_true rfl, Nat.le_of_ble_eq_true rfl⟩ ?_
      have e9 : sLos S (nI k) (nI j) = ((0, nI ((cw S.x k).getD j 0)), (St.mk S.T (cset S.x k ((cw S.x k).eraseIdx j)) S.G (rec S.H S.x 1) S.n S.t S.f S.tk S.T9 S.x9 S.G9)) := by simp [sLos, jk, tk, jj, tj]
      rw [e9]
      refine ⟨?_, ⟨((hR.o.fr D2f (by omega)).fr D4f (by omega)), ((hR.m.fr D2f (by omega)).fr D4f (by omega)), D4a, ((hR.g.fr D2f (by omega)).fr D4f (by omega)), (D2a.fr D4f (by omega)), ((hR.k.fr D2f (by omega)).fr D4f (by omega)), ((hR.a.fr D2f (by omega)).fr D4f (by omega)), ((hR.l.fr D2f (by omega)).fr D4f (by omega)), ((hR.r.fr D2f (by omega)).fr D4f (by omega)), ((hR.w.fr D2f (by omega)).fr D4f (by omega)), ((hR.s.fr D2f (by omega)).fr D4f (by omega))⟩, ((D2f.to (by omega) (by omega)).tr (D4f.to (by omega) (by omega)))⟩
      rw [gd_at hj]; rfl
    · have ib9 := ib
      refine ev_body hl rfl (by decide +kernel) (Nat.le_of_ble_eq_true rfl) ?_
      show ev_ l m_X10_lose 0 0 0 [some (.ref (0)), some (.int (nI k)), some (.int (b)), none, none] [] M _
      refine ev_blk (B := [(.iload_n 1, 1)]) (pe := 1) (ls' := [some (.ref (0)), some (.int (nI k)), some (.int (b)), none, none]) (st' := [.int (nI k)]) ⟨dX10_lose_0, rfl⟩ rfl ?_
      refine ev_cS0 Y_X10_requireChannel L_RX10_130 dX10_lose_1 ⟨Nat.le_of_ble_eq_true rfl, Nat.le_of_ble_eq_true rfl, Nat.le_of_ble_eq_true rfl, Nat.le_of_ble_eq_true rfl, Nat.le_of_ble_eq_true rfl⟩ (as := [.int (nI k)]) rfl rfl (c_X10_requireChannelT hl _ jk) ?_
      refine ev_blk (B := [(.aload_n 0, 1), (.iload_n 1, 1), (.iload_n 2, 1)]) (pe := 7) (ls' := [some (.ref (0)), some (.int (nI k)), some (.int (b)), none, none]) (st' := [.int (b), .int (nI k), .ref (0)]) ⟨dX10_lose_4, dX10_lose_5, dX10_lose_6, rfl⟩ rfl ?_
      refine ev_cVx Y_X10_requireLetter L_RX10_155 dX10_lose_7 ⟨Nat.le_of_ble_eq_true rfl, Nat.le_of_ble_eq_true rfl, Nat.le_of_ble_eq_true rfl, Nat.le_of_ble_eq_true rfl, Nat.le_of_ble_eq_true rfl⟩ hR.o (as := [.int (nI k), .int (b)]) rfl rfl (c_X10_reqLF hl S hS hR k hk _ ib) ?_
      refine ev_Th_out rfl ⟨Nat.le_of_ble_eq_true rfl, Nat.le_of_ble_eq_true rfl⟩ ?_
      have e9 : sLos S (nI k) b = ((2, 0), S) := by simp [sLos, jk, tk, ib]
      rw [e9]
      exact ⟨rfl, ⟨hR.o, hR.m, hR.x, hR.g, hR.h, hR.k, hR.a, hR.l, hR.r, hR.w, hR.s⟩, Fr.rf⟩
  · have ia9 := ia
    refine ev_body hl rfl (by decide +kernel) (Nat.le_of_ble_eq_true rfl) ?_
    show ev_ l m_X10_lose 0 0 0 [some (.ref (0)), some (.int (a)), some (.int (b)), none, none] [] M _
    refine ev_blk (B := [(.iload_n 1, 1)]) (pe := 1) (ls' := [some (.ref (0)), some (.int (a)), some (.int (b)), none, none]) (st' := [.int (a)]) ⟨dX10_lose_0, rfl⟩ rfl ?_
    refine ev_cSx Y_X10_requireChannel L_RX10_130 dX10_lose_1 ⟨Nat.le_of_ble_eq_true rfl, Nat.le_of_ble_eq_true rfl, Nat.le_of_ble_eq_true rfl, Nat.le_of_ble_eq_true rfl, Nat.le_of_ble_eq_true rfl⟩ (as := [.int (a)]) rfl rfl (c_X10_requireChannelF hl _ ia) ?_
    refine ev_Th_out rfl ⟨Nat.le_of_ble_eq_true rfl, Nat.le_of_ble_eq_true rfl⟩ ?_
    have e9 : sLos S a b = ((1, 0), S) := by simp [sLos, ia]
    rw [e9]
    exact ⟨rfl, ⟨hR.o, hR.m, hR.x, hR.g, hR.h, hR.k, hR.a, hR.l, hR.r, hR.w, hR.s⟩, Fr.rf⟩

set_option maxHeartbeats 4000000 in
set_option maxRecDepth 100000 in
theorem c_X10_undo {l : Launch} (hl : l.stackTraces = false) {M : ev_M} (S : St) (hS : okS S) (hR : RCl M S) : ev_Mt l m_X10_undo [.ref (0)] M (fun r M1 => r = cA [eIS] (sUnd S).1 ∧ RCl M1 (sUnd S).2 ∧ Fr 0 104 M M1) := by
  have hTl : S.T.length ≤ 10 := hR.m.1
  have hGl : S.G.length ≤ 3 := hR.g.2.1
  have hHl : S.H.length ≤ 20 := by have y1 := hR.h.2.1.2.1; rw [hL_len] at y1; exact y1
  refine ev_body hl rfl (by decide +kernel) (Nat.le_of_ble_eq_true rfl) ?_
  show ev_ l m_X10_undo 0 0 0 [some (.ref (0))] [] M _
  refine ev_blk (B := [(.aload_n 0, 1)]) (pe := 1) (ls' := [some (.ref (0))]) (st' := [.ref (0)]) ⟨dX10_undo_0, rfl⟩ rfl ?_
  refine ev_getf (v := .ref (8)) F_RX10_35 dX10_undo_1 hR.o rfl ?_
  refine ev_cVv Y_X8_steps L_RX10_188 dX10_undo_4 ⟨Nat.le_of_ble_eq_true rfl, Nat.le_of_ble_eq_true rfl, Nat.le_of_ble_eq_true rfl, Nat.le_of_ble_eq_true rfl, Nat.le_of_ble_eq_true rfl⟩ (hR.h).1 (as := []) rfl rfl (c_X8_steps hl 8 S.H hR.h) ?_
  refine ev_fN_ne dX10_undo_7 (tgt := 20) (by decide) (by omega) (fun q7 => ?_) (fun q7 => ?_)
  · refine ev_blk (B := [(.aload_n 0, 1)]) (pe := 21) (ls' := [some (.ref (0))]) (st' := [.ref (0)]) ⟨dX10_undo_20, rfl⟩ rfl ?_
    refine ev_getf (v := .ref (8)) F_RX10_35 dX10_undo_21 hR.o rfl ?_
    refine ev_blk (B := [(.aload_n 0, 1)]) (pe := 25) (ls' := [some (.ref (0))]) (st' := [.ref (0), .ref (8)]) ⟨dX10_undo_24, rfl⟩ rfl ?_
    refine ev_getf (v := .ref (3)) F_RX10_19 dX10_undo_25 hR.o rfl ?_
    refine ev_cVw Y_X8_takeBack L_RX10_193 dX10_undo_28 ⟨Nat.le_of_ble_eq_true rfl, Nat.le_of_ble_eq_true rfl, Nat.le_of_ble_eq_true rfl, Nat.le_of_ble_eq_true rfl, Nat.le_of_ble_eq_true rfl⟩ (hR.h).1 (as := [.ref (3)]) rfl rfl (c_X8_takeBack hl 8 S.H hR.h (Nat.pos_of_ne_zero q7) 3 S.x hR.x (by omega)) (fun M1 hL1 hB1 => ?_)
    obtain ⟨Da, Db, Dr⟩ := hB1
    have Df : Fr 3 15 M M1 := ⟨len_eq hL1 hR.len (fun j hj => Dr j (by omega) (by omega)), fun j hj => Dr j (by omega) (by omega)⟩
    refine ev_iret dX10_undo_31 rfl (rfl) ⟨Nat.le_of_ble_eq_true rfl, Nat.le_of_ble_eq_true rfl⟩ ?_
    have e9 : sUnd S = ((0, nI (kg S.H (S.H.length - 1))), (St.mk S.T (cg (hL S.H) (S.H.length - 1)) S.G (S.H.dropLast) S.n S.t S.f S.tk S.T9 S.x9 S.G9)) := if_neg q7
    rw [e9]
    exact ⟨rfl, ⟨(hR.o.fr Df (by omega)), (hR.m.fr Df (by omega)), Db, (hR.g.kept fun j h1 h2 => Dr j (by omega) (by omega)), Da, (hR.k.fr Df (by omega)), (hR.a.fr Df (by omega)), (hR.l.fr Df (by omega)), (hR.r.fr Df (by omega)), (hR.w.fr Df (by omega)), (hR.s.fr Df (by omega))⟩, (Df.to (by omega) (by omega))⟩
  · refine ev_throw (cls := "java/lang/IllegalStateException") (text := "there is no step to undo") (names := ev_nmR) (ic := 101) (ik := 97) rfl (by decide +kernel) (by decide +kernel) T_IllegalStateException (by decide +kernel) dX10_undo_10 dX10_undo_13 dX10_undo_14 dX10_undo_16 dX10_undo_19 ⟨Nat.le_of_ble_eq_true rfl, Nat.le_of_ble_eq_true rfl, Nat.le_of_ble_eq_true rfl, Nat.le_of_ble_eq_true rfl⟩ ?_
    have e9 : sUnd S = ((1, 0), S) := if_pos q7
    rw [e9]
    exact ⟨rfl, ⟨hR.o, hR.m, hR.x, hR.g, hR.h, hR.k, hR.a, hR.l, hR.r, hR.w, hR.s⟩, Fr.rf⟩

set_option maxHeartbeats 4000000 in
set_option maxRecDepth 100000 in
theorem c_X10_increase {l : Launch} (hl : l.stackTraces = false) {M : ev_M} (S : St) (hS : okS S) (hR : RCl M S) : ev_Mt l m_X10_increase [.ref (0)] M (fun r M1 => r = cA [] (sInc S) ∧ RCl M1 S ∧ Fr 0 104 M M1) := by
  have hTl : S.T.length ≤ 10 := hR.m.1
  have hGl : S.G.length ≤ 3 := hR.g.2.1
  refine ev_body hl rfl (by decide +kernel) (Nat.le_of_ble_eq_true rfl) ?_
  show ev_ l m_X10_increase 0 0 0 [some (.ref (0))] [] M _
  refine ev_blk (B := [(.aload_n 0, 1)]) (pe := 1) (ls' := [some (.ref (0))]) (st' := [.ref (0)]) ⟨dX10_increase_0, rfl⟩ rfl ?_
  refine ev_getf (v := .ref (8)) F_RX10_35 dX10_increase_1 hR.o rfl ?_
  refine ev_blk (B := [(.aload_n 0, 1)]) (pe := 5) (ls' := [some (.ref (0))]) (st' := [.ref (0), .ref (8)]) ⟨dX10_increase_4, rfl⟩ rfl ?_
  refine ev_getf (v := .ref (3)) F_RX10_19 dX10_increase_5 hR.o rfl ?_
  refine ev_cVw Y_X8_firstIncrease L_RX10_197 dX10_increase_8 ⟨Nat.le_of_ble_eq_true rfl, Nat.le_of_ble_eq_true rfl, Nat.le_of_ble_eq_true rfl, Nat.le_of_ble_eq_true rfl, Nat.le_of_ble_eq_true rfl⟩ (hR.h).1 (as := [.ref (3)]) rfl rfl (c_X8_firstIncrease hl 8 S.H hR.h (hS.H.le (by omega)) 3 S.x hR.x (hS.x.le (by omega)) (by omega)) (fun M1 hL1 hB1 => ?_)
  obtain ⟨Da, Db, Df⟩ := hB1
  refine ev_iret dX10_increase_11 rfl (rfl) ⟨Nat.le_of_ble_eq_true rfl, Nat.le_of_ble_eq_true rfl⟩ ?_
  have e9 : sInc S = (0, fiI (fi (hL S.H) S.x)) := by simp [sInc]
  rw [e9]
  exact ⟨rfl, ⟨(hR.o.fr Df (by omega)), (hR.m.fr Df (by omega)), Db, (hR.g.fr Df (by omega)), Da, (hR.k.fr Df (by omega)), (hR.a.fr Df (by omega)), (hR.l.fr Df (by omega)), (hR.r.fr Df (by omega)), (hR.w.fr Df (by omega)), (hR.s.fr Df (by omega))⟩, (Df.to (by omega) (by omega))⟩

