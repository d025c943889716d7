def sBel (S : St) (a : Int32) : Nat × Int32 := if inR a 2 = false then (1, 0) else (0, ev_b (wb (cw S.x (tN a)) (cw S.x (1 - tN a))))
def sEmb (S : St) (a : Int32) : Nat × Int32 := if inR a 2 = false then (1, 0) else (0, nI (em (cw S.x (tN a)) (cw S.x (1 - tN a)) (cw S.x (1 - tN a)).length (cw S.x (tN a)).length))
def sCom (S : St) : Nat × Int32 := (0, nI (lc S.x.2.1 S.x.2.2 S.x.2.1.length S.x.2.2.length))
def sSub (S : St) (a : Int32) : Nat × Int32 := if inR a 2 = false then (1, 0) else (0, nI (1 + sw (cw S.x (tN a)) (cw S.x (tN a)).length 0 + sw (cw S.x (tN a)) (cw S.x (tN a)).length 1 + sw (cw S.x (tN a)) (cw S.x (tN a)).length 2))
def sAdG (S : St) : (Nat × Int32) × St := if 3 ≤ S.G.length then ((1, 0), S) else ((0, nI (S.G.length + 1)), St.mk S.T S.x (S.G ++ [S.x]) S.H S.n S.t S.f S.tk S.T9 S.x9 S.G9)
def sClG (S : St) : (Nat × Int32) × St := ((0, nI S.G.length), St.mk S.T S.x [] S.H S.n S.t S.f S.tk S.T9 S.x9 S.G9)
def sAft (S : St) (a : Int32) : Nat × Int32 := if inR a 5 = false then (1, 0) else if tN a = 0 then (0, (1 : Int32) <<< (nI S.x.1 &&& 31)) else (0, nst S.T (lfs S.T (rch S.T S.x (tN a - 1)) (rch S.T S.x (tN a - 1)).length) S.T.length)
def sLas (S : St) (a b : Int32) : Nat × Int32 := if inR a S.T.length = false then (1, 0) else if inR b 5 = false then (2, 0) else if tN b = 0 then (2, 0) else (0, ev_b (decide ((lfs S.T (rch S.T S.x (tN b - 1)) (rch S.T S.x (tN b - 1)).length >>> (nI (tN a) &&& 31)) &&& nI 1 = nI 1)))
/-- texts -/
def sApp (S : St) (c : Nat) : Nat × St := if 80 ≤ S.n then (1, S) else (0, St.mk S.T S.x S.G S.H (S.n + 1) (fun i => if i = S.n then c else S.t i) S.f S.tk S.T9 S.x9 S.G9)
def rdP (S : St) : List Tr × List Cf × Nat × Nat × Bool := pl S.t S.n 81 0 [] [] 0
def rdF (S : St) : Int32 := if (rdP S).2.2.2.2 = true then nI (rdP S).2.2.2.1 else -1
def sRea (S : St) : (Nat × Int32) × St := if (rdP S).2.2.2.2 = true then ((1, 0), St.mk S.T S.x S.G S.H 0 S.t (rdF S) S.tk S.T9 S.x9 S.G9)
  else if 10 < S.T.length + (rdP S).1.length then ((2, 0), St.mk S.T S.x S.G S.H 0 S.t (rdF S) S.tk S.T9 S.x9 S.G9)
  else if 3 < S.G.length + (rdP S).2.1.length then ((2, 0), St.mk S.T S.x S.G S.H 0 S.t (rdF S) S.tk S.T9 S.x9 S.G9)
  else ((0, nI (rdP S).2.2.1), St.mk (S.T ++ (rdP S).1) S.x (S.G ++ (rdP S).2.1) S.H 0 S.t (rdF S) S.tk S.T9 S.x9 S.G9)
def sFau (S : St) : Nat × Int32 := (0, S.f)
def sSav (S : St) : St := St.mk S.T S.x S.G S.H S.n S.t S.f true S.T S.x S.G
def sRes (S : St) : Nat × St := if S.tk = false then (1, S) else (0, St.mk S.T9 S.x9 S.G9 [] S.n S.t S.f S.tk S.T9 S.x9 S.G9)
def cV (E : List String) (p : Nat) : ev_R := match p with
  | 0 => .inl none
  | k + 1 => .inr (E.getD k "")
def cB (E : List String) (p : Nat × Int32) : ev_R := cA E p
set_option maxHeartbeats 4000000 in
set_option maxRecDepth 100000 in
theorem c_X10_isBelow {l : Launch} (hl : l.stackTraces = false) {M : ev_M} (S : St) (hS : okS S) (hR : RCl M S) (a : Int32) : ev_Mt l m_X10_isBelow [.ref (0), .int (a)] M (fun r M1 => r = cA [eIB] (sBel S a) ∧ RCl M1 S ∧ Fr 0 104 M M1) := by
  have hTl : S.T.length ≤ 10 := hR.m.1
  have hGl : S.G.length ≤ 3 := hR.g.2.1
  rcases inR_c a 2 (by omega) with ⟨k, hk, rfl⟩ | ia
  · have jk : inR (nI k) 2 = true := inR_n hk (by omega)
    have tk : (nI k).toNatClampNeg = k := nI_clamp (by omega)
    have hcw := cw_ok hS.x k
    have hcw9 : (cw S.x k).length ≤ 10 := hcw.2
    have hcv := cw_ok hS.x (1 - k)
    have hcv9 : (cw S.x (1 - k)).length ≤ 10 := hcv.2
    refine ev_body hl rfl (by decide +kernel) (Nat.le_of_ble_eq_true rfl) ?_
    show ev_ l m_X10_isBelow 0 0 0 [some (.ref (0)), some (.int (nI k))] [] M _
    refine ev_blk (B := [(.iload_n 1, 1)]) (pe := 1) (ls' := [some (.ref (0)), some (.int (nI k))]) (st' := [.int (nI k)]) ⟨dX10_isBelow_0, rfl⟩ rfl ?_
    refine ev_cS0 Y_X10_requireChannel L_RX10_130 dX10_isBelow_1 ⟨Nat.le_of_ble_eq_true rfl, Nat.le_of_ble_eq_true rfl, Nat.le_of_ble_eq_true rfl, Nat.le_of_ble_eq_true rfl, Nat.le_of_ble_eq_true rfl⟩ (as := [.int (nI k)]) rfl rfl (c_X10_requireChannelT hl _ jk) ?_
    refine ev_blk (B := [(.aload_n 0, 1)]) (pe := 5) (ls' := [some (.ref (0)), some (.int (nI k))]) (st' := [.ref (0)]) ⟨dX10_isBelow_4, rfl⟩ rfl ?_
    refine ev_getf (v := .ref (3)) F_RX10_19 dX10_isBelow_5 hR.o rfl ?_
    refine ev_blk (B := [(.iload_n 1, 1)]) (pe := 9) (ls' := [some (.ref (0)), some (.int (nI k))]) (st' := [.int (nI k), .ref (3)]) ⟨dX10_isBelow_8, rfl⟩ rfl ?_
    refine ev_cVv Y_X1_word L_RX10_135 dX10_isBelow_9 ⟨Nat.le_of_ble_eq_true rfl, Nat.le_of_ble_eq_true rfl, Nat.le_of_ble_eq_true rfl, Nat.le_of_ble_eq_true rfl, Nat.le_of_ble_eq_true rfl⟩ hR.x (as := [.int (nI k)]) rfl rfl (c_X1_word hl 3 S.x hR.x k hk) ?_
    refine ev_blk (B := [(.aload_n 0, 1)]) (pe := 13) (ls' := [some (.ref (0)), some (.int (nI k))]) (st' := [.ref (0), .long (e1 (cw S.x k))]) ⟨dX10_isBelow_12, rfl⟩ rfl ?_
    refine ev_getf (v := .ref (3)) F_RX10_19 dX10_isBelow_13 hR.o rfl ?_
    refine ev_blk (B := [(.iload_n 1, 1)]) (pe := 17) (ls' := [some (.ref (0)), some (.int (nI k))]) (st' := [.int (nI k), .ref (3), .long (e1 (cw S.x k))]) ⟨dX10_isBelow_16, rfl⟩ rfl ?_
    refine ev_cSv Y_X10_other L_RX10_200 dX10_isBelow_17 ⟨Nat.le_of_ble_eq_true rfl, Nat.le_of_ble_eq_true rfl, Nat.le_of_ble_eq_true rfl, Nat.le_of_ble_eq_true rfl, Nat.le_of_ble_eq_true rfl⟩ (as := [.int (nI k)]) rfl rfl (c_X10_other hl k hk) ?_
    refine ev_cVv Y_X1_word L_RX10_135 dX10_isBelow_20 ⟨Nat.le_of_ble_eq_true rfl, Nat.le_of_ble_eq_true rfl, Nat.le_of_ble_eq_true rfl, Nat.le_of_ble_eq_true rfl, Nat.le_of_ble_eq_true rfl⟩ hR.x (as := [.int (nI (1 - k))]) rfl rfl (c_X1_word hl 3 S.x hR.x (1 - k) (by omega)) ?_
    refine ev_cSv Y_X9_below L_RX10_204 dX10_isBelow_23 ⟨Nat.le_of_ble_eq_true rfl, Nat.le_of_ble_eq_true rfl, Nat.le_of_ble_eq_true rfl, Nat.le_of_ble_eq_true rfl, Nat.le_of_ble_eq_true rfl⟩ (as := [.long (e1 (cw S.x k)), .long (e1 (cw S.x (1 - k)))]) rfl rfl (c_X9_below hl ((cw S.x k)) ((cw S.x (1 - k))) hcw.1 (Nat.le_trans hcw.2 (by decide)) hcv.1 (Nat.le_trans hcv.2 (by decide))) ?_
    refine ev_iret dX10_isBelow_26 rfl (ev_b_nar _) ⟨Nat.le_of_ble_eq_true rfl, Nat.le_of_ble_eq_true rfl⟩ ?_
    have e9 : sBel S (nI k) = (0, ev_b (wb (cw S.x k) (cw S.x (1 - k)))) := by simp [sBel, jk, tk]
    rw [e9]
    exact ⟨rfl, ⟨hR.o, hR.m, hR.x, hR.g, hR.h, hR.k, hR.a, hR.l, hR.r, hR.w, hR.s⟩, Fr.rf⟩
  · have ia9 := ia
    refine ev_body hl rfl (by decide +kernel) (Nat.le_of_ble_eq_true rfl) ?_
    show ev_ l m_X10_isBelow 0 0 0 [some (.ref (0)), some (.int (a))] [] M _
    refine ev_blk (B := [(.iload_n 1, 1)]) (pe := 1) (ls' := [some (.ref (0)), some (.int (a))]) (st' := [.int (a)]) ⟨dX10_isBelow_0, rfl⟩ rfl ?_
    refine ev_cSx Y_X10_requireChannel L_RX10_130 dX10_isBelow_1 ⟨Nat.le_of_ble_eq_true rfl, Nat.le_of_ble_eq_true rfl, Nat.le_of_ble_eq_true rfl, Nat.le_of_ble_eq_true rfl, Nat.le_of_ble_eq_true rfl⟩ (as := [.int (a)]) rfl rfl (c_X10_requireChannelF hl _ ia) ?_
    refine ev_Th_out rfl ⟨Nat.le_of_ble_eq_true rfl, Nat.le_of_ble_eq_true rfl⟩ ?_
    have e9 : sBel S a = (1, 0) := by simp [sBel, ia]
    rw [e9]
    exact ⟨rfl, ⟨hR.o, hR.m, hR.x, hR.g, hR.h, hR.k, hR.a, hR.l, hR.r, hR.w, hR.s⟩, Fr.rf⟩

set_option maxHeartbeats 4000000 in
set_option maxRecDepth 100000 in
theorem c_X10_embeddings {l : Launch} (hl : l.stackTraces = false) {M : ev_M} (S : St) (hS : okS S) (hR : RCl M S) (a : Int32) : ev_Mt l m_X10_embeddings [.ref (0), .int (a)] M (fun r M1 => r = cA [eIB] (sEmb S a) ∧ RCl M1 S ∧ Fr 0 104 M M1) := by
  have hTl : S.T.length ≤ 10 := hR.m.1
  have hGl : S.G.length ≤ 3 := hR.g.2.1
  rcases inR_c a 2 (by omega) with ⟨k, hk, rfl⟩ | ia
  · have jk : inR (nI k) 2 = true := inR_n hk (by omega)
    have tk : (nI k).toNatClampNeg = k := nI_clamp (by omega)
    have hcw := cw_ok hS.x k
    have hcw9 : (cw S.x k).length ≤ 10 := hcw.2
    have hcv := cw_ok hS.x (1 - k)
    have hcv9 : (cw S.x (1 - k)).length ≤ 10 := hcv.2
    refine ev_body hl rfl (by decide +kernel) (Nat.le_of_ble_eq_true rfl) ?_
    show ev_ l m_X10_embeddings 0 0 0 [some (.ref (0)), some (.int (nI k))] [] M _
    refine ev_blk (B := [(.iload_n 1, 1)]) (pe := 1) (ls' := [some (.ref (0)), some (.int (nI k))]) (st' := [.int (nI k)]) ⟨dX10_embeddings_0, rfl⟩ rfl ?_
    refine ev_cS0 Y_X10_requireChannel L_RX10_130 dX10_embeddings_1 ⟨Nat.le_of_ble_eq_true rfl, Nat.le_of_ble_eq_true rfl, Nat.le_of_ble_eq_true rfl, Nat.le_of_ble_eq_true rfl, Nat.le_of_ble_eq_true rfl⟩ (as := [.int (nI k)]) rfl rfl (c_X10_requireChannelT hl _ jk) ?_
    refine ev_blk (B := [(.aload_n 0, 1)]) (pe := 5) (ls' := [some (.ref (0)), some (.int (nI k))]) (st' := [.ref (0)]) ⟨dX10_embeddings_4, rfl⟩ rfl ?_
    refine ev_getf (v := .ref (15)) F_RX10_42 dX10_embeddings_5 hR.o rfl ?_
    refine ev_blk (B := [(.aload_n 0, 1)]) (pe := 9) (ls' := [some (.ref (0)), some (.int (nI k))]) (st' := [.ref (0), .ref (15)]) ⟨dX10_embeddings_8, rfl⟩ rfl ?_
    refine ev_getf (v := .ref (3)) F_RX10_19 dX10_embeddings_9 hR.o rfl ?_
    refine ev_blk (B := [(.iload_n 1, 1)]) (pe := 13) (ls' := [some (.ref (0)), some (.int (nI k))]) (st' := [.int (nI k), .ref (3), .ref (15)]) ⟨dX10_embeddings_12, rfl⟩ rfl ?_
    refine ev_cVv Y_X1_word L_RX10_135 dX10_embeddings_13 ⟨Nat.le_of_ble_eq_true rfl, Nat.le_of_ble_eq_true rfl, Nat.le_of_ble_eq_true rfl, Nat.le_of_ble_eq_true rfl, Nat.le_of_ble_eq_true rfl⟩ hR.x (as := [.int (nI k)]) rfl rfl (c_X1_word hl 3 S.x hR.x k hk) ?_
    refine ev_blk (B := [(.aload_n 0, 1)]) (pe := 17) (ls' := [some (.ref (0)), some (.int (nI k))]) (st' := [.ref (0), .long (e1 (cw S.x k)), .ref (15)]) ⟨dX10_embeddings_16, rfl⟩ rfl ?_
    refine ev_getf (v := .ref (3)) F_RX10_19 dX10_embeddings_17 hR.o rfl ?_
    refine ev_blk (B := [(.iload_n 1, 1)]) (pe := 21) (ls' := [some (.ref (0)), some (.int (nI k))]) (st' := [.int (nI k), .ref (3), .long (e1 (cw S.x k)), .ref (15)]) ⟨dX10_embeddings_20, rfl⟩ rfl ?_
    refine ev_cSv Y_X10_other L_RX10_200 dX10_embeddings_21 ⟨Nat.le_of_ble_eq_true rfl, Nat.le_of_ble_eq_true rfl, Nat.le_of_ble_eq_true rfl, Nat.le_of_ble_eq_true rfl, Nat.le_of_ble_eq_true rfl⟩ (as := [.int (nI k)]) rfl rfl (c_X10_other hl k hk) ?_
    refine ev_cVv Y_X1_word L_RX10_135 dX10_embeddings_24 ⟨Nat.le_of_ble_eq_true rfl, Nat.le_of_ble_eq_true rfl, Nat.le_of_ble_eq_true rfl, Nat.le_of_ble_eq_true rfl, Nat.le_of_ble_eq_true rfl⟩ hR.x (as := [.int (nI (1 - k))]) rfl rfl (c_X1_word hl 3 S.x hR.x (1 - k) (by omega)) ?_
    refine ev_cVw Y_X3_places L_RX10_208 dX10_embeddings_27 ⟨Nat.le_of_ble_eq_true rfl, Nat.le_of_ble_eq_true rfl, Nat.le_of_ble_eq_true rfl, Nat.le_of_ble_eq_true rfl, Nat.le_of_ble_eq_true rfl⟩ (hR.k).obj (as := [.long (e1 (cw S.x k)), .long (e1 (cw S.x (1 - k)))]) rfl rfl (c_X3_places hl 15 hR.k (cw S.x k) hcw.1 hcw.2 (cw S.x (1 - k)) hcv.1 hcv.2) (fun M1 hL1 hB1 => ?_)
    obtain ⟨Da, Df⟩ := hB1
    refine ev_iret dX10_embeddings_30 rfl (rfl) ⟨Nat.le_of_ble_eq_true rfl, Nat.le_of_ble_eq_true rfl⟩ ?_
    have e9 : sEmb S (nI k) = (0, nI (em (cw S.x k) (cw S.x (1 - k)) (cw S.x (1 - k)).length (cw S.x k).length)) := by simp [sEmb, jk, tk]
    rw [e9]
    exact ⟨rfl, ⟨(hR.o.fr Df (by omega)), (hR.m.fr Df (by omega)), (hR.x.fr Df (by omega)), (hR.g.fr Df (by omega)), (hR.h.fr Df (by omega)), Da, (hR.a.fr Df (by omega)), (hR.l.fr Df (by omega)), (hR.r.fr Df (by omega)), (hR.w.fr Df (by omega)), (hR.s.fr Df (by omega))⟩, (Df.to (by omega) (by omega))⟩
  · have ia9 := ia
    refine ev_body hl rfl (by decide +kernel) (Nat.le_of_ble_eq_true rfl) ?_
    show ev_ l m_X10_embeddings 0 0 0 [some (.ref (0)), some (.int (a))] [] M _
    refine ev_blk (B := [(.iload_n 1, 1)]) (pe := 1) (ls' := [some (.ref (0)), some (.int (a))]) (st' := [.int (a)]) ⟨dX10_embeddings_0, rfl⟩ rfl ?_
    refine ev_cSx Y_X10_requireChannel L_RX10_130 dX10_embeddings_1 ⟨Nat.le_of_ble_eq_true rfl, Nat.le_of_ble_eq_true rfl, Nat.le_of_ble_eq_true rfl, Nat.le_of_ble_eq_true rfl, Nat.le_of_ble_eq_true rfl⟩ (as := [.int (a)]) rfl rfl (c_X10_requireChannelF hl _ ia) ?_
    refine ev_Th_out rfl ⟨Nat.le_of_ble_eq_true rfl, Nat.le_of_ble_eq_true rfl⟩ ?_
    have e9 : sEmb S a = (1, 0) := by simp [sEmb, ia]
    rw [e9]
    exact ⟨rfl, ⟨hR.o, hR.m, hR.x, hR.g, hR.h, hR.k, hR.a, hR.l, hR.r, hR.w, hR.s⟩, Fr.rf⟩

set_option maxHeartbeats 4000000 in
set_option maxRecDepth 100000 in
theorem c_X10_common {l : Launch} (hl : l.stackTraces = false) {M : ev_M} (S : St) (hS : okS S) (hR : RCl M S) : ev_Mt l m_X10_common [.ref (0)] M (fun r M1 => r = cA [] (sCom S) ∧ RCl M1 S ∧ Fr 0 104 M M1) := by
  have hTl : S.T.length ≤ 10 := hR.m.1
  have hGl : S.G.length ≤ 3 := hR.g.2.1
  refine ev_body hl rfl (by decide +kernel) (Nat.le_of_ble_eq_true rfl) ?_
  show ev_ l m_X10_common 0 0 0 [some (.ref (0))] [] M _
  refine ev_blk (B := [(.aload_n 0, 1)]) (pe := 1) (ls' := [some (.ref (0))]) (st' := [.ref (0)]) ⟨dX10_common_0, rfl⟩ rfl ?_
  refine ev_getf (v := .ref (15)) F_RX10_42 dX10_common_1 hR.o rfl ?_
  refine ev_blk (B := [(.aload_n 0, 1)]) (pe := 5) (ls' := [some (.ref (0))]) (st' := [.ref (0), .ref (15)]) ⟨dX10_common_4, rfl⟩ rfl ?_
  refine ev_getf (v := .ref (3)) F_RX10_19 dX10_common_5 hR.o rfl ?_
  refine ev_getf (v := .long (e1 S.x.2.1)) F_RX10_212 dX10_common_8 hR.x rfl ?_
  refine ev_blk (B := [(.aload_n 0, 1)]) (pe := 12) (ls' := [some (.ref (0))]) (st' := [.ref (0), .long (e1 S.x.2.1), .ref (15)]) ⟨dX10_common_11, rfl⟩ rfl ?_
  refine ev_getf (v := .ref (3)) F_RX10_19 dX10_common_12 hR.o rfl ?_
  refine ev_getf (v := .long (e1 S.x.2.2)) F_RX10_216 dX10_common_15 hR.x rfl ?_
  refine ev_cVw Y_X3_longestCommon L_RX10_219 dX10_common_18 ⟨Nat.le_of_ble_eq_true rfl, Nat.le_of_ble_eq_true rfl, Nat.le_of_ble_eq_true rfl, Nat.le_of_ble_eq_true rfl, Nat.le_of_ble_eq_true rfl⟩ (hR.k).obj (as := [.long (e1 S.x.2.1), .long (e1 S.x.2.2)]) rfl rfl (c_X3_longestCommon hl 15 hR.k S.x.2.1 hS.x.2.1 hS.x.2.2.1 S.x.2.2 hS.x.2.2.2.1 hS.x.2.2.2.2) (fun M1 hL1 hB1 => ?_)
  obtain ⟨Da, Df⟩ := hB1
  refine ev_iret dX10_common_21 rfl (rfl) ⟨Nat.le_of_ble_eq_true rfl, Nat.le_of_ble_eq_true rfl⟩ ?_
  have e9 : sCom S = (0, nI (lc S.x.2.1 S.x.2.2 S.x.2.1.length S.x.2.2.length)) := by simp [sCom]
  rw [e9]
  exact ⟨rfl, ⟨(hR.o.fr Df (by omega)), (hR.m.fr Df (by omega)), (hR.x.fr Df (by omega)), (hR.g.fr Df (by omega)), (hR.h.fr Df (by omega)), Da, (hR.a.fr Df (by omega)), (hR.l.fr Df (by omega)), (hR.r.fr Df (by omega)), (hR.w.fr Df (by omega)), (hR.s.fr Df (by omega))⟩, (Df.to (by omega) (by omega))⟩

set_option maxHeartbeats 4000000 in
set_option maxRecDepth 100000 in
theorem c_X10_subwords {l : Launch} (hl : l.stackTraces = false) {M : ev_M} (S : St) (hS : okS S) (hR : RCl M S) (a : Int32) : ev_Mt l m_X10_subwords [.ref (0), .int (a)] M (fun r M1 => r = cA [eIB] (sSub S a) ∧ RCl M1 S ∧ Fr 0 104 M M1) := by
  have hTl : S.T.length ≤ 10 := hR.m.1
  have hGl : S.G.length ≤ 3 := hR.g.2.1
  rcases inR_c a 2 (by omega) with ⟨k, hk, rfl⟩ | ia
  · have jk : inR (nI k) 2 = true := inR_n hk (by omega)
    have tk : (nI k).toNatClampNeg = k := nI_clamp (by omega)
    have hcw := cw_ok hS.x k
    have hcw9 : (cw S.x k).length ≤ 10 := hcw.2
    have hcv := cw_ok hS.x (1 - k)
    have hcv9 : (cw S.x (1 - k)).length ≤ 10 := hcv.2
    refine ev_body hl rfl (by decide +kernel) (Nat.le_of_ble_eq_true rfl) ?_
    show ev_ l m_X10_subwords 0 0 0 [some (.ref (0)), some (.int (nI k))] [] M _
    refine ev_blk (B := [(.iload_n 1, 1)]) (pe := 1) (ls' := [some (.ref (0)), some (.int (nI k))]) (st' := [.int (nI k)]) ⟨dX10_subwords_0, rfl⟩ rfl ?_
    refine ev_cS0 Y_X10_requireChannel L_RX10_130 dX10_subwords_1 ⟨Nat.le_of_ble_eq_true rfl, Nat.le_of_ble_eq_true rfl, Nat.le_of_ble_eq_true rfl, Nat.le_of_ble_eq_true rfl, Nat.le_of_ble_eq_true rfl⟩ (as := [.int (nI k)]) rfl rfl (c_X10_requireChannelT hl _ jk) ?_
    refine ev_blk (B := [(.aload_n 0, 1)]) (pe := 5) (ls' := [some (.ref (0)), some (.int (nI k))]) (st' := [.ref (0)]) ⟨dX10_subwords_4, rfl⟩ rfl ?_
    refine ev_getf (v := .ref (15)) F_RX10_42 dX10_subwords_5 hR.o rfl ?_
    refine ev_blk (B := [(.aload_n 0, 1)]) (pe := 9) (ls' := [some (.ref (0)), some (.int (nI k))]) (st' := [.ref (0), .ref (15)]) ⟨dX10_subwords_8, rfl⟩ rfl ?_
    refine ev_getf (v := .ref (3)) F_RX10_19 dX10_subwords_9 hR.o rfl ?_
    refine ev_blk (B := [(.iload_n 1, 1)]) (pe := 13) (ls' := [some (.ref (0)), some (.int (nI k))]) (st' := [.int (nI k), .ref (3), .ref (15)]) ⟨dX10_subwords_12, rfl⟩ rfl ?_
    refine ev_cVv Y_X1_word L_RX10_135 dX10_subwords_13 ⟨Nat.le_of_ble_eq_true rfl, Nat.le_of_ble_eq_true rfl, Nat.le_of_ble_eq_true rfl, Nat.le_of_ble_eq_true rfl, Nat.le_of_ble_eq_true rfl⟩ hR.x (as := [.int (nI k)]) rfl rfl (c_X1_word hl 3 S.x hR.x k hk) ?_
    refine ev_cVw Y_X3_wordsBelow L_RX10_222 dX10_subwords_16 ⟨Nat.le_of_ble_eq_true rfl, Nat.le_of_ble_eq_true rfl, Nat.le_of_ble_eq_true rfl, Nat.le_of_ble_eq_true rfl, Nat.le_of_ble_eq_true rfl⟩ (hR.k).obj (as := [.long (e1 (cw S.x k))]) rfl rfl (c_X3_wordsBelow hl 15 hR.k (cw S.x k) hcw.1 hcw.2) (fun M1 hL1 hB1 => ?_)
    obtain ⟨Da, Df⟩ := hB1
    refine ev_iret dX10_subwords_19 rfl (rfl) ⟨Nat.le_of_ble_eq_true rfl, Nat.le_of_ble_eq_true rfl⟩ ?_
    have e9 : sSub S (nI k) = (0, nI (1 + sw (cw S.x k) (cw S.x k).length 0 + sw (cw S.x k) (cw S.x k).length 1 + sw (cw S.x k) (cw S.x k).length 2)) := by simp [sSub, jk, tk]
    rw [e9]
    exact ⟨rfl, ⟨(hR.o.fr Df (by omega)), (hR.m.fr Df (by omega)), (hR.x.fr Df (by omega)), (hR.g.fr Df (by omega)), (hR.h.fr Df (by omega)), Da, (hR.a.fr Df (by omega)), (hR.l.fr Df (by omega)), (hR.r.fr Df (by omega)), (hR.w.fr Df (by omega)), (hR.s.fr Df (by omega))⟩, (Df.to (by omega) (by omega))⟩
  · have ia9 := ia
    refine ev_body hl rfl (by decide +kernel) (Nat.le_of_ble_eq_true rfl) ?_
    show ev_ l m_X10_subwords 0 0 0 [some (.ref (0)), some (.int (a))] [] M _
    refine ev_blk (B := [(.iload_n 1, 1)]) (pe := 1) (ls' := [some (.ref (0)), some (.int (a))]) (st' := [.int (a)]) ⟨dX10_subwords_0, rfl⟩ rfl ?_
    refine ev_cSx Y_X10_requireChannel L_RX10_130 dX10_subwords_1 ⟨Nat.le_of_ble_eq_true rfl, Nat.le_of_ble_eq_true rfl, Nat.le_of_ble_eq_true rfl, Nat.le_of_ble_eq_true rfl, Nat.le_of_ble_eq_true rfl⟩ (as := [.int (a)]) rfl rfl (c_X10_requireChannelF hl _ ia) ?_
    refine ev_Th_out rfl ⟨Nat.le_of_ble_eq_true rfl, Nat.le_of_ble_eq_true rfl⟩ ?_
    have e9 : sSub S a = (1, 0) := by simp [sSub, ia]
    rw [e9]
    exact ⟨rfl, ⟨hR.o, hR.m, hR.x, hR.g, hR.h, hR.k, hR.a, hR.l, hR.r, hR.w, hR.s⟩, Fr.rf⟩

set_option maxHeartbeats 4000000 in
set_option maxRecDepth 100000 in
theorem c_X10_addGoal {l : Launch} (hl : l.stackTraces = false) {M : ev_M} (S : St) (hS : okS S) (hR : RCl M S) : ev_Mt l m_X10_addGoal [.ref (0)] M (fun r M1 => r = cA [eIS] (sAdG S).1 ∧ RCl M1 (sAdG S).2 ∧ Fr 0 104 M M1) := by
  have hTl : S.T.length ≤ 10 := hR.m.1
  have hGl : S.G.length ≤ 3 := hR.g.2.1
  refine ev_body hl rfl (by decide +kernel) (Nat.le_of_ble_eq_true rfl) ?_
  show ev_ l m_X10_addGoal 0 0 0 [some (.ref (0))] [] M _
  refine ev_blk (B := [(.aload_n 0, 1)]) (pe := 1) (ls' := [some (.ref (0))]) (st' := [.ref (0)]) ⟨dX10_addGoal_0, rfl⟩ rfl ?_
  refine ev_getf (v := .ref (4)) F_RX10_28 dX10_addGoal_1 hR.o rfl ?_
  refine ev_cVv Y_X2_size L_RX10_225 dX10_addGoal_4 ⟨Nat.le_of_ble_eq_true rfl, Nat.le_of_ble_eq_true rfl, Nat.le_of_ble_eq_true rfl, Nat.le_of_ble_eq_true rfl, Nat.le_of_ble_eq_true rfl⟩ (hR.g).obj (as := []) rfl rfl (c_X2_size hl 4 3 (S.G) hR.g) ?_
  refine ev_blk (B := [(.iconst 3, 1)]) (pe := 8) (ls' := [some (.ref (0))]) (st' := [.int (nI 3), .int (nI (S.G.length))]) ⟨dX10_addGoal_7, rfl⟩ rfl ?_
  refine ev_iN_lt dX10_addGoal_8 (tgt := 21) (by decide) (by omega) (by omega) (fun q8 => ?_) (fun q8 => ?_)
  · refine ev_blk (B := [(.aload_n 0, 1)]) (pe := 22) (ls' := [some (.ref (0))]) (st' := [.ref (0)]) ⟨dX10_addGoal_21, rfl⟩ rfl ?_
    refine ev_getf (v := .ref (4)) F_RX10_28 dX10_addGoal_22 hR.o rfl ?_
    refine ev_blk (B := [(.aload_n 0, 1)]) (pe := 26) (ls' := [some (.ref (0))]) (st' := [.ref (0), .ref (4)]) ⟨dX10_addGoal_25, rfl⟩ rfl ?_
    refine ev_getf (v := .ref (3)) F_RX10_19 dX10_addGoal_26 hR.o rfl ?_
    refine ev_cVn Y_X2_add L_RX10_229 dX10_addGoal_29 ⟨Nat.le_of_ble_eq_true rfl, Nat.le_of_ble_eq_true rfl, Nat.le_of_ble_eq_true rfl, Nat.le_of_ble_eq_true rfl, Nat.le_of_ble_eq_true rfl⟩ (hR.g).obj (as := [.ref (3)]) rfl rfl (c_X2_add hl 4 3 S.G hR.g 3 S.x hR.x (by omega) (by omega)) (fun M1 hL1 hB1 => ?_)
    obtain ⟨D2a, D2f⟩ := hB1
    refine ev_blk (B := [(.aload_n 0, 1)]) (pe := 33) (ls' := [some (.ref (0))]) (st' := [.ref (0)]) ⟨dX10_addGoal_32, rfl⟩ rfl ?_
    refine ev_getf (v := .ref (17)) F_RX10_49 dX10_addGoal_33 (hR.o.fr D2f (by omega)) rfl ?_
    obtain ⟨cu, tr9, lo9, B9, co, la, N9, hA, hBs, hAN, hA8, hA9, hAf⟩ := (hR.a.fr D2f (by omega))
    refine ev_cVn Y_X0_discard L_RX10_106 dX10_addGoal_36 ⟨Nat.le_of_ble_eq_true rfl, Nat.le_of_ble_eq_true rfl, Nat.le_of_ble_eq_true rfl, Nat.le_of_ble_eq_true rfl, Nat.le_of_ble_eq_true rfl⟩ hA.1 (as := []) rfl rfl (c_X0_discard hl 17 cu co la tr9 lo9 hA) (fun M3 hL3 hB3 => ?_)
    obtain ⟨D4a, D4f⟩ := hB3
    refine ev_blk (B := [(.aload_n 0, 1)]) (pe := 40) (ls' := [some (.ref (0))]) (st' := [.ref (0)]) ⟨dX10_addGoal_39, rfl⟩ rfl ?_
    refine ev_getf (v := .ref (4)) F_RX10_28 dX10_addGoal_40 ((hR.o.fr D2f (by omega)).fr D4f (by omega)) rfl ?_
    refine ev_cVv Y_X2_size L_RX10_225 dX10_addGoal_43 ⟨Nat.le_of_ble_eq_true rfl, Nat.le_of_ble_eq_true rfl, Nat.le_of_ble_eq_true rfl, Nat.le_of_ble_eq_true rfl, Nat.le_of_ble_eq_true rfl⟩ ((D2a.fr D4f (by omega))).obj (as := []) rfl rfl (c_X2_size hl 4 3 ((S.G ++ [S.x])) (D2a.fr D4f (by omega))) ?_
    rw [List.length_append, List.length_singleton]
    refine ev_iret dX10_addGoal_46 rfl (rfl) ⟨Nat.le_of_ble_eq_true rfl, Nat.le_of_ble_eq_true rfl⟩ ?_
    have e9 : sAdG S = ((0, nI (S.G.length + 1)), (St.mk S.T S.x (S.G ++ [S.x]) S.H S.n S.t S.f S.tk S.T9 S.x9 S.G9)) := if_neg (Nat.not_le.mpr q8)
    rw [e9]
    exact ⟨rfl, ⟨((hR.o.fr D2f (by omega)).fr D4f (by omega)), ((hR.m.fr D2f (by omega)).fr D4f (by omega)), ((hR.x.fr D2f (by omega)).fr D4f (by omega)), (D2a.fr D4f (by omega)), ((hR.h.fr D2f (by omega)).fr D4f (by omega)), ((hR.k.fr D2f (by omega)).fr D4f (by omega)), ⟨false, tr9, lo9, B9, co, la, N9, D4a, hBs.fr D4f (by omega), hAN.fr D4f (by omega), RWk.fr hA8 D4f (by omega), RWk.fr hA9 D4f (by omega), fun z => nomatch z⟩, ((hR.l.fr D2f (by omega)).fr D4f (by omega)), ((hR.r.fr D2f (by omega)).fr D4f (by omega)), ((hR.w.fr D2f (by omega)).fr D4f (by omega)), ((hR.s.fr D2f (by omega)).fr D4f (by omega))⟩, ((D2f.to (by omega) (by omega)).tr (D4f.to (by omega) (by omega)))⟩
  · refine ev_throw (cls := "java/lang/IllegalStateException") (text := "there are 3 goals") (names := ev_nmR) (ic := 101) (ik := 97) rfl (by decide +kernel) (by decide +kernel) T_IllegalStateException (by decide +kernel) dX10_addGoal_11 dX10_addGoal_14 dX10_addGoal_15 dX10_addGoal_17 dX10_addGoal_20 ⟨Nat.le_of_ble_eq_true rfl, Nat.le_of_ble_eq_true rfl, Nat.le_of_ble_eq_true rfl, Nat.le_of_ble_eq_true rfl⟩ ?_
    have e9 : sAdG S = ((1, 0), S) := if_pos q8
    rw [e9]
    exact ⟨rfl, ⟨hR.o, hR.m, hR.x, hR.g, hR.h, hR.k, hR.a, hR.l, hR.r, hR.w, hR.s⟩, Fr.rf⟩

set_option maxHeartbeats 4000000 in
set_option maxRecDepth 100000 in
theorem c_X10_clearGoals {l : Launch} (hl : l.stackTraces = false) {M : ev_M} (S : St) (hS : okS S) (hR : RCl M S) : ev_Mt l m_X10_clearGoals [.ref (0)] M (fun r M1 => r = cA [] (sClG S).1 ∧ RCl M1 (sClG S).2 ∧ Fr 0 104 M M1) := by
  have hTl : S.T.length ≤ 10 := hR.m.1
  have hGl : S.G.length ≤ 3 := hR.g.2.1
  refine ev_body hl rfl (by decide +kernel) (Nat.le_of_ble_eq_true rfl) ?_
  show ev_ l m_X10_clearGoals 0 0 0 [some (.ref (0)), none] [] M _
  refine ev_blk (B := [(.aload_n 0, 1)]) (pe := 1) (ls' := [some (.ref (0)), none]) (st' := [.ref (0)]) ⟨dX10_clearGoals_0, rfl⟩ rfl ?_
  refine ev_getf (v := .ref (4)) F_RX10_28 dX10_clearGoals_1 hR.o rfl ?_
  refine ev_cVv Y_X2_size L_RX10_225 dX10_clearGoals_4 ⟨Nat.le_of_ble_eq_true rfl, Nat.le_of_ble_eq_true rfl, Nat.le_of_ble_eq_true rfl, Nat.le_of_ble_eq_true rfl, Nat.le_of_ble_eq_true rfl⟩ (hR.g).obj (as := []) rfl rfl (c_X2_size hl 4 3 (S.G) hR.g) ?_
  refine ev_blk (B := [(.istore_n 1, 1), (.aload_n 0, 1)]) (pe := 9) (ls' := [some (.ref (0)), some (.int (nI (S.G.length)))]) (st' := [.ref (0)]) ⟨dX10_clearGoals_7, dX10_clearGoals_8, rfl⟩ rfl ?_
  refine ev_getf (v := .ref (4)) F_RX10_28 dX10_clearGoals_9 hR.o rfl ?_
  refine ev_cVn Y_X2_removeAll L_RX10_232 dX10_clearGoals_12 ⟨Nat.le_of_ble_eq_true rfl, Nat.le_of_ble_eq_true rfl, Nat.le_of_ble_eq_true rfl, Nat.le_of_ble_eq_true rfl, Nat.le_of_ble_eq_true rfl⟩ (hR.g).obj (as := []) rfl rfl (c_X2_removeAll hl 4 3 S.G hR.g) (fun M1 hL1 hB1 => ?_)
  obtain ⟨D2a, D2f⟩ := hB1
  refine ev_blk (B := [(.aload_n 0, 1)]) (pe := 16) (ls' := [some (.ref (0)), some (.int (nI (S.G.length)))]) (st' := [.ref (0)]) ⟨dX10_clearGoals_15, rfl⟩ rfl ?_
  refine ev_getf (v := .ref (17)) F_RX10_49 dX10_clearGoals_16 (hR.o.fr D2f (by omega)) rfl ?_
  obtain ⟨cu, tr9, lo9, B9, co, la, N9, hA, hBs, hAN, hA8, hA9, hAf⟩ := (hR.a.fr D2f (by omega))
  refine ev_cVn Y_X0_discard L_RX10_106 dX10_clearGoals_19 ⟨Nat.le_of_ble_eq_true rfl, Nat.le_of_ble_eq_true rfl, Nat.le_of_ble_eq_true rfl, Nat.le_of_ble_eq_true rfl, Nat.le_of_ble_eq_true rfl⟩ hA.1 (as := []) rfl rfl (c_X0_discard hl 17 cu co la tr9 lo9 hA) (fun M3 hL3 hB3 => ?_)
  obtain ⟨D4a, D4f⟩ := hB3
  refine ev_blk (B := [(.iload_n 1, 1)]) (pe := 23) (ls' := [some (.ref (0)), some (.int (nI (S.G.length)))]) (st' := [.int (nI (S.G.length))]) ⟨dX10_clearGoals_22, rfl⟩ rfl ?_
  refine ev_iret dX10_clearGoals_23 rfl (rfl) ⟨Nat.le_of_ble_eq_true rfl, Nat.le_of_ble_eq_true rfl⟩ ?_
  have e9 : sClG S = ((0, nI S.G.length), (St.mk S.T S.x ([]) S.H S.n S.t S.f S.tk S.T9 S.x9 S.G9)) := by simp [sClG]
  rw [e9]
  exact ⟨rfl, ⟨((hR.o.fr D2f (by omega)).fr D4f (by omega)), ((hR.m.fr D2f (by omega)).fr D4f (by omega)), ((hR.x.fr D2f (by omega)).fr D4f (by omega)), (D2a.fr D4f (by omega)), ((hR.h.fr D2f (by omega)).fr D4f (by omega)), ((hR.k.fr D2f (by omega)).fr D4f (by omega)), ⟨false, tr9, lo9, B9, co, la, N9, D4a, hBs.fr D4f (by omega), hAN.fr D4f (by omega), RWk.fr hA8 D4f (by omega), RWk.fr hA9 D4f (by omega), fun z => nomatch z⟩, ((hR.l.fr D2f (by omega)).fr D4f (by omega)), ((hR.r.fr D2f (by omega)).fr D4f (by omega)), ((hR.w.fr D2f (by omega)).fr D4f (by omega)), ((hR.s.fr D2f (by omega)).fr D4f (by omega))⟩, ((D2f.to (by omega) (by omega)).tr (D4f.to (by omega) (by omega)))⟩

set_option maxHeartbeats 4000000 in
set_option maxRecDepth 100000 in
theorem c_X10_statesAfter {l : Launch} (hl : l.stackTraces = false) {M : ev_M} (S : St) (hS : okS S) (hR : RCl M S) (a : Int32) : ev_Mt l m_X10_statesAfter [.ref (0), .int (a)] M (fun r M1 => r = cA [eIA] (sAft S a) ∧ RCl M1 S ∧ Fr 0 104 M M1) := by
  have hTl : S.T.length ≤ 10 := hR.m.1
  have hGl : S.G.length ≤ 3 := hR.g.2.1
  rcases inR_c a 5 (by omega) with ⟨k, hk, rfl⟩ | ia
  · have jk : inR (nI k) 5 = true := inR_n hk (by omega)
    have tk : (nI k).toNatClampNeg = k := nI_clamp (by omega)
    refine ev_body hl rfl (by decide +kernel) (Nat.le_of_ble_eq_true rfl) ?_
    show ev_ l m_X10_statesAfter 0 0 0 [some (.ref (0)), some (.int (nI k))] [] M _
    refine ev_blk (B := [(.iload_n 1, 1)]) (pe := 1) (ls' := [some (.ref (0)), some (.int (nI k))]) (st' := [.int (nI k)]) ⟨dX10_statesAfter_0, rfl⟩ rfl ?_
    refine ev_fN_lt dX10_statesAfter_1 (tgt := 9) (by decide) (by omega) ?_
    refine ev_blk (B := [(.iload_n 1, 1), (.iconst 4, 1)]) (pe := 6) (ls' := [some (.ref (0)), some (.int (nI k))]) (st' := [.int (nI 4), .int (nI k)]) ⟨dX10_statesAfter_4, dX10_statesAfter_5, rfl⟩ rfl ?_
    refine ev_iN_le dX10_statesAfter_6 (tgt := 20) (by decide) (by omega) (by omega) (fun q6 => ?_) (fun q6 => ?_)
    · refine ev_blk (B := [(.iload_n 1, 1)]) (pe := 21) (ls' := [some (.ref (0)), some (.int (nI k))]) (st' := [.int (nI k)]) ⟨dX10_statesAfter_20, rfl⟩ rfl ?_
      refine ev_fN_ne dX10_statesAfter_21 (tgt := 34) (by decide) (by omega) (fun q21 => ?_) (fun q21 => ?_)
      · refine ev_blk (B := [(.aload_n 0, 1)]) (pe := 35) (ls' := [some (.ref (0)), some (.int (nI k))]) (st' := [.ref (0)]) ⟨dX10_statesAfter_34, rfl⟩ rfl ?_
        refine ev_getf (v := .ref (1)) F_RX10_10 dX10_statesAfter_35 hR.o rfl ?_
        refine ev_blk (B := [(.aload_n 0, 1)]) (pe := 39) (ls' := [some (.ref (0)), some (.int (nI k))]) (st' := [.ref (0), .ref (1)]) ⟨dX10_statesAfter_38, rfl⟩ rfl ?_
        refine ev_getf (v := .ref (77)) F_RX10_56 dX10_statesAfter_39 hR.o rfl ?_
        refine ev_blk (B := [(.aload_n 0, 1)]) (pe := 43) (ls' := [some (.ref (0)), some (.int (nI k))]) (st' := [.ref (0), .ref (77), .ref (1)]) ⟨dX10_statesAfter_42, rfl⟩ rfl ?_
        refine ev_getf (v := .ref (1)) F_RX10_10 dX10_statesAfter_43 hR.o rfl ?_
        refine ev_blk (B := [(.aload_n 0, 1)]) (pe := 47) (ls' := [some (.ref (0)), some (.int (nI k))]) (st' := [.ref (0), .ref (1), .ref (77), .ref (1)]) ⟨dX10_statesAfter_46, rfl⟩ rfl ?_
        refine ev_getf (v := .ref (3)) F_RX10_19 dX10_statesAfter_47 hR.o rfl ?_
        refine ev_blk (B := [(.iload_n 1, 1)]) (pe := 51) (ls' := [some (.ref (0)), some (.int (nI k))]) (st' := [.int (nI k), .ref (3), .ref (1), .ref (77), .ref (1)]) ⟨dX10_statesAfter_50, rfl⟩ rfl ?_
        obtain ⟨p77, q77, hpq77, hO7, hOr⟩ := hR.l
        refine ev_cVw Y_X5_lastFirings L_RX10_288 dX10_statesAfter_51 ⟨Nat.le_of_ble_eq_true rfl, Nat.le_of_ble_eq_true rfl, Nat.le_of_ble_eq_true rfl, Nat.le_of_ble_eq_true rfl, Nat.le_of_ble_eq_true rfl⟩ hO7 (as := [.ref (1), .ref (3), .int (nI k)]) rfl rfl (c_X5_lastFirings hl 77 1 S.T (by omega) hS.T 3 S.x hS.x (by omega) k (by omega) (by omega) hR.l hR.m hR.x) (fun M1 hL1 hB1 => ?_)
        obtain ⟨Da, Df⟩ := hB1
        refine ev_cVv Y_X4_newStates L_RX10_292 dX10_statesAfter_54 ⟨Nat.le_of_ble_eq_true rfl, Nat.le_of_ble_eq_true rfl, Nat.le_of_ble_eq_true rfl, Nat.le_of_ble_eq_true rfl, Nat.le_of_ble_eq_true rfl⟩ ((hR.m.fr Df (by omega))).obj (as := [.int (lfs S.T (rch S.T S.x (k - 1)) (rch S.T S.x (k - 1)).length)]) rfl rfl (c_X4_newStates hl 1 S.T (hR.m.fr Df (by omega)) hS.T (lfs S.T (rch S.T S.x (k - 1)) (rch S.T S.x (k - 1)).length)) ?_
        refine ev_iret dX10_statesAfter_57 rfl (rfl) ⟨Nat.le_of_ble_eq_true rfl, Nat.le_of_ble_eq_true rfl⟩ ?_
        have e9 : sAft S (nI k) = (0, nst S.T (lfs S.T (rch S.T S.x (k - 1)) (rch S.T S.x (k - 1)).length) S.T.length) := by
          unfold sAft tN
          rw [tk, if_neg (show ¬ inR (nI k) 5 = false by rw [jk]; decide), if_neg q21]
        rw [e9]
        exact ⟨rfl, ⟨(hR.o.fr Df (by omega)), (hR.m.fr Df (by omega)), (hR.x.fr Df (by omega)), (hR.g.fr Df (by omega)), (hR.h.fr Df (by omega)), (hR.k.fr Df (by omega)), (hR.a.fr Df (by omega)), Da, (hR.r.fr Df (by omega)), (hR.w.fr Df (by omega)), (hR.s.fr Df (by omega))⟩, (Df.to (by omega) (by omega))⟩
      · refine ev_blk (B := [(.iconst 1, 1), (.aload_n 0, 1)]) (pe := 26) (ls' := [some (.ref (0)), some (.int (nI k))]) (st' := [.ref (0), .int (nI 1)]) ⟨dX10_statesAfter_24, dX10_statesAfter_25, rfl⟩ rfl ?_
        refine ev_getf (v := .ref (3)) F_RX10_19 dX10_statesAfter_26 hR.o rfl ?_
        refine ev_getf (v := .int (nI (S.x.1))) F_RX10_123 dX10_statesAfter_29 hR.x rfl ?_
        refine ev_blk (B := [(.ishl, 1)]) (pe := 33) (ls' := [some (.ref (0)), some (.int (nI k))]) (st' := [.int ((nI 1) <<< ((nI (S.x.1)) &&& 31))]) ⟨dX10_statesAfter_32, rfl⟩ rfl ?_
        refine ev_iret dX10_statesAfter_33 rfl (rfl) ⟨Nat.le_of_ble_eq_true rfl, Nat.le_of_ble_eq_true rfl⟩ ?_
        have e9 : sAft S (nI k) = (0, (1 : Int32) <<< (nI S.x.1 &&& 31)) := by
          unfold sAft tN
          rw [tk, if_neg (show ¬ inR (nI k) 5 = false by rw [jk]; decide), if_pos q21]
        rw [e9]
        exact ⟨rfl, ⟨hR.o, hR.m, hR.x, hR.g, hR.h, hR.k, hR.a, hR.l, hR.r, hR.w, hR.s⟩, Fr.rf⟩
    · exact absurd q6 (by omega)
  · have ia9 := ia
    refine ev_body hl rfl (by decide +kernel) (Nat.le_of_ble_eq_true rfl) ?_
    show ev_ l m_X10_statesAfter 0 0 0 [some (.ref (0)), some (.int (a))] [] M _
    refine ev_blk (B := [(.iload_n 1, 1)]) (pe := 1) (ls' := [some (.ref (0)), some (.int (a))]) (st' := [.int (a)]) ⟨dX10_statesAfter_0, rfl⟩ rfl ?_
    refine ev_if_lt dX10_statesAfter_1 (tgt := 9) (by decide) (fun q1 => ?_) (fun q1 => ?_)
    · refine ev_throwW (cls := "java/lang/IllegalArgumentException") (text := "the number of firings is not from 0 to 4") (names := ev_nmR) (ic := 82) (ik := 78) rfl (by decide +kernel) (by decide +kernel) T_IllegalArgumentException (by decide +kernel) dX10_statesAfter_9 dX10_statesAfter_12 dX10_statesAfter_13 dX10_statesAfter_16 dX10_statesAfter_19 ⟨Nat.le_of_ble_eq_true rfl, Nat.le_of_ble_eq_true rfl, Nat.le_of_ble_eq_true rfl, Nat.le_of_ble_eq_true rfl⟩ ?_
      have e9 : sAft S a = (1, 0) := by simp [sAft, ia, q1]
      rw [e9]
      exact ⟨rfl, ⟨hR.o, hR.m, hR.x, hR.g, hR.h, hR.k, hR.a, hR.l, hR.r, hR.w, hR.s⟩, Fr.rf⟩
    · refine ev_blk (B := [(.iload_n 1, 1), (.iconst 4, 1)]) (pe := 6) (ls' := [some (.ref (0)), some (.int (a))]) (st' := [.int (nI 4), .int (a)]) ⟨dX10_statesAfter_4, dX10_statesAfter_5, rfl⟩ rfl ?_
      refine ev_ic_le dX10_statesAfter_6 (tgt := 20) (by decide) (fun q6 => ?_) (fun q6 => ?_)
      · exact (inR_no ia q1 (Int32.lt_of_le_of_lt q6 (by decide))).elim
      · refine ev_throwW (cls := "java/lang/IllegalArgumentException") (text := "the number of firings is not from 0 to 4") (names := ev_nmR) (ic := 82) (ik := 78) rfl (by decide +kernel) (by decide +kernel) T_IllegalArgumentException (by decide +kernel) dX10_statesAfter_9 dX10_statesAfter_12 dX10_statesAfter_13 dX10_statesAfter_16 dX10_statesAfter_19 ⟨Nat.le_of_ble_eq_true rfl, Nat.le_of_ble_eq_true rfl, Nat.le_of_ble_eq_true rfl, Nat.le_of_ble_eq_true rfl⟩ ?_
        have e9 : sAft S a = (1, 0) := by simp [sAft, ia, q1, q6]
        rw [e9]
        exact ⟨rfl, ⟨hR.o, hR.m, hR.x, hR.g, hR.h, hR.k, hR.a, hR.l, hR.r, hR.w, hR.s⟩, Fr.rf⟩

set_option maxHeartbeats 4000000 in
set_option maxRecDepth 100000 in
theorem c_X10_isLast {l : Launch} (hl : l.stackTraces = false) {M : ev_M} (S : St) (hS : okS S) (hR : RCl M S) (a : Int32) (b : Int32) : ev_Mt l m_X10_isLast [.ref (0), .int (a), .int (b)] M (fun r M1 => r = cA [eIB, eIA] (sLas S a b) ∧ RCl M1 S ∧ Fr 0 104 M M1) := by
  have hTl : S.T.length ≤ 10 := hR.m.1
  have hGl : S.G.length ≤ 3 := hR.g.2.1
  rcases inR_c a S.T.length (by omega) with ⟨k, hk, rfl⟩ | ia
  · have jk : inR (nI k) S.T.length = true := inR_n hk (by omega)
    have tk : (nI k).toNatClampNeg = k := nI_clamp (by omega)
    rcases inR_c b 5 (by omega) with ⟨j, hj, rfl⟩ | ib
    · have jj : inR (nI j) 5 = true := inR_n hj (by omega)
      have tj : (nI j).toNatClampNeg = j := nI_clamp (by omega)
      refine ev_body hl rfl (by decide +kernel) (Nat.le_of_ble_eq_true rfl) ?_
      show ev_ l m_X10_isLast 0 0 0 [some (.ref (0)), some (.int (nI k)), some (.int (nI j))] [] M _
      refine ev_blk (B := [(.aload_n 0, 1), (.iload_n 1, 1)]) (pe := 2) (ls' := [some (.ref (0)), some (.int (nI k)), some (.int (nI j))]) (st' := [.int (nI k), .ref (0)]) ⟨dX10_isLast_0, dX10_isLast_1, rfl⟩ rfl ?_
      refine ev_cV0 Y_X10_requireTransition L_RX10_109 dX10_isLast_2 ⟨Nat.le_of_ble_eq_true rfl, Nat.le_of_ble_eq_true rfl, Nat.le_of_ble_eq_true rfl, Nat.le_of_ble_eq_true rfl, Nat.le_of_ble_eq_true rfl⟩ hR.o (as := [.int (nI k)]) rfl rfl (c_X10_reqTT hl S hR _ jk) ?_
      refine ev_blk (B := [(.iload_n 2, 1), (.iconst 1, 1)]) (pe := 7) (ls' := [some (.ref (0)), some (.int (nI k)), some (.int (nI j))]) (st' := [.int (nI 1), .int (nI j)]) ⟨dX10_isLast_5, dX10_isLast_6, rfl⟩ rfl ?_
      refine ev_iN_lt dX10_isLast_7 (tgt := 15) (by decide) (by omega) (by omega) (fun q7 => ?_) (fun q7 => ?_)
      · refine ev_throwW (cls := "java/lang/IllegalArgumentException") (text := "the number of firings is not from 1 to 4") (names := ev_nmR) (ic := 82) (ik := 78) rfl (by decide +kernel) (by decide +kernel) T_IllegalArgumentException (by decide +kernel) dX10_isLast_15 dX10_isLast_18 dX10_isLast_19 dX10_isLast_22 dX10_isLast_25 ⟨Nat.le_of_ble_eq_true rfl, Nat.le_of_ble_eq_true rfl, Nat.le_of_ble_eq_true rfl, Nat.le_of_ble_eq_true rfl⟩ ?_
        have e9 : sLas S (nI k) (nI j) = (2, 0) := by
          unfold sLas tN
          rw [tk, tj, if_neg (show ¬ inR (nI k) S.T.length = false by rw [jk]; decide), if_neg (show ¬ inR (nI j) 5 = false by rw [jj]; decide), if_pos (show j = 0 by omega)]
        rw [e9]
        exact ⟨rfl, ⟨hR.o, hR.m, hR.x, hR.g, hR.h, hR.k, hR.a, hR.l, hR.r, hR.w, hR.s⟩, Fr.rf⟩
      · refine ev_blk (B := [(.iload_n 2, 1), (.iconst 4, 1)]) (pe := 12) (ls' := [some (.ref (0)), some (.int (nI k)), some (.int (nI j))]) (st' := [.int (nI 4), .int (nI j)]) ⟨dX10_isLast_10, dX10_isLast_11, rfl⟩ rfl ?_
        refine ev_iN_le dX10_isLast_12 (tgt := 26) (by decide) (by omega) (by omega) (fun q12 => ?_) (fun q12 => ?_)
        · refine ev_blk (B := [(.aload_n 0, 1)]) (pe := 27) (ls' := [some (.ref (0)), some (.int (nI k)), some (.int (nI j))]) (st' := [.ref (0)]) ⟨dX10_isLast_26, rfl⟩ rfl ?_
          refine ev_getf (v := .ref (77)) F_RX10_56 dX10_isLast_27 hR.o rfl ?_
          refine ev_blk (B := [(.aload_n 0, 1)]) (pe := 31) (ls' := [some (.ref (0)), some (.int (nI k)), some (.int (nI j))]) (st' := [.ref (0), .ref (77)]) ⟨dX10_isLast_30, rfl⟩ rfl ?_
          refine ev_getf (v := .ref (1)) F_RX10_10 dX10_isLast_31 hR.o rfl ?_
          refine ev_blk (B := [(.aload_n 0, 1)]) (pe := 35) (ls' := [some (.ref (0)), some (.int (nI k)), some (.int (nI j))]) (st' := [.ref (0), .ref (1), .ref (77)]) ⟨dX10_isLast_34, rfl⟩ rfl ?_
          refine ev_getf (v := .ref (3)) F_RX10_19 dX10_isLast_35 hR.o rfl ?_
          refine ev_blk (B := [(.iload_n 2, 1)]) (pe := 39) (ls' := [some (.ref (0)), some (.int (nI k)), some (.int (nI j))]) (st' := [.int (nI j), .ref (3), .ref (1), .ref (77)]) ⟨dX10_isLast_38, rfl⟩ rfl ?_
          obtain ⟨p77, q77, hpq77, hO7, hOr⟩ := hR.l
          refine ev_cVw Y_X5_lastFirings L_RX10_288 dX10_isLast_39 ⟨Nat.le_of_ble_eq_true rfl, Nat.le_of_ble_eq_true rfl, Nat.le_of_ble_eq_true rfl, Nat.le_of_ble_eq_true rfl, Nat.le_of_ble_eq_true rfl⟩ hO7 (as := [.ref (1), .ref (3), .int (nI j)]) rfl rfl (c_X5_lastFirings hl 77 1 S.T (by omega) hS.T 3 S.x hS.x (by omega) j (by omega) (by omega) hR.l hR.m hR.x) (fun M1 hL1 hB1 => ?_)
          obtain ⟨Da, Df⟩ := hB1
          refine ev_blk (B := [(.iload_n 1, 1), (.ishr, 1), (.iconst 1, 1), (.iand, 1), (.iconst 1, 1)]) (pe := 47) (ls' := [some (.ref (0)), some (.int (nI k)), some (.int (nI j))]) (st' := [.int (nI 1), .int (((lfs S.T (rch S.T S.x (j - 1)) (rch S.T S.x (j - 1)).length) >>> ((nI k) &&& 31)) &&& (nI 1))]) ⟨dX10_isLast_42, dX10_isLast_43, dX10_isLast_44, dX10_isLast_45, dX10_isLast_46, rfl⟩ rfl ?_
          refine ev_ic_ne dX10_isLast_47 (tgt := 54) (by decide) (fun q47 => ?_) (fun q47 => ?_)
          · refine ev_blk (B := [(.iconst 0, 1)]) (pe := 55) (ls' := [some (.ref (0)), some (.int (nI k)), some (.int (nI j))]) (st' := [.int (nI 0)]) ⟨dX10_isLast_54, rfl⟩ rfl ?_
            refine ev_iret dX10_isLast_55 rfl (rfl) ⟨Nat.le_of_ble_eq_true rfl, Nat.le_of_ble_eq_true rfl⟩ ?_
            have e9 : sLas S (nI k) (nI j) = (0, ev_b false) := by
              unfold sLas tN
              rw [tk, tj, if_neg (show ¬ inR (nI k) S.T.length = false by rw [jk]; decide), if_neg (show ¬ inR (nI j) 5 = false by rw [jj]; decide), if_neg (show ¬ j = 0 by omega), decide_eq_false q47]
            rw [e9]
            exact ⟨rfl, ⟨(hR.o.fr Df (by omega)), (hR.m.fr Df (by omega)), (hR.x.fr Df (by omega)), (hR.g.fr Df (by omega)), (hR.h.fr Df (by omega)), (hR.k.fr Df (by omega)), (hR.a.fr Df (by omega)), Da, (hR.r.fr Df (by omega)), (hR.w.fr Df (by omega)), (hR.s.fr Df (by omega))⟩, (Df.to (by omega) (by omega))⟩
          · refine ev_blk (B := [(.iconst 1, 1)]) (pe := 51) (ls' := [some (.ref (0)), some (.int (nI k)), some (.int (nI j))]) (st' := [.int (nI 1)]) ⟨dX10_isLast_50, rfl⟩ rfl ?_
            refine ev_goto (tgt := 55) dX10_isLast_51 (by decide) ?_
            refine ev_iret dX10_isLast_55 rfl (rfl) ⟨Nat.le_of_ble_eq_true rfl, Nat.le_of_ble_eq_true rfl⟩ ?_
            have e9 : sLas S (nI k) (nI j) = (0, ev_b true) := by
              unfold sLas tN
              rw [tk, tj, if_neg (show ¬ inR (nI k) S.T.length = false by rw [jk]; decide), if_neg (show ¬ inR (nI j) 5 = false by rw [jj]; decide), if_neg (show ¬ j = 0 by omega), decide_eq_true q47]
            rw [e9]
            exact ⟨rfl, ⟨(hR.o.fr Df (by omega)), (hR.m.fr Df (by omega)), (hR.x.fr Df (by omega)), (hR.g.fr Df (by omega)), (hR.h.fr Df (by omega)), (hR.k.fr Df (by omega)), (hR.a.fr Df (by omega)), Da, (hR.r.fr Df (by omega)), (hR.w.fr Df (by omega)), (hR.s.fr Df (by omega))⟩, (Df.to (by omega) (by omega))⟩
        · exact absurd q12 (by omega)
    · have ib9 := ib
      refine ev_body hl rfl (by decide +kernel) (Nat.le_of_ble_eq_true rfl) ?_
      show ev_ l m_X10_isLast 0 0 0 [some (.ref (0)), some (.int (nI k)), some (.int (b))] [] M _
      refine ev_blk (B := [(.aload_n 0, 1), (.iload_n 1, 1)]) (pe := 2) (ls' := [some (.ref (0)), some (.int (nI k)), some (.int (b))]) (st' := [.int (nI k), .ref (0)]) ⟨dX10_isLast_0, dX10_isLast_1, rfl⟩ rfl ?_
      refine ev_cV0 Y_X10_requireTransition L_RX10_109 dX10_isLast_2 ⟨Nat.le_of_ble_eq_true rfl, Nat.le_of_ble_eq_true rfl, Nat.le_of_ble_eq_true rfl, Nat.le_of_ble_eq_true rfl, Nat.le_of_ble_eq_true rfl⟩ hR.o (as := [.int (nI k)]) rfl rfl (c_X10_reqTT hl S hR _ jk) ?_
      refine ev_blk (B := [(.iload_n 2, 1), (.iconst 1, 1)]) (pe := 7) (ls' := [some (.ref (0)), some (.int (nI k)), some (.int (b))]) (st' := [.int (nI 1), .int (b)]) ⟨dX10_isLast_5, dX10_isLast_6, rfl⟩ rfl ?_
      refine ev_ic_lt dX10_isLast_7 (tgt := 15) (by decide) (fun q7 => ?_) (fun q7 => ?_)
      · refine ev_throwW (cls := "java/lang/IllegalArgumentException") (text := "the number of firings is not from 1 to 4") (names := ev_nmR) (ic := 82) (ik := 78) rfl (by decide +kernel) (by decide +kernel) T_IllegalArgumentException (by decide +kernel) dX10_isLast_15 dX10_isLast_18 dX10_isLast_19 dX10_isLast_22 dX10_isLast_25 ⟨Nat.le_of_ble_eq_true rfl, Nat.le_of_ble_eq_true rfl, Nat.le_of_ble_eq_true rfl, Nat.le_of_ble_eq_true rfl⟩ ?_
        have e9 : sLas S (nI k) b = (2, 0) := by simp [sLas, jk, tk, ib, q7]
        rw [e9]
        exact ⟨rfl, ⟨hR.o, hR.m, hR.x, hR.g, hR.h, hR.k, hR.a, hR.l, hR.r, hR.w, hR.s⟩, Fr.rf⟩
      · refine ev_blk (B := [(.iload_n 2, 1), (.iconst 4, 1)]) (pe := 12) (ls' := [some (.ref (0)), some (.int (nI k)), some (.int (b))]) (st' := [.int (nI 4), .int (b)]) ⟨dX10_isLast_10, dX10_isLast_11, rfl⟩ rfl ?_
        refine ev_ic_le dX10_isLast_12 (tgt := 26) (by decide) (fun q12 => ?_) (fun q12 => ?_)
        · exact (inR_no ib (fun z => q7 (Int32.lt_of_lt_of_le z (by decide))) (Int32.lt_of_le_of_lt q12 (by decide))).elim
        · refine ev_throwW (cls := "java/lang/IllegalArgumentException") (text := "the number of firings is not from 1 to 4") (names := ev_nmR) (ic := 82) (ik := 78) rfl (by decide +kernel) (by decide +kernel) T_IllegalArgumentException (by decide +kernel) dX10_isLast_15 dX10_isLast_18 dX10_isLast_19 dX10_isLast_22 dX10_isLast_25 ⟨Nat.le_of_ble_eq_true rfl, Nat.le_of_ble_eq_true rfl, Nat.le_of_ble_eq_true rfl, Nat.le_of_ble_eq_true rfl⟩ ?_
          have e9 : sLas S (nI k) b = (2, 0) := by simp [sLas, jk, tk, ib, q7, q12]
          rw [e9]
          exact ⟨rfl, ⟨hR.o, hR.m, hR.x, hR.g, hR.h, hR.k, hR.a, hR.l, hR.r, hR.w, hR.s⟩, Fr.rf⟩
  · have ia9 := ia
    refine ev_body hl rfl (by decide +kernel) (Nat.le_of_ble_eq_true rfl) ?_
    show ev_ l m_X10_isLast 0 0 0 [some (.ref (0)), some (.int (a)), some (.int (b))] [] M _
    refine ev_blk (B := [(.aload_n 0, 1), (.iload_n 1, 1)]) (pe := 2) (ls' := [some (.ref (0)), some (.int (a)), some (.int (b))]) (st' := [.int (a), .ref (0)]) ⟨dX10_isLast_0, dX10_isLast_1, rfl⟩ rfl ?_
    refine ev_cVx Y_X10_requireTransition L_RX10_109 dX10_isLast_2 ⟨Nat.le_of_ble_eq_true rfl, Nat.le_of_ble_eq_true rfl, Nat.le_of_ble_eq_true rfl, Nat.le_of_ble_eq_true rfl, Nat.le_of_ble_eq_true rfl⟩ hR.o (as := [.int (a)]) rfl rfl (c_X10_reqTF hl S hR _ ia) ?_
    refine ev_Th_out rfl ⟨Nat.le_of_ble_eq_true rfl, Nat.le_of_ble_eq_true rfl⟩ ?_
    have e9 : sLas S a b = (1, 0) := by simp [sLas, ia]
    rw [e9]
    exact ⟨rfl, ⟨hR.o, hR.m, hR.x, hR.g, hR.h, hR.k, hR.a, hR.l, hR.r, hR.w, hR.s⟩, Fr.rf⟩

