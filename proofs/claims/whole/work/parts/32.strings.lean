section EVX
variable {l : Launch} {mi mj : ev_MI} {kc ks pc : Nat} {ls : ev_L} {st : List Value} {M : ev_M} {Q : ev_R → ev_M → Prop}
theorem ev_xgc {k idx : Nat} (hk : k < 4) (hw : Cond.fieldLink (ev_y mi).cls idx "java/lang/String" "coder" "B" ∈ ev_bw) (hd : decode (ev_c mi) pc = .ok (.getfield idx, 3)) (kk : ev_ l mi kc ks (pc + 3) ls (.int (nI 0) :: st) M Q) : ev_ l mi kc ks pc ls (.retAddr (4 + k) :: st) M Q := by
  intro p e s m args below meth c D ad0 ad ax cA A H locs lsA L0 hC hS hA hL ha hP hD hK hX hM hO hOL hl hn
  exact vk_getf hC.2.1 hC.2.2.1 (hX.2.1 k hk).2.2.1 hS hC.2.2.2.2.1 (hC.2.2.2.2.2.1 _ hw) (fun _ h => h) hd (kk p e s m args below meth c D ad0 ad ax cA A H locs lsA L0 hC hS hA hL ha hP hD hK hX hM (ev_okS_c.mpr ⟨trivial, ev_okS_t hO⟩) hOL hl hn)
theorem ev_xgv {k idx : Nat} (hk : k < 4) (hw : Cond.fieldLink (ev_y mi).cls idx "java/lang/String" "value" "[B" ∈ ev_bw) (hd : decode (ev_c mi) pc = .ok (.getfield idx, 3)) (kk : ev_ l mi kc ks (pc + 3) ls (.retAddr (8 + k) :: st) M Q) : ev_ l mi kc ks pc ls (.retAddr (4 + k) :: st) M Q := by
  intro p e s m args below meth c D ad0 ad ax cA A H locs lsA L0 hC hS hA hL ha hP hD hK hX hM hO hOL hl hn
  exact vk_getf hC.2.1 hC.2.2.1 (hX.2.1 k hk).2.2.2.1 hS hC.2.2.2.2.1 (hC.2.2.2.2.2.1 _ hw) (fun _ h => h) hd (kk p e s m args below meth c D ad0 ad ax cA A H locs lsA L0 hC hS hA hL ha hP hD hK hX hM (ev_okS_c.mpr ⟨trivial, ev_okS_t hO⟩) hOL hl hn)
theorem ev_xcs {idx : Nat} (hw : Cond.fieldLink (ev_y mi).cls idx "java/lang/String" "COMPACT_STRINGS" "Z" ∈ ev_bw) (hd : decode (ev_c mi) pc = .ok (.getstatic idx, 3)) (kk : ev_ l mi kc ks (pc + 3) ls (.int (nI 1) :: st) M Q) : ev_ l mi kc ks pc ls (st) M Q := by
  intro p e s m args below meth c D ad0 ad ax cA A H locs lsA L0 hC hS hA hL ha hP hD hK hX hM hO hOL hl hn
  exact va_gets hC.2.1 hC.2.2.1 hX.2.2.1 hS hC.2.2.2.2.1 (hC.2.2.2.2.2.1 _ hw) (fun _ h => h) hd (kk p e s m args below meth c D ad0 ad ax cA A H locs lsA L0 hC hS hA hL ha hP hD hK hX hM (ev_okS_c.mpr ⟨trivial, hO⟩) hOL hl hn)
theorem ev_xlen {k : Nat} (hk : k < 4) (hd : decode (ev_c mi) pc = .ok (.arraylength, 1)) (kk : ev_ l mi kc ks (pc + 1) ls (.int (nI 4) :: st) M Q) : ev_ l mi kc ks pc ls (.retAddr (8 + k) :: st) M Q := by
  intro p e s m args below meth c D ad0 ad ax cA A H locs lsA L0 hC hS hA hL ha hP hD hK hX hM hO hOL hl hn
  exact va_tlen hC.2.1 hC.2.2.1 (hX.2.1 k hk).2.2.2.2 hS rfl hd (kk p e s m args below meth c D ad0 ad ax cA A H locs lsA L0 hC hS hA hL ha hP hD hK hX hM (ev_okS_c.mpr ⟨trivial, ev_okS_t hO⟩) hOL hl hn)
theorem ev_xba {k : Nat} {i : Int32} (hk : k < 4) (hi : vp_in i 4) (hd : decode (ev_c mi) pc = .ok (.baload, 1)) (kk : ev_ l mi kc ks (pc + 1) ls (.int ((ev_wc k).getD i.toNatClampNeg 0) :: st) M Q) : ev_ l mi kc ks pc ls (.int i :: .retAddr (8 + k) :: st) M Q := by
  intro p e s m args below meth c D ad0 ad ax cA A H locs lsA L0 hC hS hA hL ha hP hD hK hX hM hO hOL hl hn
  exact va_tb hC.2.1 hC.2.2.1 (hX.2.1 k hk).2.2.2.2 hS hi rfl hd (kk p e s m args below meth c D ad0 ad ax cA A H locs lsA L0 hC hS hA hL ha hP hD hK hX hM (ev_okS_c.mpr ⟨trivial, ev_okS_t (ev_okS_t hO)⟩) hOL hl hn)
theorem ev_xldc {k idx : Nat} (hk : k < 4) (hc9 : (ev_y mi).cls = "LossyChannels$TextReader") (hi : ev_si k = idx) (hd : decode (ev_c mi) pc = .ok (.ldc idx, 2)) (kk : ev_ l mi kc ks (pc + 2) ls (.retAddr (4 + k) :: st) M Q) : ev_ l mi kc ks pc ls st M Q := by
  intro p e s m args below meth c D ad0 ad ax cA A H locs lsA L0 hC hS hA hL ha hP hD hK hX hM hO hOL hl hn
  have hc0 : s.vm.findClass "LossyChannels$TextReader" = some m.cls := by rw [← hc9]; exact hC.2.2.2.2.1
  have hz : vk_R "LossyChannels$TextReader" idx (ev_sx k) (ax (4 + k)) s := by rw [← hi]; exact (hX.2.1 k hk).1
  exact va_ldcS hC.2.1 hC.2.2.1 hc0 hz hd (kk p e s m args below meth c D ad0 ad ax cA A H locs lsA L0 hC hS hA hL ha hP hD hK hX hM (ev_okS_c.mpr ⟨trivial, hO⟩) hOL hl hn)
def ev_YX (mj : ev_MI) (n : Nat) : Prop := ev_Yc mj n ∧ Cond.instanceMethod (ev_y mj) ∈ ev_bw ∧ Cond.selects (ev_y mj).cls (ev_y mj) (ev_y mj) ∈ ev_bw ∧ (ev_y mj).cls = "java/lang/String"
theorem ev_callX {idx n k : Nat} {as : List Value} {Qc : ev_R → ev_M → Prop} (hY : ev_YX mj n) (hw : Cond.methodLink (ev_y mi).cls idx (ev_y mj) ∈ ev_bw) (hd : decode (ev_c mi) pc = .ok (.invokevirtual idx, 3)) (hR : ev_Rm mi mj kc ks st) (hk : k < 4) (hlen : as.length = n)
    (hc : ev_Mt l mj (.retAddr (4 + k) :: as) M Qc)
    (kk : ∀ (v : Option Value) (M' : ev_M), M.length ≤ M'.length → Qc (.inl v) M' → ev_ l mi (kc + ev_mc mj) (ks + ev_ms mj) (pc + 3) ls (v.toList ++ st) M' Q)
    (kx : ∀ (E : String) (M' : ev_M), M.length ≤ M'.length → Qc (.inr E) M' → ev_Th l mi (kc + ev_mc mj) (ks + ev_ms mj) pc ls E M' Q) : ev_ l mi kc ks pc ls (as.reverse ++ .retAddr (4 + k) :: st) M Q := by
  intro p e s m args below meth c D ad0 ad ax cA A H locs lsA L0 hC hS hA hL ha hP hD hK hX hM hO hOL hl hn
  have hO2 : ev_okS M.length (.retAddr (4 + k) :: st) := fun w hw => hO w (List.mem_append_right _ hw)
  have hO3 : ev_okS M.length (.retAddr (4 + k) :: as) := fun w hw => by
    rcases List.mem_cons.mp hw with h | h
    · exact hO w (List.mem_append_right _ (h ▸ List.mem_cons_self))
    · exact hO w (List.mem_append_left _ (List.mem_reverse.mpr h))
  have hrecv := va_Orecv ((hX.2.1 k hk).2.1) hS
  rw [← hY.2.2.2] at hrecv
  have hbw := hC.2.2.2.2.2.1
  refine ev_after (mj := mj) (a := ((Value.retAddr (4 + k) :: as).map (ev_tr ad ax)).toArray) hC hS hA hL ha hP hD hK hX hM (ev_okS_t hO2) hOL hl hn (vx_runV (As := as.map (ev_tr ad ax)) ⟨hC.2.1, hC.2.2.1, hC.2.2.2.1, hC.2.2.2.2.1, hbw⟩ (hc hM hO3 D ad ax cA H.size) ⟨ev_callB hC hY.1 hw hR, hbw _ hY.2.1, hbw _ hY.2.2.1⟩ ⟨ev_blind, hrecv, fun U hU hW => ev_pre hS hA hP hD hK hX hU hW⟩ rfl (by rw [List.length_map]; exact hlen) hl.1 (by simp [List.map_append, List.map_reverse, ev_tr]) (lv_room (by rw [ev_cat_sum]; exact hR.2.2.2.2)) hd ⟨hR.2.2.1, hR.2.2.2.1⟩) kk kx
theorem ev_cXv {idx : Nat} {n k : Nat} {as : List Value} (hY : ev_YX mj n) (hw : Cond.methodLink (ev_y mi).cls idx (ev_y mj) ∈ ev_bw) (hd : decode (ev_c mi) pc = .ok (.invokevirtual idx, 3)) (hR : ev_Rm mi mj kc ks st) (hk : k < 4) (hlen : as.length = n) {stk : List Value} (hst : stk = as.reverse ++ .retAddr (4 + k) :: st) {v : Value} {M1 : ev_M} (hc : ev_Mt l mj (.retAddr (4 + k) :: as) M (ev_q (.inl (some v)) M1)) (kk : ev_ l mi (kc + ev_mc mj) (ks + ev_ms mj) (pc + 3) ls (v :: st) M1 Q) : ev_ l mi kc ks pc ls stk M Q := by
  subst hst
  refine ev_callX hY hw hd hR hk hlen hc (fun v' M' _ hq => ?_) (fun E M' _ hq => ?_)
  · obtain ⟨h1, rfl⟩ := hq
    cases h1
    exact kk
  · obtain ⟨h1, rfl⟩ := hq
    cases h1
end EVX
/-- the signs of the four names, as numbers -/
def xw (k i : Nat) : Nat := (([[109, 111, 118, 101], [115, 101, 110, 100], [114, 101, 99, 118], [103, 111, 97, 108]] : List (List Nat)).getD k []).getD i 0
theorem xw_b : ∀ k, k < 4 → ∀ i, i < 4 → ((((ev_wc k).getD i 0) &&& (nI 255)).toUInt32 % 65536).toInt32 = nI (xw k i) ∧ narrow .char (.int (nI (xw k i))) = .int (nI (xw k i)) ∧ (ev_wc k).getD i 0 = nI (xw k i) ∧ xw k i < 128 := by decide +kernel
theorem Y_J0_length_8abf5 : ev_YX m_J0_length_8abf5 0 := ⟨⟨ev_bg (List.mem_of_getElem? (i := 88) (by decide +kernel)) (by decide +kernel), rfl, ev_bg (List.mem_of_getElem? (i := 1141) (by decide +kernel)) (by decide +kernel), ⟨by decide +kernel, by decide +kernel⟩, by decide +kernel⟩, ev_bg (List.mem_of_getElem? (i := 1139) (by decide +kernel)) (by decide +kernel), ev_bg (List.mem_of_getElem? (i := 1140) (by decide +kernel)) (by decide +kernel), rfl⟩
theorem Y_J0_charAt_5068e : ev_YX m_J0_charAt_5068e 1 := ⟨⟨ev_bg (List.mem_of_getElem? (i := 88) (by decide +kernel)) (by decide +kernel), rfl, ev_bg (List.mem_of_getElem? (i := 1151) (by decide +kernel)) (by decide +kernel), ⟨by decide +kernel, by decide +kernel⟩, by decide +kernel⟩, ev_bg (List.mem_of_getElem? (i := 1149) (by decide +kernel)) (by decide +kernel), ev_bg (List.mem_of_getElem? (i := 1150) (by decide +kernel)) (by decide +kernel), rfl⟩
theorem Y_J0_coder_7d493 : ev_YX m_J0_coder_7d493 0 := ⟨⟨ev_bg (List.mem_of_getElem? (i := 88) (by decide +kernel)) (by decide +kernel), rfl, ev_bg (List.mem_of_getElem? (i := 1145) (by decide +kernel)) (by decide +kernel), ⟨by decide +kernel, by decide +kernel⟩, by decide +kernel⟩, ev_bg (List.mem_of_getElem? (i := 1143) (by decide +kernel)) (by decide +kernel), ev_bg (List.mem_of_getElem? (i := 1144) (by decide +kernel)) (by decide +kernel), rfl⟩
theorem Y_J0_isLatin1_aae02 : ev_YX m_J0_isLatin1_aae02 0 := ⟨⟨ev_bg (List.mem_of_getElem? (i := 88) (by decide +kernel)) (by decide +kernel), rfl, ev_bg (List.mem_of_getElem? (i := 1155) (by decide +kernel)) (by decide +kernel), ⟨by decide +kernel, by decide +kernel⟩, by decide +kernel⟩, ev_bg (List.mem_of_getElem? (i := 1153) (by decide +kernel)) (by decide +kernel), ev_bg (List.mem_of_getElem? (i := 1154) (by decide +kernel)) (by decide +kernel), rfl⟩
set_option maxHeartbeats 4000000 in
set_option maxRecDepth 100000 in
theorem c_coder {l : Launch} (hl : l.stackTraces = false) {M : ev_M} (k : Nat) (hk : k < 4) : ev_Mt l m_J0_coder_7d493 [.retAddr (4 + k)] M (ev_q (.inl (some (.int (nI 0)))) M) := by
  refine ev_body hl rfl (by decide +kernel) (Nat.le_of_ble_eq_true rfl) ?_
  show ev_ l m_J0_coder_7d493 0 0 0 [some (.retAddr (4 + k))] [] M _
  refine ev_xcs F_RJ0_38 dJ0_coder_7d493_0 ?_
  refine ev_fN_eq dJ0_coder_7d493_3 (tgt := 13) (by decide) (by omega) (fun q3 => ?_) (fun q3 => ?_)
  · exact absurd q3 (by decide)
  · refine ev_blk (B := [(.aload_n 0, 1)]) (pe := 7) (ls' := [some (.retAddr (4 + k))]) (st' := [.retAddr (4 + k)]) ⟨dJ0_coder_7d493_6, rfl⟩ rfl ?_
    refine ev_xgc hk F_RJ0_15 dJ0_coder_7d493_7 ?_
    refine ev_goto (tgt := 14) dJ0_coder_7d493_10 (by decide) ?_
    refine ev_iret dJ0_coder_7d493_14 rfl (rfl) ⟨Nat.le_of_ble_eq_true rfl, Nat.le_of_ble_eq_true rfl⟩ ?_
    exact ⟨rfl, rfl⟩

set_option maxHeartbeats 4000000 in
set_option maxRecDepth 100000 in
theorem c_slen {l : Launch} (hl : l.stackTraces = false) {M : ev_M} (k : Nat) (hk : k < 4) : ev_Mt l m_J0_length_8abf5 [.retAddr (4 + k)] M (ev_q (.inl (some (.int (nI 4)))) M) := by
  refine ev_body hl rfl (by decide +kernel) (Nat.le_of_ble_eq_true rfl) ?_
  show ev_ l m_J0_length_8abf5 0 0 0 [some (.retAddr (4 + k))] [] M _
  refine ev_blk (B := [(.aload_n 0, 1)]) (pe := 1) (ls' := [some (.retAddr (4 + k))]) (st' := [.retAddr (4 + k)]) ⟨dJ0_length_8abf5_0, rfl⟩ rfl ?_
  refine ev_xgv hk F_RJ0_9 dJ0_length_8abf5_1 ?_
  refine ev_xlen hk dJ0_length_8abf5_4 ?_
  refine ev_blk (B := [(.aload_n 0, 1)]) (pe := 6) (ls' := [some (.retAddr (4 + k))]) (st' := [.retAddr (4 + k), .int (nI 4)]) ⟨dJ0_length_8abf5_5, rfl⟩ rfl ?_
  refine ev_cXv Y_J0_coder_7d493 L_RJ0_335 dJ0_length_8abf5_6 ⟨Nat.le_of_ble_eq_true rfl, Nat.le_of_ble_eq_true rfl, Nat.le_of_ble_eq_true rfl, Nat.le_of_ble_eq_true rfl, Nat.le_of_ble_eq_true rfl⟩ hk (as := []) rfl rfl (c_coder hl k hk) ?_
  refine ev_blk (B := [(.ishr, 1)]) (pe := 10) (ls' := [some (.retAddr (4 + k))]) (st' := [.int (nI 4)]) ⟨dJ0_length_8abf5_9, rfl⟩ (by show some (([some (.retAddr (4 + k))] : ev_L), ([.int ((nI 4) >>> ((nI 0) &&& 31))] : List Value)) = _; rw [show (nI 4) >>> ((nI 0) &&& 31) = nI 4 from by decide]) ?_
  refine ev_iret dJ0_length_8abf5_10 rfl (rfl) ⟨Nat.le_of_ble_eq_true rfl, Nat.le_of_ble_eq_true rfl⟩ ?_
  exact ⟨rfl, rfl⟩

set_option maxHeartbeats 4000000 in
set_option maxRecDepth 100000 in
theorem c_latin {l : Launch} (hl : l.stackTraces = false) {M : ev_M} (k : Nat) (hk : k < 4) : ev_Mt l m_J0_isLatin1_aae02 [.retAddr (4 + k)] M (ev_q (.inl (some (.int (ev_b true)))) M) := by
  refine ev_body hl rfl (by decide +kernel) (Nat.le_of_ble_eq_true rfl) ?_
  show ev_ l m_J0_isLatin1_aae02 0 0 0 [some (.retAddr (4 + k))] [] M _
  refine ev_xcs F_RJ0_38 dJ0_isLatin1_aae02_0 ?_
  refine ev_fN_eq dJ0_isLatin1_aae02_3 (tgt := 17) (by decide) (by omega) (fun q3 => ?_) (fun q3 => ?_)
  · exact absurd q3 (by decide)
  · refine ev_blk (B := [(.aload_n 0, 1)]) (pe := 7) (ls' := [some (.retAddr (4 + k))]) (st' := [.retAddr (4 + k)]) ⟨dJ0_isLatin1_aae02_6, rfl⟩ rfl ?_
    refine ev_xgc hk F_RJ0_15 dJ0_isLatin1_aae02_7 ?_
    refine ev_fN_ne dJ0_isLatin1_aae02_10 (tgt := 17) (by decide) (by omega) (fun q10 => ?_) (fun q10 => ?_)
    · exact absurd q10 (by decide)
    · refine ev_blk (B := [(.iconst 1, 1)]) (pe := 14) (ls' := [some (.retAddr (4 + k))]) (st' := [.int (nI 1)]) ⟨dJ0_isLatin1_aae02_13, rfl⟩ rfl ?_
      refine ev_goto (tgt := 18) dJ0_isLatin1_aae02_14 (by decide) ?_
      refine ev_iret dJ0_isLatin1_aae02_18 rfl (rfl) ⟨Nat.le_of_ble_eq_true rfl, Nat.le_of_ble_eq_true rfl⟩ ?_
      exact ⟨rfl, rfl⟩

set_option maxHeartbeats 4000000 in
set_option maxRecDepth 100000 in
theorem c_chk0 {l : Launch} (hl : l.stackTraces = false) {M : ev_M} (i n : Nat) (hi : i < n) (hn : n < 2000) : ev_Mt l m_J3_checkIndex_8e157 [.int (nI i), .int (nI n), .null] M (ev_q (.inl (some (.int (nI i)))) M) := by
  refine ev_body hl rfl (by decide +kernel) (Nat.le_of_ble_eq_true rfl) ?_
  show ev_ l m_J3_checkIndex_8e157 0 0 0 [some (.int (nI i)), some (.int (nI n)), some (.null)] [] M _
  refine ev_blk (B := [(.iload_n 0, 1)]) (pe := 1) (ls' := [some (.int (nI i)), some (.int (nI n)), some (.null)]) (st' := [.int (nI i)]) ⟨dJ3_checkIndex_8e157_0, rfl⟩ rfl ?_
  refine ev_fN_lt dJ3_checkIndex_8e157_1 (tgt := 9) (by decide) (by omega) ?_
  refine ev_blk (B := [(.iload_n 0, 1), (.iload_n 1, 1)]) (pe := 6) (ls' := [some (.int (nI i)), some (.int (nI n)), some (.null)]) (st' := [.int (nI n), .int (nI i)]) ⟨dJ3_checkIndex_8e157_4, dJ3_checkIndex_8e157_5, rfl⟩ rfl ?_
  refine ev_iN_lt dJ3_checkIndex_8e157_6 (tgt := 16) (by decide) (by omega) (by omega) (fun q6 => ?_) (fun q6 => ?_)
  · refine ev_blk (B := [(.iload_n 0, 1)]) (pe := 17) (ls' := [some (.int (nI i)), some (.int (nI n)), some (.null)]) (st' := [.int (nI i)]) ⟨dJ3_checkIndex_8e157_16, rfl⟩ rfl ?_
    refine ev_iret dJ3_checkIndex_8e157_17 rfl (rfl) ⟨Nat.le_of_ble_eq_true rfl, Nat.le_of_ble_eq_true rfl⟩ ?_
    exact ⟨rfl, rfl⟩
  · exact absurd q6 (by omega)

set_option maxHeartbeats 4000000 in
set_option maxRecDepth 100000 in
theorem c_chk1 {l : Launch} (hl : l.stackTraces = false) {M : ev_M} (k i n : Nat) (hi : i < n) (hn : n < 2000) : ev_Mt l m_J3_checkIndex_8e157 [.int (nI i), .int (nI n), .retAddr (k)] M (ev_q (.inl (some (.int (nI i)))) M) := by
  refine ev_body hl rfl (by decide +kernel) (Nat.le_of_ble_eq_true rfl) ?_
  show ev_ l m_J3_checkIndex_8e157 0 0 0 [some (.int (nI i)), some (.int (nI n)), some (.retAddr (k))] [] M _
  refine ev_blk (B := [(.iload_n 0, 1)]) (pe := 1) (ls' := [some (.int (nI i)), some (.int (nI n)), some (.retAddr (k))]) (st' := [.int (nI i)]) ⟨dJ3_checkIndex_8e157_0, rfl⟩ rfl ?_
  refine ev_fN_lt dJ3_checkIndex_8e157_1 (tgt := 9) (by decide) (by omega) ?_
  refine ev_blk (B := [(.iload_n 0, 1), (.iload_n 1, 1)]) (pe := 6) (ls' := [some (.int (nI i)), some (.int (nI n)), some (.retAddr (k))]) (st' := [.int (nI n), .int (nI i)]) ⟨dJ3_checkIndex_8e157_4, dJ3_checkIndex_8e157_5, rfl⟩ rfl ?_
  refine ev_iN_lt dJ3_checkIndex_8e157_6 (tgt := 16) (by decide) (by omega) (by omega) (fun q6 => ?_) (fun q6 => ?_)
  · refine ev_blk (B := [(.iload_n 0, 1)]) (pe := 17) (ls' := [some (.int (nI i)), some (.int (nI n)), some (.retAddr (k))]) (st' := [.int (nI i)]) ⟨dJ3_checkIndex_8e157_16, rfl⟩ rfl ?_
    refine ev_iret dJ3_checkIndex_8e157_17 rfl (rfl) ⟨Nat.le_of_ble_eq_true rfl, Nat.le_of_ble_eq_true rfl⟩ ?_
    exact ⟨rfl, rfl⟩
  · exact absurd q6 (by omega)

theorem ev_frV (v : Value) : ∃ N, ∀ n, N ≤ n → ∀ (ad ax : Nat → Nat) (t : Nat), ev_tr ad (fun j => if j = n then t else ax j) v = ev_tr ad ax v := by
  cases v with
  | retAddr k =>
    refine ⟨k + 1, fun n hn ad ax t => ?_⟩
    show Value.ref (if k = n then t else ax k) = Value.ref (ax k)
    rw [if_neg (by omega)]
  | _ => exact ⟨0, fun _ _ _ _ _ => rfl⟩
theorem ev_frL (fs : List Value) : ∃ N, ∀ n, N ≤ n → ∀ (ad ax : Nat → Nat) (t : Nat), fs.map (ev_tr ad (fun j => if j = n then t else ax j)) = fs.map (ev_tr ad ax) := by
  induction fs with
  | nil => exact ⟨0, fun _ _ _ _ _ => rfl⟩
  | cons v r ih =>
    obtain ⟨N1, h1⟩ := ev_frV v
    obtain ⟨N2, h2⟩ := ih
    refine ⟨N1 + N2, fun n hn ad ax t => ?_⟩
    rw [List.map_cons, List.map_cons, h1 n (by omega), h2 n (by omega)]
theorem ev_frM (M : ev_M) : ∃ N, ∀ n, N ≤ n → ∀ (ad ax cA : Nat → Nat) (t : Nat), ∀ e ∈ M, ev_tE ad (fun j => if j = n then t else ax j) cA e = ev_tE ad ax cA e := by
  induction M with
  | nil => exact ⟨0, fun _ _ _ _ _ _ e he => absurd he List.not_mem_nil⟩
  | cons e r ih =>
    obtain ⟨N2, h2⟩ := ih
    obtain ⟨N1, h1⟩ : ∃ N, ∀ n, N ≤ n → ∀ (ad ax cA : Nat → Nat) (t : Nat), ev_tE ad (fun j => if j = n then t else ax j) cA e = ev_tE ad ax cA e := by
      rcases e with a | ⟨ci, fs⟩
      · exact ⟨0, fun _ _ _ _ _ _ => rfl⟩
      · obtain ⟨N, h⟩ := ev_frL fs
        refine ⟨N, fun n hn ad ax cA t => ?_⟩
        show (Sum.inr (ci, fs.map _) : va_E) = Sum.inr (ci, fs.map _)
        rw [h n hn ad ax t]
    refine ⟨N1 + N2, fun n hn ad ax cA t x hx => ?_⟩
    rcases List.mem_cons.mp hx with q | q
    · rw [q]; exact h1 n (by omega) ad ax cA t
    · exact h2 n (by omega) ad ax cA t x q
theorem ev_wl_ax {ad ax ax' cA : Nat → Nat} {M : ev_M} (h : ∀ e ∈ M, ev_tE ad ax' cA e = ev_tE ad ax cA e) : ev_wl ad ax' cA M = ev_wl ad ax cA M := by
  apply List.ext_getElem?
  intro i
  simp only [ev_wl, List.getElem?_mapIdx]
  cases hm : M[i]? with
  | none => rfl
  | some e =>
    simp only [Option.map_some]
    rw [h e (List.mem_of_getElem? hm)]
theorem ev_X.ax {ax ax' : Nat → Nat} {A : Nat → Prop} {U : State} {H : Heap} (h : ∀ j, j < 12 → ax' j = ax j) (hX : ev_X ax A U H) : ev_X ax' A U H := by
  obtain ⟨h1, h2, h3⟩ := hX
  exact ⟨fun k hk => by rw [h k (by omega)]; exact h1 k hk, fun k hk => by rw [h (4 + k) (by omega), h (8 + k) (by omega)]; exact h2 k hk, h3⟩
theorem c_chkI {l : Launch} (hl : l.stackTraces = false) {M : ev_M} (i n : Nat) (hi : i < n) (hn : n < 2000) : ev_Mt l m_J0_checkIndex_df160 [.int (nI i), .int (nI n)] M (ev_q (.inl none) M) := by
  have walk : ∀ (w : Value) (hw : w = .null ∨ ∃ k, w = .retAddr k), ev_ l m_J0_checkIndex_df160 0 0 5 [some (.int (nI i)), some (.int (nI n))] [w, .int (nI n), .int (nI i)] M (ev_q (.inl none) M) := by
    intro w hw
    have hc : ev_Mt l m_J3_checkIndex_8e157 [.int (nI i), .int (nI n), w] M (ev_q (.inl (some (.int (nI i)))) M) := by
      rcases hw with rfl | ⟨k, rfl⟩
      · exact c_chk0 hl i n hi hn
      · exact c_chk1 hl k i n hi hn
    refine ev_cSv Y_J3_checkIndex_8e157 L_RJ0_1059 dJ0_checkIndex_df160_5 ⟨Nat.le_of_ble_eq_true rfl, Nat.le_of_ble_eq_true rfl, Nat.le_of_ble_eq_true rfl, Nat.le_of_ble_eq_true rfl, Nat.le_of_ble_eq_true rfl⟩ (as := [.int (nI i), .int (nI n), w]) rfl rfl hc ?_
    refine ev_blk (B := [(.pop, 1)]) (pe := 9) (ls' := [some (.int (nI i)), some (.int (nI n))]) (st' := []) ⟨dJ0_checkIndex_df160_8, rfl⟩ rfl ?_
    refine ev_vret dJ0_checkIndex_df160_9 rfl ⟨Nat.le_of_ble_eq_true rfl, Nat.le_of_ble_eq_true rfl⟩ ?_
    exact ⟨rfl, rfl⟩
  refine ev_body hl rfl (by decide +kernel) (Nat.le_of_ble_eq_true rfl) ?_
  show ev_ l m_J0_checkIndex_df160 0 0 0 [some (.int (nI i)), some (.int (nI n))] [] M _
  refine ev_blk (B := [(.iload_n 0, 1), (.iload_n 1, 1)]) (pe := 2) (ls' := [some (.int (nI i)), some (.int (nI n))]) (st' := [.int (nI n), .int (nI i)]) ⟨dJ0_checkIndex_df160_0, dJ0_checkIndex_df160_1, rfl⟩ rfl ?_
  intro p e s m args below meth c D ad0 ad ax cA A H locs lsA L0 hC hS hA hL ha hP hD hK hX hM hO hOL hl9 hn9
  have hlk := hC.2.2.2.2.2.1 _ F_RJ0_1053
  rcases hX.2.2.2.1 with hZ | ⟨t, hZ⟩
  · exact va_gets hC.2.1 hC.2.2.1 hZ hS hC.2.2.2.2.1 hlk (fun _ h => h) dJ0_checkIndex_df160_2 (walk .null (Or.inl rfl) p e s m args below meth c D ad0 ad ax cA A H locs lsA L0 hC hS hA hL ha hP hD hK hX hM (ev_okS_c.mpr ⟨trivial, hO⟩) hOL hl9 hn9)
  · obtain ⟨N, hN⟩ := ev_frM M
    have hwl : ∀ ad9, ev_wl ad9 (fun j => if j = N + 12 then t else ax j) cA M = ev_wl ad9 ax cA M := fun ad9 => ev_wl_ax (fun x hx => hN (N + 12) (by omega) ad9 ax cA t x hx)
    have hX9 : ev_X (fun j => if j = N + 12 then t else ax j) A s s.heap := ev_X.ax (fun j hj => if_neg (by omega)) hX
    have k := walk (.retAddr (N + 12)) (Or.inr ⟨_, rfl⟩) p e s m args below meth c D ad0 ad (fun j => if j = N + 12 then t else ax j) cA A H locs lsA L0 hC hS hA hL ha (by rw [hwl]; exact hP) (by rw [hwl]; exact hD) hK hX9 hM (ev_okS_c.mpr ⟨trivial, hO⟩) hOL hl9 hn9
    rw [show List.map (ev_tr ad (fun j => if j = N + 12 then t else ax j)) [.retAddr (N + 12), .int (nI n), .int (nI i)] = .ref t :: List.map (ev_tr ad ax) [.int (nI n), .int (nI i)] by
      show [Value.ref (if N + 12 = N + 12 then t else ax (N + 12)), .int (nI n), .int (nI i)] = _
      rw [if_pos rfl]; rfl] at k
    refine va_gets hC.2.1 hC.2.2.1 hZ hS hC.2.2.2.2.1 hlk (fun _ h => h) dJ0_checkIndex_df160_2 ?_
    intro T hT X
    obtain ⟨t9, a1, o, b1, b2, b3⟩ := k T hT X
    refine ⟨t9, a1, o, b1, b2, ?_⟩
    rcases b3 with ⟨⟨⟨r, M', ad', c1, c2, c3, c4, c5, c6, c7, c8⟩, hF⟩, hLL⟩ | ⟨q, hq, E, ce, L, ⟨⟨r, M', ad', c1, c2, c3, c4, c5⟩, hF⟩, b⟩
    · obtain ⟨v, hv, ho⟩ := c3
      obtain ⟨rfl, rfl⟩ := c4
      cases hv
      rw [hwl] at c7 c8
      exact Or.inl ⟨⟨⟨.inl none, M', ad', c1, c2, ⟨none, rfl, ho⟩, ⟨rfl, rfl⟩, c5, c6, c7, c8⟩, hF⟩, hLL⟩
    · have z1 : r = .inr E := c3
      rw [c4.1] at z1
      cases z1
set_option maxHeartbeats 4000000 in
set_option maxRecDepth 100000 in
theorem c_lat_at {l : Launch} (hl : l.stackTraces = false) {M : ev_M} (k : Nat) (hk : k < 4) (i : Nat) (hi : i < 4) : ev_Mt l m_J1_charAt_3b067 [.retAddr (8 + k), .int (nI i)] M (ev_q (.inl (some (.int (nI (xw k i))))) M) := by
  refine ev_body hl rfl (by decide +kernel) (Nat.le_of_ble_eq_true rfl) ?_
  show ev_ l m_J1_charAt_3b067 0 0 0 [some (.retAddr (8 + k)), some (.int (nI i))] [] M _
  refine ev_blk (B := [(.iload_n 1, 1), (.aload_n 0, 1)]) (pe := 2) (ls' := [some (.retAddr (8 + k)), some (.int (nI i))]) (st' := [.retAddr (8 + k), .int (nI i)]) ⟨dJ1_charAt_3b067_0, dJ1_charAt_3b067_1, rfl⟩ rfl ?_
  refine ev_xlen hk dJ1_charAt_3b067_2 ?_
  refine ev_cS0 Y_J0_checkIndex_df160 L_RJ1_9 dJ1_charAt_3b067_3 ⟨Nat.le_of_ble_eq_true rfl, Nat.le_of_ble_eq_true rfl, Nat.le_of_ble_eq_true rfl, Nat.le_of_ble_eq_true rfl, Nat.le_of_ble_eq_true rfl⟩ (as := [.int (nI i), .int (nI 4)]) rfl rfl (c_chkI hl i 4 hi (by decide)) ?_
  refine ev_blk (B := [(.aload_n 0, 1), (.iload_n 1, 1)]) (pe := 8) (ls' := [some (.retAddr (8 + k)), some (.int (nI i))]) (st' := [.int (nI i), .retAddr (8 + k)]) ⟨dJ1_charAt_3b067_6, dJ1_charAt_3b067_7, rfl⟩ rfl ?_
  refine ev_xba hk (vp_in_nI (show i < 4 by omega) (by omega)) dJ1_charAt_3b067_8 ?_
  rw [nI_clamp (show i < 2 ^ 31 by omega)]
  refine ev_blk (B := [(.sipush 255, 3), (.iand, 1), (.i2c, 1)]) (pe := 14) (ls' := [some (.retAddr (8 + k)), some (.int (nI i))]) (st' := [.int (nI (xw k i))]) ⟨dJ1_charAt_3b067_9, dJ1_charAt_3b067_12, dJ1_charAt_3b067_13, rfl⟩ (by show some (([some (.retAddr (8 + k)), some (.int (nI i))] : ev_L), ([.int (((((ev_wc k).getD i 0) &&& (nI 255)).toUInt32 % 65536).toInt32)] : List Value)) = _; rw [show ((((ev_wc k).getD i 0) &&& (nI 255)).toUInt32 % 65536).toInt32 = nI (xw k i) from (xw_b k hk i hi).1]) ?_
  refine ev_iret dJ1_charAt_3b067_14 rfl ((xw_b k hk i hi).2.1) ⟨Nat.le_of_ble_eq_true rfl, Nat.le_of_ble_eq_true rfl⟩ ?_
  exact ⟨rfl, rfl⟩

set_option maxHeartbeats 4000000 in
set_option maxRecDepth 100000 in
theorem c_sat {l : Launch} (hl : l.stackTraces = false) {M : ev_M} (k : Nat) (hk : k < 4) (i : Nat) (hi : i < 4) : ev_Mt l m_J0_charAt_5068e [.retAddr (4 + k), .int (nI i)] M (ev_q (.inl (some (.int (nI (xw k i))))) M) := by
  refine ev_body hl rfl (by decide +kernel) (Nat.le_of_ble_eq_true rfl) ?_
  show ev_ l m_J0_charAt_5068e 0 0 0 [some (.retAddr (4 + k)), some (.int (nI i))] [] M _
  refine ev_blk (B := [(.aload_n 0, 1)]) (pe := 1) (ls' := [some (.retAddr (4 + k)), some (.int (nI i))]) (st' := [.retAddr (4 + k)]) ⟨dJ0_charAt_5068e_0, rfl⟩ rfl ?_
  refine ev_cXv Y_J0_isLatin1_aae02 L_RJ0_492 dJ0_charAt_5068e_1 ⟨Nat.le_of_ble_eq_true rfl, Nat.le_of_ble_eq_true rfl, Nat.le_of_ble_eq_true rfl, Nat.le_of_ble_eq_true rfl, Nat.le_of_ble_eq_true rfl⟩ hk (as := []) rfl rfl (c_latin hl k hk) ?_
  refine ev_ifB_eq dJ0_charAt_5068e_4 (tgt := 16) (by decide) (fun q4 => ?_) (fun q4 => ?_)
  · exact absurd q4 (by decide)
  · refine ev_blk (B := [(.aload_n 0, 1)]) (pe := 8) (ls' := [some (.retAddr (4 + k)), some (.int (nI i))]) (st' := [.retAddr (4 + k)]) ⟨dJ0_charAt_5068e_7, rfl⟩ rfl ?_
    refine ev_xgv hk F_RJ0_9 dJ0_charAt_5068e_8 ?_
    refine ev_blk (B := [(.iload_n 1, 1)]) (pe := 12) (ls' := [some (.retAddr (4 + k)), some (.int (nI i))]) (st' := [.int (nI i), .retAddr (8 + k)]) ⟨dJ0_charAt_5068e_11, rfl⟩ rfl ?_
    refine ev_cSv Y_J1_charAt_3b067 L_RJ0_495 dJ0_charAt_5068e_12 ⟨Nat.le_of_ble_eq_true rfl, Nat.le_of_ble_eq_true rfl, Nat.le_of_ble_eq_true rfl, Nat.le_of_ble_eq_true rfl, Nat.le_of_ble_eq_true rfl⟩ (as := [.retAddr (8 + k), .int (nI i)]) rfl rfl (c_lat_at hl k hk i hi) ?_
    refine ev_iret dJ0_charAt_5068e_15 rfl ((xw_b k hk i hi).2.1) ⟨Nat.le_of_ble_eq_true rfl, Nat.le_of_ble_eq_true rfl⟩ ?_
    exact ⟨rfl, rfl⟩

