theorem mfr_0 {x : Cf} {t : Tr} {wl : Bool} (h : ¬ t.1 = x.1) : mf x t wl = false := by
  unfold mf
  rw [beq_eq_false_iff_ne.mpr h, Bool.false_and]
theorem mfr_1 {x : Cf} {t : Tr} {wl : Bool} (h : t.1 = x.1) (h2 : ¬ t.2.2.1 = 2) : mf x t wl = true := by
  unfold mf
  rw [beq_iff_eq.mpr h, bne_iff_ne.mpr h2]; rfl
theorem mfr_2 {x : Cf} {t : Tr} {wl : Bool} (h : t.1 = x.1) (h2 : t.2.2.1 = 2) : mf x t wl = (match ix (cw x t.2.2.2.1) t.2.2.2.2 with
  | none => false
  | some i => wl || i == 0) := by
  unfold mf
  rw [beq_iff_eq.mpr h, h2]; rfl
theorem ix_get {w : List Nat} {x : Nat} : (ix w x).getD w.length < w.length ↔ ∃ i, ix w x = some i := by
  cases h : ix w x with
  | none => exact ⟨fun z => absurd z (Nat.lt_irrefl _), fun ⟨i, z⟩ => by cases z⟩
  | some i => exact ⟨fun _ => ⟨i, rfl⟩, fun _ => (ix_lt h).1⟩
theorem ix_le {w : List Nat} {x : Nat} : (ix w x).getD w.length ≤ w.length := by
  cases h : ix w x with
  | none => exact Nat.le_refl _
  | some i => exact Nat.le_of_lt (ix_lt h).1
theorem cw_0 {x : Cf} {k : Nat} (h : k = 0) : cw x k = x.2.1 := if_pos h
theorem cw_1 {x : Cf} {k : Nat} (h : ¬ k = 0) : cw x k = x.2.2 := if_neg h
/-- the configuration at hand, and nothing else of the scalars, is new -/
def HD (zi : Nat → Int32) (zl : Nat → Int64) (zi' : Nat → Int32) (zl' : Nat → Int64) (lo : Nat) (y : Cf) : Prop := zi' 11 = nI y.1 ∧ zi' 12 = nI lo ∧ zl' 13 = e2 y.2.1 ∧ zl' 14 = e2 y.2.2 ∧ (∀ k, k ≠ 11 → k ≠ 12 → zi' k = zi k) ∧ ∀ k, k ≠ 13 → k ≠ 14 → zl' k = zl k
theorem ui_ne {z : Nat → Int32} {k j : Nat} {v : Int32} (h : j ≠ k) : ui z k v j = z j := by
  unfold ui; rw [show Nat.beq j k = false from Bool.eq_false_iff.mpr (fun q => h (Nat.eq_of_beq_eq_true q))]; rfl
theorem ul_ne {z : Nat → Int64} {k j : Nat} {v : Int64} (h : j ≠ k) : ul z k v j = z j := by
  unfold ul; rw [show Nat.beq j k = false from Bool.eq_false_iff.mpr (fun q => h (Nat.eq_of_beq_eq_true q))]; rfl
theorem c_R_partOf3N {l : Launch} (hl : l.stackTraces = false) {M : ev_M} (o : Nat) (zi : Nat → Int32) (zl : Nat → Int64) (hO : M[o]? = some (.inr (10, zo o zi zl))) (f : Nat → Int32) (hf : M[o + 1]? = some (.inl (0, 50, .inl f))) (T : List Tr) (hP : RP5 T.length f T) (hT10 : T.length ≤ 10) (t : Nat) (ht : t < T.length) (hc : ¬ (tg T t).2.2.1 = 0) : ev_Mt l m_X11_partOf [.ref (o), .int (nI t), .int (nI 3)] M (ev_q (.inl (some (.int (nI (tg T t).2.2.2.1)))) M) := by
  have h := c_R_partOf hl o zi zl hO f hf T hP hT10 t ht 3 (by decide)
  rw [tp3 hc] at h
  exact h
theorem c_R_partOf4N {l : Launch} (hl : l.stackTraces = false) {M : ev_M} (o : Nat) (zi : Nat → Int32) (zl : Nat → Int64) (hO : M[o]? = some (.inr (10, zo o zi zl))) (f : Nat → Int32) (hf : M[o + 1]? = some (.inl (0, 50, .inl f))) (T : List Tr) (hP : RP5 T.length f T) (hT10 : T.length ≤ 10) (t : Nat) (ht : t < T.length) (hc : ¬ (tg T t).2.2.1 = 0) : ev_Mt l m_X11_partOf [.ref (o), .int (nI t), .int (nI 4)] M (ev_q (.inl (some (.int (nI (tg T t).2.2.2.2)))) M) := by
  have h := c_R_partOf hl o zi zl hO f hf T hP hT10 t ht 4 (by decide)
  rw [tp4 hc] at h
  exact h
set_option maxHeartbeats 4000000 in
set_option maxRecDepth 100000 in
theorem c_R_mayFire {l : Launch} (hl : l.stackTraces = false) {M : ev_M} (o : Nat) (zi : Nat → Int32) (zl : Nat → Int64) (hO : M[o]? = some (.inr (10, zo o zi zl))) (f : Nat → Int32) (hf : M[o + 1]? = some (.inl (0, 50, .inl f))) (T : List Tr) (hP : RP5 T.length f T) (hT10 : T.length ≤ 10) (hT : trs T) (t : Nat) (ht : t < T.length) (x : Cf) (hx : cfO x) (h11 : zi 11 = nI x.1) (h13 : zl 13 = e2 x.2.1) (h14 : zl 14 = e2 x.2.2) : ev_Mt l m_X11_mayFire [.ref (o), .int (nI t)] M (ev_q (.inl (some (.int (ev_b (mf x (tg T t) true))))) M) := by
  have hto := trs_tg hT ht
  have hcw := cw_ok hx (tg T t).2.2.2.1
  have hy1 := hto.1
  have hy3 := hto.2.2.1
  have hy4 := hto.2.2.2.1
  have hy5 := hto.2.2.2.2
  have hxs := hx.1
  refine ev_body hl rfl (by decide +kernel) (Nat.le_of_ble_eq_true rfl) ?_
  show ev_ l m_X11_mayFire 0 0 0 [some (.ref (o)), some (.int (nI t)), none, none] [] M _
  refine ev_blk (B := [(.aload_n 0, 1), (.iload_n 1, 1), (.iconst 0, 1)]) (pe := 3) (ls' := [some (.ref (o)), some (.int (nI t)), none, none]) (st' := [.int (nI 0), .int (nI t), .ref (o)]) ⟨dX11_mayFire_0, dX11_mayFire_1, dX11_mayFire_2, rfl⟩ rfl ?_
  refine ev_cVv Y_X11_partOf L_RX11_155 dX11_mayFire_3 ⟨Nat.le_of_ble_eq_true rfl, Nat.le_of_ble_eq_true rfl, Nat.le_of_ble_eq_true rfl, Nat.le_of_ble_eq_true rfl, Nat.le_of_ble_eq_true rfl⟩ hO (as := [.int (nI t), .int (nI 0)]) rfl rfl (c_R_partOf hl o (zi) (zl) hO _ hf T hP hT10 t (by omega) 0 (by decide)) ?_
  refine ev_blk (B := [(.aload_n 0, 1)]) (pe := 7) (ls' := [some (.ref (o)), some (.int (nI t)), none, none]) (st' := [.ref (o), .int (nI ((tg T t).1))]) ⟨dX11_mayFire_6, rfl⟩ rfl ?_
  refine ev_getf (v := .int (nI (x.1))) F_RX11_179 dX11_mayFire_7 hO (congrArg (fun q => some (Value.int q)) h11) ?_
  refine ev_iN_eq dX11_mayFire_10 (tgt := 15) (by decide) (by omega) (by omega) (fun q10 => ?_) (fun q10 => ?_)
  · refine ev_blk (B := [(.aload_n 0, 1), (.iload_n 1, 1), (.iconst 2, 1)]) (pe := 18) (ls' := [some (.ref (o)), some (.int (nI t)), none, none]) (st' := [.int (nI 2), .int (nI t), .ref (o)]) ⟨dX11_mayFire_15, dX11_mayFire_16, dX11_mayFire_17, rfl⟩ rfl ?_
    refine ev_cVv Y_X11_partOf L_RX11_155 dX11_mayFire_18 ⟨Nat.le_of_ble_eq_true rfl, Nat.le_of_ble_eq_true rfl, Nat.le_of_ble_eq_true rfl, Nat.le_of_ble_eq_true rfl, Nat.le_of_ble_eq_true rfl⟩ hO (as := [.int (nI t), .int (nI 2)]) rfl rfl (c_R_partOf hl o (zi) (zl) hO _ hf T hP hT10 t (by omega) 2 (by decide)) ?_
    refine ev_blk (B := [(.iconst 2, 1)]) (pe := 22) (ls' := [some (.ref (o)), some (.int (nI t)), none, none]) (st' := [.int (nI 2), .int (nI ((tg T t).2.2.1))]) ⟨dX11_mayFire_21, rfl⟩ rfl ?_
    refine ev_iN_eq dX11_mayFire_22 (tgt := 27) (by decide) (by omega) (by omega) (fun q22 => ?_) (fun q22 => ?_)
    · refine ev_blk (B := [(.aload_n 0, 1), (.iload_n 1, 1), (.iconst 3, 1)]) (pe := 30) (ls' := [some (.ref (o)), some (.int (nI t)), none, none]) (st' := [.int (nI 3), .int (nI t), .ref (o)]) ⟨dX11_mayFire_27, dX11_mayFire_28, dX11_mayFire_29, rfl⟩ rfl ?_
      refine ev_cVv Y_X11_partOf L_RX11_155 dX11_mayFire_30 ⟨Nat.le_of_ble_eq_true rfl, Nat.le_of_ble_eq_true rfl, Nat.le_of_ble_eq_true rfl, Nat.le_of_ble_eq_true rfl, Nat.le_of_ble_eq_true rfl⟩ hO (as := [.int (nI t), .int (nI 3)]) rfl rfl (c_R_partOf3N hl o (zi) (zl) hO _ hf T hP hT10 t (by omega) (by omega)) ?_
      refine ev_fN_ne dX11_mayFire_33 (tgt := 43) (by decide) (by omega) (fun q33 => ?_) (fun q33 => ?_)
      · refine ev_blk (B := [(.aload_n 0, 1)]) (pe := 44) (ls' := [some (.ref (o)), some (.int (nI t)), none, none]) (st' := [.ref (o)]) ⟨dX11_mayFire_43, rfl⟩ rfl ?_
        refine ev_getf (v := .long (e2 x.2.2)) F_RX11_185 dX11_mayFire_44 hO (congrArg (fun q => some (Value.long q)) h14) ?_
        have hcz : cw x (tg T t).2.2.2.1 = x.2.2 := cw_1 q33
        rw [← hcz]
        refine ev_blk (B := [(.lstore_n 2, 1), (.lload_n 2, 1), (.aload_n 0, 1), (.iload_n 1, 1), (.iconst 4, 1)]) (pe := 52) (ls' := [some (.ref (o)), some (.int (nI t)), some (.long (e2 (cw x (tg T t).2.2.2.1))), none]) (st' := [.int (nI 4), .int (nI t), .ref (o), .long (e2 (cw x (tg T t).2.2.2.1))]) ⟨dX11_mayFire_47, dX11_mayFire_48, dX11_mayFire_49, dX11_mayFire_50, dX11_mayFire_51, rfl⟩ rfl ?_
        refine ev_cVv Y_X11_partOf L_RX11_155 dX11_mayFire_52 ⟨Nat.le_of_ble_eq_true rfl, Nat.le_of_ble_eq_true rfl, Nat.le_of_ble_eq_true rfl, Nat.le_of_ble_eq_true rfl, Nat.le_of_ble_eq_true rfl⟩ hO (as := [.int (nI t), .int (nI 4)]) rfl rfl (c_R_partOf4N hl o (zi) (zl) hO _ hf T hP hT10 t (by omega) (by omega)) ?_
        have hgd := ix_le (w := cw x (tg T t).2.2.2.1) (x := (tg T t).2.2.2.2)
        have hcl := hcw.2
        refine ev_cSv Y_X11_placeOf L_RX11_188 dX11_mayFire_55 ⟨Nat.le_of_ble_eq_true rfl, Nat.le_of_ble_eq_true rfl, Nat.le_of_ble_eq_true rfl, Nat.le_of_ble_eq_true rfl, Nat.le_of_ble_eq_true rfl⟩ (as := [.long (e2 (cw x (tg T t).2.2.2.1)), .int (nI ((tg T t).2.2.2.2))]) rfl rfl (c_R_placeOf hl (cw x (tg T t).2.2.2.1) hcw.1 hcw.2 (tg T t).2.2.2.2 hto.2.2.2.2) ?_
        refine ev_blk (B := [(.lload_n 2, 1)]) (pe := 59) (ls' := [some (.ref (o)), some (.int (nI t)), some (.long (e2 (cw x (tg T t).2.2.2.1))), none]) (st' := [.long (e2 (cw x (tg T t).2.2.2.1)), .int (nI ((ix (cw x (tg T t).2.2.2.1) (tg T t).2.2.2.2).getD (cw x (tg T t).2.2.2.1).length))]) ⟨dX11_mayFire_58, rfl⟩ rfl ?_
        refine ev_cSv Y_X11_lengthOf L_RX11_111 dX11_mayFire_59 ⟨Nat.le_of_ble_eq_true rfl, Nat.le_of_ble_eq_true rfl, Nat.le_of_ble_eq_true rfl, Nat.le_of_ble_eq_true rfl, Nat.le_of_ble_eq_true rfl⟩ (as := [.long (e2 (cw x (tg T t).2.2.2.1))]) rfl rfl (c_R_lengthOf hl (cw x (tg T t).2.2.2.1) hcw.1 hcw.2) ?_
        refine ev_iN_ge dX11_mayFire_62 (tgt := 69) (by decide) (by omega) (by omega) (fun q62 => ?_) (fun q62 => ?_)
        · refine ev_blk (B := [(.iconst 0, 1)]) (pe := 70) (ls' := [some (.ref (o)), some (.int (nI t)), some (.long (e2 (cw x (tg T t).2.2.2.1))), none]) (st' := [.int (nI 0)]) ⟨dX11_mayFire_69, rfl⟩ rfl ?_
          refine ev_iret dX11_mayFire_70 rfl (rfl) ⟨Nat.le_of_ble_eq_true rfl, Nat.le_of_ble_eq_true rfl⟩ ?_
          have e9 : mf x (tg T t) true = false := by
            rw [mfr_2 q10 q22]
            cases hi9 : ix (cw x (tg T t).2.2.2.1) (tg T t).2.2.2.2 with
            | none => rfl
            | some i9 => exact absurd (ix_get.mpr ⟨i9, hi9⟩) (by omega)
          rw [e9]
          exact ⟨rfl, rfl⟩
        · refine ev_blk (B := [(.iconst 1, 1)]) (pe := 66) (ls' := [some (.ref (o)), some (.int (nI t)), some (.long (e2 (cw x (tg T t).2.2.2.1))), none]) (st' := [.int (nI 1)]) ⟨dX11_mayFire_65, rfl⟩ rfl ?_
          refine ev_goto (tgt := 70) dX11_mayFire_66 (by decide) ?_
          refine ev_iret dX11_mayFire_70 rfl (rfl) ⟨Nat.le_of_ble_eq_true rfl, Nat.le_of_ble_eq_true rfl⟩ ?_
          obtain ⟨i9, hi9⟩ := ix_get.mp q62
          have e9 : mf x (tg T t) true = true := by rw [mfr_2 q10 q22, hi9]; rfl
          rw [e9]
          exact ⟨rfl, rfl⟩
      · refine ev_blk (B := [(.aload_n 0, 1)]) (pe := 37) (ls' := [some (.ref (o)), some (.int (nI t)), none, none]) (st' := [.ref (o)]) ⟨dX11_mayFire_36, rfl⟩ rfl ?_
        refine ev_getf (v := .long (e2 x.2.1)) F_RX11_182 dX11_mayFire_37 hO (congrArg (fun q => some (Value.long q)) h13) ?_
        refine ev_goto (tgt := 47) dX11_mayFire_40 (by decide) ?_
        have hcz : cw x (tg T t).2.2.2.1 = x.2.1 := cw_0 q33
        rw [← hcz]
        refine ev_blk (B := [(.lstore_n 2, 1), (.lload_n 2, 1), (.aload_n 0, 1), (.iload_n 1, 1), (.iconst 4, 1)]) (pe := 52) (ls' := [some (.ref (o)), some (.int (nI t)), some (.long (e2 (cw x (tg T t).2.2.2.1))), none]) (st' := [.int (nI 4), .int (nI t), .ref (o), .long (e2 (cw x (tg T t).2.2.2.1))]) ⟨dX11_mayFire_47, dX11_mayFire_48, dX11_mayFire_49, dX11_mayFire_50, dX11_mayFire_51, rfl⟩ rfl ?_
        refine ev_cVv Y_X11_partOf L_RX11_155 dX11_mayFire_52 ⟨Nat.le_of_ble_eq_true rfl, Nat.le_of_ble_eq_true rfl, Nat.le_of_ble_eq_true rfl, Nat.le_of_ble_eq_true rfl, Nat.le_of_ble_eq_true rfl⟩ hO (as := [.int (nI t), .int (nI 4)]) rfl rfl (c_R_partOf4N hl o (zi) (zl) hO _ hf T hP hT10 t (by omega) (by omega)) ?_
        have hgd := ix_le (w := cw x (tg T t).2.2.2.1) (x := (tg T t).2.2.2.2)
        have hcl := hcw.2
        refine ev_cSv Y_X11_placeOf L_RX11_188 dX11_mayFire_55 ⟨Nat.le_of_ble_eq_true rfl, Nat.le_of_ble_eq_true rfl, Nat.le_of_ble_eq_true rfl, Nat.le_of_ble_eq_true rfl, Nat.le_of_ble_eq_true rfl⟩ (as := [.long (e2 (cw x (tg T t).2.2.2.1)), .int (nI ((tg T t).2.2.2.2))]) rfl rfl (c_R_placeOf hl (cw x (tg T t).2.2.2.1) hcw.1 hcw.2 (tg T t).2.2.2.2 hto.2.2.2.2) ?_
        refine ev_blk (B := [(.lload_n 2, 1)]) (pe := 59) (ls' := [some (.ref (o)), some (.int (nI t)), some (.long (e2 (cw x (tg T t).2.2.2.1))), none]) (st' := [.long (e2 (cw x (tg T t).2.2.2.1)), .int (nI ((ix (cw x (tg T t).2.2.2.1) (tg T t).2.2.2.2).getD (cw x (tg T t).2.2.2.1).length))]) ⟨dX11_mayFire_58, rfl⟩ rfl ?_
        refine ev_cSv Y_X11_lengthOf L_RX11_111 dX11_mayFire_59 ⟨Nat.le_of_ble_eq_true rfl, Nat.le_of_ble_eq_true rfl, Nat.le_of_ble_eq_true rfl, Nat.le_of_ble_eq_true rfl, Nat.le_of_ble_eq_true rfl⟩ (as := [.long (e2 (cw x (tg T t).2.2.2.1))]) rfl rfl (c_R_lengthOf hl (cw x (tg T t).2.2.2.1) hcw.1 hcw.2) ?_
        refine ev_iN_ge dX11_mayFire_62 (tgt := 69) (by decide) (by omega) (by omega) (fun q62 => ?_) (fun q62 => ?_)
        · refine ev_blk (B := [(.iconst 0, 1)]) (pe := 70) (ls' := [some (.ref (o)), some (.int (nI t)), some (.long (e2 (cw x (tg T t).2.2.2.1))), none]) (st' := [.int (nI 0)]) ⟨dX11_mayFire_69, rfl⟩ rfl ?_
          refine ev_iret dX11_mayFire_70 rfl (rfl) ⟨Nat.le_of_ble_eq_true rfl, Nat.le_of_ble_eq_true rfl⟩ ?_
          have e9 : mf x (tg T t) true = false := by
            rw [mfr_2 q10 q22]
            cases hi9 : ix (cw x (tg T t).2.2.2.1) (tg T t).2.2.2.2 with
            | none => rfl
            | some i9 => exact absurd (ix_get.mpr ⟨i9, hi9⟩) (by omega)
          rw [e9]
          exact ⟨rfl, rfl⟩
        · refine ev_blk (B := [(.iconst 1, 1)]) (pe := 66) (ls' := [some (.ref (o)), some (.int (nI t)), some (.long (e2 (cw x (tg T t).2.2.2.1))), none]) (st' := [.int (nI 1)]) ⟨dX11_mayFire_65, rfl⟩ rfl ?_
          refine ev_goto (tgt := 70) dX11_mayFire_66 (by decide) ?_
          refine ev_iret dX11_mayFire_70 rfl (rfl) ⟨Nat.le_of_ble_eq_true rfl, Nat.le_of_ble_eq_true rfl⟩ ?_
          obtain ⟨i9, hi9⟩ := ix_get.mp q62
          have e9 : mf x (tg T t) true = true := by rw [mfr_2 q10 q22, hi9]; rfl
          rw [e9]
          exact ⟨rfl, rfl⟩
    · refine ev_blk (B := [(.iconst 1, 1)]) (pe := 26) (ls' := [some (.ref (o)), some (.int (nI t)), none, none]) (st' := [.int (nI 1)]) ⟨dX11_mayFire_25, rfl⟩ rfl ?_
      refine ev_iret dX11_mayFire_26 rfl (rfl) ⟨Nat.le_of_ble_eq_true rfl, Nat.le_of_ble_eq_true rfl⟩ ?_
      have e9 : mf x (tg T t) true = true := mfr_1 q10 q22
      rw [e9]
      exact ⟨rfl, rfl⟩
  · refine ev_blk (B := [(.iconst 0, 1)]) (pe := 14) (ls' := [some (.ref (o)), some (.int (nI t)), none, none]) (st' := [.int (nI 0)]) ⟨dX11_mayFire_13, rfl⟩ rfl ?_
    refine ev_iret dX11_mayFire_14 rfl (rfl) ⟨Nat.le_of_ble_eq_true rfl, Nat.le_of_ble_eq_true rfl⟩ ?_
    have e9 : mf x (tg T t) true = false := mfr_0 q10
    rw [e9]
    exact ⟨rfl, rfl⟩

theorem cst_0 {x : Cf} {k : Nat} {w : List Nat} (h : k = 0) : (cset x k w).2 = (w, x.2.2) := by unfold cset; rw [if_pos h]
theorem cst_1 {x : Cf} {k : Nat} {w : List Nat} (h : ¬ k = 0) : (cset x k w).2 = (x.2.1, w) := by unfold cset; rw [if_neg h]
set_option maxHeartbeats 4000000 in
set_option maxRecDepth 100000 in
theorem c_R_fires {l : Launch} (hl : l.stackTraces = false) {M : ev_M} (o : Nat) (zi : Nat → Int32) (zl : Nat → Int64) (hO : M[o]? = some (.inr (10, zo o zi zl))) (f : Nat → Int32) (hf : M[o + 1]? = some (.inl (0, 50, .inl f))) (T : List Tr) (hP : RP5 T.length f T) (hT10 : T.length ≤ 10) (hT : trs T) (t : Nat) (ht : t < T.length) (x : Cf) (hx : cfW 24 x) (h11 : zi 11 = nI x.1) (h13 : zl 13 = e2 x.2.1) (h14 : zl 14 = e2 x.2.2) (hmf : mf x (tg T t) true = true) : ev_Mt l m_X11_fires [.ref (o), .int (nI t)] M (fun r M1 => r = .inl none ∧ ∃ zi' zl', M1[o]? = some (.inr (10, zo o zi' zl')) ∧ HD zi zl zi' zl' (ap (tg T t) x).1 (ap (tg T t) x).2 ∧ FX o (o + 1) (o + 1) M M1) := by
  have hto := trs_tg hT ht
  have hcw := cw_ok (hx.le (by omega) : cfW 25 x) (tg T t).2.2.2.1
  have hy1 := hto.1
  have hy3 := hto.2.2.1
  have hy4 := hto.2.2.2.1
  have hy5 := hto.2.2.2.2
  have hxs := hx.1
  refine ev_body hl rfl (by decide +kernel) (Nat.le_of_ble_eq_true rfl) ?_
  show ev_ l m_X11_fires 0 0 0 [some (.ref (o)), some (.int (nI t)), none, none, none, none, none] [] M _
  refine ev_blk (B := [(.aload_n 0, 1), (.aload_n 0, 1), (.iload_n 1, 1), (.iconst 1, 1)]) (pe := 4) (ls' := [some (.ref (o)), some (.int (nI t)), none, none, none, none, none]) (st' := [.int (nI 1), .int (nI t), .ref (o), .ref (o)]) ⟨dX11_fires_0, dX11_fires_1, dX11_fires_2, dX11_fires_3, rfl⟩ rfl ?_
  refine ev_cVv Y_X11_partOf L_RX11_155 dX11_fires_4 ⟨Nat.le_of_ble_eq_true rfl, Nat.le_of_ble_eq_true rfl, Nat.le_of_ble_eq_true rfl, Nat.le_of_ble_eq_true rfl, Nat.le_of_ble_eq_true rfl⟩ hO (as := [.int (nI t), .int (nI 1)]) rfl rfl (c_R_partOf hl o (zi) (zl) hO _ hf T hP hT10 t (by omega) 1 (by decide)) ?_
  refine ev_put F_RX11_179 dX11_fires_7 hO (Nat.le_of_ble_eq_true rfl) (fun _ _ => ⟨rfl, rfl⟩) ?_
  rw [zs_11]
  refine ev_nm (M0 := M.set (o) (.inr (10, zo o (ui (zi) 11 (nI ((tg T t).2.1))) (zl)))) (fun M1 eM1 => ?_)
  have f2 : M1[o]? = some (.inr (10, zo o (ui (zi) 11 (nI ((tg T t).2.1))) (zl))) := by rw [eM1]; exact ev_sg hO
  have f3 : M1[o + 1]? = some (.inl (0, 50, .inl (f))) := by rw [eM1, ev_sn (by omega)]; exact hf
  refine ev_blk (B := [(.aload_n 0, 1), (.iconst 0, 1)]) (pe := 12) (ls' := [some (.ref (o)), some (.int (nI t)), none, none, none, none, none]) (st' := [.int (nI 0), .ref (o)]) ⟨dX11_fires_10, dX11_fires_11, rfl⟩ rfl ?_
  refine ev_put F_RX11_191 dX11_fires_12 f2 (Nat.le_of_ble_eq_true rfl) (fun _ _ => ⟨rfl, rfl⟩) ?_
  rw [zs_12]
  refine ev_nm (M0 := M1.set (o) (.inr (10, zo o (ui (ui (zi) 11 (nI ((tg T t).2.1))) 12 (nI 0)) (zl)))) (fun M4 eM4 => ?_)
  have f5 : M4[o]? = some (.inr (10, zo o (ui (ui (zi) 11 (nI ((tg T t).2.1))) 12 (nI 0)) (zl))) := by rw [eM4]; exact ev_sg f2
  have f6 : M4[o + 1]? = some (.inl (0, 50, .inl (f))) := by rw [eM4, ev_sn (by omega)]; exact f3
  refine ev_blk (B := [(.aload_n 0, 1), (.iload_n 1, 1), (.iconst 2, 1)]) (pe := 18) (ls' := [some (.ref (o)), some (.int (nI t)), none, none, none, none, none]) (st' := [.int (nI 2), .int (nI t), .ref (o)]) ⟨dX11_fires_15, dX11_fires_16, dX11_fires_17, rfl⟩ rfl ?_
  refine ev_cVv Y_X11_partOf L_RX11_155 dX11_fires_18 ⟨Nat.le_of_ble_eq_true rfl, Nat.le_of_ble_eq_true rfl, Nat.le_of_ble_eq_true rfl, Nat.le_of_ble_eq_true rfl, Nat.le_of_ble_eq_true rfl⟩ f5 (as := [.int (nI t), .int (nI 2)]) rfl rfl (c_R_partOf hl o (ui (ui (zi) 11 (nI ((tg T t).2.1))) 12 (nI 0)) (zl) f5 _ f6 T hP hT10 t (by omega) 2 (by decide)) ?_
  refine ev_fN_ne dX11_fires_21 (tgt := 25) (by decide) (by omega) (fun q21 => ?_) (fun q21 => ?_)
  · refine ev_blk (B := [(.aload_n 0, 1), (.iload_n 1, 1), (.iconst 3, 1)]) (pe := 28) (ls' := [some (.ref (o)), some (.int (nI t)), none, none, none, none, none]) (st' := [.int (nI 3), .int (nI t), .ref (o)]) ⟨dX11_fires_25, dX11_fires_26, dX11_fires_27, rfl⟩ rfl ?_
    refine ev_cVv Y_X11_partOf L_RX11_155 dX11_fires_28 ⟨Nat.le_of_ble_eq_true rfl, Nat.le_of_ble_eq_true rfl, Nat.le_of_ble_eq_true rfl, Nat.le_of_ble_eq_true rfl, Nat.le_of_ble_eq_true rfl⟩ f5 (as := [.int (nI t), .int (nI 3)]) rfl rfl (c_R_partOf3N hl o (ui (ui (zi) 11 (nI ((tg T t).2.1))) 12 (nI 0)) (zl) f5 _ f6 T hP hT10 t (by omega) (by omega)) ?_
    refine ev_fN_ne dX11_fires_31 (tgt := 41) (by decide) (by omega) (fun q31 => ?_) (fun q31 => ?_)
    · refine ev_blk (B := [(.aload_n 0, 1)]) (pe := 42) (ls' := [some (.ref (o)), some (.int (nI t)), none, none, none, none, none]) (st' := [.ref (o)]) ⟨dX11_fires_41, rfl⟩ rfl ?_
      refine ev_getf (v := .long (e2 x.2.2)) F_RX11_185 dX11_fires_42 f5 (congrArg (fun q => some (Value.long q)) h14) ?_
      have hcz : cw x (tg T t).2.2.2.1 = x.2.2 := cw_1 q31
      rw [← hcz]
      refine ev_blk (B := [(.lstore_n 2, 1), (.aload_n 0, 1), (.iload_n 1, 1), (.iconst 4, 1)]) (pe := 49) (ls' := [some (.ref (o)), some (.int (nI t)), some (.long (e2 (cw x (tg T t).2.2.2.1))), none, none, none, none]) (st' := [.int (nI 4), .int (nI t), .ref (o)]) ⟨dX11_fires_45, dX11_fires_46, dX11_fires_47, dX11_fires_48, rfl⟩ rfl ?_
      refine ev_cVv Y_X11_partOf L_RX11_155 dX11_fires_49 ⟨Nat.le_of_ble_eq_true rfl, Nat.le_of_ble_eq_true rfl, Nat.le_of_ble_eq_true rfl, Nat.le_of_ble_eq_true rfl, Nat.le_of_ble_eq_true rfl⟩ f5 (as := [.int (nI t), .int (nI 4)]) rfl rfl (c_R_partOf4N hl o (ui (ui (zi) 11 (nI ((tg T t).2.1))) 12 (nI 0)) (zl) f5 _ f6 T hP hT10 t (by omega) (by omega)) ?_
      refine ev_blk (B := [(.istore 4, 2)]) (pe := 54) (ls' := [some (.ref (o)), some (.int (nI t)), some (.long (e2 (cw x (tg T t).2.2.2.1))), none, some (.int (nI ((tg T t).2.2.2.2))), none, none]) (st' := []) ⟨dX11_fires_52, rfl⟩ rfl ?_
      refine ev_ldc2 K_RX11_109 dX11_fires_54 ?_
      refine ev_blk (B := [(.lload_n 2, 1), (.lmul, 1), (.iload 4, 2), (.i2l, 1), (.ladd, 1), (.lconst 1, 1), (.ladd, 1), (.lstore 5, 2), (.aload_n 0, 1), (.iload_n 1, 1), (.iconst 2, 1)]) (pe := 70) (ls' := [some (.ref (o)), some (.int (nI t)), some (.long (e2 (cw x (tg T t).2.2.2.1))), none, some (.int (nI ((tg T t).2.2.2.2))), some (.long (e2 (cw x (tg T t).2.2.2.1 ++ [(tg T t).2.2.2.2]))), none]) (st' := [.int (nI 2), .int (nI t), .ref (o)]) ⟨dX11_fires_57, dX11_fires_58, dX11_fires_59, dX11_fires_61, dX11_fires_62, dX11_fires_63, dX11_fires_64, dX11_fires_65, dX11_fires_67, dX11_fires_68, dX11_fires_69, rfl⟩ (by show some (([some (.ref (o)), some (.int (nI t)), some (.long (e2 (cw x (tg T t).2.2.2.1))), none, some (.int (nI ((tg T t).2.2.2.2))), some (.long ((((4) * (e2 (cw x (tg T t).2.2.2.1))) + ((nI ((tg T t).2.2.2.2)).toInt64)) + (1))), none] : ev_L), ([.int (nI 2), .int (nI t), .ref (o)] : List Value)) = _; rw [nI_l (show (tg T t).2.2.2.2 < 2 ^ 31 by omega), show (((4) * (e2 (cw x (tg T t).2.2.2.1))) + (lN ((tg T t).2.2.2.2))) + (1) = e2 (cw x (tg T t).2.2.2.1 ++ [(tg T t).2.2.2.2]) from rs_c hto.2.2.2.2]) ?_
      refine ev_cVv Y_X11_partOf L_RX11_155 dX11_fires_70 ⟨Nat.le_of_ble_eq_true rfl, Nat.le_of_ble_eq_true rfl, Nat.le_of_ble_eq_true rfl, Nat.le_of_ble_eq_true rfl, Nat.le_of_ble_eq_true rfl⟩ f5 (as := [.int (nI t), .int (nI 2)]) rfl rfl (c_R_partOf hl o (ui (ui (zi) 11 (nI ((tg T t).2.1))) 12 (nI 0)) (zl) f5 _ f6 T hP hT10 t (by omega) 2 (by decide)) ?_
      refine ev_blk (B := [(.iconst 2, 1)]) (pe := 74) (ls' := [some (.ref (o)), some (.int (nI t)), some (.long (e2 (cw x (tg T t).2.2.2.1))), none, some (.int (nI ((tg T t).2.2.2.2))), some (.long (e2 (cw x (tg T t).2.2.2.1 ++ [(tg T t).2.2.2.2]))), none]) (st' := [.int (nI 2), .int (nI ((tg T t).2.2.1))]) ⟨dX11_fires_73, rfl⟩ rfl ?_
      refine ev_iN_ne dX11_fires_74 (tgt := 99) (by decide) (by omega) (by omega) (fun q74 => ?_) (fun q74 => ?_)
      · refine ev_blk (B := [(.aload_n 0, 1), (.iload_n 1, 1), (.iconst 3, 1)]) (pe := 102) (ls' := [some (.ref (o)), some (.int (nI t)), some (.long (e2 (cw x (tg T t).2.2.2.1))), none, some (.int (nI ((tg T t).2.2.2.2))), some (.long (e2 (cw x (tg T t).2.2.2.1 ++ [(tg T t).2.2.2.2]))), none]) (st' := [.int (nI 3), .int (nI t), .ref (o)]) ⟨dX11_fires_99, dX11_fires_100, dX11_fires_101, rfl⟩ rfl ?_
        refine ev_cVv Y_X11_partOf L_RX11_155 dX11_fires_102 ⟨Nat.le_of_ble_eq_true rfl, Nat.le_of_ble_eq_true rfl, Nat.le_of_ble_eq_true rfl, Nat.le_of_ble_eq_true rfl, Nat.le_of_ble_eq_true rfl⟩ f5 (as := [.int (nI t), .int (nI 3)]) rfl rfl (c_R_partOf3N hl o (ui (ui (zi) 11 (nI ((tg T t).2.1))) 12 (nI 0)) (zl) f5 _ f6 T hP hT10 t (by omega) (by omega)) ?_
        refine ev_fN_ne dX11_fires_105 (tgt := 117) (by decide) (by omega) (fun q105 => ?_) (fun q105 => ?_)
        · refine ev_blk (B := [(.aload_n 0, 1), (.lload 5, 2)]) (pe := 120) (ls' := [some (.ref (o)), some (.int (nI t)), some (.long (e2 (cw x (tg T t).2.2.2.1))), none, some (.int (nI ((tg T t).2.2.2.2))), some (.long (e2 (cw x (tg T t).2.2.2.1 ++ [(tg T t).2.2.2.2]))), none]) (st' := [.long (e2 (cw x (tg T t).2.2.2.1 ++ [(tg T t).2.2.2.2])), .ref (o)]) ⟨dX11_fires_117, dX11_fires_118, rfl⟩ rfl ?_
          refine ev_put F_RX11_185 dX11_fires_120 f5 (Nat.le_of_ble_eq_true rfl) (fun _ _ => ⟨rfl, rfl⟩) ?_
          rw [zs_14]
          refine ev_nm (M0 := M4.set (o) (.inr (10, zo o (ui (ui (zi) 11 (nI ((tg T t).2.1))) 12 (nI 0)) (ul (zl) 14 (e2 (cw x (tg T t).2.2.2.1 ++ [(tg T t).2.2.2.2])))))) (fun M7 eM7 => ?_)
          have f8 : M7[o]? = some (.inr (10, zo o (ui (ui (zi) 11 (nI ((tg T t).2.1))) 12 (nI 0)) (ul (zl) 14 (e2 (cw x (tg T t).2.2.2.1 ++ [(tg T t).2.2.2.2]))))) := by rw [eM7]; exact ev_sg f5
          have f9 : M7[o + 1]? = some (.inl (0, 50, .inl (f))) := by rw [eM7, ev_sn (by omega)]; exact f6
          refine ev_vret dX11_fires_123 rfl ⟨Nat.le_of_ble_eq_true rfl, Nat.le_of_ble_eq_true rfl⟩ ?_
          have e9 : ap (tg T t) x = (0, ((tg T t).2.1, (x.2.1, (cw x (tg T t).2.2.2.1 ++ [(tg T t).2.2.2.2])))) := by
            unfold ap
            rw [if_pos (show (tg T t).2.2.1 = 1 by omega), cst_1 q105]
          rw [e9]
          exact ⟨rfl, _, _, f8, ⟨rfl, rfl, h13, rfl, fun k a b => (ui_ne b).trans (ui_ne a), fun k a b => ul_ne b⟩, ⟨by rw [eM7, eM4, eM1]; simp only [List.length_set], fun j hj1 hj2 => by rw [eM7, ev_sn (by omega), eM4, ev_sn (by omega), eM1, ev_sn (by omega)]⟩⟩
        · refine ev_blk (B := [(.aload_n 0, 1), (.lload 5, 2)]) (pe := 111) (ls' := [some (.ref (o)), some (.int (nI t)), some (.long (e2 (cw x (tg T t).2.2.2.1))), none, some (.int (nI ((tg T t).2.2.2.2))), some (.long (e2 (cw x (tg T t).2.2.2.1 ++ [(tg T t).2.2.2.2]))), none]) (st' := [.long (e2 (cw x (tg T t).2.2.2.1 ++ [(tg T t).2.2.2.2])), .ref (o)]) ⟨dX11_fires_108, dX11_fires_109, rfl⟩ rfl ?_
          refine ev_put F_RX11_182 dX11_fires_111 f5 (Nat.le_of_ble_eq_true rfl) (fun _ _ => ⟨rfl, rfl⟩) ?_
          rw [zs_13]
          refine ev_nm (M0 := M4.set (o) (.inr (10, zo o (ui (ui (zi) 11 (nI ((tg T t).2.1))) 12 (nI 0)) (ul (zl) 13 (e2 (cw x (tg T t).2.2.2.1 ++ [(tg T t).2.2.2.2])))))) (fun M10 eM10 => ?_)
          have f11 : M10[o]? = some (.inr (10, zo o (ui (ui (zi) 11 (nI ((tg T t).2.1))) 12 (nI 0)) (ul (zl) 13 (e2 (cw x (tg T t).2.2.2.1 ++ [(tg T t).2.2.2.2]))))) := by rw [eM10]; exact ev_sg f5
          have f12 : M10[o + 1]? = some (.inl (0, 50, .inl (f))) := by rw [eM10, ev_sn (by omega)]; exact f6
          refine ev_goto (tgt := 123) dX11_fires_114 (by decide) ?_
          refine ev_vret dX11_fires_123 rfl ⟨Nat.le_of_ble_eq_true rfl, Nat.le_of_ble_eq_true rfl⟩ ?_
          have e9 : ap (tg T t) x = (0, ((tg T t).2.1, ((cw x (tg T t).2.2.2.1 ++ [(tg T t).2.2.2.2]), x.2.2))) := by
            unfold ap
            rw [if_pos (show (tg T t).2.2.1 = 1 by omega), cst_0 q105]
          rw [e9]
          exact ⟨rfl, _, _, f11, ⟨rfl, rfl, rfl, h14, fun k a b => (ui_ne b).trans (ui_ne a), fun k a b => ul_ne a⟩, ⟨by rw [eM10, eM4, eM1]; simp only [List.length_set], fun j hj1 hj2 => by rw [eM10, ev_sn (by omega), eM4, ev_sn (by omega), eM1, ev_sn (by omega)]⟩⟩
      · refine ev_blk (B := [(.aload_n 0, 1), (.lload_n 2, 1), (.iload 4, 2)]) (pe := 81) (ls' := [some (.ref (o)), some (.int (nI t)), some (.long (e2 (cw x (tg T t).2.2.2.1))), none, some (.int (nI ((tg T t).2.2.2.2))), some (.long (e2 (cw x (tg T t).2.2.2.1 ++ [(tg T t).2.2.2.2]))), none]) (st' := [.int (nI ((tg T t).2.2.2.2)), .long (e2 (cw x (tg T t).2.2.2.1)), .ref (o)]) ⟨dX11_fires_77, dX11_fires_78, dX11_fires_79, rfl⟩ rfl ?_
        have hgd := ix_le (w := cw x (tg T t).2.2.2.1) (x := (tg T t).2.2.2.2)
        have hcl := hcw.2
        refine ev_cSv Y_X11_placeOf L_RX11_188 dX11_fires_81 ⟨Nat.le_of_ble_eq_true rfl, Nat.le_of_ble_eq_true rfl, Nat.le_of_ble_eq_true rfl, Nat.le_of_ble_eq_true rfl, Nat.le_of_ble_eq_true rfl⟩ (as := [.long (e2 (cw x (tg T t).2.2.2.1)), .int (nI ((tg T t).2.2.2.2))]) rfl rfl (c_R_placeOf hl (cw x (tg T t).2.2.2.1) hcw.1 hcw.2 (tg T t).2.2.2.2 hto.2.2.2.2) ?_
        refine ev_put F_RX11_191 dX11_fires_84 f5 (Nat.le_of_ble_eq_true rfl) (fun _ _ => ⟨rfl, rfl⟩) ?_
        rw [zs_12]
        refine ev_nm (M0 := M4.set (o) (.inr (10, zo o (ui (ui (ui (zi) 11 (nI ((tg T t).2.1))) 12 (nI 0)) 12 (nI ((ix (cw x (tg T t).2.2.2.1) (tg T t).2.2.2.2).getD (cw x (tg T t).2.2.2.1).length))) (zl)))) (fun M13 eM13 => ?_)
        have f14 : M13[o]? = some (.inr (10, zo o (ui (ui (ui (zi) 11 (nI ((tg T t).2.1))) 12 (nI 0)) 12 (nI ((ix (cw x (tg T t).2.2.2.1) (tg T t).2.2.2.2).getD (cw x (tg T t).2.2.2.1).length))) (zl))) := by rw [eM13]; exact ev_sg f5
        have f15 : M13[o + 1]? = some (.inl (0, 50, .inl (f))) := by rw [eM13, ev_sn (by omega)]; exact f6
        refine ev_blk (B := [(.lload_n 2, 1), (.aload_n 0, 1)]) (pe := 89) (ls' := [some (.ref (o)), some (.int (nI t)), some (.long (e2 (cw x (tg T t).2.2.2.1))), none, some (.int (nI ((tg T t).2.2.2.2))), some (.long (e2 (cw x (tg T t).2.2.2.1 ++ [(tg T t).2.2.2.2]))), none]) (st' := [.ref (o), .long (e2 (cw x (tg T t).2.2.2.1))]) ⟨dX11_fires_87, dX11_fires_88, rfl⟩ rfl ?_
        refine ev_getf (v := .int (nI ((ix (cw x (tg T t).2.2.2.1) (tg T t).2.2.2.2).getD (cw x (tg T t).2.2.2.1).length))) F_RX11_191 dX11_fires_89 f14 rfl ?_
        refine ev_blk (B := [(.iconst 1, 1), (.iadd, 1)]) (pe := 94) (ls' := [some (.ref (o)), some (.int (nI t)), some (.long (e2 (cw x (tg T t).2.2.2.1))), none, some (.int (nI ((tg T t).2.2.2.2))), some (.long (e2 (cw x (tg T t).2.2.2.1 ++ [(tg T t).2.2.2.2]))), none]) (st' := [.int (nI (((ix (cw x (tg T t).2.2.2.1) (tg T t).2.2.2.2).getD (cw x (tg T t).2.2.2.1).length) + 1)), .long (e2 (cw x (tg T t).2.2.2.1))]) ⟨dX11_fires_92, dX11_fires_93, rfl⟩ (by show some (([some (.ref (o)), some (.int (nI t)), some (.long (e2 (cw x (tg T t).2.2.2.1))), none, some (.int (nI ((tg T t).2.2.2.2))), some (.long (e2 (cw x (tg T t).2.2.2.1 ++ [(tg T t).2.2.2.2]))), none] : ev_L), ([.int ((nI ((ix (cw x (tg T t).2.2.2.1) (tg T t).2.2.2.2).getD (cw x (tg T t).2.2.2.1).length)) + (nI 1)), .long (e2 (cw x (tg T t).2.2.2.1))] : List Value)) = _; rw [nI_add ((ix (cw x (tg T t).2.2.2.1) (tg T t).2.2.2.2).getD (cw x (tg T t).2.2.2.1).length) 1]) ?_
        obtain ⟨i9, hi9⟩ := mf_some hmf q74
        have hgl := ix_get.mpr ⟨i9, hi9⟩
        refine ev_cSv Y_X11_behind L_RX11_194 dX11_fires_94 ⟨Nat.le_of_ble_eq_true rfl, Nat.le_of_ble_eq_true rfl, Nat.le_of_ble_eq_true rfl, Nat.le_of_ble_eq_true rfl, Nat.le_of_ble_eq_true rfl⟩ (as := [.long (e2 (cw x (tg T t).2.2.2.1)), .int (nI (((ix (cw x (tg T t).2.2.2.1) (tg T t).2.2.2.2).getD (cw x (tg T t).2.2.2.1).length) + 1))]) rfl rfl (c_R_behind hl (cw x (tg T t).2.2.2.1) hcw.1 hcw.2 (((ix (cw x (tg T t).2.2.2.1) (tg T t).2.2.2.2).getD (cw x (tg T t).2.2.2.1).length) + 1) (by omega)) ?_
        refine ev_blk (B := [(.lstore 5, 2), (.aload_n 0, 1), (.iload_n 1, 1), (.iconst 3, 1)]) (pe := 102) (ls' := [some (.ref (o)), some (.int (nI t)), some (.long (e2 (cw x (tg T t).2.2.2.1))), none, some (.int (nI ((tg T t).2.2.2.2))), some (.long (e2 ((cw x (tg T t).2.2.2.1).drop (((ix (cw x (tg T t).2.2.2.1) (tg T t).2.2.2.2).getD (cw x (tg T t).2.2.2.1).length) + 1)))), none]) (st' := [.int (nI 3), .int (nI t), .ref (o)]) ⟨dX11_fires_97, dX11_fires_99, dX11_fires_100, dX11_fires_101, rfl⟩ rfl ?_
        refine ev_cVv Y_X11_partOf L_RX11_155 dX11_fires_102 ⟨Nat.le_of_ble_eq_true rfl, Nat.le_of_ble_eq_true rfl, Nat.le_of_ble_eq_true rfl, Nat.le_of_ble_eq_true rfl, Nat.le_of_ble_eq_true rfl⟩ f14 (as := [.int (nI t), .int (nI 3)]) rfl rfl (c_R_partOf3N hl o (ui (ui (ui (zi) 11 (nI ((tg T t).2.1))) 12 (nI 0)) 12 (nI ((ix (cw x (tg T t).2.2.2.1) (tg T t).2.2.2.2).getD (cw x (tg T t).2.2.2.1).length))) (zl) f14 _ f15 T hP hT10 t (by omega) (by omega)) ?_
        refine ev_fN_ne dX11_fires_105 (tgt := 117) (by decide) (by omega) (fun q105 => ?_) (fun q105 => ?_)
        · refine ev_blk (B := [(.aload_n 0, 1), (.lload 5, 2)]) (pe := 120) (ls' := [some (.ref (o)), some (.int (nI t)), some (.long (e2 (cw x (tg T t).2.2.2.1))), none, some (.int (nI ((tg T t).2.2.2.2))), some (.long (e2 ((cw x (tg T t).2.2.2.1).drop (((ix (cw x (tg T t).2.2.2.1) (tg T t).2.2.2.2).getD (cw x (tg T t).2.2.2.1).length) + 1)))), none]) (st' := [.long (e2 ((cw x (tg T t).2.2.2.1).drop (((ix (cw x (tg T t).2.2.2.1) (tg T t).2.2.2.2).getD (cw x (tg T t).2.2.2.1).length) + 1))), .ref (o)]) ⟨dX11_fires_117, dX11_fires_118, rfl⟩ rfl ?_
          refine ev_put F_RX11_185 dX11_fires_120 f14 (Nat.le_of_ble_eq_true rfl) (fun _ _ => ⟨rfl, rfl⟩) ?_
          rw [zs_14]
          refine ev_nm (M0 := M13.set (o) (.inr (10, zo o (ui (ui (ui (zi) 11 (nI ((tg T t).2.1))) 12 (nI 0)) 12 (nI ((ix (cw x (tg T t).2.2.2.1) (tg T t).2.2.2.2).getD (cw x (tg T t).2.2.2.1).length))) (ul (zl) 14 (e2 ((cw x (tg T t).2.2.2.1).drop (((ix (cw x (tg T t).2.2.2.1) (tg T t).2.2.2.2).getD (cw x (tg T t).2.2.2.1).length) + 1))))))) (fun M16 eM16 => ?_)
          have f17 : M16[o]? = some (.inr (10, zo o (ui (ui (ui (zi) 11 (nI ((tg T t).2.1))) 12 (nI 0)) 12 (nI ((ix (cw x (tg T t).2.2.2.1) (tg T t).2.2.2.2).getD (cw x (tg T t).2.2.2.1).length))) (ul (zl) 14 (e2 ((cw x (tg T t).2.2.2.1).drop (((ix (cw x (tg T t).2.2.2.1) (tg T t).2.2.2.2).getD (cw x (tg T t).2.2.2.1).length) + 1)))))) := by rw [eM16]; exact ev_sg f14
          have f18 : M16[o + 1]? = some (.inl (0, 50, .inl (f))) := by rw [eM16, ev_sn (by omega)]; exact f15
          refine ev_vret dX11_fires_123 rfl ⟨Nat.le_of_ble_eq_true rfl, Nat.le_of_ble_eq_true rfl⟩ ?_
          have e8 : (ix (cw x (tg T t).2.2.2.1) (tg T t).2.2.2.2).getD (cw x (tg T t).2.2.2.1).length = (ix (cw x (tg T t).2.2.2.1) (tg T t).2.2.2.2).getD 0 := by rw [hi9]; rfl
          have e9 : ap (tg T t) x = ((ix (cw x (tg T t).2.2.2.1) (tg T t).2.2.2.2).getD (cw x (tg T t).2.2.2.1).length, ((tg T t).2.1, (x.2.1, ((cw x (tg T t).2.2.2.1).drop ((ix (cw x (tg T t).2.2.2.1) (tg T t).2.2.2.2).getD (cw x (tg T t).2.2.2.1).length + 1))))) := by
            unfold ap
            rw [if_neg (show ¬ (tg T t).2.2.1 = 1 by omega), if_pos q74, cst_1 q105, e8]
          rw [e9]
          exact ⟨rfl, _, _, f17, ⟨rfl, rfl, h13, rfl, fun k a b => (ui_ne b).trans ((ui_ne b).trans (ui_ne a)), fun k a b => ul_ne b⟩, ⟨by rw [eM16, eM13, eM4, eM1]; simp only [List.length_set], fun j hj1 hj2 => by rw [eM16, ev_sn (by omega), eM13, ev_sn (by omega), eM4, ev_sn (by omega), eM1, ev_sn (by omega)]⟩⟩
        · refine ev_blk (B := [(.aload_n 0, 1), (.lload 5, 2)]) (pe := 111) (ls' := [some (.ref (o)), some (.int (nI t)), some (.long (e2 (cw x (tg T t).2.2.2.1))), none, some (.int (nI ((tg T t).2.2.2.2))), some (.long (e2 ((cw x (tg T t).2.2.2.1).drop (((ix (cw x (tg T t).2.2.2.1) (tg T t).2.2.2.2).getD (cw x (tg T t).2.2.2.1).length) + 1)))), none]) (st' := [.long (e2 ((cw x (tg T t).2.2.2.1).drop (((ix (cw x (tg T t).2.2.2.1) (tg T t).2.2.2.2).getD (cw x (tg T t).2.2.2.1).length) + 1))), .ref (o)]) ⟨dX11_fires_108, dX11_fires_109, rfl⟩ rfl ?_
          refine ev_put F_RX11_182 dX11_fires_111 f14 (Nat.le_of_ble_eq_true rfl) (fun _ _ => ⟨rfl, rfl⟩) ?_
          rw [zs_13]
          refine ev_nm (M0 := M13.set (o) (.inr (10, zo o (ui (ui (ui (zi) 11 (nI ((tg T t).2.1))) 12 (nI 0)) 12 (nI ((ix (cw x (tg T t).2.2.2.1) (tg T t).2.2.2.2).getD (cw x (tg T t).2.2.2.1).length))) (ul (zl) 13 (e2 ((cw x (tg T t).2.2.2.1).drop (((ix (cw x (tg T t).2.2.2.1) (tg T t).2.2.2.2).getD (cw x (tg T t).2.2.2.1).length) + 1))))))) (fun M19 eM19 => ?_)
          have f20 : M19[o]? = some (.inr (10, zo o (ui (ui (ui (zi) 11 (nI ((tg T t).2.1))) 12 (nI 0)) 12 (nI ((ix (cw x (tg T t).2.2.2.1) (tg T t).2.2.2.2).getD (cw x (tg T t).2.2.2.1).length))) (ul (zl) 13 (e2 ((cw x (tg T t).2.2.2.1).drop (((ix (cw x (tg T t).2.2.2.1) (tg T t).2.2.2.2).getD (cw x (tg T t).2.2.2.1).length) + 1)))))) := by rw [eM19]; exact ev_sg f14
          have f21 : M19[o + 1]? = some (.inl (0, 50, .inl (f))) := by rw [eM19, ev_sn (by omega)]; exact f15
          refine ev_goto (tgt := 123) dX11_fires_114 (by decide) ?_
          refine ev_vret dX11_fires_123 rfl ⟨Nat.le_of_ble_eq_true rfl, Nat.le_of_ble_eq_true rfl⟩ ?_
          have e8 : (ix (cw x (tg T t).2.2.2.1) (tg T t).2.2.2.2).getD (cw x (tg T t).2.2.2.1).length = (ix (cw x (tg T t).2.2.2.1) (tg T t).2.2.2.2).getD 0 := by rw [hi9]; rfl
          have e9 : ap (tg T t) x = ((ix (cw x (tg T t).2.2.2.1) (tg T t).2.2.2.2).getD (cw x (tg T t).2.2.2.1).length, ((tg T t).2.1, (((cw x (tg T t).2.2.2.1).drop ((ix (cw x (tg T t).2.2.2.1) (tg T t).2.2.2.2).getD (cw x (tg T t).2.2.2.1).length + 1)), x.2.2))) := by
            unfold ap
            rw [if_neg (show ¬ (tg T t).2.2.1 = 1 by omega), if_pos q74, cst_0 q105, e8]
          rw [e9]
          exact ⟨rfl, _, _, f20, ⟨rfl, rfl, rfl, h14, fun k a b => (ui_ne b).trans ((ui_ne b).trans (ui_ne a)), fun k a b => ul_ne a⟩, ⟨by rw [eM19, eM13, eM4, eM1]; simp only [List.length_set], fun j hj1 hj2 => by rw [eM19, ev_sn (by omega), eM13, ev_sn (by omega), eM4, ev_sn (by omega), eM1, ev_sn (by omega)]⟩⟩
    · refine ev_blk (B := [(.aload_n 0, 1)]) (pe := 35) (ls' := [some (.ref (o)), some (.int (nI t)), none, none, none, none, none]) (st' := [.ref (o)]) ⟨dX11_fires_34, rfl⟩ rfl ?_
      refine ev_getf (v := .long (e2 x.2.1)) F_RX11_182 dX11_fires_35 f5 (congrArg (fun q => some (Value.long q)) h13) ?_
      refine ev_goto (tgt := 45) dX11_fires_38 (by decide) ?_
      have hcz : cw x (tg T t).2.2.2.1 = x.2.1 := cw_0 q31
      rw [← hcz]
      refine ev_blk (B := [(.lstore_n 2, 1), (.aload_n 0, 1), (.iload_n 1, 1), (.iconst 4, 1)]) (pe := 49) (ls' := [some (.ref (o)), some (.int (nI t)), some (.long (e2 (cw x (tg T t).2.2.2.1))), none, none, none, none]) (st' := [.int (nI 4), .int (nI t), .ref (o)]) ⟨dX11_fires_45, dX11_fires_46, dX11_fires_47, dX11_fires_48, rfl⟩ rfl ?_
      refine ev_cVv Y_X11_partOf L_RX11_155 dX11_fires_49 ⟨Nat.le_of_ble_eq_true rfl, Nat.le_of_ble_eq_true rfl, Nat.le_of_ble_eq_true rfl, Nat.le_of_ble_eq_true rfl, Nat.le_of_ble_eq_true rfl⟩ f5 (as := [.int (nI t), .int (nI 4)]) rfl rfl (c_R_partOf4N hl o (ui (ui (zi) 11 (nI ((tg T t).2.1))) 12 (nI 0)) (zl) f5 _ f6 T hP hT10 t (by omega) (by omega)) ?_
      refine ev_blk (B := [(.istore 4, 2)]) (pe := 54) (ls' := [some (.ref (o)), some (.int (nI t)), some (.long (e2 (cw x (tg T t).2.2.2.1))), none, some (.int (nI ((tg T t).2.2.2.2))), none, none]) (st' := []) ⟨dX11_fires_52, rfl⟩ rfl ?_
      refine ev_ldc2 K_RX11_109 dX11_fires_54 ?_
      refine ev_blk (B := [(.lload_n 2, 1), (.lmul, 1), (.iload 4, 2), (.i2l, 1), (.ladd, 1), (.lconst 1, 1), (.ladd, 1), (.lstore 5, 2), (.aload_n 0, 1), (.iload_n 1, 1), (.iconst 2, 1)]) (pe := 70) (ls' := [some (.ref (o)), some (.int (nI t)), some (.long (e2 (cw x (tg T t).2.2.2.1))), none, some (.int (nI ((tg T t).2.2.2.2))), some (.long (e2 (cw x (tg T t).2.2.2.1 ++ [(tg T t).2.2.2.2]))), none]) (st' := [.int (nI 2), .int (nI t), .ref (o)]) ⟨dX11_fires_57, dX11_fires_58, dX11_fires_59, dX11_fires_61, dX11_fires_62, dX11_fires_63, dX11_fires_64, dX11_fires_65, dX11_fires_67, dX11_fires_68, dX11_fires_69, rfl⟩ (by show some (([some (.ref (o)), some (.int (nI t)), some (.long (e2 (cw x (tg T t).2.2.2.1))), none, some (.int (nI ((tg T t).2.2.2.2))), some (.long ((((4) * (e2 (cw x (tg T t).2.2.2.1))) + ((nI ((tg T t).2.2.2.2)).toInt64)) + (1))), none] : ev_L), ([.int (nI 2), .int (nI t), .ref (o)] : List Value)) = _; rw [nI_l (show (tg T t).2.2.2.2 < 2 ^ 31 by omega), show (((4) * (e2 (cw x (tg T t).2.2.2.1))) + (lN ((tg T t).2.2.2.2))) + (1) = e2 (cw x (tg T t).2.2.2.1 ++ [(tg T t).2.2.2.2]) from rs_c hto.2.2.2.2]) ?_
      refine ev_cVv Y_X11_partOf L_RX11_155 dX11_fires_70 ⟨Nat.le_of_ble_eq_true rfl, Nat.le_of_ble_eq_true rfl, Nat.le_of_ble_eq_true rfl, Nat.le_of_ble_eq_true rfl, Nat.le_of_ble_eq_true rfl⟩ f5 (as := [.int (nI t), .int (nI 2)]) rfl rfl (c_R_partOf hl o (ui (ui (zi) 11 (nI ((tg T t).2.1))) 12 (nI 0)) (zl) f5 _ f6 T hP hT10 t (by omega) 2 (by decide)) ?_
      refine ev_blk (B := [(.iconst 2, 1)]) (pe := 74) (ls' := [some (.ref (o)), some (.int (nI t)), some (.long (e2 (cw x (tg T t).2.2.2.1))), none, some (.int (nI ((tg T t).2.2.2.2))), some (.long (e2 (cw x (tg T t).2.2.2.1 ++ [(tg T t).2.2.2.2]))), none]) (st' := [.int (nI 2), .int (nI ((tg T t).2.2.1))]) ⟨dX11_fires_73, rfl⟩ rfl ?_
      refine ev_iN_ne dX11_fires_74 (tgt := 99) (by decide) (by omega) (by omega) (fun q74 => ?_) (fun q74 => ?_)
      · refine ev_blk (B := [(.aload_n 0, 1), (.iload_n 1, 1), (.iconst 3, 1)]) (pe := 102) (ls' := [some (.ref (o)), some (.int (nI t)), some (.long (e2 (cw x (tg T t).2.2.2.1))), none, some (.int (nI ((tg T t).2.2.2.2))), some (.long (e2 (cw x (tg T t).2.2.2.1 ++ [(tg T t).2.2.2.2]))), none]) (st' := [.int (nI 3), .int (nI t), .ref (o)]) ⟨dX11_fires_99, dX11_fires_100, dX11_fires_101, rfl⟩ rfl ?_
        refine ev_cVv Y_X11_partOf L_RX11_155 dX11_fires_102 ⟨Nat.le_of_ble_eq_true rfl, Nat.le_of_ble_eq_true rfl, Nat.le_of_ble_eq_true rfl, Nat.le_of_ble_eq_true rfl, Nat.le_of_ble_eq_true rfl⟩ f5 (as := [.int (nI t), .int (nI 3)]) rfl rfl (c_R_partOf3N hl o (ui (ui (zi) 11 (nI ((tg T t).2.1))) 12 (nI 0)) (zl) f5 _ f6 T hP hT10 t (by omega) (by omega)) ?_
        refine ev_fN_ne dX11_fires_105 (tgt := 117) (by decide) (by omega) (fun q105 => ?_) (fun q105 => ?_)
        · refine ev_blk (B := [(.aload_n 0, 1), (.lload 5, 2)]) (pe := 120) (ls' := [some (.ref (o)), some (.int (nI t)), some (.long (e2 (cw x (tg T t).2.2.2.1))), none, some (.int (nI ((tg T t).2.2.2.2))), some (.long (e2 (cw x (tg T t).2.2.2.1 ++ [(tg T t).2.2.2.2]))), none]) (st' := [.long (e2 (cw x (tg T t).2.2.2.1 ++ [(tg T t).2.2.2.2])), .ref (o)]) ⟨dX11_fires_117, dX11_fires_118, rfl⟩ rfl ?_
          refine ev_put F_RX11_185 dX11_fires_120 f5 (Nat.le_of_ble_eq_true rfl) (fun _ _ => ⟨rfl, rfl⟩) ?_
          rw [zs_14]
          refine ev_nm (M0 := M4.set (o) (.inr (10, zo o (ui (ui (zi) 11 (nI ((tg T t).2.1))) 12 (nI 0)) (ul (zl) 14 (e2 (cw x (tg T t).2.2.2.1 ++ [(tg T t).2.2.2.2])))))) (fun M22 eM22 => ?_)
          have f23 : M22[o]? = some (.inr (10, zo o (ui (ui (zi) 11 (nI ((tg T t).2.1))) 12 (nI 0)) (ul (zl) 14 (e2 (cw x (tg T t).2.2.2.1 ++ [(tg T t).2.2.2.2]))))) := by rw [eM22]; exact ev_sg f5
          have f24 : M22[o + 1]? = some (.inl (0, 50, .inl (f))) := by rw [eM22, ev_sn (by omega)]; exact f6
          refine ev_vret dX11_fires_123 rfl ⟨Nat.le_of_ble_eq_true rfl, Nat.le_of_ble_eq_true rfl⟩ ?_
          have e9 : ap (tg T t) x = (0, ((tg T t).2.1, (x.2.1, (cw x (tg T t).2.2.2.1 ++ [(tg T t).2.2.2.2])))) := by
            unfold ap
            rw [if_pos (show (tg T t).2.2.1 = 1 by omega), cst_1 q105]
          rw [e9]
          exact ⟨rfl, _, _, f23, ⟨rfl, rfl, h13, rfl, fun k a b => (ui_ne b).trans (ui_ne a), fun k a b => ul_ne b⟩, ⟨by rw [eM22, eM4, eM1]; simp only [List.length_set], fun j hj1 hj2 => by rw [eM22, ev_sn (by omega), eM4, ev_sn (by omega), eM1, ev_sn (by omega)]⟩⟩
        · refine ev_blk (B := [(.aload_n 0, 1), (.lload 5, 2)]) (pe := 111) (ls' := [some (.ref (o)), some (.int (nI t)), some (.long (e2 (cw x (tg T t).2.2.2.1))), none, some (.int (nI ((tg T t).2.2.2.2))), some (.long (e2 (cw x (tg T t).2.2.2.1 ++ [(tg T t).2.2.2.2]))), none]) (st' := [.long (e2 (cw x (tg T t).2.2.2.1 ++ [(tg T t).2.2.2.2])), .ref (o)]) ⟨dX11_fires_108, dX11_fires_109, rfl⟩ rfl ?_
          refine ev_put F_RX11_182 dX11_fires_111 f5 (Nat.le_of_ble_eq_true rfl) (fun _ _ => ⟨rfl, rfl⟩) ?_
          rw [zs_13]
          refine ev_nm (M0 := M4.set (o) (.inr (10, zo o (ui (ui (zi) 11 (nI ((tg T t).2.1))) 12 (nI 0)) (ul (zl) 13 (e2 (cw x (tg T t).2.2.2.1 ++ [(tg T t).2.2.2.2])))))) (fun M25 eM25 => ?_)
          have f26 : M25[o]? = some (.inr (10, zo o (ui (ui (zi) 11 (nI ((tg T t).2.1))) 12 (nI 0)) (ul (zl) 13 (e2 (cw x (tg T t).2.2.2.1 ++ [(tg T t).2.2.2.2]))))) := by rw [eM25]; exact ev_sg f5
          have f27 : M25[o + 1]? = some (.inl (0, 50, .inl (f))) := by rw [eM25, ev_sn (by omega)]; exact f6
          refine ev_goto (tgt := 123) dX11_fires_114 (by decide) ?_
          refine ev_vret dX11_fires_123 rfl ⟨Nat.le_of_ble_eq_true rfl, Nat.le_of_ble_eq_true rfl⟩ ?_
          have e9 : ap (tg T t) x = (0, ((tg T t).2.1, ((cw x (tg T t).2.2.2.1 ++ [(tg T t).2.2.2.2]), x.2.2))) := by
            unfold ap
            rw [if_pos (show (tg T t).2.2.1 = 1 by omega), cst_0 q105]
          rw [e9]
          exact ⟨rfl, _, _, f26, ⟨rfl, rfl, rfl, h14, fun k a b => (ui_ne b).trans (ui_ne a), fun k a b => ul_ne a⟩, ⟨by rw [eM25, eM4, eM1]; simp only [List.length_set], fun j hj1 hj2 => by rw [eM25, ev_sn (by omega), eM4, ev_sn (by omega), eM1, ev_sn (by omega)]⟩⟩
      · refine ev_blk (B := [(.aload_n 0, 1), (.lload_n 2, 1), (.iload 4, 2)]) (pe := 81) (ls' := [some (.ref (o)), some (.int (nI t)), some (.long (e2 (cw x (tg T t).2.2.2.1))), none, some (.int (nI ((tg T t).2.2.2.2))), some (.long (e2 (cw x (tg T t).2.2.2.1 ++ [(tg T t).2.2.2.2]))), none]) (st' := [.int (nI ((tg T t).2.2.2.2)), .long (e2 (cw x (tg T t).2.2.2.1)), .ref (o)]) ⟨dX11_fires_77, dX11_fires_78, dX11_fires_79, rfl⟩ rfl ?_
        have hgd := ix_le (w := cw x (tg T t).2.2.2.1) (x := (tg T t).2.2.2.2)
        have hcl := hcw.2
        refine ev_cSv Y_X11_placeOf L_RX11_188 dX11_fires_81 ⟨Nat.le_of_ble_eq_true rfl, Nat.le_of_ble_eq_true rfl, Nat.le_of_ble_eq_true rfl, Nat.le_of_ble_eq_true rfl, Nat.le_of_ble_eq_true rfl⟩ (as := [.long (e2 (cw x (tg T t).2.2.2.1)), .int (nI ((tg T t).2.2.2.2))]) rfl rfl (c_R_placeOf hl (cw x (tg T t).2.2.2.1) hcw.1 hcw.2 (tg T t).2.2.2.2 hto.2.2.2.2) ?_
        refine ev_put F_RX11_191 dX11_fires_84 f5 (Nat.le_of_ble_eq_true rfl) (fun _ _ => ⟨rfl, rfl⟩) ?_
        rw [zs_12]
        refine ev_nm (M0 := M4.set (o) (.inr (10, zo o (ui (ui (ui (zi) 11 (nI ((tg T t).2.1))) 12 (nI 0)) 12 (nI ((ix (cw x (tg T t).2.2.2.1) (tg T t).2.2.2.2).getD (cw x (tg T t).2.2.2.1).length))) (zl)))) (fun M28 eM28 => ?_)
        have f29 : M28[o]? = some (.inr (10, zo o (ui (ui (ui (zi) 11 (nI ((tg T t).2.1))) 12 (nI 0)) 12 (nI ((ix (cw x (tg T t).2.2.2.1) (tg T t).2.2.2.2).getD (cw x (tg T t).2.2.2.1).length))) (zl))) := by rw [eM28]; exact ev_sg f5
        have f30 : M28[o + 1]? = some (.inl (0, 50, .inl (f))) := by rw [eM28, ev_sn (by omega)]; exact f6
        refine ev_blk (B := [(.lload_n 2, 1), (.aload_n 0, 1)]) (pe := 89) (ls' := [some (.ref (o)), some (.int (nI t)), some (.long (e2 (cw x (tg T t).2.2.2.1))), none, some (.int (nI ((tg T t).2.2.2.2))), some (.long (e2 (cw x (tg T t).2.2.2.1 ++ [(tg T t).2.2.2.2]))), none]) (st' := [.ref (o), .long (e2 (cw x (tg T t).2.2.2.1))]) ⟨dX11_fires_87, dX11_fires_88, rfl⟩ rfl ?_
        refine ev_getf (v := .int (nI ((ix (cw x (tg T t).2.2.2.1) (tg T t).2.2.2.2).getD (cw x (tg T t).2.2.2.1).length))) F_RX11_191 dX11_fires_89 f29 rfl ?_
        refine ev_blk (B := [(.iconst 1, 1), (.iadd, 1)]) (pe := 94) (ls' := [some (.ref (o)), some (.int (nI t)), some (.long (e2 (cw x (tg T t).2.2.2.1))), none, some (.int (nI ((tg T t).2.2.2.2))), some (.long (e2 (cw x (tg T t).2.2.2.1 ++ [(tg T t).2.2.2.2]))), none]) (st' := [.int (nI (((ix (cw x (tg T t).2.2.2.1) (tg T t).2.2.2.2).getD (cw x (tg T t).2.2.2.1).length) + 1)), .long (e2 (cw x (tg T t).2.2.2.1))]) ⟨dX11_fires_92, dX11_fires_93, rfl⟩ (by show some (([some (.ref (o)), some (.int (nI t)), some (.long (e2 (cw x (tg T t).2.2.2.1))), none, some (.int (nI ((tg T t).2.2.2.2))), some (.long (e2 (cw x (tg T t).2.2.2.1 ++ [(tg T t).2.2.2.2]))), none] : ev_L), ([.int ((nI ((ix (cw x (tg T t).2.2.2.1) (tg T t).2.2.2.2).getD (cw x (tg T t).2.2.2.1).length)) + (nI 1)), .long (e2 (cw x (tg T t).2.2.2.1))] : List Value)) = _; rw [nI_add ((ix (cw x (tg T t).2.2.2.1) (tg T t).2.2.2.2).getD (cw x (tg T t).2.2.2.1).length) 1]) ?_
        obtain ⟨i9, hi9⟩ := mf_some hmf q74
        have hgl := ix_get.mpr ⟨i9, hi9⟩
        refine ev_cSv Y_X11_behind L_RX11_194 dX11_fires_94 ⟨Nat.le_of_ble_eq_true rfl, Nat.le_of_ble_eq_true rfl, Nat.le_of_ble_eq_true rfl, Nat.le_of_ble_eq_true rfl, Nat.le_of_ble_eq_true rfl⟩ (as := [.long (e2 (cw x (tg T t).2.2.2.1)), .int (nI (((ix (cw x (tg T t).2.2.2.1) (tg T t).2.2.2.2).getD (cw x (tg T t).2.2.2.1).length) + 1))]) rfl rfl (c_R_behind hl (cw x (tg T t).2.2.2.1) hcw.1 hcw.2 (((ix (cw x (tg T t).2.2.2.1) (tg T t).2.2.2.2).getD (cw x (tg T t).2.2.2.1).length) + 1) (by omega)) ?_
        refine ev_blk (B := [(.lstore 5, 2), (.aload_n 0, 1), (.iload_n 1, 1), (.iconst 3, 1)]) (pe := 102) (ls' := [some (.ref (o)), some (.int (nI t)), some (.long (e2 (cw x (tg T t).2.2.2.1))), none, some (.int (nI ((tg T t).2.2.2.2))), some (.long (e2 ((cw x (tg T t).2.2.2.1).drop (((ix (cw x (tg T t).2.2.2.1) (tg T t).2.2.2.2).getD (cw x (tg T t).2.2.2.1).length) + 1)))), none]) (st' := [.int (nI 3), .int (nI t), .ref (o)]) ⟨dX11_fires_97, dX11_fires_99, dX11_fires_100, dX11_fires_101, rfl⟩ rfl ?_
        refine ev_cVv Y_X11_partOf L_RX11_155 dX11_fires_102 ⟨Nat.le_of_ble_eq_true rfl, Nat.le_of_ble_eq_true rfl, Nat.le_of_ble_eq_true rfl, Nat.le_of_ble_eq_true rfl, Nat.le_of_ble_eq_true rfl⟩ f29 (as := [.int (nI t), .int (nI 3)]) rfl rfl (c_R_partOf3N hl o (ui (ui (ui (zi) 11 (nI ((tg T t).2.1))) 12 (nI 0)) 12 (nI ((ix (cw x (tg T t).2.2.2.1) (tg T t).2.2.2.2).getD (cw x (tg T t).2.2.2.1).length))) (zl) f29 _ f30 T hP hT10 t (by omega) (by omega)) ?_
        refine ev_fN_ne dX11_fires_105 (tgt := 117) (by decide) (by omega) (fun q105 => ?_) (fun q105 => ?_)
        · refine ev_blk (B := [(.aload_n 0, 1), (.lload 5, 2)]) (pe := 120) (ls' := [some (.ref (o)), some (.int (nI t)), some (.long (e2 (cw x (tg T t).2.2.2.1))), none, some (.int (nI ((tg T t).2.2.2.2))), some (.long (e2 ((cw x (tg T t).2.2.2.1).drop (((ix (cw x (tg T t).2.2.2.1) (tg T t).2.2.2.2).getD (cw x (tg T t).2.2.2.1).length) + 1)))), none]) (st' := [.long (e2 ((cw x (tg T t).2.2.2.1).drop (((ix (cw x (tg T t).2.2.2.1) (tg T t).2.2.2.2).getD (cw x (tg T t).2.2.2.1).length) + 1))), .ref (o)]) ⟨dX11_fires_117, dX11_fires_118, rfl⟩ rfl ?_
          refine ev_put F_RX11_185 dX11_fires_120 f29 (Nat.le_of_ble_eq_true rfl) (fun _ _ => ⟨rfl, rfl⟩) ?_
          rw [zs_14]
          refine ev_nm (M0 := M28.set (o) (.inr (10, zo o (ui (ui (ui (zi) 11 (nI ((tg T t).2.1))) 12 (nI 0)) 12 (nI ((ix (cw x (tg T t).2.2.2.1) (tg T t).2.2.2.2).getD (cw x (tg T t).2.2.2.1).length))) (ul (zl) 14 (e2 ((cw x (tg T t).2.2.2.1).drop (((ix (cw x (tg T t).2.2.2.1) (tg T t).2.2.2.2).getD (cw x (tg T t).2.2.2.1).length) + 1))))))) (fun M31 eM31 => ?_)
          have f32 : M31[o]? = some (.inr (10, zo o (ui (ui (ui (zi) 11 (nI ((tg T t).2.1))) 12 (nI 0)) 12 (nI ((ix (cw x (tg T t).2.2.2.1) (tg T t).2.2.2.2).getD (cw x (tg T t).2.2.2.1).length))) (ul (zl) 14 (e2 ((cw x (tg T t).2.2.2.1).drop (((ix (cw x (tg T t).2.2.2.1) (tg T t).2.2.2.2).getD (cw x (tg T t).2.2.2.1).length) + 1)))))) := by rw [eM31]; exact ev_sg f29
          have f33 : M31[o + 1]? = some (.inl (0, 50, .inl (f))) := by rw [eM31, ev_sn (by omega)]; exact f30
          refine ev_vret dX11_fires_123 rfl ⟨Nat.le_of_ble_eq_true rfl, Nat.le_of_ble_eq_true rfl⟩ ?_
          have e8 : (ix (cw x (tg T t).2.2.2.1) (tg T t).2.2.2.2).getD (cw x (tg T t).2.2.2.1).length = (ix (cw x (tg T t).2.2.2.1) (tg T t).2.2.2.2).getD 0 := by rw [hi9]; rfl
          have e9 : ap (tg T t) x = ((ix (cw x (tg T t).2.2.2.1) (tg T t).2.2.2.2).getD (cw x (tg T t).2.2.2.1).length, ((tg T t).2.1, (x.2.1, ((cw x (tg T t).2.2.2.1).drop ((ix (cw x (tg T t).2.2.2.1) (tg T t).2.2.2.2).getD (cw x (tg T t).2.2.2.1).length + 1))))) := by
            unfold ap
            rw [if_neg (show ¬ (tg T t).2.2.1 = 1 by omega), if_pos q74, cst_1 q105, e8]
          rw [e9]
          exact ⟨rfl, _, _, f32, ⟨rfl, rfl, h13, rfl, fun k a b => (ui_ne b).trans ((ui_ne b).trans (ui_ne a)), fun k a b => ul_ne b⟩, ⟨by rw [eM31, eM28, eM4, eM1]; simp only [List.length_set], fun j hj1 hj2 => by rw [eM31, ev_sn (by omega), eM28, ev_sn (by omega), eM4, ev_sn (by omega), eM1, ev_sn (by omega)]⟩⟩
        · refine ev_blk (B := [(.aload_n 0, 1), (.lload 5, 2)]) (pe := 111) (ls' := [some (.ref (o)), some (.int (nI t)), some (.long (e2 (cw x (tg T t).2.2.2.1))), none, some (.int (nI ((tg T t).2.2.2.2))), some (.long (e2 ((cw x (tg T t).2.2.2.1).drop (((ix (cw x (tg T t).2.2.2.1) (tg T t).2.2.2.2).getD (cw x (tg T t).2.2.2.1).length) + 1)))), none]) (st' := [.long (e2 ((cw x (tg T t).2.2.2.1).drop (((ix (cw x (tg T t).2.2.2.1) (tg T t).2.2.2.2).getD (cw x (tg T t).2.2.2.1).length) + 1))), .ref (o)]) ⟨dX11_fires_108, dX11_fires_109, rfl⟩ rfl ?_
          refine ev_put F_RX11_182 dX11_fires_111 f29 (Nat.le_of_ble_eq_true rfl) (fun _ _ => ⟨rfl, rfl⟩) ?_
          rw [zs_13]
          refine ev_nm (M0 := M28.set (o) (.inr (10, zo o (ui (ui (ui (zi) 11 (nI ((tg T t).2.1))) 12 (nI 0)) 12 (nI ((ix (cw x (tg T t).2.2.2.1) (tg T t).2.2.2.2).getD (cw x (tg T t).2.2.2.1).length))) (ul (zl) 13 (e2 ((cw x (tg T t).2.2.2.1).drop (((ix (cw x (tg T t).2.2.2.1) (tg T t).2.2.2.2).getD (cw x (tg T t).2.2.2.1).length) + 1))))))) (fun M34 eM34 => ?_)
          have f35 : M34[o]? = some (.inr (10, zo o (ui (ui (ui (zi) 11 (nI ((tg T t).2.1))) 12 (nI 0)) 12 (nI ((ix (cw x (tg T t).2.2.2.1) (tg T t).2.2.2.2).getD (cw x (tg T t).2.2.2.1).length))) (ul (zl) 13 (e2 ((cw x (tg T t).2.2.2.1).drop (((ix (cw x (tg T t).2.2.2.1) (tg T t).2.2.2.2).getD (cw x (tg T t).2.2.2.1).length) + 1)))))) := by rw [eM34]; exact ev_sg f29
          have f36 : M34[o + 1]? = some (.inl (0, 50, .inl (f))) := by rw [eM34, ev_sn (by omega)]; exact f30
          refine ev_goto (tgt := 123) dX11_fires_114 (by decide) ?_
          refine ev_vret dX11_fires_123 rfl ⟨Nat.le_of_ble_eq_true rfl, Nat.le_of_ble_eq_true rfl⟩ ?_
          have e8 : (ix (cw x (tg T t).2.2.2.1) (tg T t).2.2.2.2).getD (cw x (tg T t).2.2.2.1).length = (ix (cw x (tg T t).2.2.2.1) (tg T t).2.2.2.2).getD 0 := by rw [hi9]; rfl
          have e9 : ap (tg T t) x = ((ix (cw x (tg T t).2.2.2.1) (tg T t).2.2.2.2).getD (cw x (tg T t).2.2.2.1).length, ((tg T t).2.1, (((cw x (tg T t).2.2.2.1).drop ((ix (cw x (tg T t).2.2.2.1) (tg T t).2.2.2.2).getD (cw x (tg T t).2.2.2.1).length + 1)), x.2.2))) := by
            unfold ap
            rw [if_neg (show ¬ (tg T t).2.2.1 = 1 by omega), if_pos q74, cst_0 q105, e8]
          rw [e9]
          exact ⟨rfl, _, _, f35, ⟨rfl, rfl, rfl, h14, fun k a b => (ui_ne b).trans ((ui_ne b).trans (ui_ne a)), fun k a b => ul_ne a⟩, ⟨by rw [eM34, eM28, eM4, eM1]; simp only [List.length_set], fun j hj1 hj2 => by rw [eM34, ev_sn (by omega), eM28, ev_sn (by omega), eM4, ev_sn (by omega), eM1, ev_sn (by omega)]⟩⟩
  · refine ev_vret dX11_fires_24 rfl ⟨Nat.le_of_ble_eq_true rfl, Nat.le_of_ble_eq_true rfl⟩ ?_
    have e9 : ap (tg T t) x = (0, ((tg T t).2.1, x.2)) := by
      unfold ap
      rw [if_neg (show ¬ (tg T t).2.2.1 = 1 by omega), if_neg (show ¬ (tg T t).2.2.1 = 2 by omega)]
    rw [e9]
    exact ⟨rfl, _, _, f5, ⟨rfl, rfl, h13, h14, fun k a b => (ui_ne b).trans (ui_ne a), fun k a b => rfl⟩, ⟨by rw [eM4, eM1]; simp only [List.length_set], fun j hj1 hj2 => by rw [eM4, ev_sn (by omega), eM1, ev_sn (by omega)]⟩⟩

