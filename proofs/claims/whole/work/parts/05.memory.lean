section EVQ
variable {l : Launch} {mi : ev_MI} {kc ks pc : Nat} {ls : ev_L} {st : List Value} {M : ev_M} {Q : ev_R → ev_M → Prop}
theorem ev_goto {off : Int} {tgt : Nat} (hd : decode (ev_c mi) pc = .ok (.goto off, 3)) (ht : (pc : Int) + off = (tgt : Int)) (k : ev_ l mi kc ks tgt ls st M Q) : ev_ l mi kc ks pc ls st M Q := by
  intro p e s m args below meth c D ad0 ad ax cA A H locs lsA L0 hC hS hA hL ha hP hD hK hX hM hO hOL hl hn
  exact lv_goto hC.2.1 hC.2.2.1 hd ht (k p e s m args below meth c D ad0 ad ax cA A H locs lsA L0 hC hS hA hL ha hP hD hK hX hM hO hOL hl hn)
theorem ev_if_eq {x : Int32} {off : Int} {tgt : Nat} (hd : decode (ev_c mi) pc = .ok (.ifCond .eq off, 3)) (ht : (pc : Int) + off = (tgt : Int)) (kt : x = 0 → ev_ l mi kc ks tgt ls st M Q) (kf : ¬ x = 0 → ev_ l mi kc ks (pc + 3) ls st M Q) : ev_ l mi kc ks pc ls (.int x :: st) M Q := by
  intro p e s m args below meth c D ad0 ad ax cA A H locs lsA L0 hC hS hA hL ha hP hD hK hX hM hO hOL hl hn
  exact lv_if_eq hC.2.1 hC.2.2.1 hd ht (fun h => kt h p e s m args below meth c D ad0 ad ax cA A H locs lsA L0 hC hS hA hL ha hP hD hK hX hM (ev_okS_t hO) hOL hl hn) (fun h => kf h p e s m args below meth c D ad0 ad ax cA A H locs lsA L0 hC hS hA hL ha hP hD hK hX hM (ev_okS_t hO) hOL hl hn)
theorem ev_ic_eq {x y : Int32} {off : Int} {tgt : Nat} (hd : decode (ev_c mi) pc = .ok (.if_icmp .eq off, 3)) (ht : (pc : Int) + off = (tgt : Int)) (kt : x = y → ev_ l mi kc ks tgt ls st M Q) (kf : ¬ x = y → ev_ l mi kc ks (pc + 3) ls st M Q) : ev_ l mi kc ks pc ls (.int y :: .int x :: st) M Q := by
  intro p e s m args below meth c D ad0 ad ax cA A H locs lsA L0 hC hS hA hL ha hP hD hK hX hM hO hOL hl hn
  exact lv_icmp_eq hC.2.1 hC.2.2.1 hd ht (fun h => kt h p e s m args below meth c D ad0 ad ax cA A H locs lsA L0 hC hS hA hL ha hP hD hK hX hM (ev_okS_t (ev_okS_t hO)) hOL hl hn) (fun h => kf h p e s m args below meth c D ad0 ad ax cA A H locs lsA L0 hC hS hA hL ha hP hD hK hX hM (ev_okS_t (ev_okS_t hO)) hOL hl hn)
theorem ev_if_ne {x : Int32} {off : Int} {tgt : Nat} (hd : decode (ev_c mi) pc = .ok (.ifCond .ne off, 3)) (ht : (pc : Int) + off = (tgt : Int)) (kt : ¬ x = 0 → ev_ l mi kc ks tgt ls st M Q) (kf : x = 0 → ev_ l mi kc ks (pc + 3) ls st M Q) : ev_ l mi kc ks pc ls (.int x :: st) M Q := by
  intro p e s m args below meth c D ad0 ad ax cA A H locs lsA L0 hC hS hA hL ha hP hD hK hX hM hO hOL hl hn
  exact lv_if_ne hC.2.1 hC.2.2.1 hd ht (fun h => kt h p e s m args below meth c D ad0 ad ax cA A H locs lsA L0 hC hS hA hL ha hP hD hK hX hM (ev_okS_t hO) hOL hl hn) (fun h => kf h p e s m args below meth c D ad0 ad ax cA A H locs lsA L0 hC hS hA hL ha hP hD hK hX hM (ev_okS_t hO) hOL hl hn)
theorem ev_ic_ne {x y : Int32} {off : Int} {tgt : Nat} (hd : decode (ev_c mi) pc = .ok (.if_icmp .ne off, 3)) (ht : (pc : Int) + off = (tgt : Int)) (kt : ¬ x = y → ev_ l mi kc ks tgt ls st M Q) (kf : x = y → ev_ l mi kc ks (pc + 3) ls st M Q) : ev_ l mi kc ks pc ls (.int y :: .int x :: st) M Q := by
  intro p e s m args below meth c D ad0 ad ax cA A H locs lsA L0 hC hS hA hL ha hP hD hK hX hM hO hOL hl hn
  exact lv_icmp_ne hC.2.1 hC.2.2.1 hd ht (fun h => kt h p e s m args below meth c D ad0 ad ax cA A H locs lsA L0 hC hS hA hL ha hP hD hK hX hM (ev_okS_t (ev_okS_t hO)) hOL hl hn) (fun h => kf h p e s m args below meth c D ad0 ad ax cA A H locs lsA L0 hC hS hA hL ha hP hD hK hX hM (ev_okS_t (ev_okS_t hO)) hOL hl hn)
theorem ev_if_lt {x : Int32} {off : Int} {tgt : Nat} (hd : decode (ev_c mi) pc = .ok (.ifCond .lt off, 3)) (ht : (pc : Int) + off = (tgt : Int)) (kt : x < 0 → ev_ l mi kc ks tgt ls st M Q) (kf : ¬ x < 0 → ev_ l mi kc ks (pc + 3) ls st M Q) : ev_ l mi kc ks pc ls (.int x :: st) M Q := by
  intro p e s m args below meth c D ad0 ad ax cA A H locs lsA L0 hC hS hA hL ha hP hD hK hX hM hO hOL hl hn
  exact lv_if_lt hC.2.1 hC.2.2.1 hd ht (fun h => kt h p e s m args below meth c D ad0 ad ax cA A H locs lsA L0 hC hS hA hL ha hP hD hK hX hM (ev_okS_t hO) hOL hl hn) (fun h => kf h p e s m args below meth c D ad0 ad ax cA A H locs lsA L0 hC hS hA hL ha hP hD hK hX hM (ev_okS_t hO) hOL hl hn)
theorem ev_ic_lt {x y : Int32} {off : Int} {tgt : Nat} (hd : decode (ev_c mi) pc = .ok (.if_icmp .lt off, 3)) (ht : (pc : Int) + off = (tgt : Int)) (kt : x < y → ev_ l mi kc ks tgt ls st M Q) (kf : ¬ x < y → ev_ l mi kc ks (pc + 3) ls st M Q) : ev_ l mi kc ks pc ls (.int y :: .int x :: st) M Q := by
  intro p e s m args below meth c D ad0 ad ax cA A H locs lsA L0 hC hS hA hL ha hP hD hK hX hM hO hOL hl hn
  exact lv_icmp_lt hC.2.1 hC.2.2.1 hd ht (fun h => kt h p e s m args below meth c D ad0 ad ax cA A H locs lsA L0 hC hS hA hL ha hP hD hK hX hM (ev_okS_t (ev_okS_t hO)) hOL hl hn) (fun h => kf h p e s m args below meth c D ad0 ad ax cA A H locs lsA L0 hC hS hA hL ha hP hD hK hX hM (ev_okS_t (ev_okS_t hO)) hOL hl hn)
theorem ev_if_ge {x : Int32} {off : Int} {tgt : Nat} (hd : decode (ev_c mi) pc = .ok (.ifCond .ge off, 3)) (ht : (pc : Int) + off = (tgt : Int)) (kt : 0 ≤ x → ev_ l mi kc ks tgt ls st M Q) (kf : ¬ 0 ≤ x → ev_ l mi kc ks (pc + 3) ls st M Q) : ev_ l mi kc ks pc ls (.int x :: st) M Q := by
  intro p e s m args below meth c D ad0 ad ax cA A H locs lsA L0 hC hS hA hL ha hP hD hK hX hM hO hOL hl hn
  exact lv_if_ge hC.2.1 hC.2.2.1 hd ht (fun h => kt h p e s m args below meth c D ad0 ad ax cA A H locs lsA L0 hC hS hA hL ha hP hD hK hX hM (ev_okS_t hO) hOL hl hn) (fun h => kf h p e s m args below meth c D ad0 ad ax cA A H locs lsA L0 hC hS hA hL ha hP hD hK hX hM (ev_okS_t hO) hOL hl hn)
theorem ev_ic_ge {x y : Int32} {off : Int} {tgt : Nat} (hd : decode (ev_c mi) pc = .ok (.if_icmp .ge off, 3)) (ht : (pc : Int) + off = (tgt : Int)) (kt : y ≤ x → ev_ l mi kc ks tgt ls st M Q) (kf : ¬ y ≤ x → ev_ l mi kc ks (pc + 3) ls st M Q) : ev_ l mi kc ks pc ls (.int y :: .int x :: st) M Q := by
  intro p e s m args below meth c D ad0 ad ax cA A H locs lsA L0 hC hS hA hL ha hP hD hK hX hM hO hOL hl hn
  exact lv_icmp_ge hC.2.1 hC.2.2.1 hd ht (fun h => kt h p e s m args below meth c D ad0 ad ax cA A H locs lsA L0 hC hS hA hL ha hP hD hK hX hM (ev_okS_t (ev_okS_t hO)) hOL hl hn) (fun h => kf h p e s m args below meth c D ad0 ad ax cA A H locs lsA L0 hC hS hA hL ha hP hD hK hX hM (ev_okS_t (ev_okS_t hO)) hOL hl hn)
theorem ev_if_gt {x : Int32} {off : Int} {tgt : Nat} (hd : decode (ev_c mi) pc = .ok (.ifCond .gt off, 3)) (ht : (pc : Int) + off = (tgt : Int)) (kt : 0 < x → ev_ l mi kc ks tgt ls st M Q) (kf : ¬ 0 < x → ev_ l mi kc ks (pc + 3) ls st M Q) : ev_ l mi kc ks pc ls (.int x :: st) M Q := by
  intro p e s m args below meth c D ad0 ad ax cA A H locs lsA L0 hC hS hA hL ha hP hD hK hX hM hO hOL hl hn
  exact lv_if_gt hC.2.1 hC.2.2.1 hd ht (fun h => kt h p e s m args below meth c D ad0 ad ax cA A H locs lsA L0 hC hS hA hL ha hP hD hK hX hM (ev_okS_t hO) hOL hl hn) (fun h => kf h p e s m args below meth c D ad0 ad ax cA A H locs lsA L0 hC hS hA hL ha hP hD hK hX hM (ev_okS_t hO) hOL hl hn)
theorem ev_ic_gt {x y : Int32} {off : Int} {tgt : Nat} (hd : decode (ev_c mi) pc = .ok (.if_icmp .gt off, 3)) (ht : (pc : Int) + off = (tgt : Int)) (kt : y < x → ev_ l mi kc ks tgt ls st M Q) (kf : ¬ y < x → ev_ l mi kc ks (pc + 3) ls st M Q) : ev_ l mi kc ks pc ls (.int y :: .int x :: st) M Q := by
  intro p e s m args below meth c D ad0 ad ax cA A H locs lsA L0 hC hS hA hL ha hP hD hK hX hM hO hOL hl hn
  exact lv_icmp_gt hC.2.1 hC.2.2.1 hd ht (fun h => kt h p e s m args below meth c D ad0 ad ax cA A H locs lsA L0 hC hS hA hL ha hP hD hK hX hM (ev_okS_t (ev_okS_t hO)) hOL hl hn) (fun h => kf h p e s m args below meth c D ad0 ad ax cA A H locs lsA L0 hC hS hA hL ha hP hD hK hX hM (ev_okS_t (ev_okS_t hO)) hOL hl hn)
theorem ev_if_le {x : Int32} {off : Int} {tgt : Nat} (hd : decode (ev_c mi) pc = .ok (.ifCond .le off, 3)) (ht : (pc : Int) + off = (tgt : Int)) (kt : x ≤ 0 → ev_ l mi kc ks tgt ls st M Q) (kf : ¬ x ≤ 0 → ev_ l mi kc ks (pc + 3) ls st M Q) : ev_ l mi kc ks pc ls (.int x :: st) M Q := by
  intro p e s m args below meth c D ad0 ad ax cA A H locs lsA L0 hC hS hA hL ha hP hD hK hX hM hO hOL hl hn
  exact lv_if_le hC.2.1 hC.2.2.1 hd ht (fun h => kt h p e s m args below meth c D ad0 ad ax cA A H locs lsA L0 hC hS hA hL ha hP hD hK hX hM (ev_okS_t hO) hOL hl hn) (fun h => kf h p e s m args below meth c D ad0 ad ax cA A H locs lsA L0 hC hS hA hL ha hP hD hK hX hM (ev_okS_t hO) hOL hl hn)
theorem ev_ic_le {x y : Int32} {off : Int} {tgt : Nat} (hd : decode (ev_c mi) pc = .ok (.if_icmp .le off, 3)) (ht : (pc : Int) + off = (tgt : Int)) (kt : x ≤ y → ev_ l mi kc ks tgt ls st M Q) (kf : ¬ x ≤ y → ev_ l mi kc ks (pc + 3) ls st M Q) : ev_ l mi kc ks pc ls (.int y :: .int x :: st) M Q := by
  intro p e s m args below meth c D ad0 ad ax cA A H locs lsA L0 hC hS hA hL ha hP hD hK hX hM hO hOL hl hn
  exact lv_icmp_le hC.2.1 hC.2.2.1 hd ht (fun h => kt h p e s m args below meth c D ad0 ad ax cA A H locs lsA L0 hC hS hA hL ha hP hD hK hX hM (ev_okS_t (ev_okS_t hO)) hOL hl hn) (fun h => kf h p e s m args below meth c D ad0 ad ax cA A H locs lsA L0 hC hS hA hL ha hP hD hK hX hM (ev_okS_t (ev_okS_t hO)) hOL hl hn)
def ev_b (b : Bool) : Int32 := bif b then 1 else 0
theorem ev_b_t : ev_b true = 1 := rfl
theorem ev_b_f : ev_b false = 0 := rfl
theorem ev_b0 {b : Bool} : ev_b b = 0 ↔ b = false := by cases b <;> decide
theorem ev_b_nar (b : Bool) : narrow .boolean (.int (ev_b b)) = .int (ev_b b) := by cases b <;> rfl
theorem ev_b_fit (b : Bool) : fits .boolean (.int (ev_b b)) = true := by cases b <;> rfl
theorem ev_ifB_eq {b : Bool} {off : Int} {tgt : Nat} (hd : decode (ev_c mi) pc = .ok (.ifCond .eq off, 3)) (ht : (pc : Int) + off = (tgt : Int)) (kt : b = false → ev_ l mi kc ks tgt ls st M Q) (kf : b = true → ev_ l mi kc ks (pc + 3) ls st M Q) : ev_ l mi kc ks pc ls (.int (ev_b b) :: st) M Q :=
  ev_if_eq hd ht (fun h => kt (ev_b0.mp h)) (fun h => kf (by cases b; · exact absurd rfl h
                                                             · rfl))
theorem ev_ifB_ne {b : Bool} {off : Int} {tgt : Nat} (hd : decode (ev_c mi) pc = .ok (.ifCond .ne off, 3)) (ht : (pc : Int) + off = (tgt : Int)) (kt : b = true → ev_ l mi kc ks tgt ls st M Q) (kf : b = false → ev_ l mi kc ks (pc + 3) ls st M Q) : ev_ l mi kc ks pc ls (.int (ev_b b) :: st) M Q :=
  ev_if_ne hd ht (fun h => kt (by cases b; · exact absurd rfl h
                                  · rfl)) (fun h => kf (ev_b0.mp h))
theorem ev_ldiv {x y : Int64} (hd : decode (ev_c mi) pc = .ok (.ldiv, 1)) (h0 : ¬ y = 0) (k : ev_ l mi kc ks (pc + 1) ls (.long (x / y) :: st) M Q) : ev_ l mi kc ks pc ls (.long y :: .long x :: st) M Q := by
  intro p e s m args below meth c D ad0 ad ax cA A H locs lsA L0 hC hS hA hL ha hP hD hK hX hM hO hOL hl hn
  exact lv_ldiv hC.2.1 hC.2.2.1 hd h0 (k p e s m args below meth c D ad0 ad ax cA A H locs lsA L0 hC hS hA hL ha hP hD hK hX hM (ev_okS_c.mpr ⟨trivial, ev_okS_t (ev_okS_t hO)⟩) hOL hl hn)
theorem ev_lrem {x y : Int64} (hd : decode (ev_c mi) pc = .ok (.lrem, 1)) (h0 : ¬ y = 0) (k : ev_ l mi kc ks (pc + 1) ls (.long (x - x / y * y) :: st) M Q) : ev_ l mi kc ks pc ls (.long y :: .long x :: st) M Q := by
  intro p e s m args below meth c D ad0 ad ax cA A H locs lsA L0 hC hS hA hL ha hP hD hK hX hM hO hOL hl hn
  exact lv_lrem hC.2.1 hC.2.2.1 hd h0 (k p e s m args below meth c D ad0 ad ax cA A H locs lsA L0 hC hS hA hL ha hP hD hK hX hM (ev_okS_c.mpr ⟨trivial, ev_okS_t (ev_okS_t hO)⟩) hOL hl hn)
theorem ev_ldc2 {i : Nat} {v : Int64} (hw : Cond.constantLong (ev_y mi).cls i v ∈ ev_bw) (hd : decode (ev_c mi) pc = .ok (.ldc2_w i, 3)) (k : ev_ l mi kc ks (pc + 3) ls (.long v :: st) M Q) : ev_ l mi kc ks pc ls st M Q := by
  intro p e s m args below meth c D ad0 ad ax cA A H locs lsA L0 hC hS hA hL ha hP hD hK hX hM hO hOL hl hn
  exact lv_ldc2 hC.2.1 hC.2.2.1 hC.2.2.2.2.1 (hC.2.2.2.2.2.1 _ hw) hd (k p e s m args below meth c D ad0 ad ax cA A H locs lsA L0 hC hS hA hL ha hP hD hK hX hM (ev_okS_c.mpr ⟨trivial, hO⟩) hOL hl hn)
/-! the classes of the world -/
def ev_ty : Nat → Nat → FieldType := fun ci => match ci with
  | 0 => tyX0
  | 1 => tyX1
  | 2 => tyX2
  | 3 => tyX3
  | 4 => tyX4
  | 5 => tyX5
  | 6 => tyX6
  | 7 => tyX7
  | 8 => tyX8
  | 9 => tyX10
  | _ => tyX11
theorem ev_cls_all : vwCl.all (fun q => (u_ws q.1 q.2.1 q.2.2).all (fun w => decide (w ∈ lw_tbl) && goodWord w)) = true := by decide +kernel
theorem ev_cls {ci : Nat} {q : vw_C} (h : vwCl[ci]? = some q) : ∀ w ∈ u_ws q.1 q.2.1 q.2.2, w ∈ ev_bw := by
  intro w hw
  have h1 := List.all_eq_true.mp ev_cls_all q (List.mem_of_getElem? h)
  have h2 := List.all_eq_true.mp h1 w hw
  simp only [Bool.and_eq_true, decide_eq_true_eq] at h2
  exact ev_bg h2.1 h2.2
theorem ev_tyn {ci : Nat} {q : vw_C} (h : vwCl[ci]? = some q) : (∀ k, k < q.2.2 → parseFieldDescriptor (q.2.1 k).2.2.1 = some (ev_ty ci k)) ∧ ∀ a, a < q.2.2 → ∀ b, b < q.2.2 → a ≠ b → (q.2.1 a).2.1 ≠ (q.2.1 b).2.1 := by
  match ci, h with
  | 0, h => cases h; exact ⟨tyX0_ok, nmX0⟩
  | 1, h => cases h; exact ⟨tyX1_ok, nmX1⟩
  | 2, h => cases h; exact ⟨tyX2_ok, nmX2⟩
  | 3, h => cases h; exact ⟨tyX3_ok, nmX3⟩
  | 4, h => cases h; exact ⟨tyX4_ok, nmX4⟩
  | 5, h => cases h; exact ⟨tyX5_ok, nmX5⟩
  | 6, h => cases h; exact ⟨tyX6_ok, nmX6⟩
  | 7, h => cases h; exact ⟨tyX7_ok, nmX7⟩
  | 8, h => cases h; exact ⟨tyX8_ok, nmX8⟩
  | 9, h => cases h; exact ⟨tyX10_ok, nmX10⟩
  | 10, h => cases h; exact ⟨tyX11_ok, nmX11⟩
  | k + 11, h => simp [vwCl] at h
/-- place idx of the class own's file is field k of class ci -/
def ev_F (own : String) (idx ci k : Nat) (fin : Bool) : Prop := ∃ q : vw_C, vwCl[ci]? = some q ∧ k < q.2.2 ∧ Cond.fieldLink own idx (q.2.1 k).1 (q.2.1 k).2.1 (q.2.1 k).2.2.1 ∈ ev_bw ∧ (q.2.1 k).2.2.2 = fin
theorem ev_getf {idx ci k o : Nat} {fin : Bool} {fs : List Value} {v : Value} (hF : ev_F (ev_y mi).cls idx ci k fin) (hd : decode (ev_c mi) pc = .ok (.getfield idx, 3)) (hm : M[o]? = some (.inr (ci, fs))) (hv : fs[k]? = some v) (kk : ev_ l mi kc ks (pc + 3) ls (v :: st) M Q) : ev_ l mi kc ks pc ls (.ref o :: st) M Q := by
  intro p e s m args below meth c D ad0 ad ax cA A H locs lsA L0 hC hS hA hL ha hP hD hK hX hM hO hOL hl hn
  obtain ⟨⟨C, T, N⟩, h1, h2, h3, h4⟩ := hF
  refine va_get hC.2.1 hC.2.2.1 hC.2.2.2.2.2.1 (ev_cls h1) hC.2.2.2.2.1 hK hP o (ev_wl_get hm) h1 k h2 (hC.2.2.2.2.2.1 _ h3) (fun _ h => h) (v := ev_tr ad ax v) (by rw [List.getElem?_map, hv]; rfl) hd ?_
  exact kk p e s m args below meth c D ad0 ad ax cA A H locs lsA L0 hC hS hA hL ha hP hD hK hX hM (ev_okS_c.mpr ⟨ev_ok_fs hM hm hv, ev_okS_t hO⟩) hOL hl hn
theorem ev_put {idx ci k o : Nat} {fs : List Value} {v : Value} (hF : ev_F (ev_y mi).cls idx ci k false) (hd : decode (ev_c mi) pc = .ok (.putfield idx, 3)) (hm : M[o]? = some (.inr (ci, fs))) (hk : k < fs.length) (hv : ∀ ad ax, narrow (ev_ty ci k) (ev_tr ad ax v) = ev_tr ad ax v ∧ fits (ev_ty ci k) (ev_tr ad ax v) = true) (kk : ev_ l mi kc ks (pc + 3) ls st (M.set o (.inr (ci, fs.set k v))) Q) : ev_ l mi kc ks pc ls (v :: .ref o :: st) M Q := by
  intro p e s m args below meth c D ad0 ad ax cA A H locs lsA L0 hC hS hA hL ha hP hD hK hX hM hO hOL hl hn
  obtain ⟨⟨C, T, N⟩, h1, h2, h3, h4⟩ := hF
  obtain ⟨ht, hnm⟩ := ev_tyn h1
  refine va_put hC.2.1 hC.2.2.1 hC.2.2.2.2.2.1 (ev_cls h1) (ev_ty ci) ht hnm hC.2.2.2.2.1 hK hP hD hS o (ev_wl_get hm) h1 k h2 (hC.2.2.2.2.2.1 _ h3) (fun _ h => h) h4 (ht k h2) (hv ad ax).1 (hv ad ax).2 (by rw [List.length_map]; exact hk) hd (fun H1 locs1 hP1 hD1 hS1 => ?_)
  have e1 : (ev_wl ad ax cA M).set o (ad o, .inr (ci, (fs.map (ev_tr ad ax)).set k (ev_tr ad ax v))) = ev_wl ad ax cA (M.set o (.inr (ci, fs.set k v))) := by
    rw [← ev_wl_set]
    show _ = (ev_wl ad ax cA M).set o (ad o, .inr (ci, (fs.set k v).map (ev_tr ad ax)))
    rw [List.map_set]
  rw [e1] at hP1 hD1
  have hlen : (M.set o (.inr (ci, fs.set k v))).length = M.length := List.length_set
  have hM1 : ev_okM (M.set o (.inr (ci, fs.set k v))) := ev_okM_set hM (fun w hw => by
    rcases List.mem_or_eq_of_mem_set hw with h | h
    · exact hM o _ hm w h
    · exact h ▸ ev_okS_h hO)
  exact kk p e s m args below meth c D ad0 ad ax cA A H1 locs1 lsA L0 hC hS1 hA (by rw [hlen]; exact hL) ha hP1 hD1 hK hX hM1 (by rw [hlen]; exact ev_okS_t (ev_okS_t hO)) (by rw [hlen]; exact hOL) hl hn
theorem ev_putF {idx ci k o : Nat} {fs : List Value} {v : Value} (hF : ev_F (ev_y mi).cls idx ci k true) (hd : decode (ev_c mi) pc = .ok (.putfield idx, 3)) (hi : (ev_y mi).name = "<init>") (ho : ∀ q : vw_C, vwCl[ci]? = some q → (q.2.1 k).1 = (ev_y mi).cls) (hm : M[o]? = some (.inr (ci, fs))) (hk : k < fs.length) (hv : ∀ ad ax, narrow (ev_ty ci k) (ev_tr ad ax v) = ev_tr ad ax v ∧ fits (ev_ty ci k) (ev_tr ad ax v) = true) (kk : ev_ l mi kc ks (pc + 3) ls st (M.set o (.inr (ci, fs.set k v))) Q) : ev_ l mi kc ks pc ls (v :: .ref o :: st) M Q := by
  intro p e s m args below meth c D ad0 ad ax cA A H locs lsA L0 hC hS hA hL ha hP hD hK hX hM hO hOL hl hn
  obtain ⟨⟨C, T, N⟩, h1, h2, h3, h4⟩ := hF
  obtain ⟨ht, hnm⟩ := ev_tyn h1
  refine va_putF hC.2.1 hC.2.2.1 hC.2.2.2.2.2.1 (ev_cls h1) (ev_ty ci) ht hnm hC.2.2.2.2.1 hK hP hD hS o (ev_wl_get hm) h1 k h2 (hC.2.2.2.2.2.1 _ h3) (fun _ h => h) h4 (hC.2.2.2.2.2.2.2.2.1.trans hi) (ho _ h1) (ht k h2) (hv ad ax).1 (hv ad ax).2 (by rw [List.length_map]; exact hk) hd (fun H1 locs1 hP1 hD1 hS1 => ?_)
  have e1 : (ev_wl ad ax cA M).set o (ad o, .inr (ci, (fs.map (ev_tr ad ax)).set k (ev_tr ad ax v))) = ev_wl ad ax cA (M.set o (.inr (ci, fs.set k v))) := by
    rw [← ev_wl_set]
    show _ = (ev_wl ad ax cA M).set o (ad o, .inr (ci, (fs.set k v).map (ev_tr ad ax)))
    rw [List.map_set]
  rw [e1] at hP1 hD1
  have hlen : (M.set o (.inr (ci, fs.set k v))).length = M.length := List.length_set
  have hM1 : ev_okM (M.set o (.inr (ci, fs.set k v))) := ev_okM_set hM (fun w hw => by
    rcases List.mem_or_eq_of_mem_set hw with h | h
    · exact hM o _ hm w h
    · exact h ▸ ev_okS_h hO)
  exact kk p e s m args below meth c D ad0 ad ax cA A H1 locs1 lsA L0 hC hS1 hA (by rw [hlen]; exact hL) ha hP1 hD1 hK hX hM1 (by rw [hlen]; exact ev_okS_t (ev_okS_t hO)) (by rw [hlen]; exact hOL) hl hn
theorem ev_iald {o n : Nat} {f : Nat → Int32} {i : Int32} (hd : decode (ev_c mi) pc = .ok (.iaload, 1)) (hm : M[o]? = some (.inl (0, n, .inl f))) (hi : vp_in i n) (kk : ev_ l mi kc ks (pc + 1) ls (.int (f i.toNatClampNeg) :: st) M Q) : ev_ l mi kc ks pc ls (.int i :: .ref o :: st) M Q := by
  intro p e s m args below meth c D ad0 ad ax cA A H locs lsA L0 hC hS hA hL ha hP hD hK hX hM hO hOL hl hn
  exact va_iald hC.2.1 hC.2.2.1 hK hP o 0 (ev_wl_get hm) rfl hi hd (kk p e s m args below meth c D ad0 ad ax cA A H locs lsA L0 hC hS hA hL ha hP hD hK hX hM (ev_okS_c.mpr ⟨trivial, ev_okS_t (ev_okS_t hO)⟩) hOL hl hn)
theorem ev_lald {o n : Nat} {f : Nat → Int64} {i : Int32} (hd : decode (ev_c mi) pc = .ok (.laload, 1)) (hm : M[o]? = some (.inl (1, n, .inr (.inl f)))) (hi : vp_in i n) (kk : ev_ l mi kc ks (pc + 1) ls (.long (f i.toNatClampNeg) :: st) M Q) : ev_ l mi kc ks pc ls (.int i :: .ref o :: st) M Q := by
  intro p e s m args below meth c D ad0 ad ax cA A H locs lsA L0 hC hS hA hL ha hP hD hK hX hM hO hOL hl hn
  exact va_lald hC.2.1 hC.2.2.1 hK hP o 1 (ev_wl_get hm) rfl hi hd (kk p e s m args below meth c D ad0 ad ax cA A H locs lsA L0 hC hS hA hL ha hP hD hK hX hM (ev_okS_c.mpr ⟨trivial, ev_okS_t (ev_okS_t hO)⟩) hOL hl hn)
theorem ev_cald {o n : Nat} {f : Nat → Int32} {i : Int32} (hd : decode (ev_c mi) pc = .ok (.caload, 1)) (hm : M[o]? = some (.inl (2, n, .inl f))) (hi : vp_in i n) (kk : ev_ l mi kc ks (pc + 1) ls (.int (f i.toNatClampNeg) :: st) M Q) : ev_ l mi kc ks pc ls (.int i :: .ref o :: st) M Q := by
  intro p e s m args below meth c D ad0 ad ax cA A H locs lsA L0 hC hS hA hL ha hP hD hK hX hM hO hOL hl hn
  exact va_cald hC.2.1 hC.2.2.1 hK hP o 2 (ev_wl_get hm) rfl hi hd (kk p e s m args below meth c D ad0 ad ax cA A H locs lsA L0 hC hS hA hL ha hP hD hK hX hM (ev_okS_c.mpr ⟨trivial, ev_okS_t (ev_okS_t hO)⟩) hOL hl hn)
theorem ev_iast {o n : Nat} {f : Nat → Int32} {i : Int32} {x : Int32} (hd : decode (ev_c mi) pc = .ok (.iastore, 1)) (hm : M[o]? = some (.inl (0, n, .inl f))) (hi : vp_in i n) (kk : ev_ l mi kc ks (pc + 1) ls st (M.set o (.inl (0, n, .inl (upd f i.toNatClampNeg x)))) Q) : ev_ l mi kc ks pc ls (.int x :: .int i :: .ref o :: st) M Q := by
  intro p e s m args below meth c D ad0 ad ax cA A H locs lsA L0 hC hS hA hL ha hP hD hK hX hM hO hOL hl hn
  refine va_iast hC.2.1 hC.2.2.1 hK hP hD hS o 0 (ev_wl_get hm) rfl hi hd (fun H1 locs1 hP1 hD1 hS1 => ?_)
  have e1 : (ev_wl ad ax cA M).set o (ad o, .inl (cA 0, n, .inl (upd f i.toNatClampNeg x))) = ev_wl ad ax cA (M.set o (.inl (0, n, .inl (upd f i.toNatClampNeg x)))) := by
    rw [← ev_wl_set]; rfl
  have hP1 : va_P D vwCl (ev_wl ad ax cA (M.set o (.inl (0, n, .inl (upd f i.toNatClampNeg x))))) H1 := e1 ▸ hP1
  have hD1 : va_D A (ev_wl ad ax cA (M.set o (.inl (0, n, .inl (upd f i.toNatClampNeg x))))) := e1 ▸ hD1
  have hlen : (M.set o (.inl (0, n, .inl (upd f i.toNatClampNeg x)))).length = M.length := List.length_set
  exact kk p e s m args below meth c D ad0 ad ax cA A H1 locs1 lsA L0 hC hS1 hA (by rw [hlen]; exact hL) ha hP1 hD1 hK hX (ev_okM_set hM trivial) (by rw [hlen]; exact ev_okS_t (ev_okS_t (ev_okS_t hO))) (by rw [hlen]; exact hOL) hl hn
theorem ev_last {o n : Nat} {f : Nat → Int64} {i : Int32} {x : Int64} (hd : decode (ev_c mi) pc = .ok (.lastore, 1)) (hm : M[o]? = some (.inl (1, n, .inr (.inl f)))) (hi : vp_in i n) (kk : ev_ l mi kc ks (pc + 1) ls st (M.set o (.inl (1, n, .inr (.inl (vp_updL f i.toNatClampNeg x))))) Q) : ev_ l mi kc ks pc ls (.long x :: .int i :: .ref o :: st) M Q := by
  intro p e s m args below meth c D ad0 ad ax cA A H locs lsA L0 hC hS hA hL ha hP hD hK hX hM hO hOL hl hn
  refine va_last hC.2.1 hC.2.2.1 hK hP hD hS o 1 (ev_wl_get hm) rfl hi hd (fun H1 locs1 hP1 hD1 hS1 => ?_)
  have e1 : (ev_wl ad ax cA M).set o (ad o, .inl (cA 1, n, .inr (.inl (vp_updL f i.toNatClampNeg x)))) = ev_wl ad ax cA (M.set o (.inl (1, n, .inr (.inl (vp_updL f i.toNatClampNeg x))))) := by
    rw [← ev_wl_set]; rfl
  have hP1 : va_P D vwCl (ev_wl ad ax cA (M.set o (.inl (1, n, .inr (.inl (vp_updL f i.toNatClampNeg x)))))) H1 := e1 ▸ hP1
  have hD1 : va_D A (ev_wl ad ax cA (M.set o (.inl (1, n, .inr (.inl (vp_updL f i.toNatClampNeg x)))))) := e1 ▸ hD1
  have hlen : (M.set o (.inl (1, n, .inr (.inl (vp_updL f i.toNatClampNeg x))))).length = M.length := List.length_set
  exact kk p e s m args below meth c D ad0 ad ax cA A H1 locs1 lsA L0 hC hS1 hA (by rw [hlen]; exact hL) ha hP1 hD1 hK hX (ev_okM_set hM trivial) (by rw [hlen]; exact ev_okS_t (ev_okS_t (ev_okS_t hO))) (by rw [hlen]; exact hOL) hl hn
theorem ev_cast {o n : Nat} {f : Nat → Int32} {i : Int32} {x : Int32} (hd : decode (ev_c mi) pc = .ok (.castore, 1)) (hm : M[o]? = some (.inl (2, n, .inl f))) (hi : vp_in i n) (kk : ev_ l mi kc ks (pc + 1) ls st (M.set o (.inl (2, n, .inl (upd f i.toNatClampNeg (vp_nar .char x))))) Q) : ev_ l mi kc ks pc ls (.int x :: .int i :: .ref o :: st) M Q := by
  intro p e s m args below meth c D ad0 ad ax cA A H locs lsA L0 hC hS hA hL ha hP hD hK hX hM hO hOL hl hn
  refine va_cast hC.2.1 hC.2.2.1 hK hP hD hS o 2 (ev_wl_get hm) rfl hi hd (fun H1 locs1 hP1 hD1 hS1 => ?_)
  have e1 : (ev_wl ad ax cA M).set o (ad o, .inl (cA 2, n, .inl (upd f i.toNatClampNeg (vp_nar .char x)))) = ev_wl ad ax cA (M.set o (.inl (2, n, .inl (upd f i.toNatClampNeg (vp_nar .char x))))) := by
    rw [← ev_wl_set]; rfl
  have hP1 : va_P D vwCl (ev_wl ad ax cA (M.set o (.inl (2, n, .inl (upd f i.toNatClampNeg (vp_nar .char x)))))) H1 := e1 ▸ hP1
  have hD1 : va_D A (ev_wl ad ax cA (M.set o (.inl (2, n, .inl (upd f i.toNatClampNeg (vp_nar .char x)))))) := e1 ▸ hD1
  have hlen : (M.set o (.inl (2, n, .inl (upd f i.toNatClampNeg (vp_nar .char x))))).length = M.length := List.length_set
  exact kk p e s m args below meth c D ad0 ad ax cA A H1 locs1 lsA L0 hC hS1 hA (by rw [hlen]; exact hL) ha hP1 hD1 hK hX (ev_okM_set hM trivial) (by rw [hlen]; exact ev_okS_t (ev_okS_t (ev_okS_t hO))) (by rw [hlen]; exact hOL) hl hn
theorem ev_alen {o : Nat} {t : Nat} {a : vp_A} {v : Int32} (hd : decode (ev_c mi) pc = .ok (.arraylength, 1)) (hm : M[o]? = some (.inl (t, a))) (ht : t < 4) (hv : Int32.ofNat a.1 = v) (kk : ev_ l mi kc ks (pc + 1) ls (.int v :: st) M Q) : ev_ l mi kc ks pc ls (.ref o :: st) M Q := by
  intro p e s m args below meth c D ad0 ad ax cA A H locs lsA L0 hC hS hA hL ha hP hD hK hX hM hO hOL hl hn
  have h1 : ∃ ty, (ev_tys cA)[t]? = some (cA t, ty) := by
    match t, ht with
    | 0, _ => exact ⟨_, rfl⟩
    | 1, _ => exact ⟨_, rfl⟩
    | 2, _ => exact ⟨_, rfl⟩
    | 3, _ => exact ⟨_, rfl⟩
  obtain ⟨ty, hty⟩ := h1
  have h2 : (ev_tA ad a).1 = a.1 := by
    obtain ⟨c, f | f | f | f | f⟩ := a <;> rfl
  exact va_alen hC.2.1 hC.2.2.1 hK hP o t (ev_wl_get hm) hty (by rw [h2]; exact hv) hd (kk p e s m args below meth c D ad0 ad ax cA A H locs lsA L0 hC hS hA hL ha hP hD hK hX hM (ev_okS_c.mpr ⟨trivial, ev_okS_t hO⟩) hOL hl hn)
theorem ev_iret {x : Int32} {ty : FieldType} (hd : decode (ev_c mi) pc = .ok (.ireturn, 1)) (hr : ev_r mi = some ty) (hnw : narrow ty (.int x) = .int x) (hc : kc ≤ ev_mc mi ∧ ks ≤ ev_ms mi) (hq : Q (.inl (some (.int x))) M) : ev_ l mi kc ks pc ls [.int x] M Q := by
  intro p e s m args below meth c D ad0 ad ax cA A H locs lsA L0 hC hS hA hL ha hP hD hK hX hM hO hOL hl hn
  refine W.widen hc.1 hc.2 (vx_ret ?_)
  exact W.zret (v := x) (ty := ty) hC.2.1 hC.2.2.1 (hC.2.2.2.2.2.2.2.1.trans hr) hnw (fun t ht hW => ⟨⟨.inl (some (.int x)), M, ad, hL, ha, ⟨_, rfl, rfl⟩, hq, hM, fun v h => by cases h; exact trivial, by rw [ht]; exact hP, hD⟩, hS.F ht⟩) hS.2.2 hd hC.2.2.2.2.2.2.1
theorem ev_lret {x : Int64} (hd : decode (ev_c mi) pc = .ok (.lreturn, 1)) (hr : ev_r mi = some .long) (hc : kc ≤ ev_mc mi ∧ ks ≤ ev_ms mi) (hq : Q (.inl (some (.long x))) M) : ev_ l mi kc ks pc ls [.long x] M Q := by
  intro p e s m args below meth c D ad0 ad ax cA A H locs lsA L0 hC hS hA hL ha hP hD hK hX hM hO hOL hl hn
  refine W.widen hc.1 hc.2 (vx_ret ?_)
  exact W.lret (v := x) hC.2.1 hC.2.2.1 (hC.2.2.2.2.2.2.2.1.trans hr) (fun t ht hW => ⟨⟨.inl (some (.long x)), M, ad, hL, ha, ⟨_, rfl, rfl⟩, hq, hM, fun v h => by cases h; exact trivial, by rw [ht]; exact hP, hD⟩, hS.F ht⟩) hS.2.2 hd hC.2.2.2.2.2.2.1
theorem ev_vret (hd : decode (ev_c mi) pc = .ok (.return_, 1)) (hr : ev_r mi = none) (hc : kc ≤ ev_mc mi ∧ ks ≤ ev_ms mi) (hq : Q (.inl none) M) : ev_ l mi kc ks pc ls [] M Q := by
  intro p e s m args below meth c D ad0 ad ax cA A H locs lsA L0 hC hS hA hL ha hP hD hK hX hM hO hOL hl hn
  refine W.widen hc.1 hc.2 (vx_ret ?_)
  exact W.vret hC.2.1 hC.2.2.1 (hC.2.2.2.2.2.2.2.1.trans hr) (fun t ht hW => ⟨⟨.inl none, M, ad, hL, ha, ⟨_, rfl, rfl⟩, hq, hM, fun v h => (nomatch h), by rw [ht]; exact hP, hD⟩, hS.F ht⟩) hS.2.2 hd hC.2.2.2.2.2.2.1
theorem ev_aret {x : Nat} {rt : FieldType} (hd : decode (ev_c mi) pc = .ok (.areturn, 1)) (hr : ev_r mi = some rt) (hrt : (∃ n, rt = .object n) ∨ ∃ t, rt = .array t) (hc : kc ≤ ev_mc mi ∧ ks ≤ ev_ms mi) (hq : Q (.inl (some (.ref x))) M) : ev_ l mi kc ks pc ls [.ref x] M Q := by
  intro p e s m args below meth c D ad0 ad ax cA A H locs lsA L0 hC hS hA hL ha hP hD hK hX hM hO hOL hl hn
  refine W.widen hc.1 hc.2 (vx_ret ?_)
  exact W.aret (v := .ref (ad x)) hC.2.1 hC.2.2.1 (hC.2.2.2.2.2.2.2.1.trans hr) hrt (Or.inr ⟨_, rfl⟩) (fun t ht hW => ⟨⟨.inl (some (.ref x)), M, ad, hL, ha, ⟨_, rfl, rfl⟩, hq, hM, fun v h => by cases h; exact ev_okS_h hO, by rw [ht]; exact hP, hD⟩, hS.F ht⟩) hS.2.2 hd hC.2.2.2.2.2.2.1
end EVQ
