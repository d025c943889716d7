/-! ===== Configs: loops ===== -/
def ev_le : ev_L → ev_L → Prop
  | [], [] => True
  | a :: r, b :: s => (a = none ∨ a = b) ∧ ev_le r s
  | _, _ => False
theorem ev_le_at : ∀ {ls' ls : ev_L}, ev_le ls' ls → ls'.length = ls.length ∧ ∀ (i : Nat) (v : Value), ls'[i]? = some (some v) → ls[i]? = some (some v)
  | [], [], _ => ⟨rfl, fun _ _ h => h⟩
  | a :: r, b :: s, h => by
    obtain ⟨h1, h2⟩ := ev_le_at h.2
    refine ⟨by simp [h1], fun i v hv => ?_⟩
    cases i with
    | zero =>
      rcases h.1 with q | q
      · subst q; simp at hv
      · subst q; exact hv
    | succ j => exact h2 j v hv
  | [], _ :: _, h => h.elim
  | _ :: _, [], h => h.elim
/-- what a local holds may be forgotten -/
theorem ev_fgt {l : Launch} {mi : ev_MI} {kc ks pc : Nat} {ls ls' : ev_L} {st : List Value} {M : ev_M} {Q : ev_R → ev_M → Prop} (h : ev_le ls' ls) (k : ev_ l mi kc ks pc ls' st M Q) : ev_ l mi kc ks pc ls st M Q := by
  obtain ⟨e, h1⟩ := ev_le_at h
  intro p e9 s m args below meth c D ad0 ad ax cA A H locs lsA L0 hC hS hA hL ha hP hD hK hX hM hO hOL hl hn
  refine k p e9 s m args below meth c D ad0 ad ax cA A H locs lsA L0 hC hS hA hL ha hP hD hK hX hM hO (fun i v hv => hOL i v (h1 i v hv)) ⟨hl.1, hl.2.1, fun q hq => hl.2.2 q ?_⟩ (by rw [e]; exact hn)
  obtain ⟨j, w⟩ := q
  obtain ⟨v, hv, rfl⟩ := ev_mem.mp hq
  exact ev_mem.mpr ⟨v, h1 j v hv, rfl⟩
def oc (x y : Cf) : Int32 := if x.1 = y.1 then (if n1 x.2.1 = n1 y.2.1 then (if n1 x.2.2 = n1 y.2.2 then 0 else if n1 x.2.2 < n1 y.2.2 then -1 else 1) else if n1 x.2.1 < n1 y.2.1 then -1 else 1) else if x.1 < y.1 then -1 else 1
theorem oc_lt {x y : Cf} : oc x y < 0 ↔ cl x y = true := by
  unfold oc cl
  by_cases h1 : x.1 = y.1
  · rw [if_pos h1, if_pos h1]
    by_cases h2 : n1 x.2.1 = n1 y.2.1
    · rw [if_pos h2, if_pos h2]
      by_cases h3 : n1 x.2.2 = n1 y.2.2
      · rw [if_pos h3, decide_eq_true_eq]
        exact ⟨fun q => absurd q (by decide), fun q => by omega⟩
      · rw [if_neg h3, decide_eq_true_eq]
        by_cases h4 : n1 x.2.2 < n1 y.2.2
        · rw [if_pos h4]; exact ⟨fun _ => h4, fun _ => by decide⟩
        · rw [if_neg h4]; exact ⟨fun q => absurd q (by decide), fun q => absurd q h4⟩
    · rw [if_neg h2, if_neg h2, decide_eq_true_eq]
      by_cases h4 : n1 x.2.1 < n1 y.2.1
      · rw [if_pos h4]; exact ⟨fun _ => h4, fun _ => by decide⟩
      · rw [if_neg h4]; exact ⟨fun q => absurd q (by decide), fun q => absurd q h4⟩
  · rw [if_neg h1, if_neg h1, decide_eq_true_eq]
    by_cases h4 : x.1 < y.1
    · rw [if_pos h4]; exact ⟨fun _ => h4, fun _ => by decide⟩
    · rw [if_neg h4]; exact ⟨fun q => absurd q (by decide), fun q => absurd q h4⟩
theorem oc_eq {x y : Cf} (hx : cfO x) (hy : cfO y) : oc x y = 0 ↔ y = x := by
  unfold oc
  constructor
  · intro h
    by_cases h1 : x.1 = y.1
    · rw [if_pos h1] at h
      by_cases h2 : n1 x.2.1 = n1 y.2.1
      · rw [if_pos h2] at h
        by_cases h3 : n1 x.2.2 = n1 y.2.2
        · have e2 := n1_inj hx.2.1 hy.2.1 h2
          have e3 := n1_inj hx.2.2.2.1 hy.2.2.2.1 h3
          exact Prod.ext h1.symm (Prod.ext e2.symm e3.symm)
        · rw [if_neg h3] at h
          split at h <;> exact absurd h (by decide)
      · rw [if_neg h2] at h
        split at h <;> exact absurd h (by decide)
    · rw [if_neg h1] at h
      split at h <;> exact absurd h (by decide)
  · rintro rfl
    rw [if_pos rfl, if_pos rfl, if_pos rfl]
theorem insR_app {x : Cf} {A B : List Cf} (h : ∀ y ∈ A, cl x y = true) : insR x (A ++ B) = A ++ insR x B := by
  induction A with
  | nil => rfl
  | cons a r ih =>
    show (if cl x a = true then a :: insR x (r ++ B) else x :: a :: (r ++ B)) = _
    rw [if_pos (h a List.mem_cons_self), ih (fun y hy => h y (List.mem_cons_of_mem _ hy))]
    rfl
theorem ins_at {x : Cf} {L : List Cf} {p : Nat} (hp : p ≤ L.length) (h1 : ∀ i, p ≤ i → i < L.length → cl x (cg L i) = true) (h2 : p = 0 ∨ cl x (cg L (p - 1)) = false) : ins x L = L.take p ++ x :: L.drop p := by
  have e : L.reverse = (L.drop p).reverse ++ (L.take p).reverse := by
    rw [← List.reverse_append, List.take_append_drop]
  unfold ins
  rw [e, insR_app (fun y hy => by
    obtain ⟨i, hi, rfl⟩ := List.getElem_of_mem (List.mem_reverse.mp hy)
    rw [List.length_drop] at hi
    have := h1 (p + i) (by omega) (by omega)
    rw [cg_get (by omega)] at this
    rwa [List.getElem_drop])]
  have e2 : insR x (L.take p).reverse = x :: (L.take p).reverse := by
    rcases h2 with h2 | h2
    · subst h2; rfl
    · by_cases h0 : p = 0
      · subst h0; rfl
      · have e3 : L.take p = L.take (p - 1) ++ [L[p - 1]] := by
          have := List.take_succ_eq_append_getElem (l := L) (i := p - 1) (by omega)
          rwa [show p - 1 + 1 = p by omega] at this
        rw [e3, List.reverse_append]
        show (if cl x L[p - 1] = true then _ else _) = _
        rw [cg_get (by omega)] at h2
        rw [h2]
        rfl
  rw [e2, List.reverse_append, List.reverse_cons, List.reverse_reverse, List.reverse_reverse, List.append_assoc]
  rfl
theorem RP.ins {n p : Nat} {f : Nat → Int32} {g h : Nat → Int64} {L : List Cf} {x : Cf} (hn : n = L.length) (hp : p ≤ n) (h1 : ∀ i, i < p → f i = nI (cg L i).1 ∧ g i = e1 (cg L i).2.1 ∧ h i = e1 (cg L i).2.2) (h2 : ∀ i, p < i → i ≤ n → f i = nI (cg L (i - 1)).1 ∧ g i = e1 (cg L (i - 1)).2.1 ∧ h i = e1 (cg L (i - 1)).2.2) :
    RP (n + 1) (upd f p (nI x.1)) (vp_updL g p (e1 x.2.1)) (vp_updL h p (e1 x.2.2)) (L.take p ++ x :: L.drop p) := by
  subst hn
  intro i hi
  have ht : (L.take p).length = p := by rw [List.length_take]; omega
  rw [upd_at, updL_at, updL_at]
  rcases Nat.lt_trichotomy i p with q | q | q
  · rw [if_neg (by omega), if_neg (by omega), if_neg (by omega), cg_app_l (by omega), cg_take q]
    exact h1 i q
  · subst q
    rw [if_pos rfl, if_pos rfl, if_pos rfl]
    have := cg_app_r (L := L.take i) (R := x :: L.drop i) (i := 0)
    rw [ht, Nat.add_zero] at this
    rw [this]; exact ⟨rfl, rfl, rfl⟩
  · rw [if_neg (by omega), if_neg (by omega), if_neg (by omega)]
    have := cg_app_r (L := L.take p) (R := x :: L.drop p) (i := i - p)
    rw [ht, show p + (i - p) = i by omega] at this
    rw [this]
    have e : cg (x :: L.drop p) (i - p) = cg L (i - 1) := by
      obtain ⟨k, hk⟩ : ∃ k, i - p = k + 1 := ⟨i - p - 1, by omega⟩
      rw [hk]
      unfold cg
      rw [List.getD_eq_getElem?_getD, List.getD_eq_getElem?_getD, List.getElem?_cons_succ, List.getElem?_drop, show p + k = i - 1 by omega]
    rw [e]
    exact h2 i q (by omega)
theorem take_filter_succ {L : List Cf} {i : Nat} (h : i < L.length) (p : Cf → Bool) : (L.take (i + 1)).filter p = (L.take i).filter p ++ (if p (cg L i) then [cg L i] else []) := by
  rw [List.take_succ_eq_append_getElem h, List.filter_append, cg_get h]
  congr 1
  by_cases hp : p L[i] = true
  · rw [if_pos hp]; simp [hp]
  · rw [if_neg hp]; simp [hp]
theorem RP.pushN {n : Nat} {f : Nat → Int32} {g h : Nat → Int64} {L : List Cf} {x : Cf} (hn : n = L.length) (hP : RP n f g h L) : RP (n + 1) (upd f n (nI x.1)) (vp_updL g n (e1 x.2.1)) (vp_updL h n (e1 x.2.2)) (L ++ [x]) := by
  subst hn
  have := RP.push (x := x) hP
  rwa [List.length_append] at this
set_option maxHeartbeats 4000000 in
set_option maxRecDepth 100000 in
theorem c_X2_firstBelow_l {l : Launch} (hl : l.stackTraces = false) {M : ev_M} (o cap : Nat) (L : List Cf) (hR : RQ M o cap L) (hL : cfs 25 L) (c : Nat) (x : Cf) (hF : RF M c x) (hx : cfO x) (lim : Nat) (hlim : lim < 2 ^ 31) : ∀ (n9 : Nat) (i : Nat), i ≤ L.length → (∀ j, j < i → cb (cg L j) x = false) → L.length - i < n9 → ev_ l m_X2_firstBelow 0 0 2 [some (.ref (o)), some (.ref (c)), some (.int (nI lim)), some (.int (nI i))] [] M (ev_q (.inl (some (.int (oI (fb L x lim))))) M) := by
  intro n9
  induction n9 with
  | zero => intro i hi ha hm9; exact absurd hm9 (by omega)
  | succ n9 ih =>
    intro i hi ha hm9
    obtain ⟨hcap, hlen, f, g, h, ⟨hC0, hC1, hC2, hC3⟩, hP⟩ := hR
    refine ev_blk (B := [(.iload_n 3, 1), (.iload_n 2, 1)]) (pe := 4) (ls' := [some (.ref (o)), some (.ref (c)), some (.int (nI lim)), some (.int (nI i))]) (st' := [.int (nI lim), .int (nI i)]) ⟨dX2_firstBelow_2, dX2_firstBelow_3, rfl⟩ rfl ?_
    refine ev_iN_ge dX2_firstBelow_4 (tgt := 68) (by decide) (by omega) (by omega) (fun q4 => ?_) (fun q4 => ?_)
    · refine ev_blk (B := [(.iconst (-1), 1)]) (pe := 69) (ls' := [some (.ref (o)), some (.ref (c)), some (.int (nI lim)), some (.int (nI i))]) (st' := [.int ((-1))]) ⟨dX2_firstBelow_68, rfl⟩ rfl ?_
      refine ev_iret dX2_firstBelow_69 rfl (rfl) ⟨Nat.le_of_ble_eq_true rfl, Nat.le_of_ble_eq_true rfl⟩ ?_
      exact ev_q_e (by rw [fb_none (fun j h1 h2 => ha j (by omega))]; rfl)
    · refine ev_blk (B := [(.iload_n 3, 1), (.aload_n 0, 1)]) (pe := 9) (ls' := [some (.ref (o)), some (.ref (c)), some (.int (nI lim)), some (.int (nI i))]) (st' := [.ref (o), .int (nI i)]) ⟨dX2_firstBelow_7, dX2_firstBelow_8, rfl⟩ rfl ?_
      refine ev_getf (v := .int (nI (L.length))) F_RX2_26 dX2_firstBelow_9 hC0 rfl ?_
      refine ev_iN_ge dX2_firstBelow_12 (tgt := 68) (by decide) (by omega) (by omega) (fun q12 => ?_) (fun q12 => ?_)
      · refine ev_blk (B := [(.iconst (-1), 1)]) (pe := 69) (ls' := [some (.ref (o)), some (.ref (c)), some (.int (nI lim)), some (.int (nI i))]) (st' := [.int ((-1))]) ⟨dX2_firstBelow_68, rfl⟩ rfl ?_
        refine ev_iret dX2_firstBelow_69 rfl (rfl) ⟨Nat.le_of_ble_eq_true rfl, Nat.le_of_ble_eq_true rfl⟩ ?_
        exact ev_q_e (by rw [fb_none (fun j h1 h2 => ha j (by omega))]; rfl)
      · have b1 : (cg L i).1 < 6 := (cfs_cg hL (by omega)).1
        have b2 : x.1 < 6 := hx.1
        refine ev_blk (B := [(.aload_n 0, 1)]) (pe := 16) (ls' := [some (.ref (o)), some (.ref (c)), some (.int (nI lim)), some (.int (nI i))]) (st' := [.ref (o)]) ⟨dX2_firstBelow_15, rfl⟩ rfl ?_
        refine ev_getf (v := .ref (o + 1)) F_RX2_13 dX2_firstBelow_16 hC0 rfl ?_
        refine ev_blk (B := [(.iload_n 3, 1)]) (pe := 20) (ls' := [some (.ref (o)), some (.ref (c)), some (.int (nI lim)), some (.int (nI i))]) (st' := [.int (nI i), .ref (o + 1)]) ⟨dX2_firstBelow_19, rfl⟩ rfl ?_
        refine ev_iald dX2_firstBelow_20 hC1 (vp_in_nI (show i < cap by omega) (by omega)) ?_
        rw [nI_clamp (show i < 2 ^ 31 by omega)]
        rw [show f i = nI ((cg L i).1) from (hP i (by omega)).1]
        refine ev_blk (B := [(.aload_n 1, 1)]) (pe := 22) (ls' := [some (.ref (o)), some (.ref (c)), some (.int (nI lim)), some (.int (nI i))]) (st' := [.ref (c), .int (nI ((cg L i).1))]) ⟨dX2_firstBelow_21, rfl⟩ rfl ?_
        refine ev_getf (v := .int (nI (x.1))) F_RX2_36 dX2_firstBelow_22 hF rfl ?_
        refine ev_iN_ne dX2_firstBelow_25 (tgt := 62) (by decide) (by omega) (by omega) (fun q25 => ?_) (fun q25 => ?_)
        · refine ev_blk (B := [(.iinc 3 1, 3)]) (pe := 65) (ls' := [some (.ref (o)), some (.ref (c)), some (.int (nI lim)), some (.int (nI (i + 1)))]) (st' := []) ⟨dX2_firstBelow_62, rfl⟩ (by show some (([some (.ref (o)), some (.ref (c)), some (.int (nI lim)), some (.int ((nI i) + Int32.ofInt (1)))] : ev_L), ([] : List Value)) = _; rw [ev_inc1 i]) ?_
          refine ev_goto (tgt := 2) dX2_firstBelow_65 (by decide) ?_
          refine ih (i + 1) (by omega) (fun j hj => ?_) (by omega)
          by_cases e : j = i
          · subst e
            unfold cb
            first
              | (rw [q57, Bool.and_false, Bool.and_false]; done)
              | (rw [q41, Bool.false_and, Bool.and_false]; done)
              | (rw [beq_eq_false_iff_ne.mpr q25, Bool.false_and]; done)
          · exact ha j (by omega)
        · refine ev_blk (B := [(.aload_n 0, 1)]) (pe := 29) (ls' := [some (.ref (o)), some (.ref (c)), some (.int (nI lim)), some (.int (nI i))]) (st' := [.ref (o)]) ⟨dX2_firstBelow_28, rfl⟩ rfl ?_
          refine ev_getf (v := .ref (o + 2)) F_RX2_19 dX2_firstBelow_29 hC0 rfl ?_
          refine ev_blk (B := [(.iload_n 3, 1)]) (pe := 33) (ls' := [some (.ref (o)), some (.ref (c)), some (.int (nI lim)), some (.int (nI i))]) (st' := [.int (nI i), .ref (o + 2)]) ⟨dX2_firstBelow_32, rfl⟩ rfl ?_
          refine ev_lald dX2_firstBelow_33 hC2 (vp_in_nI (show i < cap by omega) (by omega)) ?_
          rw [nI_clamp (show i < 2 ^ 31 by omega)]
          rw [show g i = e1 (cg L i).2.1 from (hP i (by omega)).2.1]
          refine ev_blk (B := [(.aload_n 1, 1)]) (pe := 35) (ls' := [some (.ref (o)), some (.ref (c)), some (.int (nI lim)), some (.int (nI i))]) (st' := [.ref (c), .long (e1 (cg L i).2.1)]) ⟨dX2_firstBelow_34, rfl⟩ rfl ?_
          refine ev_getf (v := .long (e1 x.2.1)) F_RX2_41 dX2_firstBelow_35 hF rfl ?_
          refine ev_cSv Y_X9_below L_RX2_70 dX2_firstBelow_38 ⟨Nat.le_of_ble_eq_true rfl, Nat.le_of_ble_eq_true rfl, Nat.le_of_ble_eq_true rfl, Nat.le_of_ble_eq_true rfl, Nat.le_of_ble_eq_true rfl⟩ (as := [.long (e1 (cg L i).2.1), .long (e1 x.2.1)]) rfl rfl (c_X9_below hl ((cg L i).2.1) x.2.1 (cfs_cg hL (by omega)).2.1 (cfs_cg hL (by omega)).2.2.1 hx.2.1 hx.2.2.1) ?_
          refine ev_ifB_eq dX2_firstBelow_41 (tgt := 62) (by decide) (fun q41 => ?_) (fun q41 => ?_)
          · refine ev_blk (B := [(.iinc 3 1, 3)]) (pe := 65) (ls' := [some (.ref (o)), some (.ref (c)), some (.int (nI lim)), some (.int (nI (i + 1)))]) (st' := []) ⟨dX2_firstBelow_62, rfl⟩ (by show some (([some (.ref (o)), some (.ref (c)), some (.int (nI lim)), some (.int ((nI i) + Int32.ofInt (1)))] : ev_L), ([] : List Value)) = _; rw [ev_inc1 i]) ?_
            refine ev_goto (tgt := 2) dX2_firstBelow_65 (by decide) ?_
            refine ih (i + 1) (by omega) (fun j hj => ?_) (by omega)
            by_cases e : j = i
            · subst e
              unfold cb
              first
                | (rw [q57, Bool.and_false, Bool.and_false]; done)
                | (rw [q41, Bool.false_and, Bool.and_false]; done)
                | (rw [beq_eq_false_iff_ne.mpr q25, Bool.false_and]; done)
            · exact ha j (by omega)
          · refine ev_blk (B := [(.aload_n 0, 1)]) (pe := 45) (ls' := [some (.ref (o)), some (.ref (c)), some (.int (nI lim)), some (.int (nI i))]) (st' := [.ref (o)]) ⟨dX2_firstBelow_44, rfl⟩ rfl ?_
            refine ev_getf (v := .ref (o + 3)) F_RX2_23 dX2_firstBelow_45 hC0 rfl ?_
            refine ev_blk (B := [(.iload_n 3, 1)]) (pe := 49) (ls' := [some (.ref (o)), some (.ref (c)), some (.int (nI lim)), some (.int (nI i))]) (st' := [.int (nI i), .ref (o + 3)]) ⟨dX2_firstBelow_48, rfl⟩ rfl ?_
            refine ev_lald dX2_firstBelow_49 hC3 (vp_in_nI (show i < cap by omega) (by omega)) ?_
            rw [nI_clamp (show i < 2 ^ 31 by omega)]
            rw [show h i = e1 (cg L i).2.2 from (hP i (by omega)).2.2]
            refine ev_blk (B := [(.aload_n 1, 1)]) (pe := 51) (ls' := [some (.ref (o)), some (.ref (c)), some (.int (nI lim)), some (.int (nI i))]) (st' := [.ref (c), .long (e1 (cg L i).2.2)]) ⟨dX2_firstBelow_50, rfl⟩ rfl ?_
            refine ev_getf (v := .long (e1 x.2.2)) F_RX2_45 dX2_firstBelow_51 hF rfl ?_
            refine ev_cSv Y_X9_below L_RX2_70 dX2_firstBelow_54 ⟨Nat.le_of_ble_eq_true rfl, Nat.le_of_ble_eq_true rfl, Nat.le_of_ble_eq_true rfl, Nat.le_of_ble_eq_true rfl, Nat.le_of_ble_eq_true rfl⟩ (as := [.long (e1 (cg L i).2.2), .long (e1 x.2.2)]) rfl rfl (c_X9_below hl ((cg L i).2.2) x.2.2 (cfs_cg hL (by omega)).2.2.2.1 (cfs_cg hL (by omega)).2.2.2.2 hx.2.2.2.1 hx.2.2.2.2) ?_
            refine ev_ifB_eq dX2_firstBelow_57 (tgt := 62) (by decide) (fun q57 => ?_) (fun q57 => ?_)
            · refine ev_blk (B := [(.iinc 3 1, 3)]) (pe := 65) (ls' := [some (.ref (o)), some (.ref (c)), some (.int (nI lim)), some (.int (nI (i + 1)))]) (st' := []) ⟨dX2_firstBelow_62, rfl⟩ (by show some (([some (.ref (o)), some (.ref (c)), some (.int (nI lim)), some (.int ((nI i) + Int32.ofInt (1)))] : ev_L), ([] : List Value)) = _; rw [ev_inc1 i]) ?_
              refine ev_goto (tgt := 2) dX2_firstBelow_65 (by decide) ?_
              refine ih (i + 1) (by omega) (fun j hj => ?_) (by omega)
              by_cases e : j = i
              · subst e
                unfold cb
                first
                  | (rw [q57, Bool.and_false, Bool.and_false]; done)
                  | (rw [q41, Bool.false_and, Bool.and_false]; done)
                  | (rw [beq_eq_false_iff_ne.mpr q25, Bool.false_and]; done)
              · exact ha j (by omega)
            · refine ev_blk (B := [(.iload_n 3, 1)]) (pe := 61) (ls' := [some (.ref (o)), some (.ref (c)), some (.int (nI lim)), some (.int (nI i))]) (st' := [.int (nI i)]) ⟨dX2_firstBelow_60, rfl⟩ rfl ?_
              refine ev_iret dX2_firstBelow_61 rfl (rfl) ⟨Nat.le_of_ble_eq_true rfl, Nat.le_of_ble_eq_true rfl⟩ ?_
              exact ev_q_e (by rw [fb_some (by omega) (by omega) (by unfold cb; rw [q57, q41, beq_iff_eq.mpr q25]; rfl) ha]; rfl)

set_option maxHeartbeats 4000000 in
set_option maxRecDepth 100000 in
theorem c_X2_firstBelow {l : Launch} (hl : l.stackTraces = false) {M : ev_M} (o cap : Nat) (L : List Cf) (hR : RQ M o cap L) (hL : cfs 25 L) (c : Nat) (x : Cf) (hF : RF M c x) (hx : cfO x) (lim : Nat) (hlim : lim < 2 ^ 31) : ev_Mt l m_X2_firstBelow [.ref (o), .ref (c), .int (nI lim)] M (ev_q (.inl (some (.int (oI (fb L x lim))))) M) := by
  refine ev_body hl rfl (by decide +kernel) (Nat.le_of_ble_eq_true rfl) ?_
  show ev_ l m_X2_firstBelow 0 0 0 [some (.ref (o)), some (.ref (c)), some (.int (nI lim)), none] [] M _
  refine ev_blk (B := [(.iconst 0, 1), (.istore_n 3, 1)]) (pe := 2) (ls' := [some (.ref (o)), some (.ref (c)), some (.int (nI lim)), some (.int (nI 0))]) (st' := []) ⟨dX2_firstBelow_0, dX2_firstBelow_1, rfl⟩ rfl ?_
  exact c_X2_firstBelow_l hl o cap L hR hL c x hF hx lim hlim _ 0 (Nat.zero_le _) (fun j hj => absurd hj (Nat.not_lt_zero _)) (Nat.lt_succ_self _)

set_option maxHeartbeats 4000000 in
set_option maxRecDepth 100000 in
theorem c_X2_order {l : Launch} (hl : l.stackTraces = false) {M : ev_M} (o cap n : Nat) (f : Nat → Int32) (g h : Nat → Int64) (hR : RC M o cap n f g h) (hn : n ≤ cap) (hcap : cap < 2000) (i : Nat) (hi : i < n) (c : Nat) (x : Cf) (hF : RF M c x) (hx : cfO x) (y : Cf) (hy : cfO y) (hrow : f i = nI y.1 ∧ g i = e1 y.2.1 ∧ h i = e1 y.2.2) : ev_Mt l m_X2_order [.ref (o), .ref (c), .int (nI i)] M (ev_q (.inl (some (.int (oc x y)))) M) := by
  obtain ⟨hC0, hC1, hC2, hC3⟩ := hR
  have b1 : y.1 < 6 := hy.1
  have b2 : x.1 < 6 := hx.1
  refine ev_body hl rfl (by decide +kernel) (Nat.le_of_ble_eq_true rfl) ?_
  show ev_ l m_X2_order 0 0 0 [some (.ref (o)), some (.ref (c)), some (.int (nI i))] [] M _
  refine ev_blk (B := [(.iload_n 2, 1)]) (pe := 1) (ls' := [some (.ref (o)), some (.ref (c)), some (.int (nI i))]) (st' := [.int (nI i)]) ⟨dX2_order_0, rfl⟩ rfl ?_
  refine ev_fN_lt dX2_order_1 (tgt := 12) (by decide) (by omega) ?_
  refine ev_blk (B := [(.iload_n 2, 1), (.aload_n 0, 1)]) (pe := 6) (ls' := [some (.ref (o)), some (.ref (c)), some (.int (nI i))]) (st' := [.ref (o), .int (nI i)]) ⟨dX2_order_4, dX2_order_5, rfl⟩ rfl ?_
  refine ev_getf (v := .int (nI n)) F_RX2_26 dX2_order_6 hC0 rfl ?_
  refine ev_iN_lt dX2_order_9 (tgt := 14) (by decide) (by omega) (by omega) (fun q9 => ?_) (fun q9 => ?_)
  · refine ev_blk (B := [(.aload_n 1, 1)]) (pe := 15) (ls' := [some (.ref (o)), some (.ref (c)), some (.int (nI i))]) (st' := [.ref (c)]) ⟨dX2_order_14, rfl⟩ rfl ?_
    refine ev_getf (v := .int (nI (x.1))) F_RX2_36 dX2_order_15 hF rfl ?_
    refine ev_blk (B := [(.aload_n 0, 1)]) (pe := 19) (ls' := [some (.ref (o)), some (.ref (c)), some (.int (nI i))]) (st' := [.ref (o), .int (nI (x.1))]) ⟨dX2_order_18, rfl⟩ rfl ?_
    refine ev_getf (v := .ref (o + 1)) F_RX2_13 dX2_order_19 hC0 rfl ?_
    refine ev_blk (B := [(.iload_n 2, 1)]) (pe := 23) (ls' := [some (.ref (o)), some (.ref (c)), some (.int (nI i))]) (st' := [.int (nI i), .ref (o + 1), .int (nI (x.1))]) ⟨dX2_order_22, rfl⟩ rfl ?_
    refine ev_iald dX2_order_23 hC1 (vp_in_nI (show i < cap by omega) (by omega)) ?_
    rw [nI_clamp (show i < 2 ^ 31 by omega)]
    rw [show f i = nI (y.1) from hrow.1]
    refine ev_iN_eq dX2_order_24 (tgt := 46) (by decide) (by omega) (by omega) (fun q24 => ?_) (fun q24 => ?_)
    · refine ev_blk (B := [(.aload_n 1, 1)]) (pe := 47) (ls' := [some (.ref (o)), some (.ref (c)), some (.int (nI i))]) (st' := [.ref (c)]) ⟨dX2_order_46, rfl⟩ rfl ?_
      refine ev_getf (v := .long (e1 x.2.1)) F_RX2_41 dX2_order_47 hF rfl ?_
      refine ev_blk (B := [(.aload_n 0, 1)]) (pe := 51) (ls' := [some (.ref (o)), some (.ref (c)), some (.int (nI i))]) (st' := [.ref (o), .long (e1 x.2.1)]) ⟨dX2_order_50, rfl⟩ rfl ?_
      refine ev_getf (v := .ref (o + 2)) F_RX2_19 dX2_order_51 hC0 rfl ?_
      refine ev_blk (B := [(.iload_n 2, 1)]) (pe := 55) (ls' := [some (.ref (o)), some (.ref (c)), some (.int (nI i))]) (st' := [.int (nI i), .ref (o + 2), .long (e1 x.2.1)]) ⟨dX2_order_54, rfl⟩ rfl ?_
      refine ev_lald dX2_order_55 hC2 (vp_in_nI (show i < cap by omega) (by omega)) ?_
      rw [nI_clamp (show i < 2 ^ 31 by omega)]
      rw [show g i = e1 y.2.1 from hrow.2.1]
      refine ev_blk (B := [(.lcmp, 1)]) (pe := 57) (ls' := [some (.ref (o)), some (.ref (c)), some (.int (nI i))]) (st' := [.int (lg_cmp (e1 x.2.1) (e1 y.2.1))]) ⟨dX2_order_56, rfl⟩ rfl ?_
      refine ev_lc_eq dX2_order_57 (tgt := 80) (by decide) (fun q57 => ?_) (fun q57 => ?_)
      · have q57 := (wl_eq (q1_62 hx.2.1 hx.2.2.1) (q1_62 hy.2.1 hy.2.2.1)).mp q57
        refine ev_blk (B := [(.aload_n 1, 1)]) (pe := 81) (ls' := [some (.ref (o)), some (.ref (c)), some (.int (nI i))]) (st' := [.ref (c)]) ⟨dX2_order_80, rfl⟩ rfl ?_
        refine ev_getf (v := .long (e1 x.2.2)) F_RX2_45 dX2_order_81 hF rfl ?_
        refine ev_blk (B := [(.aload_n 0, 1)]) (pe := 85) (ls' := [some (.ref (o)), some (.ref (c)), some (.int (nI i))]) (st' := [.ref (o), .long (e1 x.2.2)]) ⟨dX2_order_84, rfl⟩ rfl ?_
        refine ev_getf (v := .ref (o + 3)) F_RX2_23 dX2_order_85 hC0 rfl ?_
        refine ev_blk (B := [(.iload_n 2, 1)]) (pe := 89) (ls' := [some (.ref (o)), some (.ref (c)), some (.int (nI i))]) (st' := [.int (nI i), .ref (o + 3), .long (e1 x.2.2)]) ⟨dX2_order_88, rfl⟩ rfl ?_
        refine ev_lald dX2_order_89 hC3 (vp_in_nI (show i < cap by omega) (by omega)) ?_
        rw [nI_clamp (show i < 2 ^ 31 by omega)]
        rw [show h i = e1 y.2.2 from hrow.2.2]
        refine ev_blk (B := [(.lcmp, 1)]) (pe := 91) (ls' := [some (.ref (o)), some (.ref (c)), some (.int (nI i))]) (st' := [.int (lg_cmp (e1 x.2.2) (e1 y.2.2))]) ⟨dX2_order_90, rfl⟩ rfl ?_
        refine ev_lc_eq dX2_order_91 (tgt := 114) (by decide) (fun q91 => ?_) (fun q91 => ?_)
        · have q91 := (wl_eq (q1_62 hx.2.2.2.1 hx.2.2.2.2) (q1_62 hy.2.2.2.1 hy.2.2.2.2)).mp q91
          refine ev_blk (B := [(.iconst 0, 1)]) (pe := 115) (ls' := [some (.ref (o)), some (.ref (c)), some (.int (nI i))]) (st' := [.int (nI 0)]) ⟨dX2_order_114, rfl⟩ rfl ?_
          refine ev_iret dX2_order_115 rfl (rfl) ⟨Nat.le_of_ble_eq_true rfl, Nat.le_of_ble_eq_true rfl⟩ ?_
          exact ev_q_e (by unfold oc; (repeat' split) <;> first | (exfalso; omega) | rfl)
        · have q91 := mt (wl_eq (q1_62 hx.2.2.2.1 hx.2.2.2.2) (q1_62 hy.2.2.2.1 hy.2.2.2.2)).mpr q91
          refine ev_blk (B := [(.aload_n 1, 1)]) (pe := 95) (ls' := [some (.ref (o)), some (.ref (c)), some (.int (nI i))]) (st' := [.ref (c)]) ⟨dX2_order_94, rfl⟩ rfl ?_
          refine ev_getf (v := .long (e1 x.2.2)) F_RX2_45 dX2_order_95 hF rfl ?_
          refine ev_blk (B := [(.aload_n 0, 1)]) (pe := 99) (ls' := [some (.ref (o)), some (.ref (c)), some (.int (nI i))]) (st' := [.ref (o), .long (e1 x.2.2)]) ⟨dX2_order_98, rfl⟩ rfl ?_
          refine ev_getf (v := .ref (o + 3)) F_RX2_23 dX2_order_99 hC0 rfl ?_
          refine ev_blk (B := [(.iload_n 2, 1)]) (pe := 103) (ls' := [some (.ref (o)), some (.ref (c)), some (.int (nI i))]) (st' := [.int (nI i), .ref (o + 3), .long (e1 x.2.2)]) ⟨dX2_order_102, rfl⟩ rfl ?_
          refine ev_lald dX2_order_103 hC3 (vp_in_nI (show i < cap by omega) (by omega)) ?_
          rw [nI_clamp (show i < 2 ^ 31 by omega)]
          rw [show h i = e1 y.2.2 from hrow.2.2]
          refine ev_blk (B := [(.lcmp, 1)]) (pe := 105) (ls' := [some (.ref (o)), some (.ref (c)), some (.int (nI i))]) (st' := [.int (lg_cmp (e1 x.2.2) (e1 y.2.2))]) ⟨dX2_order_104, rfl⟩ rfl ?_
          refine ev_lc_ge dX2_order_105 (tgt := 112) (by decide) (fun q105 => ?_) (fun q105 => ?_)
          · have q105 := (wl_le (q1_62 hy.2.2.2.1 hy.2.2.2.2) (q1_62 hx.2.2.2.1 hx.2.2.2.2)).mp q105
            refine ev_blk (B := [(.iconst 1, 1)]) (pe := 113) (ls' := [some (.ref (o)), some (.ref (c)), some (.int (nI i))]) (st' := [.int (nI 1)]) ⟨dX2_order_112, rfl⟩ rfl ?_
            refine ev_iret dX2_order_113 rfl (rfl) ⟨Nat.le_of_ble_eq_true rfl, Nat.le_of_ble_eq_true rfl⟩ ?_
            exact ev_q_e (by unfold oc; (repeat' split) <;> first | (exfalso; omega) | rfl)
          · have q105 := mt (wl_le (q1_62 hy.2.2.2.1 hy.2.2.2.2) (q1_62 hx.2.2.2.1 hx.2.2.2.2)).mpr q105
            refine ev_blk (B := [(.iconst (-1), 1)]) (pe := 109) (ls' := [some (.ref (o)), some (.ref (c)), some (.int (nI i))]) (st' := [.int ((-1))]) ⟨dX2_order_108, rfl⟩ rfl ?_
            refine ev_goto (tgt := 113) dX2_order_109 (by decide) ?_
            refine ev_iret dX2_order_113 rfl (rfl) ⟨Nat.le_of_ble_eq_true rfl, Nat.le_of_ble_eq_true rfl⟩ ?_
            exact ev_q_e (by unfold oc; (repeat' split) <;> first | (exfalso; omega) | rfl)
      · have q57 := mt (wl_eq (q1_62 hx.2.1 hx.2.2.1) (q1_62 hy.2.1 hy.2.2.1)).mpr q57
        refine ev_blk (B := [(.aload_n 1, 1)]) (pe := 61) (ls' := [some (.ref (o)), some (.ref (c)), some (.int (nI i))]) (st' := [.ref (c)]) ⟨dX2_order_60, rfl⟩ rfl ?_
        refine ev_getf (v := .long (e1 x.2.1)) F_RX2_41 dX2_order_61 hF rfl ?_
        refine ev_blk (B := [(.aload_n 0, 1)]) (pe := 65) (ls' := [some (.ref (o)), some (.ref (c)), some (.int (nI i))]) (st' := [.ref (o), .long (e1 x.2.1)]) ⟨dX2_order_64, rfl⟩ rfl ?_
        refine ev_getf (v := .ref (o + 2)) F_RX2_19 dX2_order_65 hC0 rfl ?_
        refine ev_blk (B := [(.iload_n 2, 1)]) (pe := 69) (ls' := [some (.ref (o)), some (.ref (c)), some (.int (nI i))]) (st' := [.int (nI i), .ref (o + 2), .long (e1 x.2.1)]) ⟨dX2_order_68, rfl⟩ rfl ?_
        refine ev_lald dX2_order_69 hC2 (vp_in_nI (show i < cap by omega) (by omega)) ?_
        rw [nI_clamp (show i < 2 ^ 31 by omega)]
        rw [show g i = e1 y.2.1 from hrow.2.1]
        refine ev_blk (B := [(.lcmp, 1)]) (pe := 71) (ls' := [some (.ref (o)), some (.ref (c)), some (.int (nI i))]) (st' := [.int (lg_cmp (e1 x.2.1) (e1 y.2.1))]) ⟨dX2_order_70, rfl⟩ rfl ?_
        refine ev_lc_ge dX2_order_71 (tgt := 78) (by decide) (fun q71 => ?_) (fun q71 => ?_)
        · have q71 := (wl_le (q1_62 hy.2.1 hy.2.2.1) (q1_62 hx.2.1 hx.2.2.1)).mp q71
          refine ev_blk (B := [(.iconst 1, 1)]) (pe := 79) (ls' := [some (.ref (o)), some (.ref (c)), some (.int (nI i))]) (st' := [.int (nI 1)]) ⟨dX2_order_78, rfl⟩ rfl ?_
          refine ev_iret dX2_order_79 rfl (rfl) ⟨Nat.le_of_ble_eq_true rfl, Nat.le_of_ble_eq_true rfl⟩ ?_
          exact ev_q_e (by unfold oc; (repeat' split) <;> first | (exfalso; omega) | rfl)
        · have q71 := mt (wl_le (q1_62 hy.2.1 hy.2.2.1) (q1_62 hx.2.1 hx.2.2.1)).mpr q71
          refine ev_blk (B := [(.iconst (-1), 1)]) (pe := 75) (ls' := [some (.ref (o)), some (.ref (c)), some (.int (nI i))]) (st' := [.int ((-1))]) ⟨dX2_order_74, rfl⟩ rfl ?_
          refine ev_goto (tgt := 79) dX2_order_75 (by decide) ?_
          refine ev_iret dX2_order_79 rfl (rfl) ⟨Nat.le_of_ble_eq_true rfl, Nat.le_of_ble_eq_true rfl⟩ ?_
          exact ev_q_e (by unfold oc; (repeat' split) <;> first | (exfalso; omega) | rfl)
    · refine ev_blk (B := [(.aload_n 1, 1)]) (pe := 28) (ls' := [some (.ref (o)), some (.ref (c)), some (.int (nI i))]) (st' := [.ref (c)]) ⟨dX2_order_27, rfl⟩ rfl ?_
      refine ev_getf (v := .int (nI (x.1))) F_RX2_36 dX2_order_28 hF rfl ?_
      refine ev_blk (B := [(.aload_n 0, 1)]) (pe := 32) (ls' := [some (.ref (o)), some (.ref (c)), some (.int (nI i))]) (st' := [.ref (o), .int (nI (x.1))]) ⟨dX2_order_31, rfl⟩ rfl ?_
      refine ev_getf (v := .ref (o + 1)) F_RX2_13 dX2_order_32 hC0 rfl ?_
      refine ev_blk (B := [(.iload_n 2, 1)]) (pe := 36) (ls' := [some (.ref (o)), some (.ref (c)), some (.int (nI i))]) (st' := [.int (nI i), .ref (o + 1), .int (nI (x.1))]) ⟨dX2_order_35, rfl⟩ rfl ?_
      refine ev_iald dX2_order_36 hC1 (vp_in_nI (show i < cap by omega) (by omega)) ?_
      rw [nI_clamp (show i < 2 ^ 31 by omega)]
      rw [show f i = nI (y.1) from hrow.1]
      refine ev_iN_ge dX2_order_37 (tgt := 44) (by decide) (by omega) (by omega) (fun q37 => ?_) (fun q37 => ?_)
      · refine ev_blk (B := [(.iconst 1, 1)]) (pe := 45) (ls' := [some (.ref (o)), some (.ref (c)), some (.int (nI i))]) (st' := [.int (nI 1)]) ⟨dX2_order_44, rfl⟩ rfl ?_
        refine ev_iret dX2_order_45 rfl (rfl) ⟨Nat.le_of_ble_eq_true rfl, Nat.le_of_ble_eq_true rfl⟩ ?_
        exact ev_q_e (by unfold oc; (repeat' split) <;> first | (exfalso; omega) | rfl)
      · refine ev_blk (B := [(.iconst (-1), 1)]) (pe := 41) (ls' := [some (.ref (o)), some (.ref (c)), some (.int (nI i))]) (st' := [.int ((-1))]) ⟨dX2_order_40, rfl⟩ rfl ?_
        refine ev_goto (tgt := 45) dX2_order_41 (by decide) ?_
        refine ev_iret dX2_order_45 rfl (rfl) ⟨Nat.le_of_ble_eq_true rfl, Nat.le_of_ble_eq_true rfl⟩ ?_
        exact ev_q_e (by unfold oc; (repeat' split) <;> first | (exfalso; omega) | rfl)
  · exfalso; omega

set_option maxHeartbeats 4000000 in
set_option maxRecDepth 100000 in
theorem c_X2_contains_l {l : Launch} (hl : l.stackTraces = false) {M : ev_M} (o cap : Nat) (L : List Cf) (hR : RQ M o cap L) (hL : cfs 25 L) (c : Nat) (x : Cf) (hF : RF M c x) (hx : cfO x) : ∀ (n9 : Nat) (i : Nat), i ≤ L.length → (∀ j, j < i → ¬ cg L j = x) → L.length - i < n9 → ev_ l m_X2_contains 0 0 2 [some (.ref (o)), some (.ref (c)), some (.int (nI i))] [] M (ev_q (.inl (some (.int (ev_b (decide (x ∈ L)))))) M) := by
  intro n9
  induction n9 with
  | zero => intro i hi ha hm9; exact absurd hm9 (by omega)
  | succ n9 ih =>
    intro i hi ha hm9
    obtain ⟨hcap, hlen, f, g, h, ⟨hC0, hC1, hC2, hC3⟩, hP⟩ := hR
    refine ev_blk (B := [(.iload_n 2, 1), (.aload_n 0, 1)]) (pe := 4) (ls' := [some (.ref (o)), some (.ref (c)), some (.int (nI i))]) (st' := [.ref (o), .int (nI i)]) ⟨dX2_contains_2, dX2_contains_3, rfl⟩ rfl ?_
    refine ev_getf (v := .int (nI (L.length))) F_RX2_26 dX2_contains_4 hC0 rfl ?_
    refine ev_iN_ge dX2_contains_7 (tgt := 27) (by decide) (by omega) (by omega) (fun q7 => ?_) (fun q7 => ?_)
    · refine ev_blk (B := [(.iconst 0, 1)]) (pe := 28) (ls' := [some (.ref (o)), some (.ref (c)), some (.int (nI i))]) (st' := [.int (nI 0)]) ⟨dX2_contains_27, rfl⟩ rfl ?_
      refine ev_iret dX2_contains_28 rfl (rfl) ⟨Nat.le_of_ble_eq_true rfl, Nat.le_of_ble_eq_true rfl⟩ ?_
      exact ev_q_e (by rw [decide_eq_false (fun hm => by
          obtain ⟨j, hj, e⟩ := List.getElem_of_mem hm
          exact ha j (by omega) (by rw [cg_get hj]; exact e))]; rfl)
    · refine ev_blk (B := [(.aload_n 0, 1), (.aload_n 1, 1), (.iload_n 2, 1)]) (pe := 13) (ls' := [some (.ref (o)), some (.ref (c)), some (.int (nI i))]) (st' := [.int (nI i), .ref (c), .ref (o)]) ⟨dX2_contains_10, dX2_contains_11, dX2_contains_12, rfl⟩ rfl ?_
      refine ev_cVv Y_X2_order L_RX2_66 dX2_contains_13 ⟨Nat.le_of_ble_eq_true rfl, Nat.le_of_ble_eq_true rfl, Nat.le_of_ble_eq_true rfl, Nat.le_of_ble_eq_true rfl, Nat.le_of_ble_eq_true rfl⟩ hC0 (as := [.ref (c), .int (nI i)]) rfl rfl (c_X2_order hl _ _ _ _ _ _ ⟨hC0, hC1, hC2, hC3⟩ hlen hcap (i) (by omega) _ _ hF hx (cg L i) (cfs_cg hL (by omega)) (hP i (by omega))) ?_
      refine ev_if_ne dX2_contains_16 (tgt := 21) (by decide) (fun q16 => ?_) (fun q16 => ?_)
      · have q16 := mt (oc_eq hx (cfs_cg hL (by omega))).mpr q16
        refine ev_blk (B := [(.iinc 2 1, 3)]) (pe := 24) (ls' := [some (.ref (o)), some (.ref (c)), some (.int (nI (i + 1)))]) (st' := []) ⟨dX2_contains_21, rfl⟩ (by show some (([some (.ref (o)), some (.ref (c)), some (.int ((nI i) + Int32.ofInt (1)))] : ev_L), ([] : List Value)) = _; rw [ev_inc1 i]) ?_
        refine ev_goto (tgt := 2) dX2_contains_24 (by decide) ?_
        refine ih (i + 1) (by omega) (fun j hj => ?_) (by omega)
        by_cases e : j = i
        · subst e; exact q16
        · exact ha j (by omega)
      · have q16 := (oc_eq hx (cfs_cg hL (by omega))).mp q16
        refine ev_blk (B := [(.iconst 1, 1)]) (pe := 20) (ls' := [some (.ref (o)), some (.ref (c)), some (.int (nI i))]) (st' := [.int (nI 1)]) ⟨dX2_contains_19, rfl⟩ rfl ?_
        refine ev_iret dX2_contains_20 rfl (rfl) ⟨Nat.le_of_ble_eq_true rfl, Nat.le_of_ble_eq_true rfl⟩ ?_
        exact ev_q_e (by rw [decide_eq_true (q16 ▸ cg_mem (by omega))]; rfl)

set_option maxHeartbeats 4000000 in
set_option maxRecDepth 100000 in
theorem c_X2_contains {l : Launch} (hl : l.stackTraces = false) {M : ev_M} (o cap : Nat) (L : List Cf) (hR : RQ M o cap L) (hL : cfs 25 L) (c : Nat) (x : Cf) (hF : RF M c x) (hx : cfO x) : ev_Mt l m_X2_contains [.ref (o), .ref (c)] M (ev_q (.inl (some (.int (ev_b (decide (x ∈ L)))))) M) := by
  refine ev_body hl rfl (by decide +kernel) (Nat.le_of_ble_eq_true rfl) ?_
  show ev_ l m_X2_contains 0 0 0 [some (.ref (o)), some (.ref (c)), none] [] M _
  refine ev_blk (B := [(.iconst 0, 1), (.istore_n 2, 1)]) (pe := 2) (ls' := [some (.ref (o)), some (.ref (c)), some (.int (nI 0))]) (st' := []) ⟨dX2_contains_0, dX2_contains_1, rfl⟩ rfl ?_
  exact c_X2_contains_l hl o cap L hR hL c x hF hx _ 0 (Nat.zero_le _) (fun j hj => absurd hj (Nat.not_lt_zero _)) (Nat.lt_succ_self _)

set_option maxHeartbeats 4000000 in
set_option maxRecDepth 100000 in
theorem c_X2_removeAbove_l {l : Launch} (hl : l.stackTraces = false)  (M0 : ev_M) (o cap : Nat) (L : List Cf) (hlen : L.length ≤ cap) (hcap : cap < 2000) (hL : cfs 25 L) (c : Nat) (x : Cf) (hx : cfO x) (hco : c < o ∨ o + 4 ≤ c) : ∀ (n9 : Nat) (k : Nat) (i : Nat) (M : ev_M) (f : Nat → Int32) (g : Nat → Int64) (h : Nat → Int64), k ≤ i → i ≤ L.length → k = ((L.take i).filter (fun y => !cb x y)).length → RC M o cap L.length f g h → RF M c x → Fr o (o + 4) M0 M → RP k f g h ((L.take i).filter (fun y => !cb x y)) → (∀ j, i ≤ j → j < L.length → f j = nI (cg L j).1 ∧ g j = e1 (cg L j).2.1 ∧ h j = e1 (cg L j).2.2) → L.length - i < n9 → ev_ l m_X2_removeAbove 0 0 4 [some (.ref (o)), some (.ref (c)), some (.int (nI k)), some (.int (nI i)), none] [] M (fun r M1 => r = .inl none ∧ RQ M1 o cap (L.filter (fun y => !cb x y)) ∧ Fr o (o + 4) M0 M1) := by
  intro n9
  induction n9 with
  | zero => intro k i M f g h hki hi hk hR hF hFr hP hrow hm9; exact absurd hm9 (by omega)
  | succ n9 ih =>
    intro k i M f g h hki hi hk hR hF hFr hP hrow hm9
    obtain ⟨hC0, hC1, hC2, hC3⟩ := hR
    refine ev_blk (B := [(.iload_n 3, 1), (.aload_n 0, 1)]) (pe := 6) (ls' := [some (.ref (o)), some (.ref (c)), some (.int (nI k)), some (.int (nI i)), none]) (st' := [.ref (o), .int (nI i)]) ⟨dX2_removeAbove_4, dX2_removeAbove_5, rfl⟩ rfl ?_
    refine ev_getf (v := .int (nI (L.length))) F_RX2_26 dX2_removeAbove_6 hC0 rfl ?_
    refine ev_iN_ge dX2_removeAbove_9 (tgt := 84) (by decide) (by omega) (by omega) (fun q9 => ?_) (fun q9 => ?_)
    · refine ev_blk (B := [(.aload_n 0, 1), (.iload_n 2, 1)]) (pe := 86) (ls' := [some (.ref (o)), some (.ref (c)), some (.int (nI k)), some (.int (nI i)), none]) (st' := [.int (nI k), .ref (o)]) ⟨dX2_removeAbove_84, dX2_removeAbove_85, rfl⟩ rfl ?_
      refine ev_put F_RX2_26 dX2_removeAbove_86 hC0 (Nat.le_of_ble_eq_true rfl) (fun _ _ => ⟨rfl, rfl⟩) ?_
      refine ev_nm (M0 := M.set (o) (.inr (2, [.ref (o + 1), .ref (o + 2), .ref (o + 3), .int (nI k)]))) (fun M1 eM1 => ?_)
      have f2 : M1[o]? = some (.inr (2, [.ref (o + 1), .ref (o + 2), .ref (o + 3), .int (nI k)])) := by rw [eM1]; exact ev_sg hC0
      have f3 : M1[o + 1]? = some (.inl (0, cap, .inl (f))) := by rw [eM1, ev_sn (by omega)]; exact hC1
      have f4 : M1[o + 2]? = some (.inl (1, cap, .inr (.inl (g)))) := by rw [eM1, ev_sn (by omega)]; exact hC2
      have f5 : M1[o + 3]? = some (.inl (1, cap, .inr (.inl (h)))) := by rw [eM1, ev_sn (by omega)]; exact hC3
      have f6 : M1[c]? = some (.inr (1, [.int (nI (x.1)), .long (e1 x.2.1), .long (e1 x.2.2)])) := by rw [eM1, ev_sn (by omega)]; exact hF
      refine ev_vret dX2_removeAbove_89 rfl ⟨Nat.le_of_ble_eq_true rfl, Nat.le_of_ble_eq_true rfl⟩ ?_
      have e7 : i = L.length := by omega
      subst e7
      rw [List.take_length] at hk hP
      rw [hk] at f2
      exact ⟨rfl, ⟨hcap, Nat.le_trans (List.length_filter_le _ _) hlen, _, _, _, ⟨f2, f3, f4, f5⟩, by rw [← hk]; exact hP⟩, hFr.tr ⟨by rw [eM1]; simp only [List.length_set], fun j hj => by rw [eM1, ev_sn (by omega)]⟩⟩
    · have b1 : (cg L i).1 < 6 := (cfs_cg hL (by omega)).1
      have b2 : x.1 < 6 := hx.1
      refine ev_blk (B := [(.aload_n 0, 1)]) (pe := 13) (ls' := [some (.ref (o)), some (.ref (c)), some (.int (nI k)), some (.int (nI i)), none]) (st' := [.ref (o)]) ⟨dX2_removeAbove_12, rfl⟩ rfl ?_
      refine ev_getf (v := .ref (o + 1)) F_RX2_13 dX2_removeAbove_13 hC0 rfl ?_
      refine ev_blk (B := [(.iload_n 3, 1)]) (pe := 17) (ls' := [some (.ref (o)), some (.ref (c)), some (.int (nI k)), some (.int (nI i)), none]) (st' := [.int (nI i), .ref (o + 1)]) ⟨dX2_removeAbove_16, rfl⟩ rfl ?_
      refine ev_iald dX2_removeAbove_17 hC1 (vp_in_nI (show i < cap by omega) (by omega)) ?_
      rw [nI_clamp (show i < 2 ^ 31 by omega)]
      rw [show f i = nI ((cg L i).1) from (hrow i (by omega) (by omega)).1]
      refine ev_blk (B := [(.aload_n 1, 1)]) (pe := 19) (ls' := [some (.ref (o)), some (.ref (c)), some (.int (nI k)), some (.int (nI i)), none]) (st' := [.ref (c), .int (nI ((cg L i).1))]) ⟨dX2_removeAbove_18, rfl⟩ rfl ?_
      refine ev_getf (v := .int (nI (x.1))) F_RX2_36 dX2_removeAbove_19 hF rfl ?_
      refine ev_iN_ne dX2_removeAbove_22 (tgt := 61) (by decide) (by omega) (by omega) (fun q22 => ?_) (fun q22 => ?_)
      · refine ev_blk (B := [(.iconst 0, 1), (.istore 4, 2), (.iload 4, 2)]) (pe := 66) (ls' := [some (.ref (o)), some (.ref (c)), some (.int (nI k)), some (.int (nI i)), some (.int (nI 0))]) (st' := [.int (nI 0)]) ⟨dX2_removeAbove_61, dX2_removeAbove_62, dX2_removeAbove_64, rfl⟩ rfl ?_
        refine ev_fN_ne dX2_removeAbove_66 (tgt := 78) (by decide) (by omega) (fun q66 => ?_) (fun q66 => ?_)
        · exact absurd q66 (by decide)
        · refine ev_blk (B := [(.aload_n 0, 1), (.iload_n 3, 1), (.iload_n 2, 1)]) (pe := 72) (ls' := [some (.ref (o)), some (.ref (c)), some (.int (nI k)), some (.int (nI i)), some (.int (nI 0))]) (st' := [.int (nI k), .int (nI i), .ref (o)]) ⟨dX2_removeAbove_69, dX2_removeAbove_70, dX2_removeAbove_71, rfl⟩ rfl ?_
          refine ev_cVn Y_X2_move L_RX2_59 dX2_removeAbove_72 ⟨Nat.le_of_ble_eq_true rfl, Nat.le_of_ble_eq_true rfl, Nat.le_of_ble_eq_true rfl, Nat.le_of_ble_eq_true rfl, Nat.le_of_ble_eq_true rfl⟩ hC0 (as := [.int (nI i), .int (nI k)]) rfl rfl (c_X2_move hl _ _ _ _ _ _ ⟨hC0, hC1, hC2, hC3⟩ (by omega) hcap (i) (k) (by omega) (by omega)) (fun M7 hL7 hB7 => ?_)
          obtain ⟨⟨k0, k1, k2, k3⟩, hFr9⟩ := hB7
          have hF9 := RF.fr hF hFr9 (by omega)
          refine ev_blk (B := [(.iinc 2 1, 3), (.iinc 3 1, 3)]) (pe := 81) (ls' := [some (.ref (o)), some (.ref (c)), some (.int (nI (k + 1))), some (.int (nI (i + 1))), some (.int (nI 0))]) (st' := []) ⟨dX2_removeAbove_75, dX2_removeAbove_78, rfl⟩ (by show some (([some (.ref (o)), some (.ref (c)), some (.int ((nI k) + Int32.ofInt (1))), some (.int ((nI i) + Int32.ofInt (1))), some (.int (nI 0))] : ev_L), ([] : List Value)) = _; rw [ev_inc1 k, ev_inc1 i]) ?_
          refine ev_goto (tgt := 4) dX2_removeAbove_81 (by decide) ?_
          refine ev_fgt (ls' := [some (.ref (o)), some (.ref (c)), some (.int (nI (k + 1))), some (.int (nI (i + 1))), none]) ⟨Or.inr rfl, Or.inr rfl, Or.inr rfl, Or.inr rfl, Or.inl rfl, trivial⟩ ?_
          have e9 : cb x (cg L i) = false := (by unfold cb; first | (rw [q54, Bool.and_false, Bool.and_false]; done) | (rw [q38, Bool.false_and, Bool.and_false]; done) | (rw [beq_eq_false_iff_ne.mpr (fun q => q22 q.symm), Bool.false_and]; done))
          have e8 : (L.take (i + 1)).filter (fun y => !cb x y) = (L.take i).filter (fun y => !cb x y) ++ [cg L i] := by rw [take_filter_succ (by omega), if_pos (by rw [e9]; rfl)]
          obtain ⟨r1, r2, r3⟩ := hrow i (by omega) (by omega)
          refine ih (k + 1) (i + 1) _ _ _ _ (by omega) (by omega) (by rw [e8, List.length_append, ← hk]; rfl) ⟨k0, k1, k2, k3⟩ hF9 (hFr.tr hFr9) (by rw [e8, r1, r2, r3]; exact RP.pushN hk hP) (fun j h1 h2 => ?_) (by omega)
          rw [upd_at, updL_at, updL_at, if_neg (by omega), if_neg (by omega), if_neg (by omega)]
          exact hrow j (by omega) h2
      · refine ev_blk (B := [(.aload_n 1, 1)]) (pe := 26) (ls' := [some (.ref (o)), some (.ref (c)), some (.int (nI k)), some (.int (nI i)), none]) (st' := [.ref (c)]) ⟨dX2_removeAbove_25, rfl⟩ rfl ?_
        refine ev_getf (v := .long (e1 x.2.1)) F_RX2_41 dX2_removeAbove_26 hF rfl ?_
        refine ev_blk (B := [(.aload_n 0, 1)]) (pe := 30) (ls' := [some (.ref (o)), some (.ref (c)), some (.int (nI k)), some (.int (nI i)), none]) (st' := [.ref (o), .long (e1 x.2.1)]) ⟨dX2_removeAbove_29, rfl⟩ rfl ?_
        refine ev_getf (v := .ref (o + 2)) F_RX2_19 dX2_removeAbove_30 hC0 rfl ?_
        refine ev_blk (B := [(.iload_n 3, 1)]) (pe := 34) (ls' := [some (.ref (o)), some (.ref (c)), some (.int (nI k)), some (.int (nI i)), none]) (st' := [.int (nI i), .ref (o + 2), .long (e1 x.2.1)]) ⟨dX2_removeAbove_33, rfl⟩ rfl ?_
        refine ev_lald dX2_removeAbove_34 hC2 (vp_in_nI (show i < cap by omega) (by omega)) ?_
        rw [nI_clamp (show i < 2 ^ 31 by omega)]
        rw [show g i = e1 (cg L i).2.1 from (hrow i (by omega) (by omega)).2.1]
        refine ev_cSv Y_X9_below L_RX2_70 dX2_removeAbove_35 ⟨Nat.le_of_ble_eq_true rfl, Nat.le_of_ble_eq_true rfl, Nat.le_of_ble_eq_true rfl, Nat.le_of_ble_eq_true rfl, Nat.le_of_ble_eq_true rfl⟩ (as := [.long (e1 x.2.1), .long (e1 (cg L i).2.1)]) rfl rfl (c_X9_below hl x.2.1 ((cg L i).2.1) hx.2.1 hx.2.2.1 (cfs_cg hL (by omega)).2.1 (cfs_cg hL (by omega)).2.2.1) ?_
        refine ev_ifB_eq dX2_removeAbove_38 (tgt := 61) (by decide) (fun q38 => ?_) (fun q38 => ?_)
        · refine ev_blk (B := [(.iconst 0, 1), (.istore 4, 2), (.iload 4, 2)]) (pe := 66) (ls' := [some (.ref (o)), some (.ref (c)), some (.int (nI k)), some (.int (nI i)), some (.int (nI 0))]) (st' := [.int (nI 0)]) ⟨dX2_removeAbove_61, dX2_removeAbove_62, dX2_removeAbove_64, rfl⟩ rfl ?_
          refine ev_fN_ne dX2_removeAbove_66 (tgt := 78) (by decide) (by omega) (fun q66 => ?_) (fun q66 => ?_)
          · exact absurd q66 (by decide)
          · refine ev_blk (B := [(.aload_n 0, 1), (.iload_n 3, 1), (.iload_n 2, 1)]) (pe := 72) (ls' := [some (.ref (o)), some (.ref (c)), some (.int (nI k)), some (.int (nI i)), some (.int (nI 0))]) (st' := [.int (nI k), .int (nI i), .ref (o)]) ⟨dX2_removeAbove_69, dX2_removeAbove_70, dX2_removeAbove_71, rfl⟩ rfl ?_
            refine ev_cVn Y_X2_move L_RX2_59 dX2_removeAbove_72 ⟨Nat.le_of_ble_eq_true rfl, Nat.le_of_ble_eq_true rfl, Nat.le_of_ble_eq_true rfl, Nat.le_of_ble_eq_true rfl, Nat.le_of_ble_eq_true rfl⟩ hC0 (as := [.int (nI i), .int (nI k)]) rfl rfl (c_X2_move hl _ _ _ _ _ _ ⟨hC0, hC1, hC2, hC3⟩ (by omega) hcap (i) (k) (by omega) (by omega)) (fun M8 hL8 hB8 => ?_)
            obtain ⟨⟨k0, k1, k2, k3⟩, hFr9⟩ := hB8
            have hF9 := RF.fr hF hFr9 (by omega)
            refine ev_blk (B := [(.iinc 2 1, 3), (.iinc 3 1, 3)]) (pe := 81) (ls' := [some (.ref (o)), some (.ref (c)), some (.int (nI (k + 1))), some (.int (nI (i + 1))), some (.int (nI 0))]) (st' := []) ⟨dX2_removeAbove_75, dX2_removeAbove_78, rfl⟩ (by show some (([some (.ref (o)), some (.ref (c)), some (.int ((nI k) + Int32.ofInt (1))), some (.int ((nI i) + Int32.ofInt (1))), some (.int (nI 0))] : ev_L), ([] : List Value)) = _; rw [ev_inc1 k, ev_inc1 i]) ?_
            refine ev_goto (tgt := 4) dX2_removeAbove_81 (by decide) ?_
            refine ev_fgt (ls' := [some (.ref (o)), some (.ref (c)), some (.int (nI (k + 1))), some (.int (nI (i + 1))), none]) ⟨Or.inr rfl, Or.inr rfl, Or.inr rfl, Or.inr rfl, Or.inl rfl, trivial⟩ ?_
            have e9 : cb x (cg L i) = false := (by unfold cb; first | (rw [q54, Bool.and_false, Bool.and_false]; done) | (rw [q38, Bool.false_and, Bool.and_false]; done) | (rw [beq_eq_false_iff_ne.mpr (fun q => q22 q.symm), Bool.false_and]; done))
            have e8 : (L.take (i + 1)).filter (fun y => !cb x y) = (L.take i).filter (fun y => !cb x y) ++ [cg L i] := by rw [take_filter_succ (by omega), if_pos (by rw [e9]; rfl)]
            obtain ⟨r1, r2, r3⟩ := hrow i (by omega) (by omega)
            refine ih (k + 1) (i + 1) _ _ _ _ (by omega) (by omega) (by rw [e8, List.length_append, ← hk]; rfl) ⟨k0, k1, k2, k3⟩ hF9 (hFr.tr hFr9) (by rw [e8, r1, r2, r3]; exact RP.pushN hk hP) (fun j h1 h2 => ?_) (by omega)
            rw [upd_at, updL_at, updL_at, if_neg (by omega), if_neg (by omega), if_neg (by omega)]
            exact hrow j (by omega) h2
        · refine ev_blk (B := [(.aload_n 1, 1)]) (pe := 42) (ls' := [some (.ref (o)), some (.ref (c)), some (.int (nI k)), some (.int (nI i)), none]) (st' := [.ref (c)]) ⟨dX2_removeAbove_41, rfl⟩ rfl ?_
          refine ev_getf (v := .long (e1 x.2.2)) F_RX2_45 dX2_removeAbove_42 hF rfl ?_
          refine ev_blk (B := [(.aload_n 0, 1)]) (pe := 46) (ls' := [some (.ref (o)), some (.ref (c)), some (.int (nI k)), some (.int (nI i)), none]) (st' := [.ref (o), .long (e1 x.2.2)]) ⟨dX2_removeAbove_45, rfl⟩ rfl ?_
          refine ev_getf (v := .ref (o + 3)) F_RX2_23 dX2_removeAbove_46 hC0 rfl ?_
          refine ev_blk (B := [(.iload_n 3, 1)]) (pe := 50) (ls' := [some (.ref (o)), some (.ref (c)), some (.int (nI k)), some (.int (nI i)), none]) (st' := [.int (nI i), .ref (o + 3), .long (e1 x.2.2)]) ⟨dX2_removeAbove_49, rfl⟩ rfl ?_
          refine ev_lald dX2_removeAbove_50 hC3 (vp_in_nI (show i < cap by omega) (by omega)) ?_
          rw [nI_clamp (show i < 2 ^ 31 by omega)]
          rw [show h i = e1 (cg L i).2.2 from (hrow i (by omega) (by omega)).2.2]
          refine ev_cSv Y_X9_below L_RX2_70 dX2_removeAbove_51 ⟨Nat.le_of_ble_eq_true rfl, Nat.le_of_ble_eq_true rfl, Nat.le_of_ble_eq_true rfl, Nat.le_of_ble_eq_true rfl, Nat.le_of_ble_eq_true rfl⟩ (as := [.long (e1 x.2.2), .long (e1 (cg L i).2.2)]) rfl rfl (c_X9_below hl x.2.2 ((cg L i).2.2) hx.2.2.2.1 hx.2.2.2.2 (cfs_cg hL (by omega)).2.2.2.1 (cfs_cg hL (by omega)).2.2.2.2) ?_
          refine ev_ifB_eq dX2_removeAbove_54 (tgt := 61) (by decide) (fun q54 => ?_) (fun q54 => ?_)
          · refine ev_blk (B := [(.iconst 0, 1), (.istore 4, 2), (.iload 4, 2)]) (pe := 66) (ls' := [some (.ref (o)), some (.ref (c)), some (.int (nI k)), some (.int (nI i)), some (.int (nI 0))]) (st' := [.int (nI 0)]) ⟨dX2_removeAbove_61, dX2_removeAbove_62, dX2_removeAbove_64, rfl⟩ rfl ?_
            refine ev_fN_ne dX2_removeAbove_66 (tgt := 78) (by decide) (by omega) (fun q66 => ?_) (fun q66 => ?_)
            · exact absurd q66 (by decide)
            · refine ev_blk (B := [(.aload_n 0, 1), (.iload_n 3, 1), (.iload_n 2, 1)]) (pe := 72) (ls' := [some (.ref (o)), some (.ref (c)), some (.int (nI k)), some (.int (nI i)), some (.int (nI 0))]) (st' := [.int (nI k), .int (nI i), .ref (o)]) ⟨dX2_removeAbove_69, dX2_removeAbove_70, dX2_removeAbove_71, rfl⟩ rfl ?_
              refine ev_cVn Y_X2_move L_RX2_59 dX2_removeAbove_72 ⟨Nat.le_of_ble_eq_true rfl, Nat.le_of_ble_eq_true rfl, Nat.le_of_ble_eq_true rfl, Nat.le_of_ble_eq_true rfl, Nat.le_of_ble_eq_true rfl⟩ hC0 (as := [.int (nI i), .int (nI k)]) rfl rfl (c_X2_move hl _ _ _ _ _ _ ⟨hC0, hC1, hC2, hC3⟩ (by omega) hcap (i) (k) (by omega) (by omega)) (fun M9 hL9 hB9 => ?_)
              obtain ⟨⟨k0, k1, k2, k3⟩, hFr9⟩ := hB9
              have hF9 := RF.fr hF hFr9 (by omega)
              refine ev_blk (B := [(.iinc 2 1, 3), (.iinc 3 1, 3)]) (pe := 81) (ls' := [some (.ref (o)), some (.ref (c)), some (.int (nI (k + 1))), some (.int (nI (i + 1))), some (.int (nI 0))]) (st' := []) ⟨dX2_removeAbove_75, dX2_removeAbove_78, rfl⟩ (by show some (([some (.ref (o)), some (.ref (c)), some (.int ((nI k) + Int32.ofInt (1))), some (.int ((nI i) + Int32.ofInt (1))), some (.int (nI 0))] : ev_L), ([] : List Value)) = _; rw [ev_inc1 k, ev_inc1 i]) ?_
              refine ev_goto (tgt := 4) dX2_removeAbove_81 (by decide) ?_
              refine ev_fgt (ls' := [some (.ref (o)), some (.ref (c)), some (.int (nI (k + 1))), some (.int (nI (i + 1))), none]) ⟨Or.inr rfl, Or.inr rfl, Or.inr rfl, Or.inr rfl, Or.inl rfl, trivial⟩ ?_
              have e9 : cb x (cg L i) = false := (by unfold cb; first | (rw [q54, Bool.and_false, Bool.and_false]; done) | (rw [q38, Bool.false_and, Bool.and_false]; done) | (rw [beq_eq_false_iff_ne.mpr (fun q => q22 q.symm), Bool.false_and]; done))
              have e8 : (L.take (i + 1)).filter (fun y => !cb x y) = (L.take i).filter (fun y => !cb x y) ++ [cg L i] := by rw [take_filter_succ (by omega), if_pos (by rw [e9]; rfl)]
              obtain ⟨r1, r2, r3⟩ := hrow i (by omega) (by omega)
              refine ih (k + 1) (i + 1) _ _ _ _ (by omega) (by omega) (by rw [e8, List.length_append, ← hk]; rfl) ⟨k0, k1, k2, k3⟩ hF9 (hFr.tr hFr9) (by rw [e8, r1, r2, r3]; exact RP.pushN hk hP) (fun j h1 h2 => ?_) (by omega)
              rw [upd_at, updL_at, updL_at, if_neg (by omega), if_neg (by omega), if_neg (by omega)]
              exact hrow j (by omega) h2
          · refine ev_blk (B := [(.iconst 1, 1)]) (pe := 58) (ls' := [some (.ref (o)), some (.ref (c)), some (.int (nI k)), some (.int (nI i)), none]) (st' := [.int (nI 1)]) ⟨dX2_removeAbove_57, rfl⟩ rfl ?_
            refine ev_goto (tgt := 62) dX2_removeAbove_58 (by decide) ?_
            refine ev_blk (B := [(.istore 4, 2), (.iload 4, 2)]) (pe := 66) (ls' := [some (.ref (o)), some (.ref (c)), some (.int (nI k)), some (.int (nI i)), some (.int (nI 1))]) (st' := [.int (nI 1)]) ⟨dX2_removeAbove_62, dX2_removeAbove_64, rfl⟩ rfl ?_
            refine ev_fN_ne dX2_removeAbove_66 (tgt := 78) (by decide) (by omega) (fun q66 => ?_) (fun q66 => ?_)
            · refine ev_blk (B := [(.iinc 3 1, 3)]) (pe := 81) (ls' := [some (.ref (o)), some (.ref (c)), some (.int (nI k)), some (.int (nI (i + 1))), some (.int (nI 1))]) (st' := []) ⟨dX2_removeAbove_78, rfl⟩ (by show some (([some (.ref (o)), some (.ref (c)), some (.int (nI k)), some (.int ((nI i) + Int32.ofInt (1))), some (.int (nI 1))] : ev_L), ([] : List Value)) = _; rw [ev_inc1 i]) ?_
              refine ev_goto (tgt := 4) dX2_removeAbove_81 (by decide) ?_
              refine ev_fgt (ls' := [some (.ref (o)), some (.ref (c)), some (.int (nI k)), some (.int (nI (i + 1))), none]) ⟨Or.inr rfl, Or.inr rfl, Or.inr rfl, Or.inr rfl, Or.inl rfl, trivial⟩ ?_
              have e9 : cb x (cg L i) = true := by unfold cb; rw [q54, q38, beq_iff_eq.mpr q22.symm]; rfl
              have e8 : (L.take (i + 1)).filter (fun y => !cb x y) = (L.take i).filter (fun y => !cb x y) := by rw [take_filter_succ (by omega), if_neg (by rw [e9]; decide), List.append_nil]
              exact ih k (i + 1) M f g h (by omega) (by omega) (by rw [e8]; exact hk) ⟨hC0, hC1, hC2, hC3⟩ hF hFr (by rw [e8]; exact hP) (fun j h1 h2 => hrow j (by omega) h2) (by omega)
            · exact absurd q66 (by decide)

set_option maxHeartbeats 4000000 in
set_option maxRecDepth 100000 in
theorem c_X2_removeAbove {l : Launch} (hl : l.stackTraces = false) {M : ev_M} (o cap : Nat) (L : List Cf) (hR : RQ M o cap L) (hL : cfs 25 L) (c : Nat) (x : Cf) (hF : RF M c x) (hx : cfO x) (hco : c < o ∨ o + 4 ≤ c) : ev_Mt l m_X2_removeAbove [.ref (o), .ref (c)] M (fun r M1 => r = .inl none ∧ RQ M1 o cap (L.filter (fun y => !cb x y)) ∧ Fr o (o + 4) M M1) := by
  obtain ⟨hcap, hlen, f, g, h, ⟨hC0, hC1, hC2, hC3⟩, hP⟩ := hR
  refine ev_body hl rfl (by decide +kernel) (Nat.le_of_ble_eq_true rfl) ?_
  show ev_ l m_X2_removeAbove 0 0 0 [some (.ref (o)), some (.ref (c)), none, none, none] [] M _
  refine ev_blk (B := [(.iconst 0, 1), (.istore_n 2, 1), (.iconst 0, 1), (.istore_n 3, 1)]) (pe := 4) (ls' := [some (.ref (o)), some (.ref (c)), some (.int (nI 0)), some (.int (nI 0)), none]) (st' := []) ⟨dX2_removeAbove_0, dX2_removeAbove_1, dX2_removeAbove_2, dX2_removeAbove_3, rfl⟩ rfl ?_
  exact c_X2_removeAbove_l hl M o cap L hlen hcap hL c x hx hco _ 0 0 M f g h (Nat.le_refl _) (Nat.zero_le _) rfl ⟨hC0, hC1, hC2, hC3⟩ hF Fr.rf (fun i hi => absurd hi (Nat.not_lt_zero _)) (fun j _ hj => hP j hj) (Nat.lt_succ_self _)

