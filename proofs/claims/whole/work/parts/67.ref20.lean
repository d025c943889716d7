/-! ===== the reference: states after, last firings ===== -/
/-- the states of a list, in one int -/
def ors : List Cf → Int32 → Int32
  | [], z => z
  | y :: r, z => ors r (z ||| ((1 : Int32) <<< (nI y.1 &&& 31)))
theorem ors_bt {k : Nat} (hk : k < 32) : ∀ {L : List Cf} {z : Int32}, (∀ y, y ∈ L → y.1 < 6) → ((ors L z).toBitVec.getLsbD k = true ↔ z.toBitVec.getLsbD k = true ∨ ∃ y, y ∈ L ∧ y.1 = k)
  | [], z, _ => ⟨Or.inl, fun h => h.elim id (fun ⟨_, h, _⟩ => absurd h List.not_mem_nil)⟩
  | y :: r, z, h => by
    have hy := h y List.mem_cons_self
    show (ors r (z ||| ((1 : Int32) <<< (nI y.1 &&& 31)))).toBitVec.getLsbD k = true ↔ _
    rw [ors_bt hk (fun x hx => h x (List.mem_cons_of_mem _ hx)), bt_or, bt_one (by omega) hk, Bool.or_eq_true, decide_eq_true_eq]
    constructor
    · rintro ((q | q) | ⟨x, hx, q⟩)
      · exact Or.inl q
      · exact Or.inr ⟨y, List.mem_cons_self, q.symm⟩
      · exact Or.inr ⟨x, List.mem_cons_of_mem _ hx, q⟩
    · rintro (q | ⟨x, hx, q⟩)
      · exact Or.inl (Or.inl q)
      · rcases List.mem_cons.mp hx with rfl | hx
        · exact Or.inl (Or.inr q.symm)
        · exact Or.inr ⟨x, hx, q⟩
theorem mk_bt {p : Nat → Bool} {k : Nat} (hk : k < 32) (n : Nat) (hn : n ≤ 31) : (mk p n).toBitVec.getLsbD k = true ↔ k < n ∧ p k = true := by
  induction n with
  | zero => exact ⟨fun h => (by rw [show mk p 0 = 0 from rfl, bt_0] at h; cases h), fun h => absurd h.1 (Nat.not_lt_zero _)⟩
  | succ n ih =>
    have key : (mk p (n + 1)).toBitVec.getLsbD k = true ↔ (mk p n).toBitVec.getLsbD k = true ∨ k = n ∧ p n = true := by
      show (if p n then _ else _ : Int32).toBitVec.getLsbD k = true ↔ _
      split
      · rename_i q
        rw [bt_or, bt_one (by omega) hk, Bool.or_eq_true, decide_eq_true_eq]
        exact ⟨fun h => h.imp_right fun e => ⟨e, q⟩, fun h => h.imp_right fun e => e.1⟩
      · rename_i q
        exact ⟨Or.inl, fun h => h.elim id (fun e => absurd e.2 q)⟩
    rw [key, ih (by omega)]
    constructor
    · rintro (⟨h1, h2⟩ | ⟨rfl, h2⟩)
      · exact ⟨by omega, h2⟩
      · exact ⟨by omega, h2⟩
    · rintro ⟨h1, h2⟩
      by_cases e : k = n
      · subst e; exact Or.inr ⟨rfl, h2⟩
      · exact Or.inl ⟨by omega, h2⟩
theorem lfs_bt {T : List Tr} (hT : T.length ≤ 10) {L : List Cf} {k : Nat} (hk : k < 32) (i : Nat) : (lfs T L i).toBitVec.getLsbD k = true ↔ ∃ j, j < i ∧ k < T.length ∧ mf (cg L j) (tg T k) true = true := by
  induction i with
  | zero => exact ⟨fun h => (by rw [show lfs T L 0 = 0 from rfl, bt_0] at h; cases h), fun ⟨_, h, _⟩ => absurd h (Nat.not_lt_zero _)⟩
  | succ i ih =>
    show (lfs T L i ||| mk (fun t => mf (cg L i) (tg T t) true) T.length).toBitVec.getLsbD k = true ↔ _
    rw [bt_or, Bool.or_eq_true, ih, mk_bt hk _ (by omega)]
    constructor
    · rintro (⟨j, hj, h⟩ | h)
      · exact ⟨j, by omega, h⟩
      · exact ⟨i, by omega, h⟩
    · rintro ⟨j, hj, h⟩
      by_cases e : j = i
      · subst e; exact Or.inr h
      · exact Or.inl ⟨j, by omega, h⟩
theorem tst_bt (z : Int32) {n : Nat} (hn : n < 32) : (z >>> (nI n &&& 31)) &&& 1 = 1 ↔ z.toBitVec.getLsbD n = true := by
  have key : ∀ n, n < 32 → ((nI n &&& 31).toBitVec.smod 32).toNat = n := by decide +kernel
  have e : ((z >>> (nI n &&& 31)) &&& 1).toBitVec = (z.toBitVec.sshiftRight n) &&& 1#32 := by
    show (z.toBitVec.sshiftRight ((nI n &&& 31).toBitVec.smod 32).toNat) &&& 1#32 = _
    rw [key n hn]
  have e2 : ((z.toBitVec.sshiftRight n) &&& 1#32 = 1#32) ↔ z.toBitVec.getLsbD n = true := by
    constructor
    · intro h
      have := congrArg (fun w => BitVec.getLsbD w 0) h
      simp only [BitVec.getLsbD_and, BitVec.getLsbD_sshiftRight] at this
      simpa [hn] using this
    · intro h
      apply BitVec.eq_of_getLsbD_eq
      intro i hi
      rw [BitVec.getLsbD_and, BitVec.getLsbD_sshiftRight]
      by_cases q : i = 0
      · subst q
        simp [hn, h]
      · simp [BitVec.getLsbD_one, q]
  rw [← e2, ← e]
  constructor
  · intro h; rw [h]; rfl
  · intro h; exact Int32.toBitVec_inj.mp h
theorem nst_bt {T : List Tr} (hT : trs T) {z : Int32} {k : Nat} (hk : k < 32) (n : Nat) (hn : n ≤ T.length) (h10 : T.length ≤ 10) : (nst T z n).toBitVec.getLsbD k = true ↔ ∃ t, t < n ∧ z.toBitVec.getLsbD t = true ∧ (tg T t).2.1 = k := by
  induction n with
  | zero => exact ⟨fun h => (by rw [show nst T z 0 = 0 from rfl, bt_0] at h; cases h), fun ⟨_, h, _⟩ => absurd h (Nat.not_lt_zero _)⟩
  | succ n ih =>
    have h6 := (trs_tg hT (show n < T.length by omega)).2.1
    have key : (nst T z (n + 1)).toBitVec.getLsbD k = true ↔ (nst T z n).toBitVec.getLsbD k = true ∨ z.toBitVec.getLsbD n = true ∧ (tg T n).2.1 = k := by
      show (if (z >>> (nI n &&& 31)) &&& 1 = 1 then _ else _ : Int32).toBitVec.getLsbD k = true ↔ _
      split
      · rename_i q
        rw [bt_or, bt_one (by omega) hk, Bool.or_eq_true, decide_eq_true_eq]
        exact ⟨fun h => h.imp_right fun e => ⟨(tst_bt z (by omega)).mp q, e.symm⟩, fun h => h.imp_right fun e => e.2.symm⟩
      · rename_i q
        exact ⟨Or.inl, fun h => h.elim id (fun e => absurd ((tst_bt z (by omega)).mpr e.1) q)⟩
    rw [key, ih (by omega)]
    constructor
    · rintro (⟨j, hj, h⟩ | h)
      · exact ⟨j, by omega, h⟩
      · exact ⟨n, by omega, h⟩
    · rintro ⟨j, hj, h⟩
      by_cases e : j = n
      · subst e; exact Or.inr h
      · exact Or.inl ⟨j, by omega, h⟩
/-! both orders reach the same -/
theorem lv_m {T : List Tr} {k : Nat} {x y : Cf} : y ∈ lv T (k + 1) x ↔ ∃ t, t < T.length ∧ mf x (tg T t) true = true ∧ y ∈ lv T k (ap (tg T t) x).2 := by
  show y ∈ (List.range T.length).flatMap _ ↔ _
  rw [List.mem_flatMap]
  constructor
  · rintro ⟨t, ht, h⟩
    refine ⟨t, List.mem_range.mp ht, ?_⟩
    by_cases q : mf x (tg T t) true = true
    · rw [if_pos q] at h; exact ⟨q, h⟩
    · rw [if_neg q] at h; exact absurd h List.not_mem_nil
  · rintro ⟨t, ht, q, h⟩
    exact ⟨t, List.mem_range.mpr ht, by rw [if_pos q]; exact h⟩
theorem lv_e {T : List Tr} {k : Nat} {x y : Cf} : y ∈ lv T (k + 1) x ↔ ∃ z, z ∈ lv T k x ∧ ∃ t, t < T.length ∧ mf z (tg T t) true = true ∧ y = (ap (tg T t) z).2 := by
  induction k generalizing x with
  | zero =>
    rw [lv_m]
    constructor
    · rintro ⟨t, ht, q, h⟩
      exact ⟨x, List.mem_singleton.mpr rfl, t, ht, q, List.mem_singleton.mp h⟩
    · rintro ⟨z, hz, t, ht, q, h⟩
      have := List.mem_singleton.mp hz
      subst this
      exact ⟨t, ht, q, List.mem_singleton.mpr h⟩
  | succ k ih =>
    rw [lv_m]
    constructor
    · rintro ⟨t, ht, q, h⟩
      obtain ⟨z, hz, h2⟩ := ih.mp h
      exact ⟨z, lv_m.mpr ⟨t, ht, q, hz⟩, h2⟩
    · rintro ⟨z, hz, h2⟩
      obtain ⟨t, ht, q, h⟩ := lv_m.mp hz
      exact ⟨t, ht, q, ih.mpr ⟨z, h, h2⟩⟩
theorem fat_m {T : List Tr} {x y : Cf} (n : Nat) : y ∈ fat T x n ↔ ∃ t, t < n ∧ mf x (tg T t) true = true ∧ y = (ap (tg T t) x).2 := by
  induction n with
  | zero => exact ⟨fun h => absurd h List.not_mem_nil, fun ⟨_, h, _⟩ => absurd h (Nat.not_lt_zero _)⟩
  | succ n ih =>
    have key : y ∈ fat T x (n + 1) ↔ y ∈ fat T x n ∨ mf x (tg T n) true = true ∧ y = (ap (tg T n) x).2 := by
      rw [fat]
      split
      · rename_i q
        rw [List.mem_append, List.mem_singleton]
        exact ⟨fun h => h.imp_right fun e => ⟨q, e⟩, fun h => h.imp_right fun e => e.2⟩
      · rename_i q
        exact ⟨Or.inl, fun h => h.elim id (fun e => absurd e.1 q)⟩
    rw [key, ih]
    constructor
    · rintro (⟨j, hj, h⟩ | h)
      · exact ⟨j, by omega, h⟩
      · exact ⟨n, by omega, h⟩
    · rintro ⟨j, hj, h⟩
      by_cases e : j = n
      · subst e; exact Or.inr h
      · exact Or.inl ⟨j, by omega, h⟩
theorem faa_m {T : List Tr} {L : List Cf} {y : Cf} (n : Nat) : y ∈ faa T L n ↔ ∃ j, j < n ∧ y ∈ fat T (cg L j) T.length := by
  induction n with
  | zero => exact ⟨fun h => absurd h List.not_mem_nil, fun ⟨_, h, _⟩ => absurd h (Nat.not_lt_zero _)⟩
  | succ n ih =>
    show y ∈ faa T L n ++ fat T (cg L n) T.length ↔ _
    rw [List.mem_append, ih]
    constructor
    · rintro (⟨j, hj, h⟩ | h)
      · exact ⟨j, by omega, h⟩
      · exact ⟨n, by omega, h⟩
    · rintro ⟨j, hj, h⟩
      by_cases e : j = n
      · subst e; exact Or.inr h
      · exact Or.inl ⟨j, by omega, h⟩
theorem rch_m {T : List Tr} {x y : Cf} (n : Nat) : y ∈ rch T x n ↔ y ∈ lv T n x := by
  induction n generalizing y with
  | zero => exact Iff.rfl
  | succ n ih =>
    rw [lv_e]
    show y ∈ faa T (rch T x n) (rch T x n).length ↔ _
    rw [faa_m, ex_cg (p := fun z => y ∈ fat T z T.length)]
    constructor
    · rintro ⟨z, hz, h⟩
      exact ⟨z, ih.mp hz, (fat_m _).mp h⟩
    · rintro ⟨z, hz, h⟩
      exact ⟨z, ih.mpr hz, (fat_m _).mpr h⟩
theorem lv_ok {T : List Tr} (hT : trs T) : ∀ {n k : Nat} {x : Cf}, cfW k x → cfs (k + n) (lv T n x)
  | 0, k, x, h => cfs_one.mpr h
  | n + 1, k, x, h => fun y hy => by
    obtain ⟨t, ht, q, hy⟩ := lv_m.mp hy
    have := lv_ok hT (n := n) (ap_ok h (trs_tg hT ht)) y hy
    exact this.le (by omega)
theorem aft_eq {T : List Tr} (hT : trs T) (h10 : T.length ≤ 10) {k : Nat} {x : Cf} (hx : cfW k x) (n : Nat) : ors (lv T (n + 1) x) (nI 0) = nst T (lfs T (rch T x n) (rch T x n).length) T.length := by
  refine bt_ext fun s hs => ?_
  have h1 := ors_bt hs (L := lv T (n + 1) x) (z := nI 0) (fun y hy => (lv_ok hT hx y hy).1)
  have h2 := nst_bt hT (z := lfs T (rch T x n) (rch T x n).length) hs T.length (Nat.le_refl _) h10
  have h3 : (ors (lv T (n + 1) x) (nI 0)).toBitVec.getLsbD s = true ↔ (nst T (lfs T (rch T x n) (rch T x n).length) T.length).toBitVec.getLsbD s = true := by
    rw [h1, h2]
    constructor
    · rintro (q | ⟨y, hy, q⟩)
      · rw [show nI 0 = 0 from rfl, bt_0] at q; cases q
      · obtain ⟨z, hz, t, ht, hm, rfl⟩ := lv_e.mp hy
        refine ⟨t, ht, (lfs_bt h10 (by omega) _).mpr ?_, ?_⟩
        · obtain ⟨j, hj, e⟩ := (ex_cg (p := fun z => t < T.length ∧ mf z (tg T t) true = true)).mpr ⟨z, (rch_m n).mpr hz, ⟨ht, hm⟩⟩
          exact ⟨j, hj, e⟩
        · rw [← q]; unfold ap; split; rfl; split; rfl; rfl
    · rintro ⟨t, ht, hb, q⟩
      obtain ⟨j, hj, ht2, hm⟩ := (lfs_bt h10 (by omega) _).mp hb
      refine Or.inr ⟨(ap (tg T t) (cg (rch T x n) j)).2, lv_e.mpr ⟨cg (rch T x n) j, (rch_m n).mp (cg_mem hj), t, ht, hm, rfl⟩, ?_⟩
      rw [← q]; unfold ap; split; rfl; split; rfl; rfl
  cases q : (nst T (lfs T (rch T x n) (rch T x n).length) T.length).toBitVec.getLsbD s with
  | true => exact h3.mpr q
  | false =>
    cases q2 : (ors (lv T (n + 1) x) (nI 0)).toBitVec.getLsbD s with
    | true => rw [h3.mp q2] at q; cases q
    | false => rfl
theorem las_eq {T : List Tr} (h10 : T.length ≤ 10) {x : Cf} {t : Nat} (ht : t < T.length) (n : Nat) : (lv T n x).any (fun y => mf y (tg T t) true) = decide ((lfs T (rch T x n) (rch T x n).length >>> (nI t &&& 31)) &&& nI 1 = nI 1) := by
  have h1 : (lv T n x).any (fun y => mf y (tg T t) true) = true ↔ (lfs T (rch T x n) (rch T x n).length >>> (nI t &&& 31)) &&& 1 = 1 := by
    rw [tst_bt _ (by omega), lfs_bt h10 (by omega), List.any_eq_true]
    constructor
    · rintro ⟨y, hy, hm⟩
      obtain ⟨j, hj, e⟩ := (ex_cg (p := fun z => t < T.length ∧ mf z (tg T t) true = true)).mpr ⟨y, (rch_m n).mpr hy, ⟨ht, hm⟩⟩
      exact ⟨j, hj, e⟩
    · rintro ⟨j, hj, _, hm⟩
      exact ⟨_, (rch_m n).mp (cg_mem hj), hm⟩
  cases q : (lv T n x).any (fun y => mf y (tg T t) true) with
  | true => exact (decide_eq_true (h1.mp q)).symm
  | false => exact (decide_eq_false (fun z => by rw [h1.mpr z] at q; cases q)).symm
theorem PU.pl {M : ev_M} {o : Nat} {T : List Tr} (h : PU M o) : PLv M o T [] := by
  obtain ⟨f, g, h, k, a1, a2, a3, a4⟩ := h
  exact ⟨f, g, h, k, a1, a2, a3, a4, fun j p hj => by cases hj⟩
set_option maxHeartbeats 4000000 in
set_option maxRecDepth 100000 in
theorem c_R_begins {l : Launch} (hl : l.stackTraces = false) {M : ev_M} (o : Nat) (S : St) (hS : okS S) (zi : Nat → Int32) (zl : Nat → Int64) (hR : RR M o S zi zl) : ev_Mt l m_X11_begins [.ref (o)] M (fun r M1 => r = .inl none ∧ ∃ zi' zl', RR M1 o S zi' zl' ∧ zi' 0 = zi 0 ∧ zi' 36 = dI 1 ∧ zi' 11 = nI S.x.1 ∧ zl' 13 = e2 S.x.2.1 ∧ zl' 14 = e2 S.x.2.2 ∧ PLv M1 o S.T [(S.x, 0)] ∧ FX o (o + 18) (o + 22) M M1) := by
  refine ev_body hl rfl (by decide +kernel) (Nat.le_of_ble_eq_true rfl) ?_
  show ev_ l m_X11_begins 0 0 0 [some (.ref (o))] [] M _
  refine ev_blk (B := [(.aload_n 0, 1), (.iconst 0, 1)]) (pe := 2) (ls' := [some (.ref (o))]) (st' := [.int (nI 0), .ref (o)]) ⟨dX11_begins_0, dX11_begins_1, rfl⟩ rfl ?_
  refine ev_put F_RX11_284 dX11_begins_2 hR.z (Nat.le_of_ble_eq_true rfl) (fun _ _ => ⟨rfl, rfl⟩) ?_
  rw [zs_36]
  refine ev_nm (M0 := M.set (o) (.inr (10, zo o (ui (zi) 36 (nI 0)) (zl)))) (fun M1 eM1 => ?_)
  have f2 : M1[o]? = some (.inr (10, zo o (ui (zi) 36 (nI 0)) (zl))) := by rw [eM1]; exact ev_sg hR.z
  refine ev_blk (B := [(.aload_n 0, 1), (.aload_n 0, 1)]) (pe := 7) (ls' := [some (.ref (o))]) (st' := [.ref (o), .ref (o)]) ⟨dX11_begins_5, dX11_begins_6, rfl⟩ rfl ?_
  refine ev_getf (v := .int (nI (S.x.1))) F_RX11_169 dX11_begins_7 f2 (congrArg (fun q => some (Value.int q)) hR.p.2.1) ?_
  refine ev_blk (B := [(.aload_n 0, 1)]) (pe := 11) (ls' := [some (.ref (o))]) (st' := [.ref (o), .int (nI (S.x.1)), .ref (o)]) ⟨dX11_begins_10, rfl⟩ rfl ?_
  refine ev_getf (v := .long (e2 S.x.2.1)) F_RX11_159 dX11_begins_11 f2 (congrArg (fun q => some (Value.long q)) hR.p.2.2.2.1) ?_
  refine ev_blk (B := [(.aload_n 0, 1)]) (pe := 15) (ls' := [some (.ref (o))]) (st' := [.ref (o), .long (e2 S.x.2.1), .int (nI (S.x.1)), .ref (o)]) ⟨dX11_begins_14, rfl⟩ rfl ?_
  refine ev_getf (v := .long (e2 S.x.2.2)) F_RX11_163 dX11_begins_15 f2 (congrArg (fun q => some (Value.long q)) hR.p.2.2.2.2.1) ?_
  have W3 : FX o (o + 31) (o + 31) M M1 := ⟨by rw [eM1]; simp only [List.length_set], fun j hj1 hj2 => by rw [eM1, ev_sn (by omega)]⟩
  refine ev_cVn Y_X11_takes L_RX11_198 dX11_begins_18 ⟨Nat.le_of_ble_eq_true rfl, Nat.le_of_ble_eq_true rfl, Nat.le_of_ble_eq_true rfl, Nat.le_of_ble_eq_true rfl, Nat.le_of_ble_eq_true rfl⟩ f2 (as := [.int (nI (S.x.1)), .long (e2 S.x.2.1), .long (e2 S.x.2.2)]) rfl rfl (c_R_takes hl o (ui (zi) 36 (nI 0)) (zl) f2 S.x) (fun M4 hL4 hB4 => ?_)
  obtain ⟨T5z, T5f⟩ := hB4
  refine ev_blk (B := [(.aload_n 0, 1)]) (pe := 22) (ls' := [some (.ref (o))]) (st' := [.ref (o)]) ⟨dX11_begins_21, rfl⟩ rfl ?_
  have hPL0 : PLv M4 o S.T [] := ((hR.u.pl).fx W3 (by omega)).fx T5f (by omega)
  refine ev_cVn Y_X11_rests L_RX11_287 dX11_begins_22 ⟨Nat.le_of_ble_eq_true rfl, Nat.le_of_ble_eq_true rfl, Nat.le_of_ble_eq_true rfl, Nat.le_of_ble_eq_true rfl, Nat.le_of_ble_eq_true rfl⟩ T5z (as := []) rfl rfl (c_R_rests hl o (ui (ui (zi) 36 (nI 0)) 11 (nI S.x.1)) (ul (ul (zl) 13 (e2 S.x.2.1)) 14 (e2 S.x.2.2)) T5z S.T [] (by decide) rfl S.x hS.x rfl rfl rfl hPL0) (fun M6 hL6 hB6 => ?_)
  obtain ⟨Yz, YL, YF⟩ := hB6
  refine ev_vret dX11_begins_25 rfl ⟨Nat.le_of_ble_eq_true rfl, Nat.le_of_ble_eq_true rfl⟩ ?_
  have hF9 : FX o (o + 18) (o + 22) M M6 := (W3.em (by omega)).tr ((T5f.em (by omega)).tr YF)
  exact ⟨rfl, _, _, hR.ku Yz ⟨fun k hk => (ui_ne (nm hk (by decide))).trans (ui_ne (nm hk (by decide))), fun k hk => (ul_ne (nm hk (by decide))).trans (ul_ne (nm hk (by decide)))⟩ hF9 YL.u, rfl, rfl, rfl, rfl, rfl, YL, hF9⟩

theorem ev_cVq {l : Launch} {mi mj : ev_MI} {kc ks pc : Nat} {ls : ev_L} {st : List Value} {M : ev_M} {Q : ev_R → ev_M → Prop} {idx ci n o : Nat} {fs as : List Value} {Qc : ev_R → ev_M → Prop} (hY : ev_YV mj ci n) (hw : Cond.methodLink (ev_y mi).cls idx (ev_y mj) ∈ ev_bw) (hd : decode (ev_c mi) pc = .ok (.invokevirtual idx, 3)) (hR : ev_Rm mi mj kc ks st) (hm : M[o]? = some (.inr (ci, fs))) (hlen : as.length = n) {stk : List Value} (hst : stk = as.reverse ++ .ref o :: st)
    (hc : ev_Mt l mj (.ref o :: as) M Qc)
    (kk : ∀ (v : Option Value) (M' : ev_M), M.length ≤ M'.length → Qc (.inl v) M' → ev_ l mi (kc + ev_mc mj) (ks + ev_ms mj) (pc + 3) ls (v.toList ++ st) M' Q)
    (kx : ∀ (E : String) (M' : ev_M), M.length ≤ M'.length → Qc (.inr E) M' → ev_Th l mi (kc + ev_mc mj) (ks + ev_ms mj) pc ls E M' Q) : ev_ l mi kc ks pc ls stk M Q := by
  subst hst
  exact ev_callV hY hw hd hR hm hlen hc kk kx
set_option maxHeartbeats 4000000 in
set_option maxRecDepth 100000 in
theorem c_R_goesOn {l : Launch} (hl : l.stackTraces = false) (o : Nat) (S : St) (hS : okS S) (hT10 : S.T.length ≤ 10) (f : Nat) (hf : f < 5) (zi0 : Nat → Int32) (M0 : ev_M) {M : ev_M} (L0 : List Cf) (st : List (Cf × Nat)) (zi : Nat → Int32) (zl : Nat → Int64) (hO : M[o]? = some (.inr (10, zo o zi zl))) (hR : RR M o S zi zl) (hd : zi 36 = dI st.length) (hl5 : st.length ≤ f + 1) (hL : PLv M o S.T st) (h0 : zi 0 = zi0 0) (hF : FX o (o + 18) (o + 22) M0 M) (hrm : rmT S.T f st.reverse = L0) : ev_Mt l m_X11_goesOn [.ref (o), .int (nI f)] M (fun r9 M1 => (L0 = [] ∧ r9 = .inl (some (.int (ev_b false))) ∨ ∃ y rest, L0 = y :: rest ∧ r9 = .inl (some (.int (ev_b true))) ∧ ∃ st' zi' zl', rmT S.T f st'.reverse = rest ∧ PLv M1 o S.T st' ∧ st'.length ≤ f + 1 ∧ RR M1 o S zi' zl' ∧ zi' 0 = zi0 0 ∧ zi' 36 = dI st'.length ∧ zi' 11 = nI y.1 ∧ zl' 13 = e2 y.2.1 ∧ zl' 14 = e2 y.2.2 ∧ cfW 14 y) ∧ (∃ zi' zl', RR M1 o S zi' zl' ∧ zi' 0 = zi0 0) ∧ FX o (o + 18) (o + 22) M0 M1) := by
  refine ev_body hl rfl (by decide +kernel) (Nat.le_of_ble_eq_true rfl) ?_
  exact c_R_goesOn_l hl o S hS hT10 f hf L0 zi0 M0 _ st M zi zl hO hR hd hl5 hL h0 hF hrm (Nat.lt_succ_self _)

set_option maxHeartbeats 4000000 in
set_option maxRecDepth 100000 in
theorem c_R_aft_l {l : Launch} (hl : l.stackTraces = false) (o : Nat) (S : St) (hS : okS S) (hT10 : S.T.length ≤ 10) (f : Nat) (hf : f < 5) (zi0 : Nat → Int32) (M0 : ev_M) : ∀ (L0 : List Cf) (Z : Int32) (st : List (Cf × Nat)) (M : ev_M) (zi : Nat → Int32) (zl : Nat → Int64), M[o]? = some (.inr (10, zo o zi zl)) → RR M o S zi zl → zi 36 = dI st.length → st.length ≤ f + 1 → PLv M o S.T st → zi 0 = zi0 0 → FX o (o + 18) (o + 22) M0 M → rmT S.T f st.reverse = L0 →  ev_ l m_X11_statesAfter 0 0 37 [some (.ref (o)), some (.int (nI f)), some (.int (Z))] [] M (fun r9 M1 => r9 = .inl (some (.int (ors L0 Z))) ∧ ∃ zi' zl', RR M1 o S zi' zl' ∧ zi' 0 = zi0 0 ∧ FX o (o + 18) (o + 22) M0 M1) := by
  intro L0
  induction L0 with
  | nil =>
    intro Z st M zi zl hO hR hd hl5 hL h0 hF hrm
    refine ev_blk (B := [(.aload_n 0, 1), (.iload_n 1, 1)]) (pe := 39) (ls' := [some (.ref (o)), some (.int (nI f)), some (.int (Z))]) (st' := [.int (nI f), .ref o]) ⟨dX11_statesAfter_37, dX11_statesAfter_38, rfl⟩ rfl ?_
    refine ev_cVq Y_X11_goesOn L_RX11_293 dX11_statesAfter_39 ⟨Nat.le_of_ble_eq_true rfl, Nat.le_of_ble_eq_true rfl, Nat.le_of_ble_eq_true rfl, Nat.le_of_ble_eq_true rfl, Nat.le_of_ble_eq_true rfl⟩ hO (as := [.int (nI f)]) rfl rfl (c_R_goesOn hl o S hS hT10 f hf zi0 M0 [] st zi zl hO hR hd hl5 hL h0 hF hrm) (fun v9 M1 hl9 hq => ?_) (fun E9 M1 hl9 hq => ?_)
    · obtain ⟨hca, ⟨zi9, zl9, hR9, h09⟩, hF9⟩ := hq
      rcases hca with ⟨-, e9⟩ | ⟨y9, rest, e9, -⟩
      · cases e9
        show ev_ l m_X11_statesAfter 0 0 42 [some (.ref (o)), some (.int (nI f)), some (.int (Z))] [.int (ev_b false)] M1 _
        refine ev_ifB_eq dX11_statesAfter_42 (tgt := 57) (by decide) (fun q => ?_) (fun q => absurd q (by decide))
        refine ev_blk (B := [(.iload_n 2, 1)]) (pe := 58) (ls' := [some (.ref (o)), some (.int (nI f)), some (.int (Z))]) (st' := [.int Z]) ⟨dX11_statesAfter_57, rfl⟩ rfl ?_
        refine ev_iret dX11_statesAfter_58 rfl rfl ⟨Nat.le_of_ble_eq_true rfl, Nat.le_of_ble_eq_true rfl⟩ ?_
        exact ⟨rfl, zi9, zl9, hR9, h09, hF9⟩
      · cases e9
    · obtain ⟨hca, -⟩ := hq
      rcases hca with ⟨-, e9⟩ | ⟨y9, rest, -, e9, -⟩ <;> cases e9
  | cons y r ih =>
    intro Z st M zi zl hO hR hd hl5 hL h0 hF hrm
    refine ev_blk (B := [(.aload_n 0, 1), (.iload_n 1, 1)]) (pe := 39) (ls' := [some (.ref (o)), some (.int (nI f)), some (.int (Z))]) (st' := [.int (nI f), .ref o]) ⟨dX11_statesAfter_37, dX11_statesAfter_38, rfl⟩ rfl ?_
    refine ev_cVq Y_X11_goesOn L_RX11_293 dX11_statesAfter_39 ⟨Nat.le_of_ble_eq_true rfl, Nat.le_of_ble_eq_true rfl, Nat.le_of_ble_eq_true rfl, Nat.le_of_ble_eq_true rfl, Nat.le_of_ble_eq_true rfl⟩ hO (as := [.int (nI f)]) rfl rfl (c_R_goesOn hl o S hS hT10 f hf zi0 M0 (y :: r) st zi zl hO hR hd hl5 hL h0 hF hrm) (fun v9 M1 hl9 hq => ?_) (fun E9 M1 hl9 hq => ?_)
    · obtain ⟨hca, -, hF9⟩ := hq
      rcases hca with ⟨e9, -⟩ | ⟨y9, rest, e8, e9, st9, zi9, zl9, b1, b2, b3, b4, b5, b6, b7, b8, b9, b10⟩
      · cases e9
      · cases e8
        cases e9
        show ev_ l m_X11_statesAfter 0 0 42 [some (.ref (o)), some (.int (nI f)), some (.int (Z))] [.int (ev_b true)] M1 _
        refine ev_ifB_eq dX11_statesAfter_42 (tgt := 57) (by decide) (fun q => absurd q (by decide)) (fun q => ?_)
        have hy6 := b10.1
        refine ev_blk (B := [(.iload_n 2, 1), (.iconst 1, 1), (.aload_n 0, 1)]) (pe := 48) (ls' := [some (.ref (o)), some (.int (nI f)), some (.int (Z))]) (st' := [.ref o, .int (nI 1), .int Z]) ⟨dX11_statesAfter_45, dX11_statesAfter_46, dX11_statesAfter_47, rfl⟩ rfl ?_
        refine ev_getf (v := .int (nI (y.1))) F_RX11_179 dX11_statesAfter_48 b4.z (congrArg (fun q => some (Value.int q)) b7) ?_
        refine ev_blk (B := [(.ishl, 1), (.ior, 1), (.istore_n 2, 1)]) (pe := 54) (ls' := [some (.ref (o)), some (.int (nI f)), some (.int ((Z ||| ((nI 1) <<< (nI (y.1) &&& 31)))))]) (st' := []) ⟨dX11_statesAfter_51, dX11_statesAfter_52, dX11_statesAfter_53, rfl⟩ rfl ?_
        refine ev_goto (tgt := 37) dX11_statesAfter_54 (by decide) ?_
        exact ih _ st9 M1 zi9 zl9 b4.z b4 b6 b3 b2 b5 hF9 b1
    · obtain ⟨hca, -⟩ := hq
      rcases hca with ⟨-, e9⟩ | ⟨y9, rest, -, e9, -⟩ <;> cases e9

set_option maxHeartbeats 4000000 in
set_option maxRecDepth 100000 in
theorem c_R_las_l {l : Launch} (hl : l.stackTraces = false) (o : Nat) (S : St) (hS : okS S) (hT10 : S.T.length ≤ 10) (f : Nat) (hf : f < 5) (zi0 : Nat → Int32) (M0 : ev_M) (t g : Nat) (ht : t < S.T.length) (hg : g = f + 1) : ∀ (L0 : List Cf) (st : List (Cf × Nat)) (M : ev_M) (zi : Nat → Int32) (zl : Nat → Int64), M[o]? = some (.inr (10, zo o zi zl)) → RR M o S zi zl → zi 36 = dI st.length → st.length ≤ f + 1 → PLv M o S.T st → zi 0 = zi0 0 → FX o (o + 18) (o + 22) M0 M → rmT S.T f st.reverse = L0 →  ev_ l m_X11_isLast 0 0 49 [some (.ref (o)), some (.int (nI t)), some (.int (nI g))] [] M (fun r9 M1 => r9 = .inl (some (.int (ev_b (L0.any (fun y => mf y (tg S.T t) true))))) ∧ ∃ zi' zl', RR M1 o S zi' zl' ∧ zi' 0 = zi0 0 ∧ FX o (o + 18) (o + 22) M0 M1) := by
  intro L0
  induction L0 with
  | nil =>
    intro st M zi zl hO hR hd hl5 hL h0 hF hrm
    refine ev_blk (B := [(.aload_n 0, 1), (.iload_n 2, 1), (.iconst 1, 1), (.isub, 1)]) (pe := 53) (ls' := [some (.ref (o)), some (.int (nI t)), some (.int (nI g))]) (st' := [.int (nI f), .ref o]) ⟨dX11_isLast_49, dX11_isLast_50, dX11_isLast_51, dX11_isLast_52, rfl⟩ (by show some (([some (.ref (o)), some (.int (nI t)), some (.int (nI g))] : ev_L), ([.int ((nI g) - (nI 1)), .ref o] : List Value)) = _; rw [hg, pk_sub (show 1 ≤ f + 1 by omega)]; rfl) ?_
    refine ev_cVq Y_X11_goesOn L_RX11_293 dX11_isLast_53 ⟨Nat.le_of_ble_eq_true rfl, Nat.le_of_ble_eq_true rfl, Nat.le_of_ble_eq_true rfl, Nat.le_of_ble_eq_true rfl, Nat.le_of_ble_eq_true rfl⟩ hO (as := [.int (nI f)]) rfl rfl (c_R_goesOn hl o S hS hT10 f hf zi0 M0 [] st zi zl hO hR hd hl5 hL h0 hF hrm) (fun v9 M1 hl9 hq => ?_) (fun E9 M1 hl9 hq => ?_)
    · obtain ⟨hca, ⟨zi9, zl9, hR9, h09⟩, hF9⟩ := hq
      rcases hca with ⟨-, e9⟩ | ⟨y9, rest, e9, -⟩
      · cases e9
        show ev_ l m_X11_isLast 0 0 56 [some (.ref (o)), some (.int (nI t)), some (.int (nI g))] [.int (ev_b false)] M1 _
        refine ev_ifB_eq dX11_isLast_56 (tgt := 69) (by decide) (fun q => ?_) (fun q => absurd q (by decide))
        refine ev_blk (B := [(.iconst 0, 1)]) (pe := 70) (ls' := [some (.ref (o)), some (.int (nI t)), some (.int (nI g))]) (st' := [.int (nI 0)]) ⟨dX11_isLast_69, rfl⟩ rfl ?_
        refine ev_iret dX11_isLast_70 rfl rfl ⟨Nat.le_of_ble_eq_true rfl, Nat.le_of_ble_eq_true rfl⟩ ?_
        exact ⟨rfl, zi9, zl9, hR9, h09, hF9⟩
      · cases e9
    · obtain ⟨hca, -⟩ := hq
      rcases hca with ⟨-, e9⟩ | ⟨y9, rest, -, e9, -⟩ <;> cases e9
  | cons y r ih =>
    intro st M zi zl hO hR hd hl5 hL h0 hF hrm
    refine ev_blk (B := [(.aload_n 0, 1), (.iload_n 2, 1), (.iconst 1, 1), (.isub, 1)]) (pe := 53) (ls' := [some (.ref (o)), some (.int (nI t)), some (.int (nI g))]) (st' := [.int (nI f), .ref o]) ⟨dX11_isLast_49, dX11_isLast_50, dX11_isLast_51, dX11_isLast_52, rfl⟩ (by show some (([some (.ref (o)), some (.int (nI t)), some (.int (nI g))] : ev_L), ([.int ((nI g) - (nI 1)), .ref o] : List Value)) = _; rw [hg, pk_sub (show 1 ≤ f + 1 by omega)]; rfl) ?_
    refine ev_cVq Y_X11_goesOn L_RX11_293 dX11_isLast_53 ⟨Nat.le_of_ble_eq_true rfl, Nat.le_of_ble_eq_true rfl, Nat.le_of_ble_eq_true rfl, Nat.le_of_ble_eq_true rfl, Nat.le_of_ble_eq_true rfl⟩ hO (as := [.int (nI f)]) rfl rfl (c_R_goesOn hl o S hS hT10 f hf zi0 M0 (y :: r) st zi zl hO hR hd hl5 hL h0 hF hrm) (fun v9 M1 hl9 hq => ?_) (fun E9 M1 hl9 hq => ?_)
    · obtain ⟨hca, -, hF9⟩ := hq
      rcases hca with ⟨e9, -⟩ | ⟨y9, rest, e8, e9, st9, zi9, zl9, b1, b2, b3, b4, b5, b6, b7, b8, b9, b10⟩
      · cases e9
      · cases e8
        cases e9
        show ev_ l m_X11_isLast 0 0 56 [some (.ref (o)), some (.int (nI t)), some (.int (nI g))] [.int (ev_b true)] M1 _
        refine ev_ifB_eq dX11_isLast_56 (tgt := 69) (by decide) (fun q => absurd q (by decide)) (fun q => ?_)
        obtain ⟨fT, hfT, hPT⟩ := b4.T
        refine ev_blk (B := [(.aload_n 0, 1), (.iload_n 1, 1)]) (pe := 61) (ls' := [some (.ref (o)), some (.int (nI t)), some (.int (nI g))]) (st' := [.int (nI t), .ref o]) ⟨dX11_isLast_59, dX11_isLast_60, rfl⟩ rfl ?_
        refine ev_cVv Y_X11_mayFire L_RX11_202 dX11_isLast_61 ⟨Nat.le_of_ble_eq_true rfl, Nat.le_of_ble_eq_true rfl, Nat.le_of_ble_eq_true rfl, Nat.le_of_ble_eq_true rfl, Nat.le_of_ble_eq_true rfl⟩ b4.z (as := [.int (nI t)]) rfl rfl (c_R_mayFire hl o zi9 zl9 b4.z fT hfT S.T hPT hT10 hS.T t ht y (b10.le (by omega)) b7 b8 b9) ?_
        refine ev_ifB_eq dX11_isLast_64 (tgt := 49) (by decide) (fun q => ?_) (fun q => ?_)
        · have e7 : (y :: r).any (fun y => mf y (tg S.T t) true) = r.any (fun y => mf y (tg S.T t) true) := by rw [List.any_cons, q, Bool.false_or]
          rw [e7]
          exact ih st9 M1 zi9 zl9 b4.z b4 b6 b3 b2 b5 hF9 b1
        · refine ev_blk (B := [(.iconst 1, 1)]) (pe := 68) (ls' := [some (.ref (o)), some (.int (nI t)), some (.int (nI g))]) (st' := [.int (nI 1)]) ⟨dX11_isLast_67, rfl⟩ rfl ?_
          refine ev_iret dX11_isLast_68 rfl rfl ⟨Nat.le_of_ble_eq_true rfl, Nat.le_of_ble_eq_true rfl⟩ ?_
          have e7 : (y :: r).any (fun y => mf y (tg S.T t) true) = true := by rw [List.any_cons, q, Bool.true_or]
          rw [e7]
          exact ⟨rfl, zi9, zl9, b4, b5, hF9⟩
    · obtain ⟨hca, -⟩ := hq
      rcases hca with ⟨-, e9⟩ | ⟨y9, rest, -, e9, -⟩ <;> cases e9

set_option maxHeartbeats 4000000 in
set_option maxRecDepth 100000 in
theorem r_statesAfter {l : Launch} (hl : l.stackTraces = false) {M : ev_M} (o : Nat) (S : St) (hS : okS S) (hT10 : S.T.length ≤ 10) (hG3 : S.G.length ≤ 3) (hH20 : S.H.length ≤ 20) (zi : Nat → Int32) (zl : Nat → Int64) (hR : RR M o S zi zl) (a : Int32) : ev_Mt l m_X11_statesAfter [.ref (o), .int (a)] M (fun r M1 => r = .inl (some (.int (sAft S a).2)) ∧ ∃ zi' zl', RR M1 o S zi' zl' ∧ zi' 0 = nI (sAft S a).1 ∧ Fr o (o + 31) M M1) := by
  rcases inR_c a 5 (by omega) with ⟨k, hk, rfl⟩ | ia
  · have jk : inR (nI k) 5 = true := inR_n hk (by omega)
    have tk : (nI k).toNatClampNeg = k := nI_clamp (by omega)
    refine ev_body hl rfl (by decide +kernel) (Nat.le_of_ble_eq_true rfl) ?_
    show ev_ l m_X11_statesAfter 0 0 0 [some (.ref (o)), some (.int (nI k)), none] [] M _
    refine ev_blk (B := [(.iload_n 1, 1), (.iconst 0, 1), (.iconst 4, 1)]) (pe := 3) (ls' := [some (.ref (o)), some (.int (nI k)), none]) (st' := [.int (nI 4), .int (nI 0), .int (nI k)]) ⟨dX11_statesAfter_0, dX11_statesAfter_1, dX11_statesAfter_2, rfl⟩ rfl ?_
    refine ev_cSv Y_X11_isBetween L_RX11_134 dX11_statesAfter_3 ⟨Nat.le_of_ble_eq_true rfl, Nat.le_of_ble_eq_true rfl, Nat.le_of_ble_eq_true rfl, Nat.le_of_ble_eq_true rfl, Nat.le_of_ble_eq_true rfl⟩ (as := [.int (nI k), .int (nI 0), .int (nI 4)]) rfl rfl (c_R_isBT hl _ _ _ (nI_le (Nat.zero_le _) (by omega)) (nI_le (by omega) (by omega))) ?_
    refine ev_ifB_ne dX11_statesAfter_6 (tgt := 15) (by decide) (fun q6 => ?_) (fun q6 => ?_)
    · refine ev_blk (B := [(.aload_n 0, 1), (.iconst 0, 1)]) (pe := 17) (ls' := [some (.ref (o)), some (.int (nI k)), none]) (st' := [.int (nI 0), .ref (o)]) ⟨dX11_statesAfter_15, dX11_statesAfter_16, rfl⟩ rfl ?_
      refine ev_put F_RX11_106 dX11_statesAfter_17 hR.z (Nat.le_of_ble_eq_true rfl) (fun _ _ => ⟨rfl, rfl⟩) ?_
      rw [zs_0]
      refine ev_nm (M0 := M.set (o) (.inr (10, zo o (ui (zi) 0 (nI 0)) (zl)))) (fun M1 eM1 => ?_)
      have f2 : M1[o]? = some (.inr (10, zo o (ui (zi) 0 (nI 0)) (zl))) := by rw [eM1]; exact ev_sg hR.z
      refine ev_blk (B := [(.iload_n 1, 1)]) (pe := 21) (ls' := [some (.ref (o)), some (.int (nI k)), none]) (st' := [.int (nI k)]) ⟨dX11_statesAfter_20, rfl⟩ rfl ?_
      refine ev_fN_ne dX11_statesAfter_21 (tgt := 31) (by decide) (by omega) (fun q21 => ?_) (fun q21 => ?_)
      · refine ev_blk (B := [(.aload_n 0, 1)]) (pe := 32) (ls' := [some (.ref (o)), some (.int (nI k)), none]) (st' := [.ref (o)]) ⟨dX11_statesAfter_31, rfl⟩ rfl ?_
        have W3 : FX o (o + 31) (o + 31) M M1 := ⟨by rw [eM1]; simp only [List.length_set], fun j hj1 hj2 => by rw [eM1, ev_sn (by omega)]⟩
        have hRz : RR M1 o S (ui (zi) 0 (nI 0)) (zl) := ⟨f2, ⟨hR.p.1, hR.p.2.1, hR.p.2.2.1, hR.p.2.2.2.1, hR.p.2.2.2.2.1, hR.p.2.2.2.2.2.1, hR.p.2.2.2.2.2.2.1, hR.p.2.2.2.2.2.2.2.1, hR.p.2.2.2.2.2.2.2.2.1, hR.p.2.2.2.2.2.2.2.2.2⟩, (hR.T.fx W3 (by omega) (by omega)), (hR.H.fx W3 (by omega)), (hR.y.fx W3 (by omega)), (hR.G.fx W3 (by omega) (by omega)), (hR.a.fx W3 (by omega)), (hR.u.fx W3 (by omega)), (hR.x.fx W3 (by omega)), (hR.k.fx W3 (by omega)), (hR.s.fx W3 (by omega))⟩
        refine ev_cVn Y_X11_begins L_RX11_290 dX11_statesAfter_32 ⟨Nat.le_of_ble_eq_true rfl, Nat.le_of_ble_eq_true rfl, Nat.le_of_ble_eq_true rfl, Nat.le_of_ble_eq_true rfl, Nat.le_of_ble_eq_true rfl⟩ f2 (as := []) rfl rfl (c_R_begins hl o S hS (ui (zi) 0 (nI 0)) (zl) hRz) (fun M4 hL4 hB4 => ?_)
        obtain ⟨Bi, Bl, BR, B0, B36, B11, B13, B14, BL, BF⟩ := hB4
        refine ev_blk (B := [(.iconst 0, 1), (.istore_n 2, 1)]) (pe := 37) (ls' := [some (.ref (o)), some (.int (nI k)), some (.int (nI 0))]) (st' := []) ⟨dX11_statesAfter_35, dX11_statesAfter_36, rfl⟩ rfl ?_
        have hk1 : k = (k - 1) + 1 := by omega
        refine ev_mono (fun r M9 hq => ?_) (c_R_aft_l hl o S hS hT10 k hk Bi M4 (lv S.T ((k - 1) + 1) S.x) _ [(S.x, 0)] _ Bi Bl BR.z BR B36 (by show 1 ≤ k + 1; omega) BL rfl FX.rf (by show lvf S.T (k - 0) S.x 0 ++ [] = _; rw [List.append_nil, Nat.sub_zero, lv_f, ← hk1]))
        obtain ⟨q1, zi9, zl9, q2, q3, q4⟩ := hq
        have e9 : sAft S (nI k) = (0, nst S.T (lfs S.T (rch S.T S.x (k - 1)) (rch S.T S.x (k - 1)).length) S.T.length) := by
          unfold sAft
          simp only [tN, tk]
          rw [if_neg (show ¬ inR (nI k) 5 = false by rw [jk]; decide), if_neg q21]
        rw [e9]
        exact ⟨by rw [q1]; exact congrArg (fun z => Sum.inl (some (Value.int z))) (aft_eq hS.T hT10 hS.x (k - 1)), zi9, zl9, q2, q3.trans B0, (FX.fr (lo := o + 1) (hi := o + 31) ((W3.to (by omega) (by omega)).tr (BF.to (by omega) (by omega))) (by omega) (by omega)).tr (q4.fr (lo := o + 18) (hi := o + 22) (by omega) (by omega) |>.to (by omega) (by omega))⟩
      · refine ev_blk (B := [(.iconst 1, 1), (.aload_n 0, 1)]) (pe := 26) (ls' := [some (.ref (o)), some (.int (nI k)), none]) (st' := [.ref (o), .int (nI 1)]) ⟨dX11_statesAfter_24, dX11_statesAfter_25, rfl⟩ rfl ?_
        refine ev_getf (v := .int (nI (S.x.1))) F_RX11_169 dX11_statesAfter_26 f2 (congrArg (fun q => some (Value.int q)) hR.p.2.1) ?_
        refine ev_blk (B := [(.ishl, 1)]) (pe := 30) (ls' := [some (.ref (o)), some (.int (nI k)), none]) (st' := [.int ((nI 1) <<< ((nI (S.x.1)) &&& 31))]) ⟨dX11_statesAfter_29, rfl⟩ rfl ?_
        refine ev_iret dX11_statesAfter_30 rfl (rfl) ⟨Nat.le_of_ble_eq_true rfl, Nat.le_of_ble_eq_true rfl⟩ ?_
        have W5 : FX o (o + 31) (o + 31) M M1 := ⟨by rw [eM1]; simp only [List.length_set], fun j hj1 hj2 => by rw [eM1, ev_sn (by omega)]⟩
        have e9 : sAft S (nI k) = (0, (1 : Int32) <<< (nI S.x.1 &&& 31)) := by
          unfold sAft
          simp only [tN, tk]
          rw [if_neg (show ¬ inR (nI k) 5 = false by rw [jk]; decide), if_pos q21]
        rw [e9]
        exact ⟨rfl, _, _, ⟨f2, ⟨hR.p.1, hR.p.2.1, hR.p.2.2.1, hR.p.2.2.2.1, hR.p.2.2.2.2.1, hR.p.2.2.2.2.2.1, hR.p.2.2.2.2.2.2.1, hR.p.2.2.2.2.2.2.2.1, hR.p.2.2.2.2.2.2.2.2.1, hR.p.2.2.2.2.2.2.2.2.2⟩, (hR.T.fx W5 (by omega) (by omega)), (hR.H.fx W5 (by omega)), (hR.y.fx W5 (by omega)), (hR.G.fx W5 (by omega) (by omega)), (hR.a.fx W5 (by omega)), (hR.u.fx W5 (by omega)), (hR.x.fx W5 (by omega)), (hR.k.fx W5 (by omega)), (hR.s.fx W5 (by omega))⟩, rfl, (FX.fr (lo := o + 1) (hi := o + 31) (W5.to (by omega) (by omega)) (by omega) (by omega))⟩
    · exact absurd q6 (by decide)
  · have ia9 := ia
    refine ev_body hl rfl (by decide +kernel) (Nat.le_of_ble_eq_true rfl) ?_
    show ev_ l m_X11_statesAfter 0 0 0 [some (.ref (o)), some (.int (a)), none] [] M _
    refine ev_blk (B := [(.iload_n 1, 1), (.iconst 0, 1), (.iconst 4, 1)]) (pe := 3) (ls' := [some (.ref (o)), some (.int (a)), none]) (st' := [.int (nI 4), .int (nI 0), .int (a)]) ⟨dX11_statesAfter_0, dX11_statesAfter_1, dX11_statesAfter_2, rfl⟩ rfl ?_
    refine ev_cSv Y_X11_isBetween L_RX11_134 dX11_statesAfter_3 ⟨Nat.le_of_ble_eq_true rfl, Nat.le_of_ble_eq_true rfl, Nat.le_of_ble_eq_true rfl, Nat.le_of_ble_eq_true rfl, Nat.le_of_ble_eq_true rfl⟩ (as := [.int (a), .int (nI 0), .int (nI 4)]) rfl rfl (c_R_isBF hl _ _ _ (isb_c (by decide) rfl ia)) ?_
    refine ev_ifB_ne dX11_statesAfter_6 (tgt := 15) (by decide) (fun q6 => ?_) (fun q6 => ?_)
    · exact absurd q6 (by decide)
    · refine ev_blk (B := [(.aload_n 0, 1), (.iconst 1, 1)]) (pe := 11) (ls' := [some (.ref (o)), some (.int (a)), none]) (st' := [.int (nI 1), .ref (o)]) ⟨dX11_statesAfter_9, dX11_statesAfter_10, rfl⟩ rfl ?_
      refine ev_cVv Y_X11_fails L_RX11_144 dX11_statesAfter_11 ⟨Nat.le_of_ble_eq_true rfl, Nat.le_of_ble_eq_true rfl, Nat.le_of_ble_eq_true rfl, Nat.le_of_ble_eq_true rfl, Nat.le_of_ble_eq_true rfl⟩ hR.z (as := [.int (nI 1)]) rfl rfl (c_R_fails hl o (zi) (zl) hR.z 1) ?_
      refine ev_nm (M0 := M.set o (.inr (10, zo o (ui (zi) 0 (nI 1)) (zl)))) (fun Mf eMf => ?_)
      have ff : Mf[o]? = some (.inr (10, zo o (ui (zi) 0 (nI 1)) (zl))) := by rw [eMf]; exact ev_sg hR.z
      refine ev_iret dX11_statesAfter_14 rfl (rfl) ⟨Nat.le_of_ble_eq_true rfl, Nat.le_of_ble_eq_true rfl⟩ ?_
      have W6 : FX o (o + 31) (o + 31) M Mf := ⟨by rw [eMf]; simp only [List.length_set], fun j hj1 hj2 => by rw [eMf, ev_sn (by omega)]⟩
      have e9 : sAft S a = (1, 0) := by simp [sAft, ia, q6]
      rw [e9]
      exact ⟨rfl, _, _, ⟨ff, ⟨hR.p.1, hR.p.2.1, hR.p.2.2.1, hR.p.2.2.2.1, hR.p.2.2.2.2.1, hR.p.2.2.2.2.2.1, hR.p.2.2.2.2.2.2.1, hR.p.2.2.2.2.2.2.2.1, hR.p.2.2.2.2.2.2.2.2.1, hR.p.2.2.2.2.2.2.2.2.2⟩, (hR.T.fx W6 (by omega) (by omega)), (hR.H.fx W6 (by omega)), (hR.y.fx W6 (by omega)), (hR.G.fx W6 (by omega) (by omega)), (hR.a.fx W6 (by omega)), (hR.u.fx W6 (by omega)), (hR.x.fx W6 (by omega)), (hR.k.fx W6 (by omega)), (hR.s.fx W6 (by omega))⟩, rfl, (FX.fr (lo := o + 1) (hi := o + 31) (W6.to (by omega) (by omega)) (by omega) (by omega))⟩

set_option maxHeartbeats 4000000 in
set_option maxRecDepth 100000 in
theorem r_isLast {l : Launch} (hl : l.stackTraces = false) {M : ev_M} (o : Nat) (S : St) (hS : okS S) (hT10 : S.T.length ≤ 10) (hG3 : S.G.length ≤ 3) (hH20 : S.H.length ≤ 20) (zi : Nat → Int32) (zl : Nat → Int64) (hR : RR M o S zi zl) (a b : Int32) : ev_Mt l m_X11_isLast [.ref (o), .int (a), .int (b)] M (fun r M1 => r = .inl (some (.int (sLas S a b).2)) ∧ ∃ zi' zl', RR M1 o S zi' zl' ∧ zi' 0 = nI (sLas S a b).1 ∧ Fr o (o + 31) M M1) := by
  rcases inR_c a S.T.length (by omega) with ⟨k, hk, rfl⟩ | ia
  · rcases inR_c b 5 (by omega) with ⟨j, hj, rfl⟩ | ib
    · rcases Nat.eq_zero_or_pos j with hz | hz
      · have jk : inR (nI k) S.T.length = true := inR_n hk (by omega)
        have tk : (nI k).toNatClampNeg = k := nI_clamp (by omega)
        have jj : inR (nI j) 5 = true := inR_n hj (by omega)
        have tj : (nI j).toNatClampNeg = j := nI_clamp (by omega)
        have hbn : ¬ (nI 1 ≤ nI j ∧ nI j ≤ nI 4) := by rw [hz]; decide
        refine ev_body hl rfl (by decide +kernel) (Nat.le_of_ble_eq_true rfl) ?_
        show ev_ l m_X11_isLast 0 0 0 [some (.ref (o)), some (.int (nI k)), some (.int (nI j))] [] M _
        refine ev_blk (B := [(.aload_n 0, 1), (.iload_n 1, 1)]) (pe := 2) (ls' := [some (.ref (o)), some (.int (nI k)), some (.int (nI j))]) (st' := [.int (nI k), .ref (o)]) ⟨dX11_isLast_0, dX11_isLast_1, rfl⟩ rfl ?_
        refine ev_cVv Y_X11_isTransition L_RX11_152 dX11_isLast_2 ⟨Nat.le_of_ble_eq_true rfl, Nat.le_of_ble_eq_true rfl, Nat.le_of_ble_eq_true rfl, Nat.le_of_ble_eq_true rfl, Nat.le_of_ble_eq_true rfl⟩ hR.z (as := [.int (nI k)]) rfl rfl (c_R_isTransition hl o (zi) (zl) hR.z S.T.length hR.p.1 (nI k)) ?_
        refine ev_ifB_ne dX11_isLast_5 (tgt := 14) (by decide) (fun q5 => ?_) (fun q5 => ?_)
        · refine ev_blk (B := [(.iload_n 2, 1), (.iconst 1, 1), (.iconst 4, 1)]) (pe := 17) (ls' := [some (.ref (o)), some (.int (nI k)), some (.int (nI j))]) (st' := [.int (nI 4), .int (nI 1), .int (nI j)]) ⟨dX11_isLast_14, dX11_isLast_15, dX11_isLast_16, rfl⟩ rfl ?_
          refine ev_cSv Y_X11_isBetween L_RX11_134 dX11_isLast_17 ⟨Nat.le_of_ble_eq_true rfl, Nat.le_of_ble_eq_true rfl, Nat.le_of_ble_eq_true rfl, Nat.le_of_ble_eq_true rfl, Nat.le_of_ble_eq_true rfl⟩ (as := [.int (nI j), .int (nI 1), .int (nI 4)]) rfl rfl (c_R_isBF hl _ _ _ hbn) ?_
          refine ev_ifB_ne dX11_isLast_20 (tgt := 29) (by decide) (fun q20 => ?_) (fun q20 => ?_)
          · exact absurd q20 (by decide)
          · refine ev_blk (B := [(.aload_n 0, 1), (.iconst 2, 1)]) (pe := 25) (ls' := [some (.ref (o)), some (.int (nI k)), some (.int (nI j))]) (st' := [.int (nI 2), .ref (o)]) ⟨dX11_isLast_23, dX11_isLast_24, rfl⟩ rfl ?_
            refine ev_cVv Y_X11_refuses L_RX11_222 dX11_isLast_25 ⟨Nat.le_of_ble_eq_true rfl, Nat.le_of_ble_eq_true rfl, Nat.le_of_ble_eq_true rfl, Nat.le_of_ble_eq_true rfl, Nat.le_of_ble_eq_true rfl⟩ hR.z (as := [.int (nI 2)]) rfl rfl (c_R_refuses hl o (zi) (zl) hR.z 2) ?_
            refine ev_nm (M0 := M.set o (.inr (10, zo o (ui (zi) 0 (nI 2)) (zl)))) (fun Mf eMf => ?_)
            have ff : Mf[o]? = some (.inr (10, zo o (ui (zi) 0 (nI 2)) (zl))) := by rw [eMf]; exact ev_sg hR.z
            refine ev_iret dX11_isLast_28 rfl (ev_b_nar _) ⟨Nat.le_of_ble_eq_true rfl, Nat.le_of_ble_eq_true rfl⟩ ?_
            have W1 : FX o (o + 31) (o + 31) M Mf := ⟨by rw [eMf]; simp only [List.length_set], fun j hj1 hj2 => by rw [eMf, ev_sn (by omega)]⟩
            have e9 : sLas S (nI k) (nI j) = (2, 0) := by
              unfold sLas
              simp only [tN, tj]
              rw [if_neg (show ¬ inR (nI k) S.T.length = false by rw [jk]; decide), if_neg (show ¬ inR (nI j) 5 = false by rw [jj]; decide), if_pos hz]
            rw [e9]
            exact ⟨rfl, _, _, ⟨ff, ⟨hR.p.1, hR.p.2.1, hR.p.2.2.1, hR.p.2.2.2.1, hR.p.2.2.2.2.1, hR.p.2.2.2.2.2.1, hR.p.2.2.2.2.2.2.1, hR.p.2.2.2.2.2.2.2.1, hR.p.2.2.2.2.2.2.2.2.1, hR.p.2.2.2.2.2.2.2.2.2⟩, (hR.T.fx W1 (by omega) (by omega)), (hR.H.fx W1 (by omega)), (hR.y.fx W1 (by omega)), (hR.G.fx W1 (by omega) (by omega)), (hR.a.fx W1 (by omega)), (hR.u.fx W1 (by omega)), (hR.x.fx W1 (by omega)), (hR.k.fx W1 (by omega)), (hR.s.fx W1 (by omega))⟩, rfl, (FX.fr (lo := o + 1) (hi := o + 31) (W1.to (by omega) (by omega)) (by omega) (by omega))⟩
        · exact absurd (jk.symm.trans q5) (by decide)
      · have jk : inR (nI k) S.T.length = true := inR_n hk (by omega)
        have tk : (nI k).toNatClampNeg = k := nI_clamp (by omega)
        have jj : inR (nI j) 5 = true := inR_n hj (by omega)
        have tj : (nI j).toNatClampNeg = j := nI_clamp (by omega)
        have e9Q : sLas S (nI k) (nI j) = (0, ev_b (decide ((lfs S.T (rch S.T S.x (j - 1)) (rch S.T S.x (j - 1)).length >>> (nI k &&& 31)) &&& nI 1 = nI 1))) := by
          unfold sLas
          simp only [tN, tk, tj]
          rw [if_neg (show ¬ inR (nI k) S.T.length = false by rw [jk]; decide), if_neg (show ¬ inR (nI j) 5 = false by rw [jj]; decide), if_neg (show ¬ j = 0 by omega)]
        refine ev_body hl rfl (by decide +kernel) (Nat.le_of_ble_eq_true rfl) ?_
        show ev_ l m_X11_isLast 0 0 0 [some (.ref (o)), some (.int (nI k)), some (.int (nI j))] [] M _
        refine ev_blk (B := [(.aload_n 0, 1), (.iload_n 1, 1)]) (pe := 2) (ls' := [some (.ref (o)), some (.int (nI k)), some (.int (nI j))]) (st' := [.int (nI k), .ref (o)]) ⟨dX11_isLast_0, dX11_isLast_1, rfl⟩ rfl ?_
        refine ev_cVv Y_X11_isTransition L_RX11_152 dX11_isLast_2 ⟨Nat.le_of_ble_eq_true rfl, Nat.le_of_ble_eq_true rfl, Nat.le_of_ble_eq_true rfl, Nat.le_of_ble_eq_true rfl, Nat.le_of_ble_eq_true rfl⟩ hR.z (as := [.int (nI k)]) rfl rfl (c_R_isTransition hl o (zi) (zl) hR.z S.T.length hR.p.1 (nI k)) ?_
        refine ev_ifB_ne dX11_isLast_5 (tgt := 14) (by decide) (fun q5 => ?_) (fun q5 => ?_)
        · refine ev_blk (B := [(.iload_n 2, 1), (.iconst 1, 1), (.iconst 4, 1)]) (pe := 17) (ls' := [some (.ref (o)), some (.int (nI k)), some (.int (nI j))]) (st' := [.int (nI 4), .int (nI 1), .int (nI j)]) ⟨dX11_isLast_14, dX11_isLast_15, dX11_isLast_16, rfl⟩ rfl ?_
          refine ev_cSv Y_X11_isBetween L_RX11_134 dX11_isLast_17 ⟨Nat.le_of_ble_eq_true rfl, Nat.le_of_ble_eq_true rfl, Nat.le_of_ble_eq_true rfl, Nat.le_of_ble_eq_true rfl, Nat.le_of_ble_eq_true rfl⟩ (as := [.int (nI j), .int (nI 1), .int (nI 4)]) rfl rfl (c_R_isBT hl _ _ _ (nI_le (by omega) (by omega)) (nI_le (by omega) (by omega))) ?_
          refine ev_ifB_ne dX11_isLast_20 (tgt := 29) (by decide) (fun q20 => ?_) (fun q20 => ?_)
          · refine ev_blk (B := [(.aload_n 0, 1), (.iconst 0, 1)]) (pe := 31) (ls' := [some (.ref (o)), some (.int (nI k)), some (.int (nI j))]) (st' := [.int (nI 0), .ref (o)]) ⟨dX11_isLast_29, dX11_isLast_30, rfl⟩ rfl ?_
            refine ev_put F_RX11_106 dX11_isLast_31 hR.z (Nat.le_of_ble_eq_true rfl) (fun _ _ => ⟨rfl, rfl⟩) ?_
            rw [zs_0]
            refine ev_nm (M0 := M.set (o) (.inr (10, zo o (ui (zi) 0 (nI 0)) (zl)))) (fun M2 eM2 => ?_)
            have f3 : M2[o]? = some (.inr (10, zo o (ui (zi) 0 (nI 0)) (zl))) := by rw [eM2]; exact ev_sg hR.z
            refine ev_blk (B := [(.aload_n 0, 1)]) (pe := 35) (ls' := [some (.ref (o)), some (.int (nI k)), some (.int (nI j))]) (st' := [.ref (o)]) ⟨dX11_isLast_34, rfl⟩ rfl ?_
            have W4 : FX o (o + 31) (o + 31) M M2 := ⟨by rw [eM2]; simp only [List.length_set], fun j hj1 hj2 => by rw [eM2, ev_sn (by omega)]⟩
            have hRz : RR M2 o S (ui (zi) 0 (nI 0)) (zl) := ⟨f3, ⟨hR.p.1, hR.p.2.1, hR.p.2.2.1, hR.p.2.2.2.1, hR.p.2.2.2.2.1, hR.p.2.2.2.2.2.1, hR.p.2.2.2.2.2.2.1, hR.p.2.2.2.2.2.2.2.1, hR.p.2.2.2.2.2.2.2.2.1, hR.p.2.2.2.2.2.2.2.2.2⟩, (hR.T.fx W4 (by omega) (by omega)), (hR.H.fx W4 (by omega)), (hR.y.fx W4 (by omega)), (hR.G.fx W4 (by omega) (by omega)), (hR.a.fx W4 (by omega)), (hR.u.fx W4 (by omega)), (hR.x.fx W4 (by omega)), (hR.k.fx W4 (by omega)), (hR.s.fx W4 (by omega))⟩
            refine ev_cVn Y_X11_begins L_RX11_290 dX11_isLast_35 ⟨Nat.le_of_ble_eq_true rfl, Nat.le_of_ble_eq_true rfl, Nat.le_of_ble_eq_true rfl, Nat.le_of_ble_eq_true rfl, Nat.le_of_ble_eq_true rfl⟩ f3 (as := []) rfl rfl (c_R_begins hl o S hS (ui (zi) 0 (nI 0)) (zl) hRz) (fun M5 hL5 hB5 => ?_)
            obtain ⟨Bi, Bl, BR, B0, B36, B11, B13, B14, BL, BF⟩ := hB5
            refine ev_blk (B := [(.iload_n 2, 1), (.iconst 1, 1)]) (pe := 40) (ls' := [some (.ref (o)), some (.int (nI k)), some (.int (nI j))]) (st' := [.int (nI 1), .int (nI j)]) ⟨dX11_isLast_38, dX11_isLast_39, rfl⟩ rfl ?_
            refine ev_iN_ne dX11_isLast_40 (tgt := 49) (by decide) (by omega) (by omega) (fun q40 => ?_) (fun q40 => ?_)
            · obtain ⟨f, rfl⟩ : ∃ f, j = f + 1 := ⟨j - 1, by omega⟩
              refine ev_mono (fun r M9 hq => ?_) (c_R_las_l hl o S hS hT10 f (by omega) Bi M5 k (f + 1) hk rfl (lv S.T f S.x) [(S.x, 0)] _ Bi Bl BR.z BR B36 (by show 1 ≤ f + 1; omega) BL rfl FX.rf ?_)
              · obtain ⟨q1, zi9, zl9, q2, q3, q4⟩ := hq
                rw [e9Q]
                exact ⟨by rw [q1]; exact congrArg (fun z => Sum.inl (some (Value.int (ev_b z)))) (las_eq hT10 hk f), zi9, zl9, q2, q3.trans B0, (FX.fr (lo := o + 1) (hi := o + 31) ((W4.to (by omega) (by omega)).tr (BF.to (by omega) (by omega))) (by omega) (by omega)).tr (q4.fr (lo := o + 18) (hi := o + 22) (by omega) (by omega) |>.to (by omega) (by omega))⟩
              · show lvf S.T (f - 0) S.x 0 ++ [] = _
                rw [List.append_nil, Nat.sub_zero]
                obtain ⟨n, rfl⟩ : ∃ n, f = n + 1 := ⟨f - 1, by omega⟩
                rfl
            · refine ev_blk (B := [(.aload_n 0, 1), (.iload_n 1, 1)]) (pe := 45) (ls' := [some (.ref (o)), some (.int (nI k)), some (.int (nI j))]) (st' := [.int (nI k), .ref (o)]) ⟨dX11_isLast_43, dX11_isLast_44, rfl⟩ rfl ?_
              obtain ⟨fT, hfT, hPT⟩ := BR.T
              refine ev_cVv Y_X11_mayFire L_RX11_202 dX11_isLast_45 ⟨Nat.le_of_ble_eq_true rfl, Nat.le_of_ble_eq_true rfl, Nat.le_of_ble_eq_true rfl, Nat.le_of_ble_eq_true rfl, Nat.le_of_ble_eq_true rfl⟩ BR.z (as := [.int (nI k)]) rfl rfl (c_R_mayFire hl o (Bi) (Bl) BR.z fT hfT S.T hPT hT10 hS.T k hk S.x (hS.x.le (by omega)) B11 B13 B14) ?_
              refine ev_iret dX11_isLast_48 rfl (ev_b_nar _) ⟨Nat.le_of_ble_eq_true rfl, Nat.le_of_ble_eq_true rfl⟩ ?_
              obtain rfl : j = 1 := q40
              rw [e9Q]
              exact ⟨congrArg (fun z => Sum.inl (some (Value.int (ev_b z)))) ((by simp [lv] : mf S.x (tg S.T k) true = (lv S.T 0 S.x).any (fun y => mf y (tg S.T k) true)).trans (las_eq hT10 hk 0)), Bi, Bl, BR, B0, (FX.fr (lo := o + 1) (hi := o + 31) ((W4.to (by omega) (by omega)).tr (BF.to (by omega) (by omega))) (by omega) (by omega))⟩
          · exact absurd q20 (by decide)
        · exact absurd (jk.symm.trans q5) (by decide)
    · have jk : inR (nI k) S.T.length = true := inR_n hk (by omega)
      have tk : (nI k).toNatClampNeg = k := nI_clamp (by omega)
      have hbn : ¬ (nI 1 ≤ b ∧ b ≤ nI 4) := fun z => isb_c (n := 5) (by decide) rfl ib ⟨Int32.le_trans (by decide) z.1, z.2⟩
      refine ev_body hl rfl (by decide +kernel) (Nat.le_of_ble_eq_true rfl) ?_
      show ev_ l m_X11_isLast 0 0 0 [some (.ref (o)), some (.int (nI k)), some (.int (b))] [] M _
      refine ev_blk (B := [(.aload_n 0, 1), (.iload_n 1, 1)]) (pe := 2) (ls' := [some (.ref (o)), some (.int (nI k)), some (.int (b))]) (st' := [.int (nI k), .ref (o)]) ⟨dX11_isLast_0, dX11_isLast_1, rfl⟩ rfl ?_
      refine ev_cVv Y_X11_isTransition L_RX11_152 dX11_isLast_2 ⟨Nat.le_of_ble_eq_true rfl, Nat.le_of_ble_eq_true rfl, Nat.le_of_ble_eq_true rfl, Nat.le_of_ble_eq_true rfl, Nat.le_of_ble_eq_true rfl⟩ hR.z (as := [.int (nI k)]) rfl rfl (c_R_isTransition hl o (zi) (zl) hR.z S.T.length hR.p.1 (nI k)) ?_
      refine ev_ifB_ne dX11_isLast_5 (tgt := 14) (by decide) (fun q5 => ?_) (fun q5 => ?_)
      · refine ev_blk (B := [(.iload_n 2, 1), (.iconst 1, 1), (.iconst 4, 1)]) (pe := 17) (ls' := [some (.ref (o)), some (.int (nI k)), some (.int (b))]) (st' := [.int (nI 4), .int (nI 1), .int (b)]) ⟨dX11_isLast_14, dX11_isLast_15, dX11_isLast_16, rfl⟩ rfl ?_
        refine ev_cSv Y_X11_isBetween L_RX11_134 dX11_isLast_17 ⟨Nat.le_of_ble_eq_true rfl, Nat.le_of_ble_eq_true rfl, Nat.le_of_ble_eq_true rfl, Nat.le_of_ble_eq_true rfl, Nat.le_of_ble_eq_true rfl⟩ (as := [.int (b), .int (nI 1), .int (nI 4)]) rfl rfl (c_R_isBF hl _ _ _ hbn) ?_
        refine ev_ifB_ne dX11_isLast_20 (tgt := 29) (by decide) (fun q20 => ?_) (fun q20 => ?_)
        · exact absurd q20 (by decide)
        · refine ev_blk (B := [(.aload_n 0, 1), (.iconst 2, 1)]) (pe := 25) (ls' := [some (.ref (o)), some (.int (nI k)), some (.int (b))]) (st' := [.int (nI 2), .ref (o)]) ⟨dX11_isLast_23, dX11_isLast_24, rfl⟩ rfl ?_
          refine ev_cVv Y_X11_refuses L_RX11_222 dX11_isLast_25 ⟨Nat.le_of_ble_eq_true rfl, Nat.le_of_ble_eq_true rfl, Nat.le_of_ble_eq_true rfl, Nat.le_of_ble_eq_true rfl, Nat.le_of_ble_eq_true rfl⟩ hR.z (as := [.int (nI 2)]) rfl rfl (c_R_refuses hl o (zi) (zl) hR.z 2) ?_
          refine ev_nm (M0 := M.set o (.inr (10, zo o (ui (zi) 0 (nI 2)) (zl)))) (fun Mf eMf => ?_)
          have ff : Mf[o]? = some (.inr (10, zo o (ui (zi) 0 (nI 2)) (zl))) := by rw [eMf]; exact ev_sg hR.z
          refine ev_iret dX11_isLast_28 rfl (ev_b_nar _) ⟨Nat.le_of_ble_eq_true rfl, Nat.le_of_ble_eq_true rfl⟩ ?_
          have W6 : FX o (o + 31) (o + 31) M Mf := ⟨by rw [eMf]; simp only [List.length_set], fun j hj1 hj2 => by rw [eMf, ev_sn (by omega)]⟩
          have e9 : sLas S (nI k) b = (2, 0) := by unfold sLas; rw [if_neg (show ¬ inR (nI k) S.T.length = false by rw [jk]; decide), if_pos ib]
          rw [e9]
          exact ⟨rfl, _, _, ⟨ff, ⟨hR.p.1, hR.p.2.1, hR.p.2.2.1, hR.p.2.2.2.1, hR.p.2.2.2.2.1, hR.p.2.2.2.2.2.1, hR.p.2.2.2.2.2.2.1, hR.p.2.2.2.2.2.2.2.1, hR.p.2.2.2.2.2.2.2.2.1, hR.p.2.2.2.2.2.2.2.2.2⟩, (hR.T.fx W6 (by omega) (by omega)), (hR.H.fx W6 (by omega)), (hR.y.fx W6 (by omega)), (hR.G.fx W6 (by omega) (by omega)), (hR.a.fx W6 (by omega)), (hR.u.fx W6 (by omega)), (hR.x.fx W6 (by omega)), (hR.k.fx W6 (by omega)), (hR.s.fx W6 (by omega))⟩, rfl, (FX.fr (lo := o + 1) (hi := o + 31) (W6.to (by omega) (by omega)) (by omega) (by omega))⟩
      · exact absurd (jk.symm.trans q5) (by decide)
  · have y9 : True := trivial
    refine ev_body hl rfl (by decide +kernel) (Nat.le_of_ble_eq_true rfl) ?_
    show ev_ l m_X11_isLast 0 0 0 [some (.ref (o)), some (.int (a)), some (.int (b))] [] M _
    refine ev_blk (B := [(.aload_n 0, 1), (.iload_n 1, 1)]) (pe := 2) (ls' := [some (.ref (o)), some (.int (a)), some (.int (b))]) (st' := [.int (a), .ref (o)]) ⟨dX11_isLast_0, dX11_isLast_1, rfl⟩ rfl ?_
    refine ev_cVv Y_X11_isTransition L_RX11_152 dX11_isLast_2 ⟨Nat.le_of_ble_eq_true rfl, Nat.le_of_ble_eq_true rfl, Nat.le_of_ble_eq_true rfl, Nat.le_of_ble_eq_true rfl, Nat.le_of_ble_eq_true rfl⟩ hR.z (as := [.int (a)]) rfl rfl (c_R_isTransition hl o (zi) (zl) hR.z S.T.length hR.p.1 a) ?_
    refine ev_ifB_ne dX11_isLast_5 (tgt := 14) (by decide) (fun q5 => ?_) (fun q5 => ?_)
    · exact absurd (ia.symm.trans q5) (by decide)
    · refine ev_blk (B := [(.aload_n 0, 1), (.iconst 1, 1)]) (pe := 10) (ls' := [some (.ref (o)), some (.int (a)), some (.int (b))]) (st' := [.int (nI 1), .ref (o)]) ⟨dX11_isLast_8, dX11_isLast_9, rfl⟩ rfl ?_
      refine ev_cVv Y_X11_refuses L_RX11_222 dX11_isLast_10 ⟨Nat.le_of_ble_eq_true rfl, Nat.le_of_ble_eq_true rfl, Nat.le_of_ble_eq_true rfl, Nat.le_of_ble_eq_true rfl, Nat.le_of_ble_eq_true rfl⟩ hR.z (as := [.int (nI 1)]) rfl rfl (c_R_refuses hl o (zi) (zl) hR.z 1) ?_
      refine ev_nm (M0 := M.set o (.inr (10, zo o (ui (zi) 0 (nI 1)) (zl)))) (fun Mf eMf => ?_)
      have ff : Mf[o]? = some (.inr (10, zo o (ui (zi) 0 (nI 1)) (zl))) := by rw [eMf]; exact ev_sg hR.z
      refine ev_iret dX11_isLast_13 rfl (ev_b_nar _) ⟨Nat.le_of_ble_eq_true rfl, Nat.le_of_ble_eq_true rfl⟩ ?_
      have W7 : FX o (o + 31) (o + 31) M Mf := ⟨by rw [eMf]; simp only [List.length_set], fun j hj1 hj2 => by rw [eMf, ev_sn (by omega)]⟩
      have e9 : sLas S a b = (1, 0) := by unfold sLas; rw [if_pos ia]
      rw [e9]
      exact ⟨rfl, _, _, ⟨ff, ⟨hR.p.1, hR.p.2.1, hR.p.2.2.1, hR.p.2.2.2.1, hR.p.2.2.2.2.1, hR.p.2.2.2.2.2.1, hR.p.2.2.2.2.2.2.1, hR.p.2.2.2.2.2.2.2.1, hR.p.2.2.2.2.2.2.2.2.1, hR.p.2.2.2.2.2.2.2.2.2⟩, (hR.T.fx W7 (by omega) (by omega)), (hR.H.fx W7 (by omega)), (hR.y.fx W7 (by omega)), (hR.G.fx W7 (by omega) (by omega)), (hR.a.fx W7 (by omega)), (hR.u.fx W7 (by omega)), (hR.x.fx W7 (by omega)), (hR.k.fx W7 (by omega)), (hR.s.fx W7 (by omega))⟩, rfl, (FX.fr (lo := o + 1) (hi := o + 31) (W7.to (by omega) (by omega)) (by omega) (by omega))⟩

