/-! ===== configurations: what both sides hold, and what they do with lists of them ===== -/
abbrev Cf : Type := Nat × List Nat × List Nat
def cf0 : Cf := (0, [], [])
def cfW (k : Nat) (c : Cf) : Prop := c.1 < 6 ∧ wk c.2.1 ∧ c.2.1.length ≤ k ∧ wk c.2.2 ∧ c.2.2.length ≤ k
abbrev cfO (c : Cf) : Prop := cfW 25 c
def cfs (k : Nat) (L : List Cf) : Prop := ∀ c ∈ L, cfW k c
def cg (L : List Cf) (i : Nat) : Cf := L.getD i cf0
theorem cfW.le {k m : Nat} (h : k ≤ m) {c : Cf} (hc : cfW k c) : cfW m c := ⟨hc.1, hc.2.1, Nat.le_trans hc.2.2.1 h, hc.2.2.2.1, Nat.le_trans hc.2.2.2.2 h⟩
theorem cfs.le {k m : Nat} (h : k ≤ m) {L : List Cf} (hL : cfs k L) : cfs m L := fun c hc => (hL c hc).le h
theorem cg_get {L : List Cf} {i : Nat} (h : i < L.length) : cg L i = L[i] := by simp [cg, h]
theorem cg_mem {L : List Cf} {i : Nat} (h : i < L.length) : cg L i ∈ L := by rw [cg_get h]; exact List.getElem_mem h
theorem cfs_cg {k : Nat} {L : List Cf} (hL : cfs k L) {i : Nat} (h : i < L.length) : cfW k (cg L i) := hL _ (cg_mem h)
theorem cg_app_l {L R : List Cf} {i : Nat} (h : i < L.length) : cg (L ++ R) i = cg L i := by
  rw [cg_get h, cg_get (by rw [List.length_append]; omega), List.getElem_append_left h]
theorem cg_app_r {L R : List Cf} {i : Nat} : cg (L ++ R) (L.length + i) = cg R i := by
  unfold cg
  rw [List.getD_eq_getElem?_getD, List.getD_eq_getElem?_getD, List.getElem?_append_right (Nat.le_add_right _ _), Nat.add_sub_cancel_left]
theorem cfs_nil {k : Nat} : cfs k [] := fun _ h => absurd h List.not_mem_nil
theorem cfs_app {k : Nat} {L R : List Cf} : cfs k (L ++ R) ↔ cfs k L ∧ cfs k R := by
  unfold cfs
  constructor
  · intro h; exact ⟨fun c hc => h c (List.mem_append_left _ hc), fun c hc => h c (List.mem_append_right _ hc)⟩
  · rintro ⟨h1, h2⟩ c hc
    rcases List.mem_append.mp hc with q | q
    · exact h1 c q
    · exact h2 c q
theorem cfs_one {k : Nat} {c : Cf} : cfs k [c] ↔ cfW k c := by simp [cfs]
/-- a word is below another -/
def wb (a b : List Nat) : Bool := List.isSublist a b
/-- a configuration is below another -/
def cb (a b : Cf) : Bool := a.1 == b.1 && (wb a.2.1 b.2.1 && wb a.2.2 b.2.2)
/-- the order of a basis -/
def cl (a b : Cf) : Bool := if a.1 = b.1 then (if n1 a.2.1 = n1 b.2.1 then decide (n1 a.2.2 < n1 b.2.2) else decide (n1 a.2.1 < n1 b.2.1)) else decide (a.1 < b.1)
/-- put in behind what is not greater, from the end -/
def insR (c : Cf) : List Cf → List Cf
  | [] => [c]
  | x :: r => if cl c x then x :: insR c r else c :: x :: r
def ins (c : Cf) (L : List Cf) : List Cf := (insR c L.reverse).reverse
/-- whether it is put in, and the list then -/
def im (L : List Cf) (c : Cf) : Bool × List Cf := if L.any (fun x => cb x c) then (false, L) else (true, ins c (L.filter (fun x => !cb c x)))
/-- the first below, ahead of a limit -/
def fb (L : List Cf) (c : Cf) (lim : Nat) : Option Nat := (List.range (min lim L.length)).find? (fun i => cb (cg L i) c)
def oI (r : Option Nat) : Int32 := match r with
  | some i => nI i
  | none => -1
theorem fb_some {L : List Cf} {c : Cf} {lim i : Nat} (h1 : i < lim) (h2 : i < L.length) (h3 : cb (cg L i) c = true) (h4 : ∀ j, j < i → cb (cg L j) c = false) : fb L c lim = some i := by
  unfold fb
  rw [List.find?_range_eq_some]
  exact ⟨h3, List.mem_range.mpr (by omega), fun j hj => by rw [h4 j hj]; rfl⟩
theorem fb_none {L : List Cf} {c : Cf} {lim : Nat} (h : ∀ j, j < lim → j < L.length → cb (cg L j) c = false) : fb L c lim = none := by
  unfold fb
  rw [List.find?_eq_none]
  intro j hj
  have := List.mem_range.mp hj
  rw [h j (by omega) (by omega)]
  decide
theorem fb_iff {L : List Cf} {c : Cf} : (fb L c L.length).isSome = L.any (fun x => cb x c) := by
  cases h : L.any (fun x => cb x c) with
  | true =>
    obtain ⟨x, hx, hc⟩ := List.any_eq_true.mp h
    obtain ⟨i, hi, rfl⟩ := List.getElem_of_mem hx
    unfold fb
    rw [Nat.min_self, List.find?_isSome]
    exact ⟨i, List.mem_range.mpr hi, by rw [cg_get hi]; exact hc⟩
  | false =>
    rw [fb_none (fun j _ hj => ?_)]
    · rfl
    · have := List.any_eq_false.mp h (cg L j) (cg_mem hj)
      simpa using this
theorem oI_ge {r : Option Nat} (h : ∀ i, r = some i → i < 2 ^ 31) : (0 ≤ oI r) ↔ r.isSome = true := by
  cases r with
  | none => decide
  | some i => exact ⟨fun _ => rfl, fun _ => nI_pos' (h i rfl)⟩
theorem fb_lt {L : List Cf} {c : Cf} {lim i : Nat} (h : fb L c lim = some i) : i < lim ∧ i < L.length ∧ cb (cg L i) c = true := by
  unfold fb at h
  rw [List.find?_range_eq_some] at h
  have := List.mem_range.mp h.2.1
  exact ⟨by omega, by omega, h.1⟩
/-! both numbers order words alike -/
theorem n12 (u : List Nat) : 3 * n2 u + 1 = 3 * wv 0 u + 4 ^ u.length := by
  induction u with
  | nil => rfl
  | cons d r ih =>
    rw [n2_cons]
    show _ = 3 * wv (4 * 0 + d) r + 4 ^ (r.length + 1)
    rw [wv_eq, Nat.pow_succ, Nat.mul_zero, Nat.zero_add]
    have : (d + 1) * 4 ^ r.length = d * 4 ^ r.length + 4 ^ r.length := by rw [Nat.add_mul, Nat.one_mul]
    omega
theorem n12_lt {u v : List Nat} (hu : wk u) (hv : wk v) : n1 u < n1 v ↔ n2 u < n2 v := by
  have a1 := wv_lt hu.to4
  have a2 := wv_lt hv.to4
  have b1 := n12 u
  have b2 := n12 v
  have b3 := wv_lt hu.up
  have b4 := wv_lt hv.up
  rw [List.length_map] at b3 b4
  rw [n1_eq, n1_eq]
  rcases Nat.lt_trichotomy u.length v.length with q | q | q
  · have := p4_lt q
    have c : v ≠ [] := by rintro rfl; exact absurd q (by simp)
    have c2 := n2_ge c
    have c3 : 4 ^ u.length ≤ 4 ^ (v.length - 1) := Nat.pow_le_pow_right (by decide) (by omega)
    have b3' : n2 u < 4 ^ u.length := b3
    constructor
    · intro _; omega
    · intro _; omega
  · rw [q] at a1 b1 ⊢
    omega
  · have := p4_lt q
    have c : u ≠ [] := by rintro rfl; exact absurd q (by simp)
    have c2 := n2_ge c
    have c3 : 4 ^ v.length ≤ 4 ^ (u.length - 1) := Nat.pow_le_pow_right (by decide) (by omega)
    have b4' : n2 v < 4 ^ v.length := b4
    constructor
    · intro _; omega
    · intro _; omega
