/-! ===== lN n to 2^64: shifts, and, or, masks, one bit ===== -/
theorem wb_tb (n : Nat) : (lN n).toBitVec = BitVec.ofNat 64 n := rfl
theorem wb_inj {a b : Int64} (h : a.toBitVec = b.toBitVec) : a = b := Int64.toBitVec_inj.mp h
theorem wb_tn {n : Nat} (h : n < 2 ^ 64) : (lN n).toBitVec.toNat = n := by rw [wb_tb, BitVec.toNat_ofNat, Nat.mod_eq_of_lt h]
theorem wb_of (x : Int64) : ∃ n, n < 2 ^ 64 ∧ x = lN n := ⟨x.toBitVec.toNat, x.toBitVec.isLt, wb_inj (by rw [wb_tb]; simp)⟩
theorem wb_of32 (x : Int32) : ∃ n, n < 2 ^ 32 ∧ x = nI n := ⟨x.toBitVec.toNat, x.toBitVec.isLt, Int32.toBitVec_inj.mp (by show _ = BitVec.ofNat 32 _; simp)⟩
theorem wb_c : ∀ k, k < 64 → ((nI k).toInt64 &&& 63) = lN k := by decide +kernel
theorem wb_cu : ∀ k, k < 64 → ((nI k).toInt64.toUInt64 &&& Int64.toUInt64 63) = UInt64.ofNat k := by decide +kernel
theorem wb_sm : ∀ k, k < 64 → (BitVec.ofNat 64 k).smod 64 = BitVec.ofNat 64 k := by decide +kernel
theorem wb_pw {a b : Nat} (h : a ≤ b) : 2 ^ b = 2 ^ a * 2 ^ (b - a) := by rw [← Nat.pow_add]; congr 1; omega
theorem wb_lt2 {a b : Nat} (h : a < b) : 2 ^ a < 2 ^ b := Nat.pow_lt_pow_right (by decide) h
theorem wb_mod (n : Nat) : lN n = lN (n % 2 ^ 64) := wb_inj (by rw [wb_tb, wb_tb]; apply BitVec.eq_of_toNat_eq; rw [BitVec.toNat_ofNat, BitVec.toNat_ofNat, Nat.mod_mod])
theorem wb_shr {n k : Nat} (hn : n < 2 ^ 64) (hk : k < 64) : ((lN n).toUInt64 >>> ((nI k).toInt64.toUInt64 &&& Int64.toUInt64 63)).toInt64 = lN (n / 2 ^ k) := by
  rw [wb_cu k hk]
  apply wb_inj
  apply BitVec.eq_of_toNat_eq
  show ((lN n).toUInt64 >>> UInt64.ofNat k).toNat = (BitVec.ofNat 64 _).toNat
  have h1 : (UInt64.ofNat k).toNat = k := by
    show (BitVec.ofNat 64 k).toNat = k
    rw [BitVec.toNat_ofNat, Nat.mod_eq_of_lt (by omega)]
  have h2 : (lN n).toUInt64.toNat = n := wb_tn hn
  rw [UInt64.toNat_shiftRight, h1, h2, Nat.mod_eq_of_lt hk, Nat.shiftRight_eq_div_pow, BitVec.toNat_ofNat, Nat.mod_eq_of_lt (Nat.lt_of_le_of_lt (Nat.div_le_self _ _) hn)]
theorem wb_shl (n : Nat) {k : Nat} (hk : k < 64) : lN n <<< ((nI k).toInt64 &&& 63) = lN (n * 2 ^ k) := by
  rw [wb_c k hk]
  apply wb_inj
  rw [Int64.toBitVec_shiftLeft, wb_tb, wb_tb, wb_tb, wb_sm k hk]
  apply BitVec.eq_of_toNat_eq
  rw [BitVec.shiftLeft_eq', BitVec.toNat_shiftLeft, BitVec.toNat_ofNat, BitVec.toNat_ofNat, BitVec.toNat_ofNat, Nat.mod_eq_of_lt (show k < 2 ^ 64 by omega), Nat.shiftLeft_eq, Nat.mul_mod, Nat.mod_mod, ← Nat.mul_mod]
theorem wb_and {a b : Nat} (ha : a < 2 ^ 64) (hb : b < 2 ^ 64) : lN a &&& lN b = lN (a &&& b) := by
  apply wb_inj
  rw [Int64.toBitVec_and, wb_tb, wb_tb, wb_tb]
  apply BitVec.eq_of_toNat_eq
  rw [BitVec.toNat_and, BitVec.toNat_ofNat, BitVec.toNat_ofNat, BitVec.toNat_ofNat, Nat.mod_eq_of_lt ha, Nat.mod_eq_of_lt hb, Nat.mod_eq_of_lt (Nat.and_lt_two_pow _ hb)]
theorem wb_or {a b : Nat} (ha : a < 2 ^ 64) (hb : b < 2 ^ 64) : lN a ||| lN b = lN (a ||| b) := by
  apply wb_inj
  rw [Int64.toBitVec_or, wb_tb, wb_tb, wb_tb]
  apply BitVec.eq_of_toNat_eq
  rw [BitVec.toNat_or, BitVec.toNat_ofNat, BitVec.toNat_ofNat, BitVec.toNat_ofNat, Nat.mod_eq_of_lt ha, Nat.mod_eq_of_lt hb, Nat.mod_eq_of_lt (Nat.or_lt_two_pow ha hb)]
theorem wb_mask {n k : Nat} (hn : n < 2 ^ 64) (hk : k < 64) : lN n &&& lN (2 ^ k - 1) = lN (n % 2 ^ k) := by
  rw [wb_and hn (by have := wb_lt2 hk; omega), Nat.and_two_pow_sub_one_eq_mod]
theorem wb_a1 {n : Nat} (hn : n < 2 ^ 64) : lN n &&& 1 = lN (n % 2) := wb_mask (k := 1) hn (by decide)
theorem wb_bit {n k : Nat} (hn : n < 2 ^ 64) (hk : k < 64) : ((lN n).toUInt64 >>> ((nI k).toInt64.toUInt64 &&& Int64.toUInt64 63)).toInt64 &&& 1 = lN (n / 2 ^ k % 2) := by
  rw [wb_shr hn hk, wb_a1 (Nat.lt_of_le_of_lt (Nat.div_le_self _ _) hn)]
theorem wb_xor {q k : Nat} (hk : k < 63) (h : 2 ^ k ≤ q) (h2 : q < 2 ^ (k + 1)) : lN q ^^^ lN (2 ^ k) = lN (q - 2 ^ k) := by
  obtain ⟨r, rfl⟩ : ∃ r, q = 2 ^ k + r := ⟨q - 2 ^ k, by omega⟩
  have hr : r < 2 ^ k := by rw [Nat.pow_succ] at h2; omega
  have hx : (2 ^ k + r) ^^^ 2 ^ k = r := by
    apply Nat.eq_of_testBit_eq
    intro i
    rw [Nat.testBit_xor, Nat.testBit_two_pow]
    rcases Nat.lt_trichotomy i k with h | h | h
    · rw [Nat.testBit_two_pow_add_gt h]
      simp [show ¬ k = i by omega]
    · subst h
      rw [Nat.testBit_two_pow_add_eq]
      simp
    · have a1 : 2 ^ (k + 1) ≤ 2 ^ i := Nat.pow_le_pow_right (by decide) h
      rw [Nat.testBit_lt_two_pow (show 2 ^ k + r < 2 ^ i by omega), Nat.testBit_lt_two_pow (show r < 2 ^ i by omega)]
      simp [show ¬ k = i by omega]
  have b1 := wb_lt2 (show k + 1 < 64 by omega)
  have b2 := wb_lt2 (show k < 64 by omega)
  apply wb_inj
  rw [Int64.toBitVec_xor, wb_tb, wb_tb, wb_tb]
  apply BitVec.eq_of_toNat_eq
  rw [BitVec.toNat_xor, BitVec.toNat_ofNat, BitVec.toNat_ofNat, BitVec.toNat_ofNat, Nat.mod_eq_of_lt (by omega : 2 ^ k + r < 2 ^ 64), Nat.mod_eq_of_lt b2, hx, Nat.add_sub_cancel_left, Nat.mod_eq_of_lt (by omega)]
/-! ===== lN to 2^62 under >> and >>> ===== -/
theorem pf_lI {a : Nat} (h : a < 2 ^ 63) : (lN a).toInt = (a : Int) := lg_ofNat_toInt h
theorem pf_shr {a d : Nat} {D : Int64} (hD : (D.toBitVec.smod 64).toNat = d) (h : a < 2 ^ 62) : lN a >>> D = lN (a / 2 ^ d) := by
  have hd : a / 2 ^ d ≤ a := Nat.div_le_self _ _
  apply Int64.toInt_inj.mp
  have e : (lN a >>> D).toInt = (lN a).toInt >>> d := by
    rw [← hD]
    exact BitVec.toInt_sshiftRight ..
  rw [e, Int.shiftRight_eq_div_pow, pf_lI (by omega), pf_lI (by omega)]
  rfl
/-! ===== words: lists of letters, as the class and the reference keep them in one number ===== -/
def wv (b : Nat) : List Nat → Nat
  | [] => b
  | d :: r => wv (4 * b + d) r
theorem wv_app (b : Nat) (u v : List Nat) : wv b (u ++ v) = wv (wv b u) v := by
  induction u generalizing b with
  | nil => rfl
  | cons d r ih => exact ih _
theorem wv_eq (b : Nat) (v : List Nat) : wv b v = b * 4 ^ v.length + wv 0 v := by
  induction v generalizing b with
  | nil => simp [wv]
  | cons d r ih =>
    show wv (4 * b + d) r = b * 4 ^ (r.length + 1) + wv (4 * 0 + d) r
    rw [ih (4 * b + d), ih (4 * 0 + d), Nat.pow_succ]
    have : (4 * b + d) * 4 ^ r.length = b * (4 ^ r.length * 4) + d * 4 ^ r.length := by
      rw [Nat.add_mul, Nat.mul_comm 4 b, Nat.mul_assoc, Nat.mul_comm 4]
    rw [this, Nat.mul_zero, Nat.zero_add]
    omega
def wk (w : List Nat) : Prop := ∀ d ∈ w, d < 3
def wk4 (w : List Nat) : Prop := ∀ d ∈ w, d < 4
theorem wk.to4 {w : List Nat} (h : wk w) : wk4 w := fun d hd => Nat.lt_of_lt_of_le (h d hd) (by decide)
theorem wk.up {w : List Nat} (h : wk w) : wk4 (w.map (· + 1)) := fun d hd => by
  obtain ⟨x, hx, rfl⟩ := List.mem_map.mp hd
  exact Nat.succ_lt_succ (h x hx)
theorem wv_lt {v : List Nat} (h : wk4 v) : wv 0 v < 4 ^ v.length := by
  induction v with
  | nil => simp [wv]
  | cons d r ih =>
    show wv (4 * 0 + d) r < 4 ^ (r.length + 1)
    have h1 := ih (fun x hx => h x (List.mem_cons_of_mem _ hx))
    have h2 : d < 4 := h d List.mem_cons_self
    rw [wv_eq, Nat.pow_succ, Nat.mul_zero, Nat.zero_add]
    have h3 : d * 4 ^ r.length ≤ 3 * 4 ^ r.length := Nat.mul_le_mul_right _ (by omega)
    omega
theorem wv_div {b : Nat} {u v : List Nat} (h : wk4 v) : wv b (u ++ v) / 4 ^ v.length = wv b u := by
  rw [wv_app, wv_eq, Nat.mul_comm, Nat.mul_add_div (Nat.pow_pos (by decide)), Nat.div_eq_of_lt (wv_lt h), Nat.add_zero]
theorem wv_mod {b : Nat} {u v : List Nat} (h : wk4 v) : wv b (u ++ v) % 4 ^ v.length = wv 0 v := by
  rw [wv_app, wv_eq, Nat.mul_comm, Nat.mul_add_mod, Nat.mod_eq_of_lt (wv_lt h)]
theorem wv_one {b d : Nat} (u : List Nat) : wv b (u ++ [d]) = 4 * wv b u + d := wv_app b u [d]
/-- the class's number of a word, the reference's -/
def n1 (w : List Nat) : Nat := wv 1 w
def e1 (w : List Nat) : Int64 := lN (n1 w)
def n2 (w : List Nat) : Nat := wv 0 (w.map (· + 1))
def e2 (w : List Nat) : Int64 := lN (n2 w)
theorem n1_eq (w : List Nat) : n1 w = 4 ^ w.length + wv 0 w := by unfold n1; rw [wv_eq, Nat.one_mul]
theorem p4_25 : (4 : Nat) ^ 25 = 1125899906842624 := by decide
theorem p4_le {k : Nat} (h : k ≤ 25) : 4 ^ k ≤ 1125899906842624 := by rw [← p4_25]; exact Nat.pow_le_pow_right (by decide) h
theorem p4_pos (k : Nat) : 0 < 4 ^ k := Nat.pow_pos (by decide)
theorem n1_lt {w : List Nat} (h : wk w) (hl : w.length ≤ 25) : n1 w < 2 ^ 52 := by
  have h1 := wv_lt h.to4
  have h2 := p4_le hl
  rw [n1_eq]
  omega
theorem n1_ge {w : List Nat} : 4 ^ w.length ≤ n1 w := by rw [n1_eq]; exact Nat.le_add_right _ _
theorem n2_lt {w : List Nat} (h : wk w) (hl : w.length ≤ 25) : n2 w < 2 ^ 52 := by
  have h1 := wv_lt h.up
  rw [List.length_map] at h1
  have h2 := p4_le hl
  unfold n2
  omega
theorem n1_nil : n1 [] = 1 := rfl
theorem n2_nil : n2 [] = 0 := rfl
theorem n1_gt {w : List Nat} : 1 < n1 w ↔ w ≠ [] := by
  constructor
  · rintro h rfl; exact absurd h (by decide)
  · intro h
    have h1 : 1 ≤ w.length := List.length_pos_iff.mpr h
    have h2 : 4 ^ 1 ≤ 4 ^ w.length := Nat.pow_le_pow_right (by decide) h1
    have := n1_ge (w := w)
    omega
theorem wk_app {u v : List Nat} : wk (u ++ v) ↔ wk u ∧ wk v := by
  unfold wk
  constructor
  · intro h; exact ⟨fun d hd => h d (List.mem_append_left _ hd), fun d hd => h d (List.mem_append_right _ hd)⟩
  · rintro ⟨h1, h2⟩ d hd
    rcases List.mem_append.mp hd with h | h
    · exact h1 d h
    · exact h2 d h
theorem wk_cons {x : Nat} {v : List Nat} : wk (x :: v) ↔ x < 3 ∧ wk v := by simp [wk]
theorem wk_take {w : List Nat} (h : wk w) (k : Nat) : wk (w.take k) := fun d hd => h d (List.mem_of_mem_take hd)
theorem wk_drop {w : List Nat} (h : wk w) (k : Nat) : wk (w.drop k) := fun d hd => h d (List.mem_of_mem_drop hd)
theorem n1_div {w : List Nat} (h : wk w) {i : Nat} (hi : i ≤ w.length) : n1 w / 4 ^ i = n1 (w.take (w.length - i)) := by
  have h1 : (w.drop (w.length - i)).length = i := by rw [List.length_drop]; omega
  have h2 := wv_div (b := 1) (u := w.take (w.length - i)) (wk_drop h (w.length - i)).to4
  rw [List.take_append_drop, h1] at h2
  exact h2
theorem n1_mod {w : List Nat} (h : wk w) {i : Nat} (hi : i ≤ w.length) : n1 w % 4 ^ i = wv 0 (w.drop (w.length - i)) := by
  have h1 : (w.drop (w.length - i)).length = i := by rw [List.length_drop]; omega
  have h2 := wv_mod (b := 1) (u := w.take (w.length - i)) (wk_drop h (w.length - i)).to4
  rw [List.take_append_drop, h1] at h2
  exact h2
theorem n2_div {w : List Nat} (h : wk w) {i : Nat} (hi : i ≤ w.length) : n2 w / 4 ^ i = n2 (w.take (w.length - i)) := by
  have h1 : ((w.drop (w.length - i)).map (· + 1)).length = i := by rw [List.length_map, List.length_drop]; omega
  have h2 := wv_div (b := 0) (u := (w.take (w.length - i)).map (· + 1)) (wk_drop h (w.length - i)).up
  rw [← List.map_append, List.take_append_drop, h1] at h2
  exact h2
theorem n2_mod {w : List Nat} (h : wk w) {i : Nat} (hi : i ≤ w.length) : n2 w % 4 ^ i = n2 (w.drop (w.length - i)) := by
  have h1 : ((w.drop (w.length - i)).map (· + 1)).length = i := by rw [List.length_map, List.length_drop]; omega
  have h2 := wv_mod (b := 0) (u := (w.take (w.length - i)).map (· + 1)) (wk_drop h (w.length - i)).up
  rw [← List.map_append, List.take_append_drop, h1] at h2
  exact h2
theorem n1_last (u : List Nat) {d : Nat} (hd : d < 4) : n1 (u ++ [d]) % 4 = d ∧ n1 (u ++ [d]) / 4 = n1 u := by
  unfold n1
  rw [wv_one]
  omega
theorem n2_last (u : List Nat) {d : Nat} (hd : d < 3) : n2 (u ++ [d]) % 4 = d + 1 ∧ n2 (u ++ [d]) / 4 = n2 u := by
  unfold n2
  rw [List.map_append]
  show wv 0 (_ ++ [d + 1]) % 4 = d + 1 ∧ wv 0 (_ ++ [d + 1]) / 4 = _
  rw [wv_one]
  omega
theorem n2_snoc (u : List Nat) (d : Nat) : n2 (u ++ [d]) = 4 * n2 u + d + 1 := by
  unfold n2
  rw [List.map_append]
  show wv 0 (_ ++ [d + 1]) = _
  rw [wv_one]
  omega
theorem n1_snoc (u : List Nat) (d : Nat) : n1 (u ++ [d]) = 4 * n1 u + d := wv_one u
theorem n2_pos {w : List Nat} : 0 < n2 w ↔ w ≠ [] := by
  constructor
  · rintro h rfl; exact absurd h (by decide)
  · intro h
    rw [← List.dropLast_concat_getLast h, n2_snoc]
    omega
theorem n2_cons (d : Nat) (w : List Nat) : n2 (d :: w) = (d + 1) * 4 ^ w.length + n2 w := by
  show wv (4 * 0 + (d + 1)) (w.map (· + 1)) = _
  rw [wv_eq, List.length_map, Nat.mul_zero, Nat.zero_add]
  rfl
theorem n1_cons (d : Nat) (w : List Nat) : n1 (d :: w) = (4 + d) * 4 ^ w.length + wv 0 w := by
  show wv (4 * 1 + d) w = _
  rw [wv_eq, Nat.mul_one]
theorem wv_dv {a b k : Nat} (h : b < k) : (a * k + b) / k = a := by
  rw [Nat.mul_comm, Nat.mul_add_div (by omega), Nat.div_eq_of_lt h, Nat.add_zero]
/-- numbers tell words apart -/
theorem wv_inj {u v : List Nat} (hl : u.length = v.length) (hu : wk4 u) (hv : wk4 v) (h : wv 0 u = wv 0 v) : u = v := by
  induction u generalizing v with
  | nil => cases v with
    | nil => rfl
    | cons => cases hl
  | cons d r ih =>
    cases v with
    | nil => cases hl
    | cons c s =>
      have hl' : r.length = s.length := Nat.succ.inj hl
      have h1 : wv (4 * 0 + d) r = wv (4 * 0 + c) s := h
      rw [wv_eq, wv_eq (4 * 0 + c), hl'] at h1
      have hr : wk4 r := fun x hx => hu x (List.mem_cons_of_mem _ hx)
      have hs : wk4 s := fun x hx => hv x (List.mem_cons_of_mem _ hx)
      have h2 := wv_lt hr
      have h3 := wv_lt hs
      rw [hl'] at h2
      have e1 : (4 * 0 + d) = (4 * 0 + c) := by
        have this : ((4 * 0 + d) * 4 ^ s.length + wv 0 r) / 4 ^ s.length = ((4 * 0 + c) * 4 ^ s.length + wv 0 s) / 4 ^ s.length := by rw [h1]
        rw [wv_dv h2, wv_dv h3] at this
        simpa using this
      have e2 : d = c := by omega
      subst e2
      have e3 : wv 0 r = wv 0 s := by omega
      rw [ih hl' hr hs e3]
theorem p4_lt {a b : Nat} (h : a < b) : 4 * 4 ^ a ≤ 4 ^ b := by
  have : 4 ^ (a + 1) ≤ 4 ^ b := Nat.pow_le_pow_right (by decide) h
  rw [Nat.pow_succ] at this
  omega
theorem n1_inj {u v : List Nat} (hu : wk u) (hv : wk v) (h : n1 u = n1 v) : u = v := by
  have a1 := wv_lt hu.to4
  have a2 := wv_lt hv.to4
  rw [n1_eq, n1_eq] at h
  have hl : u.length = v.length := by
    rcases Nat.lt_trichotomy u.length v.length with q | q | q
    · have := p4_lt q; omega
    · exact q
    · have := p4_lt q; omega
  rw [hl] at h
  exact wv_inj hl hu.to4 hv.to4 (by omega)
theorem n2_ge {w : List Nat} (h : w ≠ []) : 4 ^ (w.length - 1) ≤ n2 w := by
  cases w with
  | nil => exact absurd rfl h
  | cons d r =>
    rw [n2_cons]
    have : 1 * 4 ^ r.length ≤ (d + 1) * 4 ^ r.length := Nat.mul_le_mul_right _ (by omega)
    show 4 ^ r.length ≤ _
    omega
theorem n2_inj {u v : List Nat} (hu : wk u) (hv : wk v) (h : n2 u = n2 v) : u = v := by
  have a1 := wv_lt hu.up
  have a2 := wv_lt hv.up
  rw [List.length_map] at a1 a2
  have key : ∀ {x y : List Nat}, wv 0 (x.map (· + 1)) < 4 ^ x.length → n2 x = n2 y → x.length < y.length → False := by
    intro x y b1 b2 q
    have b3 : y ≠ [] := by rintro rfl; exact absurd q (by simp)
    have b4 := n2_ge b3
    have b5 : 4 ^ x.length ≤ 4 ^ (y.length - 1) := Nat.pow_le_pow_right (by decide) (by omega)
    unfold n2 at b2 b4
    omega
  have hl : u.length = v.length := by
    rcases Nat.lt_trichotomy u.length v.length with q | q | q
    · exact (key a1 h q).elim
    · exact q
    · exact (key a2 h.symm q).elim
  have := wv_inj (by simpa using hl) hu.up hv.up h
  exact List.map_inj_right (fun a b e => by simpa using e) |>.mp this
/-! in 64 bits -/
theorem wl_shr {n i : Nat} (hn : n < 2 ^ 62) (hi : i < 32) : lN n >>> ((nI 2 * nI i).toInt64 &&& 63) = lN (n / 4 ^ i) := by
  rw [pk_mul, wb_c _ (by omega)]
  have e : (4 : Nat) ^ i = 2 ^ (2 * i) := by rw [show (4 : Nat) = 2 ^ 2 from rfl, ← Nat.pow_mul]
  rw [e]
  refine pf_shr ?_ hn
  rw [wb_tb, wb_sm _ (by omega), BitVec.toNat_ofNat, Nat.mod_eq_of_lt (by omega)]
theorem wl_shrB {n i : Nat} (hn : n < 2 ^ 62) (hi : i < 32) : lN n >>> ((nI (2 * i)).toInt64 &&& 63) = lN (n / 4 ^ i) := by
  rw [← pk_mul]; exact wl_shr hn hi
theorem wl_shlB {n i : Nat} (hi : i < 32) : lN n <<< ((nI (2 * i)).toInt64 &&& 63) = lN (n * 4 ^ i) := by
  have e : (4 : Nat) ^ i = 2 ^ (2 * i) := by rw [show (4 : Nat) = 2 ^ 2 from rfl, ← Nat.pow_mul]
  rw [wb_shl _ (by omega), e]
theorem wl_and3 {n : Nat} (hn : n < 2 ^ 62) : lN n &&& 3 = lN (n % 4) := wb_mask (k := 2) (by omega) (by decide)
theorem wl_lt {a b : Nat} (ha : a < 2 ^ 62) (hb : b < 2 ^ 62) : lN a < lN b ↔ a < b := pk_lLT (by omega) (by omega)
theorem wl_le {a b : Nat} (ha : a < 2 ^ 62) (hb : b < 2 ^ 62) : lN a ≤ lN b ↔ a ≤ b := pk_lLE (by omega) (by omega)
theorem wl_eq {a b : Nat} (ha : a < 2 ^ 62) (hb : b < 2 ^ 62) : lN a = lN b ↔ a = b := pk_lEQ (by omega) (by omega)
theorem wl_or {a b k : Nat} (hb : b < 2 ^ k) (h : a * 2 ^ k + b < 2 ^ 64) : lN (a * 2 ^ k) ||| lN b = lN (a * 2 ^ k + b) := by
  have h1 : b < 2 ^ 64 := by omega
  rw [wb_or (by omega) h1, Nat.mul_comm a, ← Nat.two_pow_add_eq_or_of_lt hb]
theorem wl_or4 {a b k : Nat} (hb : b < 4 ^ k) (h : a * 4 ^ k + b < 2 ^ 64) : lN (a * 4 ^ k) ||| lN b = lN (a * 4 ^ k + b) := by
  have e : (4 : Nat) ^ k = 2 ^ (2 * k) := by rw [show (4 : Nat) = 2 ^ 2 from rfl, ← Nat.pow_mul]
  rw [e] at hb h ⊢
  exact wl_or hb h
theorem wl_subN {a b : Nat} (h : b ≤ a) : lN a - lN b = lN (a - b) := lN_sub h
