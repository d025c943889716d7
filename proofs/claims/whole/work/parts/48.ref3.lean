/-! ===== the reference: how its memory holds the state ===== -/
def PZ (S : St) (zi : Nat → Int32) (zl : Nat → Int64) : Prop := zi 2 = nI S.T.length ∧ zi 3 = nI S.x.1 ∧ zi 4 = nI S.H.length ∧ zl 5 = e2 S.x.2.1 ∧ zl 6 = e2 S.x.2.2 ∧ zi 20 = nI S.G.length ∧ zi 42 = nI S.n ∧ zi 45 = S.f ∧ zi 55 = ev_b S.tk ∧ (S.tk = true → zi 50 = nI S.T9.length ∧ zi 51 = nI S.G9.length ∧ zi 52 = nI S.x9.1 ∧ zl 53 = e2 S.x9.2.1 ∧ zl 54 = e2 S.x9.2.2)
def rwI (M : ev_M) (a n : Nat) (f : Nat → Int32) : Prop := M[a]? = some (.inl (0, n, .inl f))
def rwL (M : ev_M) (a n : Nat) (f : Nat → Int64) : Prop := M[a]? = some (.inl (1, n, .inr (.inl f)))
/-- rows that hold a list of configurations, from a place on -/
def QP (k n : Nat) (f : Nat → Int32) (g h : Nat → Int64) (L : List Cf) : Prop := ∀ i, i < n → f (k + i) = nI (cg L i).1 ∧ g (k + i) = e2 (cg L i).2.1 ∧ h (k + i) = e2 (cg L i).2.2
def PT (M : ev_M) (a : Nat) (T : List Tr) : Prop := ∃ f, rwI M a 50 f ∧ RP5 T.length f T
def PH (M : ev_M) (o : Nat) (H : Hs) : Prop := ∃ f k g h, rwI M (o + 2) 21 f ∧ rwI M (o + 3) 21 k ∧ rwL M (o + 4) 21 g ∧ rwL M (o + 5) 21 h ∧ QP 0 H.length f g h (hL H) ∧ ∀ i, i < H.length → k i = nI (kg H i)
def PY (M : ev_M) (o : Nat) : Prop := ∃ f g, rwI M (o + 6) 12 f ∧ rwI M (o + 7) 12 g
def PGl (M : ev_M) (a : Nat) (G : List Cf) : Prop := ∃ f g h, rwI M a 3 f ∧ rwL M (a + 1) 3 g ∧ rwL M (a + 2) 3 h ∧ QP 0 G.length f g h G
def PA (M : ev_M) (o : Nat) (T : List Tr) (G : List Cf) (la fr co : Int32) : Prop := ∃ bs bn ms bf b2 mf m2, rwI M (o + 11) 390 bs ∧ rwI M (o + 12) 13 bn ∧ rwI M (o + 13) 400 ms ∧ rwL M (o + 14) 390 bf ∧ rwL M (o + 15) 390 b2 ∧ rwL M (o + 16) 400 mf ∧ rwL M (o + 17) 400 m2 ∧ (∃ f, fr = ev_b f ∧ (f = true → co = ev_b (rn T G).1 ∧ ((rn T G).1 = true → la = nI (rn T G).2 ∧ (rn T G).2 < 13 ∧ ∀ j, j ≤ (rn T G).2 → (bl T G j).length ≤ 30 ∧ bn j = nI (bl T G j).length ∧ QP (30 * j) (bl T G j).length bs bf b2 (bl T G j))))
def PU (M : ev_M) (o : Nat) : Prop := ∃ f g h k, rwI M (o + 18) 6 f ∧ rwI M (o + 19) 6 g ∧ rwL M (o + 20) 6 h ∧ rwL M (o + 21) 6 k
def Px (M : ev_M) (o : Nat) (t : Nat → Nat) : Prop := M[o + 22]? = some (.inl (2, 80, .inl (fun i => nI (t i))))
def PK (M : ev_M) (o : Nat) : Prop := ∃ f g h k, rwI M (o + 23) 12 f ∧ rwI M (o + 24) 48 g ∧ rwL M (o + 25) 12 h ∧ rwL M (o + 26) 12 k
def PS (M : ev_M) (o : Nat) (tk : Bool) (T9 : List Tr) (G9 : List Cf) : Prop := ∃ f g h k, rwI M (o + 27) 50 f ∧ rwI M (o + 28) 3 g ∧ rwL M (o + 29) 3 h ∧ rwL M (o + 30) 3 k ∧ (tk = true → RP5 T9.length f T9 ∧ QP 0 G9.length g h k G9)
theorem FX.at {a lo hi : Nat} {M M1 : ev_M} (h : FX a lo hi M M1) {j : Nat} {c : va_E} (hj : M[j]? = some c) (h1 : j ≠ a) (h2 : j < lo ∨ hi ≤ j) : M1[j]? = some c := (h.2 j h1 h2).trans hj
theorem PT.fx {M M1 : ev_M} {o a lo hi : Nat} {T : List Tr} (h : PT M a T) (hf : FX o lo hi M M1) (h1 : a ≠ o) (h2 : a < lo ∨ hi ≤ a) : PT M1 a T := by
  obtain ⟨f, h3, h4⟩ := h
  exact ⟨f, hf.at h3 h1 h2, h4⟩
theorem PH.fx {M M1 : ev_M} {o lo hi : Nat} {H : Hs} (h : PH M o H) (hf : FX o lo hi M M1) (h2 : o + 6 ≤ lo ∨ hi ≤ o + 2) : PH M1 o H := by
  obtain ⟨f, k, g, h, a1, a2, a3, a4, a5⟩ := h
  exact ⟨f, k, g, h, hf.at a1 (by omega) (by omega), hf.at a2 (by omega) (by omega), hf.at a3 (by omega) (by omega), hf.at a4 (by omega) (by omega), a5⟩
theorem PY.fx {M M1 : ev_M} {o lo hi : Nat} (h : PY M o) (hf : FX o lo hi M M1) (h2 : o + 8 ≤ lo ∨ hi ≤ o + 6) : PY M1 o := by
  obtain ⟨f, g, a1, a2⟩ := h
  exact ⟨f, g, hf.at a1 (by omega) (by omega), hf.at a2 (by omega) (by omega)⟩
theorem PGl.fx {M M1 : ev_M} {o a lo hi : Nat} {G : List Cf} (h : PGl M a G) (hf : FX o lo hi M M1) (h1 : o < a) (h2 : a + 3 ≤ lo ∨ hi ≤ a) : PGl M1 a G := by
  obtain ⟨f, g, h, a1, a2, a3, a4⟩ := h
  exact ⟨f, g, h, hf.at a1 (by omega) (by omega), hf.at a2 (by omega) (by omega), hf.at a3 (by omega) (by omega), a4⟩
theorem PA.fx {M M1 : ev_M} {o lo hi : Nat} {T : List Tr} {G : List Cf} {la fr co : Int32} (h : PA M o T G la fr co) (hf : FX o lo hi M M1) (h2 : o + 18 ≤ lo ∨ hi ≤ o + 11) : PA M1 o T G la fr co := by
  obtain ⟨bs, bn, ms, bf, b2, mf, m2, a1, a2, a3, a4, a5, a6, a7, a8⟩ := h
  exact ⟨bs, bn, ms, bf, b2, mf, m2, hf.at a1 (by omega) (by omega), hf.at a2 (by omega) (by omega), hf.at a3 (by omega) (by omega), hf.at a4 (by omega) (by omega), hf.at a5 (by omega) (by omega), hf.at a6 (by omega) (by omega), hf.at a7 (by omega) (by omega), a8⟩
theorem PA.no {M : ev_M} {o : Nat} {T T' : List Tr} {G G' : List Cf} {la fr co la' co' : Int32} (h : PA M o T G la fr co) : PA M o T' G' la' (nI 0) co' := by
  obtain ⟨bs, bn, ms, bf, b2, mf, m2, a1, a2, a3, a4, a5, a6, a7, a8⟩ := h
  exact ⟨bs, bn, ms, bf, b2, mf, m2, a1, a2, a3, a4, a5, a6, a7, false, rfl, fun z => by cases z⟩
theorem PU.fx {M M1 : ev_M} {o lo hi : Nat} (h : PU M o) (hf : FX o lo hi M M1) (h2 : o + 22 ≤ lo ∨ hi ≤ o + 18) : PU M1 o := by
  obtain ⟨f, g, h, k, a1, a2, a3, a4⟩ := h
  exact ⟨f, g, h, k, hf.at a1 (by omega) (by omega), hf.at a2 (by omega) (by omega), hf.at a3 (by omega) (by omega), hf.at a4 (by omega) (by omega)⟩
theorem Px.fx {M M1 : ev_M} {o lo hi : Nat} {t : Nat → Nat} (h : Px M o t) (hf : FX o lo hi M M1) (h2 : o + 23 ≤ lo ∨ hi ≤ o + 22) : Px M1 o t := hf.at h (by omega) (by omega)
theorem PK.fx {M M1 : ev_M} {o lo hi : Nat} (h : PK M o) (hf : FX o lo hi M M1) (h2 : o + 27 ≤ lo ∨ hi ≤ o + 23) : PK M1 o := by
  obtain ⟨f, g, h, k, a1, a2, a3, a4⟩ := h
  exact ⟨f, g, h, k, hf.at a1 (by omega) (by omega), hf.at a2 (by omega) (by omega), hf.at a3 (by omega) (by omega), hf.at a4 (by omega) (by omega)⟩
theorem PS.fx {M M1 : ev_M} {o lo hi : Nat} {tk : Bool} {T9 : List Tr} {G9 : List Cf} (h : PS M o tk T9 G9) (hf : FX o lo hi M M1) (h2 : o + 31 ≤ lo ∨ hi ≤ o + 27) : PS M1 o tk T9 G9 := by
  obtain ⟨f, g, h, k, a1, a2, a3, a4, a5⟩ := h
  exact ⟨f, g, h, k, hf.at a1 (by omega) (by omega), hf.at a2 (by omega) (by omega), hf.at a3 (by omega) (by omega), hf.at a4 (by omega) (by omega), a5⟩
abbrev RR (M : ev_M) (o : Nat) (S : St) (zi : Nat → Int32) (zl : Nat → Int64) : Prop := M[o]? = some (.inr (10, zo o zi zl)) ∧ PZ S zi zl ∧ PT M (o + 1) S.T ∧ PH M o S.H ∧ PY M o ∧ PGl M (o + 8) S.G ∧ PA M o S.T S.G (zi 29) (zi 30) (zi 31) ∧ PU M o ∧ Px M o S.t ∧ PK M o ∧ PS M o S.tk S.T9 S.G9
theorem RR.z {M : ev_M} {o : Nat} {S : St} {zi : Nat → Int32} {zl : Nat → Int64} (h : RR M o S zi zl) : M[o]? = some (.inr (10, zo o zi zl)) := h.1
theorem RR.p {M : ev_M} {o : Nat} {S : St} {zi : Nat → Int32} {zl : Nat → Int64} (h : RR M o S zi zl) : PZ S zi zl := h.2.1
theorem RR.T {M : ev_M} {o : Nat} {S : St} {zi : Nat → Int32} {zl : Nat → Int64} (h : RR M o S zi zl) : PT M (o + 1) S.T := h.2.2.1
theorem RR.H {M : ev_M} {o : Nat} {S : St} {zi : Nat → Int32} {zl : Nat → Int64} (h : RR M o S zi zl) : PH M o S.H := h.2.2.2.1
theorem RR.y {M : ev_M} {o : Nat} {S : St} {zi : Nat → Int32} {zl : Nat → Int64} (h : RR M o S zi zl) : PY M o := h.2.2.2.2.1
theorem RR.G {M : ev_M} {o : Nat} {S : St} {zi : Nat → Int32} {zl : Nat → Int64} (h : RR M o S zi zl) : PGl M (o + 8) S.G := h.2.2.2.2.2.1
theorem RR.a {M : ev_M} {o : Nat} {S : St} {zi : Nat → Int32} {zl : Nat → Int64} (h : RR M o S zi zl) : PA M o S.T S.G (zi 29) (zi 30) (zi 31) := h.2.2.2.2.2.2.1
theorem RR.u {M : ev_M} {o : Nat} {S : St} {zi : Nat → Int32} {zl : Nat → Int64} (h : RR M o S zi zl) : PU M o := h.2.2.2.2.2.2.2.1
theorem RR.x {M : ev_M} {o : Nat} {S : St} {zi : Nat → Int32} {zl : Nat → Int64} (h : RR M o S zi zl) : Px M o S.t := h.2.2.2.2.2.2.2.2.1
theorem RR.k {M : ev_M} {o : Nat} {S : St} {zi : Nat → Int32} {zl : Nat → Int64} (h : RR M o S zi zl) : PK M o := h.2.2.2.2.2.2.2.2.2.1
theorem RR.s {M : ev_M} {o : Nat} {S : St} {zi : Nat → Int32} {zl : Nat → Int64} (h : RR M o S zi zl) : PS M o S.tk S.T9 S.G9 := h.2.2.2.2.2.2.2.2.2.2

