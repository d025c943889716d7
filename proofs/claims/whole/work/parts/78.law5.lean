/-! ===== the law: turns 0 to 12 ===== -/
set_option maxHeartbeats 4000000 in
set_option maxRecDepth 100000 in
theorem w_0 {xs : Nat → Int32} {N9 : Nat} {l : Launch} (hl : l.stackTraces = false) (hN : N9 ≤ 3072) (i : Nat) (hi : i + 6 ≤ N9) {M : ev_M} (S : St) (hS : okS S) (hLI : LI M S) (kc ks : Nat) (hkc : kc + 8 ≤ 601024) (hks : ks + 40 ≤ 7293034) (Q : ev_R → ev_M → Prop) (hk : ∀ (M1 : ev_M) (S1 : St), okS S1 → LI M1 S1 → el_ xs N9 l m_L_law (kc + 8) (ks + 40) 2054 [some (.retAddr 20), some (.ref 0), some (.ref 104), some (.ref 135), some (.int (nI i)), none, none] [] M1 Q) : el_ xs N9 l m_L_law kc ks 208 [some (.retAddr 20), some (.ref 0), some (.ref 104), some (.ref 135), some (.int (nI i)), none, none] [] M Q := by
  obtain ⟨hR, ⟨zi, zl, hRR⟩, ⟨g, hg⟩, hlen⟩ := hLI
  have h10 : S.T.length ≤ 10 := hR.m.1
  have h3 : S.G.length ≤ 3 := hR.g.2.1
  have h20 : S.H.length ≤ 20 := by have := hR.h.2.1.2.1; rwa [hL_len] at this
  refine el_blk (B := [(.aload_n 1, 1), (.aload_n 0, 1), (.iload 4, 2), (.iconst 1, 1), (.iadd, 1)]) (pe := 214) (ls' := [some (.retAddr 20), some (.ref (0)), some (.ref (104)), some (.ref (135)), some (.int (nI i)), none, none]) (st' := [.int (nI (i + 1)), .retAddr 20, .ref (0)]) ⟨dL_law_208, dL_law_209, dL_law_210, dL_law_212, dL_law_213, rfl⟩ (by show some (([some (.retAddr 20), some (.ref (0)), some (.ref (104)), some (.ref (135)), some (.int (nI i)), none, none] : ev_L), ([.int ((nI i) + (nI 1)), .retAddr 20, .ref (0)] : List Value)) = _; rw [nI_add i 1]) ?_
  refine el_sld (vp_in_nI (show i + 1 < N9 by omega) (by omega)) dL_law_214 ?_
  rw [nI_clamp (show i + 1 < 2 ^ 31 by omega)]
  refine el_blk (B := [(.aload_n 0, 1), (.iload 4, 2), (.iconst 2, 1), (.iadd, 1)]) (pe := 220) (ls' := [some (.retAddr 20), some (.ref (0)), some (.ref (104)), some (.ref (135)), some (.int (nI i)), none, none]) (st' := [.int (nI (i + 2)), .retAddr 20, .int (xs (i + 1)), .ref (0)]) ⟨dL_law_215, dL_law_216, dL_law_218, dL_law_219, rfl⟩ (by show some (([some (.retAddr 20), some (.ref (0)), some (.ref (104)), some (.ref (135)), some (.int (nI i)), none, none] : ev_L), ([.int ((nI i) + (nI 2)), .retAddr 20, .int (xs (i + 1)), .ref (0)] : List Value)) = _; rw [nI_add i 2]) ?_
  refine el_sld (vp_in_nI (show i + 2 < N9 by omega) (by omega)) dL_law_220 ?_
  rw [nI_clamp (show i + 2 < 2 ^ 31 by omega)]
  refine el_blk (B := [(.aload_n 0, 1), (.iload 4, 2), (.iconst 3, 1), (.iadd, 1)]) (pe := 226) (ls' := [some (.retAddr 20), some (.ref (0)), some (.ref (104)), some (.ref (135)), some (.int (nI i)), none, none]) (st' := [.int (nI (i + 3)), .retAddr 20, .int (xs (i + 2)), .int (xs (i + 1)), .ref (0)]) ⟨dL_law_221, dL_law_222, dL_law_224, dL_law_225, rfl⟩ (by show some (([some (.retAddr 20), some (.ref (0)), some (.ref (104)), some (.ref (135)), some (.int (nI i)), none, none] : ev_L), ([.int ((nI i) + (nI 3)), .retAddr 20, .int (xs (i + 2)), .int (xs (i + 1)), .ref (0)] : List Value)) = _; rw [nI_add i 3]) ?_
  refine el_sld (vp_in_nI (show i + 3 < N9 by omega) (by omega)) dL_law_226 ?_
  rw [nI_clamp (show i + 3 < 2 ^ 31 by omega)]
  refine el_blk (B := [(.aload_n 0, 1), (.iload 4, 2), (.iconst 4, 1), (.iadd, 1)]) (pe := 232) (ls' := [some (.retAddr 20), some (.ref (0)), some (.ref (104)), some (.ref (135)), some (.int (nI i)), none, none]) (st' := [.int (nI (i + 4)), .retAddr 20, .int (xs (i + 3)), .int (xs (i + 2)), .int (xs (i + 1)), .ref (0)]) ⟨dL_law_227, dL_law_228, dL_law_230, dL_law_231, rfl⟩ (by show some (([some (.retAddr 20), some (.ref (0)), some (.ref (104)), some (.ref (135)), some (.int (nI i)), none, none] : ev_L), ([.int ((nI i) + (nI 4)), .retAddr 20, .int (xs (i + 3)), .int (xs (i + 2)), .int (xs (i + 1)), .ref (0)] : List Value)) = _; rw [nI_add i 4]) ?_
  refine el_sld (vp_in_nI (show i + 4 < N9 by omega) (by omega)) dL_law_232 ?_
  rw [nI_clamp (show i + 4 < 2 ^ 31 by omega)]
  refine el_blk (B := [(.aload_n 0, 1), (.iload 4, 2), (.iconst 5, 1), (.iadd, 1)]) (pe := 238) (ls' := [some (.retAddr 20), some (.ref (0)), some (.ref (104)), some (.ref (135)), some (.int (nI i)), none, none]) (st' := [.int (nI (i + 5)), .retAddr 20, .int (xs (i + 4)), .int (xs (i + 3)), .int (xs (i + 2)), .int (xs (i + 1)), .ref (0)]) ⟨dL_law_233, dL_law_234, dL_law_236, dL_law_237, rfl⟩ (by show some (([some (.retAddr 20), some (.ref (0)), some (.ref (104)), some (.ref (135)), some (.int (nI i)), none, none] : ev_L), ([.int ((nI i) + (nI 5)), .retAddr 20, .int (xs (i + 4)), .int (xs (i + 3)), .int (xs (i + 2)), .int (xs (i + 1)), .ref (0)] : List Value)) = _; rw [nI_add i 5]) ?_
  refine el_sld (vp_in_nI (show i + 5 < N9 by omega) (by omega)) dL_law_238 ?_
  rw [nI_clamp (show i + 5 < 2 ^ 31 by omega)]
  refine el_blk (B := [(.aload_n 3, 1)]) (pe := 240) (ls' := [some (.retAddr 20), some (.ref (0)), some (.ref (104)), some (.ref (135)), some (.int (nI i)), none, none]) (st' := [.ref (135), .int (xs (i + 5)), .int (xs (i + 4)), .int (xs (i + 3)), .int (xs (i + 2)), .int (xs (i + 1)), .ref (0)]) ⟨dL_law_239, rfl⟩ rfl ?_
  refine el_cSHw YH_L_addTransition L_RL_121 dL_law_240 ⟨Nat.le_of_ble_eq_true rfl, Nat.le_of_ble_eq_true rfl, (by show kc + 3 ≤ 601024; omega), (by show ks + 18 ≤ 7293034; omega), Nat.le_of_ble_eq_true rfl⟩ (as := [.ref (0), .int (xs (i + 1)), .int (xs (i + 2)), .int (xs (i + 3)), .int (xs (i + 4)), .int (xs (i + 5)), .ref (135)]) rfl rfl (h_addTransition hl S hS hR (xs (i + 1)) (xs (i + 2)) (xs (i + 3)) (xs (i + 4)) (xs (i + 5)) 135 (by decide) g hg) (fun M1 hL1 hB1 => ?_)
  obtain ⟨cR, ⟨g1, cg, cz⟩, cl, co⟩ := hB1
  have dR := RR.kept hRR (fun j h1 h2 => co j h1 (by omega))
  refine el_blk (B := [(.istore 5, 2), (.aload_n 2, 1), (.aload_n 0, 1), (.iload 4, 2), (.iconst 1, 1), (.iadd, 1)]) (pe := 251) (ls' := [some (.retAddr 20), some (.ref (0)), some (.ref (104)), some (.ref (135)), some (.int (nI i)), some (.int (nI (sAdd S (xs (i + 1)) (xs (i + 2)) (xs (i + 3)) (xs (i + 4)) (xs (i + 5))).1.1)), none]) (st' := [.int (nI (i + 1)), .retAddr 20, .ref (104)]) ⟨dL_law_243, dL_law_245, dL_law_246, dL_law_247, dL_law_249, dL_law_250, rfl⟩ (by show some (([some (.retAddr 20), some (.ref (0)), some (.ref (104)), some (.ref (135)), some (.int (nI i)), some (.int (nI (sAdd S (xs (i + 1)) (xs (i + 2)) (xs (i + 3)) (xs (i + 4)) (xs (i + 5))).1.1)), none] : ev_L), ([.int ((nI i) + (nI 1)), .retAddr 20, .ref (104)] : List Value)) = _; rw [nI_add i 1]) ?_
  refine el_sld (vp_in_nI (show i + 1 < N9 by omega) (by omega)) dL_law_251 ?_
  rw [nI_clamp (show i + 1 < 2 ^ 31 by omega)]
  refine el_blk (B := [(.aload_n 0, 1), (.iload 4, 2), (.iconst 2, 1), (.iadd, 1)]) (pe := 257) (ls' := [some (.retAddr 20), some (.ref (0)), some (.ref (104)), some (.ref (135)), some (.int (nI i)), some (.int (nI (sAdd S (xs (i + 1)) (xs (i + 2)) (xs (i + 3)) (xs (i + 4)) (xs (i + 5))).1.1)), none]) (st' := [.int (nI (i + 2)), .retAddr 20, .int (xs (i + 1)), .ref (104)]) ⟨dL_law_252, dL_law_253, dL_law_255, dL_law_256, rfl⟩ (by show some (([some (.retAddr 20), some (.ref (0)), some (.ref (104)), some (.ref (135)), some (.int (nI i)), some (.int (nI (sAdd S (xs (i + 1)) (xs (i + 2)) (xs (i + 3)) (xs (i + 4)) (xs (i + 5))).1.1)), none] : ev_L), ([.int ((nI i) + (nI 2)), .retAddr 20, .int (xs (i + 1)), .ref (104)] : List Value)) = _; rw [nI_add i 2]) ?_
  refine el_sld (vp_in_nI (show i + 2 < N9 by omega) (by omega)) dL_law_257 ?_
  rw [nI_clamp (show i + 2 < 2 ^ 31 by omega)]
  refine el_blk (B := [(.aload_n 0, 1), (.iload 4, 2), (.iconst 3, 1), (.iadd, 1)]) (pe := 263) (ls' := [some (.retAddr 20), some (.ref (0)), some (.ref (104)), some (.ref (135)), some (.int (nI i)), some (.int (nI (sAdd S (xs (i + 1)) (xs (i + 2)) (xs (i + 3)) (xs (i + 4)) (xs (i + 5))).1.1)), none]) (st' := [.int (nI (i + 3)), .retAddr 20, .int (xs (i + 2)), .int (xs (i + 1)), .ref (104)]) ⟨dL_law_258, dL_law_259, dL_law_261, dL_law_262, rfl⟩ (by show some (([some (.retAddr 20), some (.ref (0)), some (.ref (104)), some (.ref (135)), some (.int (nI i)), some (.int (nI (sAdd S (xs (i + 1)) (xs (i + 2)) (xs (i + 3)) (xs (i + 4)) (xs (i + 5))).1.1)), none] : ev_L), ([.int ((nI i) + (nI 3)), .retAddr 20, .int (xs (i + 2)), .int (xs (i + 1)), .ref (104)] : List Value)) = _; rw [nI_add i 3]) ?_
  refine el_sld (vp_in_nI (show i + 3 < N9 by omega) (by omega)) dL_law_263 ?_
  rw [nI_clamp (show i + 3 < 2 ^ 31 by omega)]
  refine el_blk (B := [(.aload_n 0, 1), (.iload 4, 2), (.iconst 4, 1), (.iadd, 1)]) (pe := 269) (ls' := [some (.retAddr 20), some (.ref (0)), some (.ref (104)), some (.ref (135)), some (.int (nI i)), some (.int (nI (sAdd S (xs (i + 1)) (xs (i + 2)) (xs (i + 3)) (xs (i + 4)) (xs (i + 5))).1.1)), none]) (st' := [.int (nI (i + 4)), .retAddr 20, .int (xs (i + 3)), .int (xs (i + 2)), .int (xs (i + 1)), .ref (104)]) ⟨dL_law_264, dL_law_265, dL_law_267, dL_law_268, rfl⟩ (by show some (([some (.retAddr 20), some (.ref (0)), some (.ref (104)), some (.ref (135)), some (.int (nI i)), some (.int (nI (sAdd S (xs (i + 1)) (xs (i + 2)) (xs (i + 3)) (xs (i + 4)) (xs (i + 5))).1.1)), none] : ev_L), ([.int ((nI i) + (nI 4)), .retAddr 20, .int (xs (i + 3)), .int (xs (i + 2)), .int (xs (i + 1)), .ref (104)] : List Value)) = _; rw [nI_add i 4]) ?_
  refine el_sld (vp_in_nI (show i + 4 < N9 by omega) (by omega)) dL_law_269 ?_
  rw [nI_clamp (show i + 4 < 2 ^ 31 by omega)]
  refine el_blk (B := [(.aload_n 0, 1), (.iload 4, 2), (.iconst 5, 1), (.iadd, 1)]) (pe := 275) (ls' := [some (.retAddr 20), some (.ref (0)), some (.ref (104)), some (.ref (135)), some (.int (nI i)), some (.int (nI (sAdd S (xs (i + 1)) (xs (i + 2)) (xs (i + 3)) (xs (i + 4)) (xs (i + 5))).1.1)), none]) (st' := [.int (nI (i + 5)), .retAddr 20, .int (xs (i + 4)), .int (xs (i + 3)), .int (xs (i + 2)), .int (xs (i + 1)), .ref (104)]) ⟨dL_law_270, dL_law_271, dL_law_273, dL_law_274, rfl⟩ (by show some (([some (.retAddr 20), some (.ref (0)), some (.ref (104)), some (.ref (135)), some (.int (nI i)), some (.int (nI (sAdd S (xs (i + 1)) (xs (i + 2)) (xs (i + 3)) (xs (i + 4)) (xs (i + 5))).1.1)), none] : ev_L), ([.int ((nI i) + (nI 5)), .retAddr 20, .int (xs (i + 4)), .int (xs (i + 3)), .int (xs (i + 2)), .int (xs (i + 1)), .ref (104)] : List Value)) = _; rw [nI_add i 5]) ?_
  refine el_sld (vp_in_nI (show i + 5 < N9 by omega) (by omega)) dL_law_275 ?_
  rw [nI_clamp (show i + 5 < 2 ^ 31 by omega)]
  refine el_cVw Y_X11_addTransition L_RL_126 dL_law_276 ⟨Nat.le_of_ble_eq_true rfl, Nat.le_of_ble_eq_true rfl, (by show kc + 3 + 0 ≤ 601024; omega), (by show ks + 18 + 0 ≤ 7293034; omega), Nat.le_of_ble_eq_true rfl⟩ dR.z (as := [.int (xs (i + 1)), .int (xs (i + 2)), .int (xs (i + 3)), .int (xs (i + 4)), .int (xs (i + 5))]) rfl rfl (r_addTransition hl 104 S hS h10 h3 h20 _ _ dR (xs (i + 1)) (xs (i + 2)) (xs (i + 3)) (xs (i + 4)) (xs (i + 5))) (fun M2 hL2 hB2 => ?_)
  obtain ⟨zi1, zl1, eR, ez, eF⟩ := hB2
  have fR := cR.fr eF (by decide)
  have fg := (eF.2 135 (Or.inr (by decide))).trans cg
  have fl := eF.1
  refine el_blk (B := [(.istore 6, 2), (.aload_n 2, 1)]) (pe := 282) (ls' := [some (.retAddr 20), some (.ref (0)), some (.ref (104)), some (.ref (135)), some (.int (nI i)), some (.int (nI (sAdd S (xs (i + 1)) (xs (i + 2)) (xs (i + 3)) (xs (i + 4)) (xs (i + 5))).1.1)), some (.int ((sAdd S (xs (i + 1)) (xs (i + 2)) (xs (i + 3)) (xs (i + 4)) (xs (i + 5))).1.2))]) (st' := [.ref (104)]) ⟨dL_law_279, dL_law_281, rfl⟩ rfl ?_
  refine el_cVv Y_X11_thrown L_RL_127 dL_law_282 ⟨Nat.le_of_ble_eq_true rfl, Nat.le_of_ble_eq_true rfl, (by show kc + 3 + 0 + 0 ≤ 601024; omega), (by show ks + 18 + 0 + 0 ≤ 7293034; omega), Nat.le_of_ble_eq_true rfl⟩ eR.z (as := []) rfl rfl (c_R_thrown hl 104 zi1 zl1 eR.z) ?_
  rw [ez]
  refine el_blk (B := [(.iload 5, 2)]) (pe := 287) (ls' := [some (.retAddr 20), some (.ref (0)), some (.ref (104)), some (.ref (135)), some (.int (nI i)), some (.int (nI (sAdd S (xs (i + 1)) (xs (i + 2)) (xs (i + 3)) (xs (i + 4)) (xs (i + 5))).1.1)), some (.int ((sAdd S (xs (i + 1)) (xs (i + 2)) (xs (i + 3)) (xs (i + 4)) (xs (i + 5))).1.2))]) (st' := [.int (nI (sAdd S (xs (i + 1)) (xs (i + 2)) (xs (i + 3)) (xs (i + 4)) (xs (i + 5))).1.1), .int (nI (sAdd S (xs (i + 1)) (xs (i + 2)) (xs (i + 3)) (xs (i + 4)) (xs (i + 5))).1.1)]) ⟨dL_law_285, rfl⟩ rfl ?_
  refine el_ic_eq dL_law_287 (tgt := 292) (by decide) (fun q287 => ?_) (fun q287 => ?_)
  · refine el_blk (B := [(.iload 5, 2)]) (pe := 294) (ls' := [some (.retAddr 20), some (.ref (0)), some (.ref (104)), some (.ref (135)), some (.int (nI i)), some (.int (nI (sAdd S (xs (i + 1)) (xs (i + 2)) (xs (i + 3)) (xs (i + 4)) (xs (i + 5))).1.1)), some (.int ((sAdd S (xs (i + 1)) (xs (i + 2)) (xs (i + 3)) (xs (i + 4)) (xs (i + 5))).1.2))]) (st' := [.int (nI (sAdd S (xs (i + 1)) (xs (i + 2)) (xs (i + 3)) (xs (i + 4)) (xs (i + 5))).1.1)]) ⟨dL_law_292, rfl⟩ rfl ?_
    refine el_if_ne dL_law_294 (tgt := 309) (by decide) (fun q294 => ?_) (fun q294 => ?_)
    · refine el_goto (tgt := 2054) dL_law_309 (by decide) ?_
      refine el_fgt (ls' := [some (.retAddr 20), some (.ref (0)), some (.ref (104)), some (.ref (135)), some (.int (nI i)), none, none]) ⟨Or.inr rfl, Or.inr rfl, Or.inr rfl, Or.inr rfl, Or.inr rfl, Or.inl rfl, Or.inl rfl, trivial⟩ ?_
      exact el_wid (by show kc + 3 + 0 + 0 ≤ kc + 8; omega) (by show ks + 18 + 0 + 0 ≤ ks + 40; omega) (hk _ ((sAdd S (xs (i + 1)) (xs (i + 2)) (xs (i + 3)) (xs (i + 4)) (xs (i + 5))).2) (k_Add hS (xs (i + 1)) (xs (i + 2)) (xs (i + 3)) (xs (i + 4)) (xs (i + 5))) ⟨fR, ⟨_, _, eR⟩, ⟨_, fg⟩, fl.trans (cl.trans hlen)⟩)
    · refine el_blk (B := [(.aload_n 3, 1), (.iconst 0, 1)]) (pe := 299) (ls' := [some (.retAddr 20), some (.ref (0)), some (.ref (104)), some (.ref (135)), some (.int (nI i)), some (.int (nI (sAdd S (xs (i + 1)) (xs (i + 2)) (xs (i + 3)) (xs (i + 4)) (xs (i + 5))).1.1)), some (.int ((sAdd S (xs (i + 1)) (xs (i + 2)) (xs (i + 3)) (xs (i + 4)) (xs (i + 5))).1.2))]) (st' := [.int (nI 0), .ref (135)]) ⟨dL_law_297, dL_law_298, rfl⟩ rfl ?_
      refine el_lald dL_law_299 fg (vp_in_nI (show 0 < 1 by omega) (by omega)) ?_
      rw [nI_clamp (show 0 < 2 ^ 31 by omega)]
      refine el_blk (B := [(.iload 6, 2), (.i2l, 1), (.lcmp, 1)]) (pe := 304) (ls' := [some (.retAddr 20), some (.ref (0)), some (.ref (104)), some (.ref (135)), some (.int (nI i)), some (.int (nI (sAdd S (xs (i + 1)) (xs (i + 2)) (xs (i + 3)) (xs (i + 4)) (xs (i + 5))).1.1)), some (.int ((sAdd S (xs (i + 1)) (xs (i + 2)) (xs (i + 3)) (xs (i + 4)) (xs (i + 5))).1.2))]) (st' := [.int (lg_cmp (g1 0) (((sAdd S (xs (i + 1)) (xs (i + 2)) (xs (i + 3)) (xs (i + 4)) (xs (i + 5))).1.2).toInt64))]) ⟨dL_law_300, dL_law_302, dL_law_303, rfl⟩ rfl ?_
      refine el_lc_eq dL_law_304 (tgt := 309) (by decide) (fun q304 => ?_) (fun q304 => ?_)
      · refine el_goto (tgt := 2054) dL_law_309 (by decide) ?_
        refine el_fgt (ls' := [some (.retAddr 20), some (.ref (0)), some (.ref (104)), some (.ref (135)), some (.int (nI i)), none, none]) ⟨Or.inr rfl, Or.inr rfl, Or.inr rfl, Or.inr rfl, Or.inr rfl, Or.inl rfl, Or.inl rfl, trivial⟩ ?_
        exact el_wid (by show kc + 3 + 0 + 0 ≤ kc + 8; omega) (by show ks + 18 + 0 + 0 ≤ ks + 40; omega) (hk _ ((sAdd S (xs (i + 1)) (xs (i + 2)) (xs (i + 3)) (xs (i + 4)) (xs (i + 5))).2) (k_Add hS (xs (i + 1)) (xs (i + 2)) (xs (i + 3)) (xs (i + 4)) (xs (i + 5))) ⟨fR, ⟨_, _, eR⟩, ⟨_, fg⟩, fl.trans (cl.trans hlen)⟩)
      · exact absurd (cz q294) q304
  · exact absurd rfl q287

set_option maxHeartbeats 4000000 in
set_option maxRecDepth 100000 in
theorem w_1 {xs : Nat → Int32} {N9 : Nat} {l : Launch} (hl : l.stackTraces = false) (hN : N9 ≤ 3072) (i : Nat) (hi : i + 6 ≤ N9) {M : ev_M} (S : St) (hS : okS S) (hLI : LI M S) (kc ks : Nat) (hkc : kc + 8 ≤ 601024) (hks : ks + 40 ≤ 7293034) (Q : ev_R → ev_M → Prop) (hk : ∀ (M1 : ev_M) (S1 : St), okS S1 → LI M1 S1 → el_ xs N9 l m_L_law (kc + 8) (ks + 40) 2054 [some (.retAddr 20), some (.ref 0), some (.ref 104), some (.ref 135), some (.int (nI i)), none, none] [] M1 Q) : el_ xs N9 l m_L_law kc ks 312 [some (.retAddr 20), some (.ref 0), some (.ref 104), some (.ref 135), some (.int (nI i)), none, none] [] M Q := by
  obtain ⟨hR, ⟨zi, zl, hRR⟩, ⟨g, hg⟩, hlen⟩ := hLI
  have h10 : S.T.length ≤ 10 := hR.m.1
  have h3 : S.G.length ≤ 3 := hR.g.2.1
  have h20 : S.H.length ≤ 20 := by have := hR.h.2.1.2.1; rwa [hL_len] at this
  refine el_blk (B := [(.aload_n 1, 1), (.aload_n 0, 1), (.iload 4, 2), (.iconst 1, 1), (.iadd, 1)]) (pe := 318) (ls' := [some (.retAddr 20), some (.ref (0)), some (.ref (104)), some (.ref (135)), some (.int (nI i)), none, none]) (st' := [.int (nI (i + 1)), .retAddr 20, .ref (0)]) ⟨dL_law_312, dL_law_313, dL_law_314, dL_law_316, dL_law_317, rfl⟩ (by show some (([some (.retAddr 20), some (.ref (0)), some (.ref (104)), some (.ref (135)), some (.int (nI i)), none, none] : ev_L), ([.int ((nI i) + (nI 1)), .retAddr 20, .ref (0)] : List Value)) = _; rw [nI_add i 1]) ?_
  refine el_sld (vp_in_nI (show i + 1 < N9 by omega) (by omega)) dL_law_318 ?_
  rw [nI_clamp (show i + 1 < 2 ^ 31 by omega)]
  refine el_blk (B := [(.aload_n 3, 1)]) (pe := 320) (ls' := [some (.retAddr 20), some (.ref (0)), some (.ref (104)), some (.ref (135)), some (.int (nI i)), none, none]) (st' := [.ref (135), .int (xs (i + 1)), .ref (0)]) ⟨dL_law_319, rfl⟩ rfl ?_
  refine el_cSHw YH_L_removeTransition L_RL_130 dL_law_320 ⟨Nat.le_of_ble_eq_true rfl, Nat.le_of_ble_eq_true rfl, (by show kc + 1 ≤ 601024; omega), (by show ks + 6 ≤ 7293034; omega), Nat.le_of_ble_eq_true rfl⟩ (as := [.ref (0), .int (xs (i + 1)), .ref (135)]) rfl rfl (h_removeTransition hl S hS hR (xs (i + 1)) 135 (by decide) g hg) (fun M1 hL1 hB1 => ?_)
  obtain ⟨cR, ⟨g1, cg, cz⟩, cl, co⟩ := hB1
  have dR := RR.kept hRR (fun j h1 h2 => co j h1 (by omega))
  refine el_blk (B := [(.istore 5, 2), (.aload_n 2, 1), (.aload_n 0, 1), (.iload 4, 2), (.iconst 1, 1), (.iadd, 1)]) (pe := 331) (ls' := [some (.retAddr 20), some (.ref (0)), some (.ref (104)), some (.ref (135)), some (.int (nI i)), some (.int (nI (sRem S (xs (i + 1))).1.1)), none]) (st' := [.int (nI (i + 1)), .retAddr 20, .ref (104)]) ⟨dL_law_323, dL_law_325, dL_law_326, dL_law_327, dL_law_329, dL_law_330, rfl⟩ (by show some (([some (.retAddr 20), some (.ref (0)), some (.ref (104)), some (.ref (135)), some (.int (nI i)), some (.int (nI (sRem S (xs (i + 1))).1.1)), none] : ev_L), ([.int ((nI i) + (nI 1)), .retAddr 20, .ref (104)] : List Value)) = _; rw [nI_add i 1]) ?_
  refine el_sld (vp_in_nI (show i + 1 < N9 by omega) (by omega)) dL_law_331 ?_
  rw [nI_clamp (show i + 1 < 2 ^ 31 by omega)]
  refine el_cVw Y_X11_removeTransition L_RL_133 dL_law_332 ⟨Nat.le_of_ble_eq_true rfl, Nat.le_of_ble_eq_true rfl, (by show kc + 1 + 0 ≤ 601024; omega), (by show ks + 6 + 0 ≤ 7293034; omega), Nat.le_of_ble_eq_true rfl⟩ dR.z (as := [.int (xs (i + 1))]) rfl rfl (r_removeTransition hl 104 S hS h10 h3 h20 _ _ dR (xs (i + 1))) (fun M2 hL2 hB2 => ?_)
  obtain ⟨zi1, zl1, eR, ez, eF⟩ := hB2
  have fR := cR.fr eF (by decide)
  have fg := (eF.2 135 (Or.inr (by decide))).trans cg
  have fl := eF.1
  refine el_blk (B := [(.istore 6, 2), (.aload_n 2, 1)]) (pe := 338) (ls' := [some (.retAddr 20), some (.ref (0)), some (.ref (104)), some (.ref (135)), some (.int (nI i)), some (.int (nI (sRem S (xs (i + 1))).1.1)), some (.int ((sRem S (xs (i + 1))).1.2))]) (st' := [.ref (104)]) ⟨dL_law_335, dL_law_337, rfl⟩ rfl ?_
  refine el_cVv Y_X11_thrown L_RL_127 dL_law_338 ⟨Nat.le_of_ble_eq_true rfl, Nat.le_of_ble_eq_true rfl, (by show kc + 1 + 0 + 0 ≤ 601024; omega), (by show ks + 6 + 0 + 0 ≤ 7293034; omega), Nat.le_of_ble_eq_true rfl⟩ eR.z (as := []) rfl rfl (c_R_thrown hl 104 zi1 zl1 eR.z) ?_
  rw [ez]
  refine el_blk (B := [(.iload 5, 2)]) (pe := 343) (ls' := [some (.retAddr 20), some (.ref (0)), some (.ref (104)), some (.ref (135)), some (.int (nI i)), some (.int (nI (sRem S (xs (i + 1))).1.1)), some (.int ((sRem S (xs (i + 1))).1.2))]) (st' := [.int (nI (sRem S (xs (i + 1))).1.1), .int (nI (sRem S (xs (i + 1))).1.1)]) ⟨dL_law_341, rfl⟩ rfl ?_
  refine el_ic_eq dL_law_343 (tgt := 348) (by decide) (fun q343 => ?_) (fun q343 => ?_)
  · refine el_blk (B := [(.iload 5, 2)]) (pe := 350) (ls' := [some (.retAddr 20), some (.ref (0)), some (.ref (104)), some (.ref (135)), some (.int (nI i)), some (.int (nI (sRem S (xs (i + 1))).1.1)), some (.int ((sRem S (xs (i + 1))).1.2))]) (st' := [.int (nI (sRem S (xs (i + 1))).1.1)]) ⟨dL_law_348, rfl⟩ rfl ?_
    refine el_if_ne dL_law_350 (tgt := 365) (by decide) (fun q350 => ?_) (fun q350 => ?_)
    · refine el_goto (tgt := 2054) dL_law_365 (by decide) ?_
      refine el_fgt (ls' := [some (.retAddr 20), some (.ref (0)), some (.ref (104)), some (.ref (135)), some (.int (nI i)), none, none]) ⟨Or.inr rfl, Or.inr rfl, Or.inr rfl, Or.inr rfl, Or.inr rfl, Or.inl rfl, Or.inl rfl, trivial⟩ ?_
      exact el_wid (by show kc + 1 + 0 + 0 ≤ kc + 8; omega) (by show ks + 6 + 0 + 0 ≤ ks + 40; omega) (hk _ ((sRem S (xs (i + 1))).2) (k_Rem hS (xs (i + 1))) ⟨fR, ⟨_, _, eR⟩, ⟨_, fg⟩, fl.trans (cl.trans hlen)⟩)
    · refine el_blk (B := [(.aload_n 3, 1), (.iconst 0, 1)]) (pe := 355) (ls' := [some (.retAddr 20), some (.ref (0)), some (.ref (104)), some (.ref (135)), some (.int (nI i)), some (.int (nI (sRem S (xs (i + 1))).1.1)), some (.int ((sRem S (xs (i + 1))).1.2))]) (st' := [.int (nI 0), .ref (135)]) ⟨dL_law_353, dL_law_354, rfl⟩ rfl ?_
      refine el_lald dL_law_355 fg (vp_in_nI (show 0 < 1 by omega) (by omega)) ?_
      rw [nI_clamp (show 0 < 2 ^ 31 by omega)]
      refine el_blk (B := [(.iload 6, 2), (.i2l, 1), (.lcmp, 1)]) (pe := 360) (ls' := [some (.retAddr 20), some (.ref (0)), some (.ref (104)), some (.ref (135)), some (.int (nI i)), some (.int (nI (sRem S (xs (i + 1))).1.1)), some (.int ((sRem S (xs (i + 1))).1.2))]) (st' := [.int (lg_cmp (g1 0) (((sRem S (xs (i + 1))).1.2).toInt64))]) ⟨dL_law_356, dL_law_358, dL_law_359, rfl⟩ rfl ?_
      refine el_lc_eq dL_law_360 (tgt := 365) (by decide) (fun q360 => ?_) (fun q360 => ?_)
      · refine el_goto (tgt := 2054) dL_law_365 (by decide) ?_
        refine el_fgt (ls' := [some (.retAddr 20), some (.ref (0)), some (.ref (104)), some (.ref (135)), some (.int (nI i)), none, none]) ⟨Or.inr rfl, Or.inr rfl, Or.inr rfl, Or.inr rfl, Or.inr rfl, Or.inl rfl, Or.inl rfl, trivial⟩ ?_
        exact el_wid (by show kc + 1 + 0 + 0 ≤ kc + 8; omega) (by show ks + 6 + 0 + 0 ≤ ks + 40; omega) (hk _ ((sRem S (xs (i + 1))).2) (k_Rem hS (xs (i + 1))) ⟨fR, ⟨_, _, eR⟩, ⟨_, fg⟩, fl.trans (cl.trans hlen)⟩)
      · exact absurd (cz q350) q360
  · exact absurd rfl q343

set_option maxHeartbeats 4000000 in
set_option maxRecDepth 100000 in
theorem w_2 {xs : Nat → Int32} {N9 : Nat} {l : Launch} (hl : l.stackTraces = false) (hN : N9 ≤ 3072) (i : Nat) (hi : i + 6 ≤ N9) {M : ev_M} (S : St) (hS : okS S) (hLI : LI M S) (kc ks : Nat) (hkc : kc + 8 ≤ 601024) (hks : ks + 40 ≤ 7293034) (Q : ev_R → ev_M → Prop) (hk : ∀ (M1 : ev_M) (S1 : St), okS S1 → LI M1 S1 → el_ xs N9 l m_L_law (kc + 8) (ks + 40) 2054 [some (.retAddr 20), some (.ref 0), some (.ref 104), some (.ref 135), some (.int (nI i)), none, none] [] M1 Q) : el_ xs N9 l m_L_law kc ks 368 [some (.retAddr 20), some (.ref 0), some (.ref 104), some (.ref 135), some (.int (nI i)), none, none] [] M Q := by
  obtain ⟨hR, ⟨zi, zl, hRR⟩, ⟨g, hg⟩, hlen⟩ := hLI
  have h10 : S.T.length ≤ 10 := hR.m.1
  have h3 : S.G.length ≤ 3 := hR.g.2.1
  have h20 : S.H.length ≤ 20 := by have := hR.h.2.1.2.1; rwa [hL_len] at this
  refine el_blk (B := [(.aload_n 1, 1), (.aload_n 0, 1), (.iload 4, 2), (.iconst 1, 1), (.iadd, 1)]) (pe := 374) (ls' := [some (.retAddr 20), some (.ref (0)), some (.ref (104)), some (.ref (135)), some (.int (nI i)), none, none]) (st' := [.int (nI (i + 1)), .retAddr 20, .ref (0)]) ⟨dL_law_368, dL_law_369, dL_law_370, dL_law_372, dL_law_373, rfl⟩ (by show some (([some (.retAddr 20), some (.ref (0)), some (.ref (104)), some (.ref (135)), some (.int (nI i)), none, none] : ev_L), ([.int ((nI i) + (nI 1)), .retAddr 20, .ref (0)] : List Value)) = _; rw [nI_add i 1]) ?_
  refine el_sld (vp_in_nI (show i + 1 < N9 by omega) (by omega)) dL_law_374 ?_
  rw [nI_clamp (show i + 1 < 2 ^ 31 by omega)]
  refine el_blk (B := [(.aload_n 0, 1), (.iload 4, 2), (.iconst 2, 1), (.iadd, 1)]) (pe := 380) (ls' := [some (.retAddr 20), some (.ref (0)), some (.ref (104)), some (.ref (135)), some (.int (nI i)), none, none]) (st' := [.int (nI (i + 2)), .retAddr 20, .int (xs (i + 1)), .ref (0)]) ⟨dL_law_375, dL_law_376, dL_law_378, dL_law_379, rfl⟩ (by show some (([some (.retAddr 20), some (.ref (0)), some (.ref (104)), some (.ref (135)), some (.int (nI i)), none, none] : ev_L), ([.int ((nI i) + (nI 2)), .retAddr 20, .int (xs (i + 1)), .ref (0)] : List Value)) = _; rw [nI_add i 2]) ?_
  refine el_sld (vp_in_nI (show i + 2 < N9 by omega) (by omega)) dL_law_380 ?_
  rw [nI_clamp (show i + 2 < 2 ^ 31 by omega)]
  refine el_blk (B := [(.aload_n 3, 1)]) (pe := 382) (ls' := [some (.retAddr 20), some (.ref (0)), some (.ref (104)), some (.ref (135)), some (.int (nI i)), none, none]) (st' := [.ref (135), .int (xs (i + 2)), .int (xs (i + 1)), .ref (0)]) ⟨dL_law_381, rfl⟩ rfl ?_
  refine el_cSHw YH_L_transition L_RL_134 dL_law_382 ⟨Nat.le_of_ble_eq_true rfl, Nat.le_of_ble_eq_true rfl, (by show kc + 2 ≤ 601024; omega), (by show ks + 12 ≤ 7293034; omega), Nat.le_of_ble_eq_true rfl⟩ (as := [.ref (0), .int (xs (i + 1)), .int (xs (i + 2)), .ref (135)]) rfl rfl (h_transition hl S hS hR (xs (i + 1)) (xs (i + 2)) 135 (by decide) g hg) (fun M1 hL1 hB1 => ?_)
  obtain ⟨cR, ⟨g1, cg, cz⟩, cl, co⟩ := hB1
  have dR := RR.kept hRR (fun j h1 h2 => co j h1 (by omega))
  refine el_blk (B := [(.istore 5, 2), (.aload_n 2, 1), (.aload_n 0, 1), (.iload 4, 2), (.iconst 1, 1), (.iadd, 1)]) (pe := 393) (ls' := [some (.retAddr 20), some (.ref (0)), some (.ref (104)), some (.ref (135)), some (.int (nI i)), some (.int (nI (sTra S (xs (i + 1)) (xs (i + 2))).1)), none]) (st' := [.int (nI (i + 1)), .retAddr 20, .ref (104)]) ⟨dL_law_385, dL_law_387, dL_law_388, dL_law_389, dL_law_391, dL_law_392, rfl⟩ (by show some (([some (.retAddr 20), some (.ref (0)), some (.ref (104)), some (.ref (135)), some (.int (nI i)), some (.int (nI (sTra S (xs (i + 1)) (xs (i + 2))).1)), none] : ev_L), ([.int ((nI i) + (nI 1)), .retAddr 20, .ref (104)] : List Value)) = _; rw [nI_add i 1]) ?_
  refine el_sld (vp_in_nI (show i + 1 < N9 by omega) (by omega)) dL_law_393 ?_
  rw [nI_clamp (show i + 1 < 2 ^ 31 by omega)]
  refine el_blk (B := [(.aload_n 0, 1), (.iload 4, 2), (.iconst 2, 1), (.iadd, 1)]) (pe := 399) (ls' := [some (.retAddr 20), some (.ref (0)), some (.ref (104)), some (.ref (135)), some (.int (nI i)), some (.int (nI (sTra S (xs (i + 1)) (xs (i + 2))).1)), none]) (st' := [.int (nI (i + 2)), .retAddr 20, .int (xs (i + 1)), .ref (104)]) ⟨dL_law_394, dL_law_395, dL_law_397, dL_law_398, rfl⟩ (by show some (([some (.retAddr 20), some (.ref (0)), some (.ref (104)), some (.ref (135)), some (.int (nI i)), some (.int (nI (sTra S (xs (i + 1)) (xs (i + 2))).1)), none] : ev_L), ([.int ((nI i) + (nI 2)), .retAddr 20, .int (xs (i + 1)), .ref (104)] : List Value)) = _; rw [nI_add i 2]) ?_
  refine el_sld (vp_in_nI (show i + 2 < N9 by omega) (by omega)) dL_law_399 ?_
  rw [nI_clamp (show i + 2 < 2 ^ 31 by omega)]
  refine el_cVw Y_X11_transition L_RL_137 dL_law_400 ⟨Nat.le_of_ble_eq_true rfl, Nat.le_of_ble_eq_true rfl, (by show kc + 2 + 0 ≤ 601024; omega), (by show ks + 12 + 0 ≤ 7293034; omega), Nat.le_of_ble_eq_true rfl⟩ dR.z (as := [.int (xs (i + 1)), .int (xs (i + 2))]) rfl rfl (r_transition hl 104 S hS h10 h3 h20 _ _ dR (xs (i + 1)) (xs (i + 2))) (fun M2 hL2 hB2 => ?_)
  obtain ⟨zi1, zl1, eR, ez, eF⟩ := hB2
  have fR := cR.fr eF (by decide)
  have fg := (eF.2 135 (Or.inr (by decide))).trans cg
  have fl := eF.1
  refine el_blk (B := [(.istore 6, 2), (.aload_n 2, 1)]) (pe := 406) (ls' := [some (.retAddr 20), some (.ref (0)), some (.ref (104)), some (.ref (135)), some (.int (nI i)), some (.int (nI (sTra S (xs (i + 1)) (xs (i + 2))).1)), some (.int ((sTra S (xs (i + 1)) (xs (i + 2))).2))]) (st' := [.ref (104)]) ⟨dL_law_403, dL_law_405, rfl⟩ rfl ?_
  refine el_cVv Y_X11_thrown L_RL_127 dL_law_406 ⟨Nat.le_of_ble_eq_true rfl, Nat.le_of_ble_eq_true rfl, (by show kc + 2 + 0 + 0 ≤ 601024; omega), (by show ks + 12 + 0 + 0 ≤ 7293034; omega), Nat.le_of_ble_eq_true rfl⟩ eR.z (as := []) rfl rfl (c_R_thrown hl 104 zi1 zl1 eR.z) ?_
  rw [ez]
  refine el_blk (B := [(.iload 5, 2)]) (pe := 411) (ls' := [some (.retAddr 20), some (.ref (0)), some (.ref (104)), some (.ref (135)), some (.int (nI i)), some (.int (nI (sTra S (xs (i + 1)) (xs (i + 2))).1)), some (.int ((sTra S (xs (i + 1)) (xs (i + 2))).2))]) (st' := [.int (nI (sTra S (xs (i + 1)) (xs (i + 2))).1), .int (nI (sTra S (xs (i + 1)) (xs (i + 2))).1)]) ⟨dL_law_409, rfl⟩ rfl ?_
  refine el_ic_eq dL_law_411 (tgt := 416) (by decide) (fun q411 => ?_) (fun q411 => ?_)
  · refine el_blk (B := [(.iload 5, 2)]) (pe := 418) (ls' := [some (.retAddr 20), some (.ref (0)), some (.ref (104)), some (.ref (135)), some (.int (nI i)), some (.int (nI (sTra S (xs (i + 1)) (xs (i + 2))).1)), some (.int ((sTra S (xs (i + 1)) (xs (i + 2))).2))]) (st' := [.int (nI (sTra S (xs (i + 1)) (xs (i + 2))).1)]) ⟨dL_law_416, rfl⟩ rfl ?_
    refine el_if_ne dL_law_418 (tgt := 433) (by decide) (fun q418 => ?_) (fun q418 => ?_)
    · refine el_goto (tgt := 2054) dL_law_433 (by decide) ?_
      refine el_fgt (ls' := [some (.retAddr 20), some (.ref (0)), some (.ref (104)), some (.ref (135)), some (.int (nI i)), none, none]) ⟨Or.inr rfl, Or.inr rfl, Or.inr rfl, Or.inr rfl, Or.inr rfl, Or.inl rfl, Or.inl rfl, trivial⟩ ?_
      exact el_wid (by show kc + 2 + 0 + 0 ≤ kc + 8; omega) (by show ks + 12 + 0 + 0 ≤ ks + 40; omega) (hk _ S (hS) ⟨fR, ⟨_, _, eR⟩, ⟨_, fg⟩, fl.trans (cl.trans hlen)⟩)
    · refine el_blk (B := [(.aload_n 3, 1), (.iconst 0, 1)]) (pe := 423) (ls' := [some (.retAddr 20), some (.ref (0)), some (.ref (104)), some (.ref (135)), some (.int (nI i)), some (.int (nI (sTra S (xs (i + 1)) (xs (i + 2))).1)), some (.int ((sTra S (xs (i + 1)) (xs (i + 2))).2))]) (st' := [.int (nI 0), .ref (135)]) ⟨dL_law_421, dL_law_422, rfl⟩ rfl ?_
      refine el_lald dL_law_423 fg (vp_in_nI (show 0 < 1 by omega) (by omega)) ?_
      rw [nI_clamp (show 0 < 2 ^ 31 by omega)]
      refine el_blk (B := [(.iload 6, 2), (.i2l, 1), (.lcmp, 1)]) (pe := 428) (ls' := [some (.retAddr 20), some (.ref (0)), some (.ref (104)), some (.ref (135)), some (.int (nI i)), some (.int (nI (sTra S (xs (i + 1)) (xs (i + 2))).1)), some (.int ((sTra S (xs (i + 1)) (xs (i + 2))).2))]) (st' := [.int (lg_cmp (g1 0) (((sTra S (xs (i + 1)) (xs (i + 2))).2).toInt64))]) ⟨dL_law_424, dL_law_426, dL_law_427, rfl⟩ rfl ?_
      refine el_lc_eq dL_law_428 (tgt := 433) (by decide) (fun q428 => ?_) (fun q428 => ?_)
      · refine el_goto (tgt := 2054) dL_law_433 (by decide) ?_
        refine el_fgt (ls' := [some (.retAddr 20), some (.ref (0)), some (.ref (104)), some (.ref (135)), some (.int (nI i)), none, none]) ⟨Or.inr rfl, Or.inr rfl, Or.inr rfl, Or.inr rfl, Or.inr rfl, Or.inl rfl, Or.inl rfl, trivial⟩ ?_
        exact el_wid (by show kc + 2 + 0 + 0 ≤ kc + 8; omega) (by show ks + 12 + 0 + 0 ≤ ks + 40; omega) (hk _ S (hS) ⟨fR, ⟨_, _, eR⟩, ⟨_, fg⟩, fl.trans (cl.trans hlen)⟩)
      · exact absurd (cz q418) q428
  · exact absurd rfl q411

set_option maxHeartbeats 4000000 in
set_option maxRecDepth 100000 in
theorem w_3 {xs : Nat → Int32} {N9 : Nat} {l : Launch} (hl : l.stackTraces = false) (hN : N9 ≤ 3072) (i : Nat) (hi : i + 6 ≤ N9) {M : ev_M} (S : St) (hS : okS S) (hLI : LI M S) (kc ks : Nat) (hkc : kc + 8 ≤ 601024) (hks : ks + 40 ≤ 7293034) (Q : ev_R → ev_M → Prop) (hk : ∀ (M1 : ev_M) (S1 : St), okS S1 → LI M1 S1 → el_ xs N9 l m_L_law (kc + 8) (ks + 40) 2054 [some (.retAddr 20), some (.ref 0), some (.ref 104), some (.ref 135), some (.int (nI i)), none, none] [] M1 Q) : el_ xs N9 l m_L_law kc ks 436 [some (.retAddr 20), some (.ref 0), some (.ref 104), some (.ref 135), some (.int (nI i)), none, none] [] M Q := by
  obtain ⟨hR, ⟨zi, zl, hRR⟩, ⟨g, hg⟩, hlen⟩ := hLI
  have h10 : S.T.length ≤ 10 := hR.m.1
  have h3 : S.G.length ≤ 3 := hR.g.2.1
  have h20 : S.H.length ≤ 20 := by have := hR.h.2.1.2.1; rwa [hL_len] at this
  refine el_blk (B := [(.aload_n 1, 1)]) (pe := 437) (ls' := [some (.retAddr 20), some (.ref (0)), some (.ref (104)), some (.ref (135)), some (.int (nI i)), none, none]) (st' := [.ref (0)]) ⟨dL_law_436, rfl⟩ rfl ?_
  refine el_cVw Y_X10_transitionCount L_RL_138 dL_law_437 ⟨Nat.le_of_ble_eq_true rfl, Nat.le_of_ble_eq_true rfl, (by show kc + 0 ≤ 601024; omega), (by show ks + 0 ≤ 7293034; omega), Nat.le_of_ble_eq_true rfl⟩ hR.1 (as := []) rfl rfl ((c_X10_transitionCount hl S hS hR  : ev_Mt l m_X10_transitionCount _ _ (fun r M1 => r = .inl (some (.int (sCnt S).2)) ∧ RCl M1 S ∧ Fr 0 104 _ M1))) (fun M1 hL1 hB1 => ?_)
  obtain ⟨cR, cF⟩ := hB1
  have dR := RR.kept hRR (fun j h1 h2 => cF.2 j (Or.inr h1))
  have cg := (cF.2 135 (Or.inr (by decide))).trans hg
  have cl := cF.1
  refine el_blk (B := [(.aload_n 2, 1)]) (pe := 441) (ls' := [some (.retAddr 20), some (.ref (0)), some (.ref (104)), some (.ref (135)), some (.int (nI i)), none, none]) (st' := [.ref (104), .int ((sCnt S).2)]) ⟨dL_law_440, rfl⟩ rfl ?_
  refine el_cVw Y_X11_transitionCount L_RL_141 dL_law_441 ⟨Nat.le_of_ble_eq_true rfl, Nat.le_of_ble_eq_true rfl, (by show kc + 0 + 0 ≤ 601024; omega), (by show ks + 0 + 0 ≤ 7293034; omega), Nat.le_of_ble_eq_true rfl⟩ dR.z (as := []) rfl rfl (r_transitionCount hl 104 S hS h10 h3 h20 _ _ dR) (fun M2 hL2 hB2 => ?_)
  obtain ⟨zi1, zl1, eR, ez, eF⟩ := hB2
  have fR := cR.fr eF (by decide)
  have fg := (eF.2 135 (Or.inr (by decide))).trans cg
  have fl := eF.1
  refine el_ic_eq dL_law_444 (tgt := 2054) (by decide) (fun q444 => ?_) (fun q444 => ?_)
  · exact el_wid (by show kc + 0 + 0 ≤ kc + 8; omega) (by show ks + 0 + 0 ≤ ks + 40; omega) (hk _ S (hS) ⟨fR, ⟨_, _, eR⟩, ⟨_, fg⟩, fl.trans (cl.trans hlen)⟩)
  · exact absurd rfl q444

set_option maxHeartbeats 4000000 in
set_option maxRecDepth 100000 in
theorem w_4 {xs : Nat → Int32} {N9 : Nat} {l : Launch} (hl : l.stackTraces = false) (hN : N9 ≤ 3072) (i : Nat) (hi : i + 6 ≤ N9) {M : ev_M} (S : St) (hS : okS S) (hLI : LI M S) (kc ks : Nat) (hkc : kc + 8 ≤ 601024) (hks : ks + 40 ≤ 7293034) (Q : ev_R → ev_M → Prop) (hk : ∀ (M1 : ev_M) (S1 : St), okS S1 → LI M1 S1 → el_ xs N9 l m_L_law (kc + 8) (ks + 40) 2054 [some (.retAddr 20), some (.ref 0), some (.ref 104), some (.ref 135), some (.int (nI i)), none, none] [] M1 Q) : el_ xs N9 l m_L_law kc ks 449 [some (.retAddr 20), some (.ref 0), some (.ref 104), some (.ref 135), some (.int (nI i)), none, none] [] M Q := by
  obtain ⟨hR, ⟨zi, zl, hRR⟩, ⟨g, hg⟩, hlen⟩ := hLI
  have h10 : S.T.length ≤ 10 := hR.m.1
  have h3 : S.G.length ≤ 3 := hR.g.2.1
  have h20 : S.H.length ≤ 20 := by have := hR.h.2.1.2.1; rwa [hL_len] at this
  refine el_blk (B := [(.aload_n 1, 1), (.aload_n 0, 1), (.iload 4, 2), (.iconst 1, 1), (.iadd, 1)]) (pe := 455) (ls' := [some (.retAddr 20), some (.ref (0)), some (.ref (104)), some (.ref (135)), some (.int (nI i)), none, none]) (st' := [.int (nI (i + 1)), .retAddr 20, .ref (0)]) ⟨dL_law_449, dL_law_450, dL_law_451, dL_law_453, dL_law_454, rfl⟩ (by show some (([some (.retAddr 20), some (.ref (0)), some (.ref (104)), some (.ref (135)), some (.int (nI i)), none, none] : ev_L), ([.int ((nI i) + (nI 1)), .retAddr 20, .ref (0)] : List Value)) = _; rw [nI_add i 1]) ?_
  refine el_sld (vp_in_nI (show i + 1 < N9 by omega) (by omega)) dL_law_455 ?_
  rw [nI_clamp (show i + 1 < 2 ^ 31 by omega)]
  refine el_blk (B := [(.aload_n 3, 1)]) (pe := 457) (ls' := [some (.retAddr 20), some (.ref (0)), some (.ref (104)), some (.ref (135)), some (.int (nI i)), none, none]) (st' := [.ref (135), .int (xs (i + 1)), .ref (0)]) ⟨dL_law_456, rfl⟩ rfl ?_
  refine el_cSHw YH_L_setState L_RL_142 dL_law_457 ⟨Nat.le_of_ble_eq_true rfl, Nat.le_of_ble_eq_true rfl, (by show kc + 1 ≤ 601024; omega), (by show ks + 6 ≤ 7293034; omega), Nat.le_of_ble_eq_true rfl⟩ (as := [.ref (0), .int (xs (i + 1)), .ref (135)]) rfl rfl (h_setState hl S hS hR (xs (i + 1)) 135 (by decide) g hg) (fun M1 hL1 hB1 => ?_)
  obtain ⟨cR, ⟨g1, cg, cz⟩, cl, co⟩ := hB1
  have dR := RR.kept hRR (fun j h1 h2 => co j h1 (by omega))
  refine el_blk (B := [(.istore 5, 2), (.aload_n 2, 1), (.aload_n 0, 1), (.iload 4, 2), (.iconst 1, 1), (.iadd, 1)]) (pe := 468) (ls' := [some (.retAddr 20), some (.ref (0)), some (.ref (104)), some (.ref (135)), some (.int (nI i)), some (.int (nI (sSet S (xs (i + 1))).1.1)), none]) (st' := [.int (nI (i + 1)), .retAddr 20, .ref (104)]) ⟨dL_law_460, dL_law_462, dL_law_463, dL_law_464, dL_law_466, dL_law_467, rfl⟩ (by show some (([some (.retAddr 20), some (.ref (0)), some (.ref (104)), some (.ref (135)), some (.int (nI i)), some (.int (nI (sSet S (xs (i + 1))).1.1)), none] : ev_L), ([.int ((nI i) + (nI 1)), .retAddr 20, .ref (104)] : List Value)) = _; rw [nI_add i 1]) ?_
  refine el_sld (vp_in_nI (show i + 1 < N9 by omega) (by omega)) dL_law_468 ?_
  rw [nI_clamp (show i + 1 < 2 ^ 31 by omega)]
  refine el_cVw Y_X11_setState L_RL_144 dL_law_469 ⟨Nat.le_of_ble_eq_true rfl, Nat.le_of_ble_eq_true rfl, (by show kc + 1 + 0 ≤ 601024; omega), (by show ks + 6 + 0 ≤ 7293034; omega), Nat.le_of_ble_eq_true rfl⟩ dR.z (as := [.int (xs (i + 1))]) rfl rfl (r_setState hl 104 S hS h10 h3 h20 _ _ dR (xs (i + 1))) (fun M2 hL2 hB2 => ?_)
  obtain ⟨zi1, zl1, eR, ez, eF⟩ := hB2
  have fR := cR.fr eF (by decide)
  have fg := (eF.2 135 (Or.inr (by decide))).trans cg
  have fl := eF.1
  refine el_blk (B := [(.istore 6, 2), (.aload_n 2, 1)]) (pe := 475) (ls' := [some (.retAddr 20), some (.ref (0)), some (.ref (104)), some (.ref (135)), some (.int (nI i)), some (.int (nI (sSet S (xs (i + 1))).1.1)), some (.int ((sSet S (xs (i + 1))).1.2))]) (st' := [.ref (104)]) ⟨dL_law_472, dL_law_474, rfl⟩ rfl ?_
  refine el_cVv Y_X11_thrown L_RL_127 dL_law_475 ⟨Nat.le_of_ble_eq_true rfl, Nat.le_of_ble_eq_true rfl, (by show kc + 1 + 0 + 0 ≤ 601024; omega), (by show ks + 6 + 0 + 0 ≤ 7293034; omega), Nat.le_of_ble_eq_true rfl⟩ eR.z (as := []) rfl rfl (c_R_thrown hl 104 zi1 zl1 eR.z) ?_
  rw [ez]
  refine el_blk (B := [(.iload 5, 2)]) (pe := 480) (ls' := [some (.retAddr 20), some (.ref (0)), some (.ref (104)), some (.ref (135)), some (.int (nI i)), some (.int (nI (sSet S (xs (i + 1))).1.1)), some (.int ((sSet S (xs (i + 1))).1.2))]) (st' := [.int (nI (sSet S (xs (i + 1))).1.1), .int (nI (sSet S (xs (i + 1))).1.1)]) ⟨dL_law_478, rfl⟩ rfl ?_
  refine el_ic_eq dL_law_480 (tgt := 485) (by decide) (fun q480 => ?_) (fun q480 => ?_)
  · refine el_blk (B := [(.iload 5, 2)]) (pe := 487) (ls' := [some (.retAddr 20), some (.ref (0)), some (.ref (104)), some (.ref (135)), some (.int (nI i)), some (.int (nI (sSet S (xs (i + 1))).1.1)), some (.int ((sSet S (xs (i + 1))).1.2))]) (st' := [.int (nI (sSet S (xs (i + 1))).1.1)]) ⟨dL_law_485, rfl⟩ rfl ?_
    refine el_if_ne dL_law_487 (tgt := 502) (by decide) (fun q487 => ?_) (fun q487 => ?_)
    · refine el_goto (tgt := 2054) dL_law_502 (by decide) ?_
      refine el_fgt (ls' := [some (.retAddr 20), some (.ref (0)), some (.ref (104)), some (.ref (135)), some (.int (nI i)), none, none]) ⟨Or.inr rfl, Or.inr rfl, Or.inr rfl, Or.inr rfl, Or.inr rfl, Or.inl rfl, Or.inl rfl, trivial⟩ ?_
      exact el_wid (by show kc + 1 + 0 + 0 ≤ kc + 8; omega) (by show ks + 6 + 0 + 0 ≤ ks + 40; omega) (hk _ ((sSet S (xs (i + 1))).2) (k_Set hS (xs (i + 1))) ⟨fR, ⟨_, _, eR⟩, ⟨_, fg⟩, fl.trans (cl.trans hlen)⟩)
    · refine el_blk (B := [(.aload_n 3, 1), (.iconst 0, 1)]) (pe := 492) (ls' := [some (.retAddr 20), some (.ref (0)), some (.ref (104)), some (.ref (135)), some (.int (nI i)), some (.int (nI (sSet S (xs (i + 1))).1.1)), some (.int ((sSet S (xs (i + 1))).1.2))]) (st' := [.int (nI 0), .ref (135)]) ⟨dL_law_490, dL_law_491, rfl⟩ rfl ?_
      refine el_lald dL_law_492 fg (vp_in_nI (show 0 < 1 by omega) (by omega)) ?_
      rw [nI_clamp (show 0 < 2 ^ 31 by omega)]
      refine el_blk (B := [(.iload 6, 2), (.i2l, 1), (.lcmp, 1)]) (pe := 497) (ls' := [some (.retAddr 20), some (.ref (0)), some (.ref (104)), some (.ref (135)), some (.int (nI i)), some (.int (nI (sSet S (xs (i + 1))).1.1)), some (.int ((sSet S (xs (i + 1))).1.2))]) (st' := [.int (lg_cmp (g1 0) (((sSet S (xs (i + 1))).1.2).toInt64))]) ⟨dL_law_493, dL_law_495, dL_law_496, rfl⟩ rfl ?_
      refine el_lc_eq dL_law_497 (tgt := 502) (by decide) (fun q497 => ?_) (fun q497 => ?_)
      · refine el_goto (tgt := 2054) dL_law_502 (by decide) ?_
        refine el_fgt (ls' := [some (.retAddr 20), some (.ref (0)), some (.ref (104)), some (.ref (135)), some (.int (nI i)), none, none]) ⟨Or.inr rfl, Or.inr rfl, Or.inr rfl, Or.inr rfl, Or.inr rfl, Or.inl rfl, Or.inl rfl, trivial⟩ ?_
        exact el_wid (by show kc + 1 + 0 + 0 ≤ kc + 8; omega) (by show ks + 6 + 0 + 0 ≤ ks + 40; omega) (hk _ ((sSet S (xs (i + 1))).2) (k_Set hS (xs (i + 1))) ⟨fR, ⟨_, _, eR⟩, ⟨_, fg⟩, fl.trans (cl.trans hlen)⟩)
      · exact absurd (cz q487) q497
  · exact absurd rfl q480

set_option maxHeartbeats 4000000 in
set_option maxRecDepth 100000 in
theorem w_5 {xs : Nat → Int32} {N9 : Nat} {l : Launch} (hl : l.stackTraces = false) (hN : N9 ≤ 3072) (i : Nat) (hi : i + 6 ≤ N9) {M : ev_M} (S : St) (hS : okS S) (hLI : LI M S) (kc ks : Nat) (hkc : kc + 8 ≤ 601024) (hks : ks + 40 ≤ 7293034) (Q : ev_R → ev_M → Prop) (hk : ∀ (M1 : ev_M) (S1 : St), okS S1 → LI M1 S1 → el_ xs N9 l m_L_law (kc + 8) (ks + 40) 2054 [some (.retAddr 20), some (.ref 0), some (.ref 104), some (.ref 135), some (.int (nI i)), none, none] [] M1 Q) : el_ xs N9 l m_L_law kc ks 505 [some (.retAddr 20), some (.ref 0), some (.ref 104), some (.ref 135), some (.int (nI i)), none, none] [] M Q := by
  obtain ⟨hR, ⟨zi, zl, hRR⟩, ⟨g, hg⟩, hlen⟩ := hLI
  have h10 : S.T.length ≤ 10 := hR.m.1
  have h3 : S.G.length ≤ 3 := hR.g.2.1
  have h20 : S.H.length ≤ 20 := by have := hR.h.2.1.2.1; rwa [hL_len] at this
  refine el_blk (B := [(.aload_n 1, 1), (.aload_n 0, 1), (.iload 4, 2), (.iconst 1, 1), (.iadd, 1)]) (pe := 511) (ls' := [some (.retAddr 20), some (.ref (0)), some (.ref (104)), some (.ref (135)), some (.int (nI i)), none, none]) (st' := [.int (nI (i + 1)), .retAddr 20, .ref (0)]) ⟨dL_law_505, dL_law_506, dL_law_507, dL_law_509, dL_law_510, rfl⟩ (by show some (([some (.retAddr 20), some (.ref (0)), some (.ref (104)), some (.ref (135)), some (.int (nI i)), none, none] : ev_L), ([.int ((nI i) + (nI 1)), .retAddr 20, .ref (0)] : List Value)) = _; rw [nI_add i 1]) ?_
  refine el_sld (vp_in_nI (show i + 1 < N9 by omega) (by omega)) dL_law_511 ?_
  rw [nI_clamp (show i + 1 < 2 ^ 31 by omega)]
  refine el_blk (B := [(.aload_n 0, 1), (.iload 4, 2), (.iconst 2, 1), (.iadd, 1)]) (pe := 517) (ls' := [some (.retAddr 20), some (.ref (0)), some (.ref (104)), some (.ref (135)), some (.int (nI i)), none, none]) (st' := [.int (nI (i + 2)), .retAddr 20, .int (xs (i + 1)), .ref (0)]) ⟨dL_law_512, dL_law_513, dL_law_515, dL_law_516, rfl⟩ (by show some (([some (.retAddr 20), some (.ref (0)), some (.ref (104)), some (.ref (135)), some (.int (nI i)), none, none] : ev_L), ([.int ((nI i) + (nI 2)), .retAddr 20, .int (xs (i + 1)), .ref (0)] : List Value)) = _; rw [nI_add i 2]) ?_
  refine el_sld (vp_in_nI (show i + 2 < N9 by omega) (by omega)) dL_law_517 ?_
  rw [nI_clamp (show i + 2 < 2 ^ 31 by omega)]
  refine el_blk (B := [(.aload_n 3, 1)]) (pe := 519) (ls' := [some (.retAddr 20), some (.ref (0)), some (.ref (104)), some (.ref (135)), some (.int (nI i)), none, none]) (st' := [.ref (135), .int (xs (i + 2)), .int (xs (i + 1)), .ref (0)]) ⟨dL_law_518, rfl⟩ rfl ?_
  refine el_cSHw YH_L_put L_RL_145 dL_law_519 ⟨Nat.le_of_ble_eq_true rfl, Nat.le_of_ble_eq_true rfl, (by show kc + 3 ≤ 601024; omega), (by show ks + 18 ≤ 7293034; omega), Nat.le_of_ble_eq_true rfl⟩ (as := [.ref (0), .int (xs (i + 1)), .int (xs (i + 2)), .ref (135)]) rfl rfl (h_put hl S hS hR (xs (i + 1)) (xs (i + 2)) 135 (by decide) g hg) (fun M1 hL1 hB1 => ?_)
  obtain ⟨cR, ⟨g1, cg, cz⟩, cl, co⟩ := hB1
  have dR := RR.kept hRR (fun j h1 h2 => co j h1 (by omega))
  refine el_blk (B := [(.istore 5, 2), (.aload_n 2, 1), (.aload_n 0, 1), (.iload 4, 2), (.iconst 1, 1), (.iadd, 1)]) (pe := 530) (ls' := [some (.retAddr 20), some (.ref (0)), some (.ref (104)), some (.ref (135)), some (.int (nI i)), some (.int (nI (sPut S (xs (i + 1)) (xs (i + 2))).1.1)), none]) (st' := [.int (nI (i + 1)), .retAddr 20, .ref (104)]) ⟨dL_law_522, dL_law_524, dL_law_525, dL_law_526, dL_law_528, dL_law_529, rfl⟩ (by show some (([some (.retAddr 20), some (.ref (0)), some (.ref (104)), some (.ref (135)), some (.int (nI i)), some (.int (nI (sPut S (xs (i + 1)) (xs (i + 2))).1.1)), none] : ev_L), ([.int ((nI i) + (nI 1)), .retAddr 20, .ref (104)] : List Value)) = _; rw [nI_add i 1]) ?_
  refine el_sld (vp_in_nI (show i + 1 < N9 by omega) (by omega)) dL_law_530 ?_
  rw [nI_clamp (show i + 1 < 2 ^ 31 by omega)]
  refine el_blk (B := [(.aload_n 0, 1), (.iload 4, 2), (.iconst 2, 1), (.iadd, 1)]) (pe := 536) (ls' := [some (.retAddr 20), some (.ref (0)), some (.ref (104)), some (.ref (135)), some (.int (nI i)), some (.int (nI (sPut S (xs (i + 1)) (xs (i + 2))).1.1)), none]) (st' := [.int (nI (i + 2)), .retAddr 20, .int (xs (i + 1)), .ref (104)]) ⟨dL_law_531, dL_law_532, dL_law_534, dL_law_535, rfl⟩ (by show some (([some (.retAddr 20), some (.ref (0)), some (.ref (104)), some (.ref (135)), some (.int (nI i)), some (.int (nI (sPut S (xs (i + 1)) (xs (i + 2))).1.1)), none] : ev_L), ([.int ((nI i) + (nI 2)), .retAddr 20, .int (xs (i + 1)), .ref (104)] : List Value)) = _; rw [nI_add i 2]) ?_
  refine el_sld (vp_in_nI (show i + 2 < N9 by omega) (by omega)) dL_law_536 ?_
  rw [nI_clamp (show i + 2 < 2 ^ 31 by omega)]
  refine el_cVw Y_X11_put L_RL_147 dL_law_537 ⟨Nat.le_of_ble_eq_true rfl, Nat.le_of_ble_eq_true rfl, (by show kc + 3 + 0 ≤ 601024; omega), (by show ks + 18 + 0 ≤ 7293034; omega), Nat.le_of_ble_eq_true rfl⟩ dR.z (as := [.int (xs (i + 1)), .int (xs (i + 2))]) rfl rfl (r_put hl 104 S hS h10 h3 h20 _ _ dR (xs (i + 1)) (xs (i + 2))) (fun M2 hL2 hB2 => ?_)
  obtain ⟨zi1, zl1, eR, ez, eF⟩ := hB2
  have fR := cR.fr eF (by decide)
  have fg := (eF.2 135 (Or.inr (by decide))).trans cg
  have fl := eF.1
  refine el_blk (B := [(.istore 6, 2), (.aload_n 2, 1)]) (pe := 543) (ls' := [some (.retAddr 20), some (.ref (0)), some (.ref (104)), some (.ref (135)), some (.int (nI i)), some (.int (nI (sPut S (xs (i + 1)) (xs (i + 2))).1.1)), some (.int ((sPut S (xs (i + 1)) (xs (i + 2))).1.2))]) (st' := [.ref (104)]) ⟨dL_law_540, dL_law_542, rfl⟩ rfl ?_
  refine el_cVv Y_X11_thrown L_RL_127 dL_law_543 ⟨Nat.le_of_ble_eq_true rfl, Nat.le_of_ble_eq_true rfl, (by show kc + 3 + 0 + 0 ≤ 601024; omega), (by show ks + 18 + 0 + 0 ≤ 7293034; omega), Nat.le_of_ble_eq_true rfl⟩ eR.z (as := []) rfl rfl (c_R_thrown hl 104 zi1 zl1 eR.z) ?_
  rw [ez]
  refine el_blk (B := [(.iload 5, 2)]) (pe := 548) (ls' := [some (.retAddr 20), some (.ref (0)), some (.ref (104)), some (.ref (135)), some (.int (nI i)), some (.int (nI (sPut S (xs (i + 1)) (xs (i + 2))).1.1)), some (.int ((sPut S (xs (i + 1)) (xs (i + 2))).1.2))]) (st' := [.int (nI (sPut S (xs (i + 1)) (xs (i + 2))).1.1), .int (nI (sPut S (xs (i + 1)) (xs (i + 2))).1.1)]) ⟨dL_law_546, rfl⟩ rfl ?_
  refine el_ic_eq dL_law_548 (tgt := 553) (by decide) (fun q548 => ?_) (fun q548 => ?_)
  · refine el_blk (B := [(.iload 5, 2)]) (pe := 555) (ls' := [some (.retAddr 20), some (.ref (0)), some (.ref (104)), some (.ref (135)), some (.int (nI i)), some (.int (nI (sPut S (xs (i + 1)) (xs (i + 2))).1.1)), some (.int ((sPut S (xs (i + 1)) (xs (i + 2))).1.2))]) (st' := [.int (nI (sPut S (xs (i + 1)) (xs (i + 2))).1.1)]) ⟨dL_law_553, rfl⟩ rfl ?_
    refine el_if_ne dL_law_555 (tgt := 570) (by decide) (fun q555 => ?_) (fun q555 => ?_)
    · refine el_goto (tgt := 2054) dL_law_570 (by decide) ?_
      refine el_fgt (ls' := [some (.retAddr 20), some (.ref (0)), some (.ref (104)), some (.ref (135)), some (.int (nI i)), none, none]) ⟨Or.inr rfl, Or.inr rfl, Or.inr rfl, Or.inr rfl, Or.inr rfl, Or.inl rfl, Or.inl rfl, trivial⟩ ?_
      exact el_wid (by show kc + 3 + 0 + 0 ≤ kc + 8; omega) (by show ks + 18 + 0 + 0 ≤ ks + 40; omega) (hk _ ((sPut S (xs (i + 1)) (xs (i + 2))).2) (k_Put hS (xs (i + 1)) (xs (i + 2))) ⟨fR, ⟨_, _, eR⟩, ⟨_, fg⟩, fl.trans (cl.trans hlen)⟩)
    · refine el_blk (B := [(.aload_n 3, 1), (.iconst 0, 1)]) (pe := 560) (ls' := [some (.retAddr 20), some (.ref (0)), some (.ref (104)), some (.ref (135)), some (.int (nI i)), some (.int (nI (sPut S (xs (i + 1)) (xs (i + 2))).1.1)), some (.int ((sPut S (xs (i + 1)) (xs (i + 2))).1.2))]) (st' := [.int (nI 0), .ref (135)]) ⟨dL_law_558, dL_law_559, rfl⟩ rfl ?_
      refine el_lald dL_law_560 fg (vp_in_nI (show 0 < 1 by omega) (by omega)) ?_
      rw [nI_clamp (show 0 < 2 ^ 31 by omega)]
      refine el_blk (B := [(.iload 6, 2), (.i2l, 1), (.lcmp, 1)]) (pe := 565) (ls' := [some (.retAddr 20), some (.ref (0)), some (.ref (104)), some (.ref (135)), some (.int (nI i)), some (.int (nI (sPut S (xs (i + 1)) (xs (i + 2))).1.1)), some (.int ((sPut S (xs (i + 1)) (xs (i + 2))).1.2))]) (st' := [.int (lg_cmp (g1 0) (((sPut S (xs (i + 1)) (xs (i + 2))).1.2).toInt64))]) ⟨dL_law_561, dL_law_563, dL_law_564, rfl⟩ rfl ?_
      refine el_lc_eq dL_law_565 (tgt := 570) (by decide) (fun q565 => ?_) (fun q565 => ?_)
      · refine el_goto (tgt := 2054) dL_law_570 (by decide) ?_
        refine el_fgt (ls' := [some (.retAddr 20), some (.ref (0)), some (.ref (104)), some (.ref (135)), some (.int (nI i)), none, none]) ⟨Or.inr rfl, Or.inr rfl, Or.inr rfl, Or.inr rfl, Or.inr rfl, Or.inl rfl, Or.inl rfl, trivial⟩ ?_
        exact el_wid (by show kc + 3 + 0 + 0 ≤ kc + 8; omega) (by show ks + 18 + 0 + 0 ≤ ks + 40; omega) (hk _ ((sPut S (xs (i + 1)) (xs (i + 2))).2) (k_Put hS (xs (i + 1)) (xs (i + 2))) ⟨fR, ⟨_, _, eR⟩, ⟨_, fg⟩, fl.trans (cl.trans hlen)⟩)
      · exact absurd (cz q555) q565
  · exact absurd rfl q548

set_option maxHeartbeats 4000000 in
set_option maxRecDepth 100000 in
theorem w_6 {xs : Nat → Int32} {N9 : Nat} {l : Launch} (hl : l.stackTraces = false) (hN : N9 ≤ 3072) (i : Nat) (hi : i + 6 ≤ N9) {M : ev_M} (S : St) (hS : okS S) (hLI : LI M S) (kc ks : Nat) (hkc : kc + 8 ≤ 601024) (hks : ks + 40 ≤ 7293034) (Q : ev_R → ev_M → Prop) (hk : ∀ (M1 : ev_M) (S1 : St), okS S1 → LI M1 S1 → el_ xs N9 l m_L_law (kc + 8) (ks + 40) 2054 [some (.retAddr 20), some (.ref 0), some (.ref 104), some (.ref 135), some (.int (nI i)), none, none] [] M1 Q) : el_ xs N9 l m_L_law kc ks 573 [some (.retAddr 20), some (.ref 0), some (.ref 104), some (.ref 135), some (.int (nI i)), none, none] [] M Q := by
  obtain ⟨hR, ⟨zi, zl, hRR⟩, ⟨g, hg⟩, hlen⟩ := hLI
  have h10 : S.T.length ≤ 10 := hR.m.1
  have h3 : S.G.length ≤ 3 := hR.g.2.1
  have h20 : S.H.length ≤ 20 := by have := hR.h.2.1.2.1; rwa [hL_len] at this
  refine el_blk (B := [(.aload_n 1, 1), (.aload_n 0, 1), (.iload 4, 2), (.iconst 1, 1), (.iadd, 1)]) (pe := 579) (ls' := [some (.retAddr 20), some (.ref (0)), some (.ref (104)), some (.ref (135)), some (.int (nI i)), none, none]) (st' := [.int (nI (i + 1)), .retAddr 20, .ref (0)]) ⟨dL_law_573, dL_law_574, dL_law_575, dL_law_577, dL_law_578, rfl⟩ (by show some (([some (.retAddr 20), some (.ref (0)), some (.ref (104)), some (.ref (135)), some (.int (nI i)), none, none] : ev_L), ([.int ((nI i) + (nI 1)), .retAddr 20, .ref (0)] : List Value)) = _; rw [nI_add i 1]) ?_
  refine el_sld (vp_in_nI (show i + 1 < N9 by omega) (by omega)) dL_law_579 ?_
  rw [nI_clamp (show i + 1 < 2 ^ 31 by omega)]
  refine el_blk (B := [(.aload_n 3, 1)]) (pe := 581) (ls' := [some (.retAddr 20), some (.ref (0)), some (.ref (104)), some (.ref (135)), some (.int (nI i)), none, none]) (st' := [.ref (135), .int (xs (i + 1)), .ref (0)]) ⟨dL_law_580, rfl⟩ rfl ?_
  refine el_cSHw YH_L_clear L_RL_148 dL_law_581 ⟨Nat.le_of_ble_eq_true rfl, Nat.le_of_ble_eq_true rfl, (by show kc + 1 ≤ 601024; omega), (by show ks + 6 ≤ 7293034; omega), Nat.le_of_ble_eq_true rfl⟩ (as := [.ref (0), .int (xs (i + 1)), .ref (135)]) rfl rfl (h_clear hl S hS hR (xs (i + 1)) 135 (by decide) g hg) (fun M1 hL1 hB1 => ?_)
  obtain ⟨cR, ⟨g1, cg, cz⟩, cl, co⟩ := hB1
  have dR := RR.kept hRR (fun j h1 h2 => co j h1 (by omega))
  refine el_blk (B := [(.istore 5, 2), (.aload_n 2, 1), (.aload_n 0, 1), (.iload 4, 2), (.iconst 1, 1), (.iadd, 1)]) (pe := 592) (ls' := [some (.retAddr 20), some (.ref (0)), some (.ref (104)), some (.ref (135)), some (.int (nI i)), some (.int (nI (sClr S (xs (i + 1))).1.1)), none]) (st' := [.int (nI (i + 1)), .retAddr 20, .ref (104)]) ⟨dL_law_584, dL_law_586, dL_law_587, dL_law_588, dL_law_590, dL_law_591, rfl⟩ (by show some (([some (.retAddr 20), some (.ref (0)), some (.ref (104)), some (.ref (135)), some (.int (nI i)), some (.int (nI (sClr S (xs (i + 1))).1.1)), none] : ev_L), ([.int ((nI i) + (nI 1)), .retAddr 20, .ref (104)] : List Value)) = _; rw [nI_add i 1]) ?_
  refine el_sld (vp_in_nI (show i + 1 < N9 by omega) (by omega)) dL_law_592 ?_
  rw [nI_clamp (show i + 1 < 2 ^ 31 by omega)]
  refine el_cVw Y_X11_clear L_RL_150 dL_law_593 ⟨Nat.le_of_ble_eq_true rfl, Nat.le_of_ble_eq_true rfl, (by show kc + 1 + 0 ≤ 601024; omega), (by show ks + 6 + 0 ≤ 7293034; omega), Nat.le_of_ble_eq_true rfl⟩ dR.z (as := [.int (xs (i + 1))]) rfl rfl (r_clear hl 104 S hS h10 h3 h20 _ _ dR (xs (i + 1))) (fun M2 hL2 hB2 => ?_)
  obtain ⟨zi1, zl1, eR, ez, eF⟩ := hB2
  have fR := cR.fr eF (by decide)
  have fg := (eF.2 135 (Or.inr (by decide))).trans cg
  have fl := eF.1
  refine el_blk (B := [(.istore 6, 2), (.aload_n 2, 1)]) (pe := 599) (ls' := [some (.retAddr 20), some (.ref (0)), some (.ref (104)), some (.ref (135)), some (.int (nI i)), some (.int (nI (sClr S (xs (i + 1))).1.1)), some (.int ((sClr S (xs (i + 1))).1.2))]) (st' := [.ref (104)]) ⟨dL_law_596, dL_law_598, rfl⟩ rfl ?_
  refine el_cVv Y_X11_thrown L_RL_127 dL_law_599 ⟨Nat.le_of_ble_eq_true rfl, Nat.le_of_ble_eq_true rfl, (by show kc + 1 + 0 + 0 ≤ 601024; omega), (by show ks + 6 + 0 + 0 ≤ 7293034; omega), Nat.le_of_ble_eq_true rfl⟩ eR.z (as := []) rfl rfl (c_R_thrown hl 104 zi1 zl1 eR.z) ?_
  rw [ez]
  refine el_blk (B := [(.iload 5, 2)]) (pe := 604) (ls' := [some (.retAddr 20), some (.ref (0)), some (.ref (104)), some (.ref (135)), some (.int (nI i)), some (.int (nI (sClr S (xs (i + 1))).1.1)), some (.int ((sClr S (xs (i + 1))).1.2))]) (st' := [.int (nI (sClr S (xs (i + 1))).1.1), .int (nI (sClr S (xs (i + 1))).1.1)]) ⟨dL_law_602, rfl⟩ rfl ?_
  refine el_ic_eq dL_law_604 (tgt := 609) (by decide) (fun q604 => ?_) (fun q604 => ?_)
  · refine el_blk (B := [(.iload 5, 2)]) (pe := 611) (ls' := [some (.retAddr 20), some (.ref (0)), some (.ref (104)), some (.ref (135)), some (.int (nI i)), some (.int (nI (sClr S (xs (i + 1))).1.1)), some (.int ((sClr S (xs (i + 1))).1.2))]) (st' := [.int (nI (sClr S (xs (i + 1))).1.1)]) ⟨dL_law_609, rfl⟩ rfl ?_
    refine el_if_ne dL_law_611 (tgt := 626) (by decide) (fun q611 => ?_) (fun q611 => ?_)
    · refine el_goto (tgt := 2054) dL_law_626 (by decide) ?_
      refine el_fgt (ls' := [some (.retAddr 20), some (.ref (0)), some (.ref (104)), some (.ref (135)), some (.int (nI i)), none, none]) ⟨Or.inr rfl, Or.inr rfl, Or.inr rfl, Or.inr rfl, Or.inr rfl, Or.inl rfl, Or.inl rfl, trivial⟩ ?_
      exact el_wid (by show kc + 1 + 0 + 0 ≤ kc + 8; omega) (by show ks + 6 + 0 + 0 ≤ ks + 40; omega) (hk _ ((sClr S (xs (i + 1))).2) (k_Clr hS (xs (i + 1))) ⟨fR, ⟨_, _, eR⟩, ⟨_, fg⟩, fl.trans (cl.trans hlen)⟩)
    · refine el_blk (B := [(.aload_n 3, 1), (.iconst 0, 1)]) (pe := 616) (ls' := [some (.retAddr 20), some (.ref (0)), some (.ref (104)), some (.ref (135)), some (.int (nI i)), some (.int (nI (sClr S (xs (i + 1))).1.1)), some (.int ((sClr S (xs (i + 1))).1.2))]) (st' := [.int (nI 0), .ref (135)]) ⟨dL_law_614, dL_law_615, rfl⟩ rfl ?_
      refine el_lald dL_law_616 fg (vp_in_nI (show 0 < 1 by omega) (by omega)) ?_
      rw [nI_clamp (show 0 < 2 ^ 31 by omega)]
      refine el_blk (B := [(.iload 6, 2), (.i2l, 1), (.lcmp, 1)]) (pe := 621) (ls' := [some (.retAddr 20), some (.ref (0)), some (.ref (104)), some (.ref (135)), some (.int (nI i)), some (.int (nI (sClr S (xs (i + 1))).1.1)), some (.int ((sClr S (xs (i + 1))).1.2))]) (st' := [.int (lg_cmp (g1 0) (((sClr S (xs (i + 1))).1.2).toInt64))]) ⟨dL_law_617, dL_law_619, dL_law_620, rfl⟩ rfl ?_
      refine el_lc_eq dL_law_621 (tgt := 626) (by decide) (fun q621 => ?_) (fun q621 => ?_)
      · refine el_goto (tgt := 2054) dL_law_626 (by decide) ?_
        refine el_fgt (ls' := [some (.retAddr 20), some (.ref (0)), some (.ref (104)), some (.ref (135)), some (.int (nI i)), none, none]) ⟨Or.inr rfl, Or.inr rfl, Or.inr rfl, Or.inr rfl, Or.inr rfl, Or.inl rfl, Or.inl rfl, trivial⟩ ?_
        exact el_wid (by show kc + 1 + 0 + 0 ≤ kc + 8; omega) (by show ks + 6 + 0 + 0 ≤ ks + 40; omega) (hk _ ((sClr S (xs (i + 1))).2) (k_Clr hS (xs (i + 1))) ⟨fR, ⟨_, _, eR⟩, ⟨_, fg⟩, fl.trans (cl.trans hlen)⟩)
      · exact absurd (cz q611) q621
  · exact absurd rfl q604

set_option maxHeartbeats 4000000 in
set_option maxRecDepth 100000 in
theorem w_7 {xs : Nat → Int32} {N9 : Nat} {l : Launch} (hl : l.stackTraces = false) (hN : N9 ≤ 3072) (i : Nat) (hi : i + 6 ≤ N9) {M : ev_M} (S : St) (hS : okS S) (hLI : LI M S) (kc ks : Nat) (hkc : kc + 8 ≤ 601024) (hks : ks + 40 ≤ 7293034) (Q : ev_R → ev_M → Prop) (hk : ∀ (M1 : ev_M) (S1 : St), okS S1 → LI M1 S1 → el_ xs N9 l m_L_law (kc + 8) (ks + 40) 2054 [some (.retAddr 20), some (.ref 0), some (.ref 104), some (.ref 135), some (.int (nI i)), none, none] [] M1 Q) : el_ xs N9 l m_L_law kc ks 629 [some (.retAddr 20), some (.ref 0), some (.ref 104), some (.ref 135), some (.int (nI i)), none, none] [] M Q := by
  obtain ⟨hR, ⟨zi, zl, hRR⟩, ⟨g, hg⟩, hlen⟩ := hLI
  have h10 : S.T.length ≤ 10 := hR.m.1
  have h3 : S.G.length ≤ 3 := hR.g.2.1
  have h20 : S.H.length ≤ 20 := by have := hR.h.2.1.2.1; rwa [hL_len] at this
  refine el_blk (B := [(.aload_n 1, 1)]) (pe := 630) (ls' := [some (.retAddr 20), some (.ref (0)), some (.ref (104)), some (.ref (135)), some (.int (nI i)), none, none]) (st' := [.ref (0)]) ⟨dL_law_629, rfl⟩ rfl ?_
  refine el_cVw Y_X10_state L_RL_151 dL_law_630 ⟨Nat.le_of_ble_eq_true rfl, Nat.le_of_ble_eq_true rfl, (by show kc + 0 ≤ 601024; omega), (by show ks + 0 ≤ 7293034; omega), Nat.le_of_ble_eq_true rfl⟩ hR.1 (as := []) rfl rfl ((c_X10_state hl S hS hR  : ev_Mt l m_X10_state _ _ (fun r M1 => r = .inl (some (.int (sSta S).2)) ∧ RCl M1 S ∧ Fr 0 104 _ M1))) (fun M1 hL1 hB1 => ?_)
  obtain ⟨cR, cF⟩ := hB1
  have dR := RR.kept hRR (fun j h1 h2 => cF.2 j (Or.inr h1))
  have cg := (cF.2 135 (Or.inr (by decide))).trans hg
  have cl := cF.1
  refine el_blk (B := [(.aload_n 2, 1)]) (pe := 634) (ls' := [some (.retAddr 20), some (.ref (0)), some (.ref (104)), some (.ref (135)), some (.int (nI i)), none, none]) (st' := [.ref (104), .int ((sSta S).2)]) ⟨dL_law_633, rfl⟩ rfl ?_
  refine el_cVw Y_X11_state L_RL_154 dL_law_634 ⟨Nat.le_of_ble_eq_true rfl, Nat.le_of_ble_eq_true rfl, (by show kc + 0 + 0 ≤ 601024; omega), (by show ks + 0 + 0 ≤ 7293034; omega), Nat.le_of_ble_eq_true rfl⟩ dR.z (as := []) rfl rfl (r_state hl 104 S hS h10 h3 h20 _ _ dR) (fun M2 hL2 hB2 => ?_)
  obtain ⟨zi1, zl1, eR, ez, eF⟩ := hB2
  have fR := cR.fr eF (by decide)
  have fg := (eF.2 135 (Or.inr (by decide))).trans cg
  have fl := eF.1
  refine el_ic_eq dL_law_637 (tgt := 2054) (by decide) (fun q637 => ?_) (fun q637 => ?_)
  · exact el_wid (by show kc + 0 + 0 ≤ kc + 8; omega) (by show ks + 0 + 0 ≤ ks + 40; omega) (hk _ S (hS) ⟨fR, ⟨_, _, eR⟩, ⟨_, fg⟩, fl.trans (cl.trans hlen)⟩)
  · exact absurd rfl q637

set_option maxHeartbeats 4000000 in
set_option maxRecDepth 100000 in
theorem w_8 {xs : Nat → Int32} {N9 : Nat} {l : Launch} (hl : l.stackTraces = false) (hN : N9 ≤ 3072) (i : Nat) (hi : i + 6 ≤ N9) {M : ev_M} (S : St) (hS : okS S) (hLI : LI M S) (kc ks : Nat) (hkc : kc + 8 ≤ 601024) (hks : ks + 40 ≤ 7293034) (Q : ev_R → ev_M → Prop) (hk : ∀ (M1 : ev_M) (S1 : St), okS S1 → LI M1 S1 → el_ xs N9 l m_L_law (kc + 8) (ks + 40) 2054 [some (.retAddr 20), some (.ref 0), some (.ref 104), some (.ref 135), some (.int (nI i)), none, none] [] M1 Q) : el_ xs N9 l m_L_law kc ks 642 [some (.retAddr 20), some (.ref 0), some (.ref 104), some (.ref 135), some (.int (nI i)), none, none] [] M Q := by
  obtain ⟨hR, ⟨zi, zl, hRR⟩, ⟨g, hg⟩, hlen⟩ := hLI
  have h10 : S.T.length ≤ 10 := hR.m.1
  have h3 : S.G.length ≤ 3 := hR.g.2.1
  have h20 : S.H.length ≤ 20 := by have := hR.h.2.1.2.1; rwa [hL_len] at this
  refine el_blk (B := [(.aload_n 1, 1), (.aload_n 0, 1), (.iload 4, 2), (.iconst 1, 1), (.iadd, 1)]) (pe := 648) (ls' := [some (.retAddr 20), some (.ref (0)), some (.ref (104)), some (.ref (135)), some (.int (nI i)), none, none]) (st' := [.int (nI (i + 1)), .retAddr 20, .ref (0)]) ⟨dL_law_642, dL_law_643, dL_law_644, dL_law_646, dL_law_647, rfl⟩ (by show some (([some (.retAddr 20), some (.ref (0)), some (.ref (104)), some (.ref (135)), some (.int (nI i)), none, none] : ev_L), ([.int ((nI i) + (nI 1)), .retAddr 20, .ref (0)] : List Value)) = _; rw [nI_add i 1]) ?_
  refine el_sld (vp_in_nI (show i + 1 < N9 by omega) (by omega)) dL_law_648 ?_
  rw [nI_clamp (show i + 1 < 2 ^ 31 by omega)]
  refine el_blk (B := [(.aload_n 3, 1)]) (pe := 650) (ls' := [some (.retAddr 20), some (.ref (0)), some (.ref (104)), some (.ref (135)), some (.int (nI i)), none, none]) (st' := [.ref (135), .int (xs (i + 1)), .ref (0)]) ⟨dL_law_649, rfl⟩ rfl ?_
  refine el_cSHw YH_L_length L_RL_155 dL_law_650 ⟨Nat.le_of_ble_eq_true rfl, Nat.le_of_ble_eq_true rfl, (by show kc + 1 ≤ 601024; omega), (by show ks + 6 ≤ 7293034; omega), Nat.le_of_ble_eq_true rfl⟩ (as := [.ref (0), .int (xs (i + 1)), .ref (135)]) rfl rfl (h_length hl S hS hR (xs (i + 1)) 135 (by decide) g hg) (fun M1 hL1 hB1 => ?_)
  obtain ⟨cR, ⟨g1, cg, cz⟩, cl, co⟩ := hB1
  have dR := RR.kept hRR (fun j h1 h2 => co j h1 (by omega))
  refine el_blk (B := [(.istore 5, 2), (.aload_n 2, 1), (.aload_n 0, 1), (.iload 4, 2), (.iconst 1, 1), (.iadd, 1)]) (pe := 661) (ls' := [some (.retAddr 20), some (.ref (0)), some (.ref (104)), some (.ref (135)), some (.int (nI i)), some (.int (nI (sLen S (xs (i + 1))).1)), none]) (st' := [.int (nI (i + 1)), .retAddr 20, .ref (104)]) ⟨dL_law_653, dL_law_655, dL_law_656, dL_law_657, dL_law_659, dL_law_660, rfl⟩ (by show some (([some (.retAddr 20), some (.ref (0)), some (.ref (104)), some (.ref (135)), some (.int (nI i)), some (.int (nI (sLen S (xs (i + 1))).1)), none] : ev_L), ([.int ((nI i) + (nI 1)), .retAddr 20, .ref (104)] : List Value)) = _; rw [nI_add i 1]) ?_
  refine el_sld (vp_in_nI (show i + 1 < N9 by omega) (by omega)) dL_law_661 ?_
  rw [nI_clamp (show i + 1 < 2 ^ 31 by omega)]
  refine el_cVw Y_X11_length L_RL_157 dL_law_662 ⟨Nat.le_of_ble_eq_true rfl, Nat.le_of_ble_eq_true rfl, (by show kc + 1 + 0 ≤ 601024; omega), (by show ks + 6 + 0 ≤ 7293034; omega), Nat.le_of_ble_eq_true rfl⟩ dR.z (as := [.int (xs (i + 1))]) rfl rfl (r_length hl 104 S hS h10 h3 h20 _ _ dR (xs (i + 1))) (fun M2 hL2 hB2 => ?_)
  obtain ⟨zi1, zl1, eR, ez, eF⟩ := hB2
  have fR := cR.fr eF (by decide)
  have fg := (eF.2 135 (Or.inr (by decide))).trans cg
  have fl := eF.1
  refine el_blk (B := [(.istore 6, 2), (.aload_n 2, 1)]) (pe := 668) (ls' := [some (.retAddr 20), some (.ref (0)), some (.ref (104)), some (.ref (135)), some (.int (nI i)), some (.int (nI (sLen S (xs (i + 1))).1)), some (.int ((sLen S (xs (i + 1))).2))]) (st' := [.ref (104)]) ⟨dL_law_665, dL_law_667, rfl⟩ rfl ?_
  refine el_cVv Y_X11_thrown L_RL_127 dL_law_668 ⟨Nat.le_of_ble_eq_true rfl, Nat.le_of_ble_eq_true rfl, (by show kc + 1 + 0 + 0 ≤ 601024; omega), (by show ks + 6 + 0 + 0 ≤ 7293034; omega), Nat.le_of_ble_eq_true rfl⟩ eR.z (as := []) rfl rfl (c_R_thrown hl 104 zi1 zl1 eR.z) ?_
  rw [ez]
  refine el_blk (B := [(.iload 5, 2)]) (pe := 673) (ls' := [some (.retAddr 20), some (.ref (0)), some (.ref (104)), some (.ref (135)), some (.int (nI i)), some (.int (nI (sLen S (xs (i + 1))).1)), some (.int ((sLen S (xs (i + 1))).2))]) (st' := [.int (nI (sLen S (xs (i + 1))).1), .int (nI (sLen S (xs (i + 1))).1)]) ⟨dL_law_671, rfl⟩ rfl ?_
  refine el_ic_eq dL_law_673 (tgt := 678) (by decide) (fun q673 => ?_) (fun q673 => ?_)
  · refine el_blk (B := [(.iload 5, 2)]) (pe := 680) (ls' := [some (.retAddr 20), some (.ref (0)), some (.ref (104)), some (.ref (135)), some (.int (nI i)), some (.int (nI (sLen S (xs (i + 1))).1)), some (.int ((sLen S (xs (i + 1))).2))]) (st' := [.int (nI (sLen S (xs (i + 1))).1)]) ⟨dL_law_678, rfl⟩ rfl ?_
    refine el_if_ne dL_law_680 (tgt := 695) (by decide) (fun q680 => ?_) (fun q680 => ?_)
    · refine el_goto (tgt := 2054) dL_law_695 (by decide) ?_
      refine el_fgt (ls' := [some (.retAddr 20), some (.ref (0)), some (.ref (104)), some (.ref (135)), some (.int (nI i)), none, none]) ⟨Or.inr rfl, Or.inr rfl, Or.inr rfl, Or.inr rfl, Or.inr rfl, Or.inl rfl, Or.inl rfl, trivial⟩ ?_
      exact el_wid (by show kc + 1 + 0 + 0 ≤ kc + 8; omega) (by show ks + 6 + 0 + 0 ≤ ks + 40; omega) (hk _ S (hS) ⟨fR, ⟨_, _, eR⟩, ⟨_, fg⟩, fl.trans (cl.trans hlen)⟩)
    · refine el_blk (B := [(.aload_n 3, 1), (.iconst 0, 1)]) (pe := 685) (ls' := [some (.retAddr 20), some (.ref (0)), some (.ref (104)), some (.ref (135)), some (.int (nI i)), some (.int (nI (sLen S (xs (i + 1))).1)), some (.int ((sLen S (xs (i + 1))).2))]) (st' := [.int (nI 0), .ref (135)]) ⟨dL_law_683, dL_law_684, rfl⟩ rfl ?_
      refine el_lald dL_law_685 fg (vp_in_nI (show 0 < 1 by omega) (by omega)) ?_
      rw [nI_clamp (show 0 < 2 ^ 31 by omega)]
      refine el_blk (B := [(.iload 6, 2), (.i2l, 1), (.lcmp, 1)]) (pe := 690) (ls' := [some (.retAddr 20), some (.ref (0)), some (.ref (104)), some (.ref (135)), some (.int (nI i)), some (.int (nI (sLen S (xs (i + 1))).1)), some (.int ((sLen S (xs (i + 1))).2))]) (st' := [.int (lg_cmp (g1 0) (((sLen S (xs (i + 1))).2).toInt64))]) ⟨dL_law_686, dL_law_688, dL_law_689, rfl⟩ rfl ?_
      refine el_lc_eq dL_law_690 (tgt := 695) (by decide) (fun q690 => ?_) (fun q690 => ?_)
      · refine el_goto (tgt := 2054) dL_law_695 (by decide) ?_
        refine el_fgt (ls' := [some (.retAddr 20), some (.ref (0)), some (.ref (104)), some (.ref (135)), some (.int (nI i)), none, none]) ⟨Or.inr rfl, Or.inr rfl, Or.inr rfl, Or.inr rfl, Or.inr rfl, Or.inl rfl, Or.inl rfl, trivial⟩ ?_
        exact el_wid (by show kc + 1 + 0 + 0 ≤ kc + 8; omega) (by show ks + 6 + 0 + 0 ≤ ks + 40; omega) (hk _ S (hS) ⟨fR, ⟨_, _, eR⟩, ⟨_, fg⟩, fl.trans (cl.trans hlen)⟩)
      · exact absurd (cz q680) q690
  · exact absurd rfl q673

set_option maxHeartbeats 4000000 in
set_option maxRecDepth 100000 in
theorem w_9 {xs : Nat → Int32} {N9 : Nat} {l : Launch} (hl : l.stackTraces = false) (hN : N9 ≤ 3072) (i : Nat) (hi : i + 6 ≤ N9) {M : ev_M} (S : St) (hS : okS S) (hLI : LI M S) (kc ks : Nat) (hkc : kc + 8 ≤ 601024) (hks : ks + 40 ≤ 7293034) (Q : ev_R → ev_M → Prop) (hk : ∀ (M1 : ev_M) (S1 : St), okS S1 → LI M1 S1 → el_ xs N9 l m_L_law (kc + 8) (ks + 40) 2054 [some (.retAddr 20), some (.ref 0), some (.ref 104), some (.ref 135), some (.int (nI i)), none, none] [] M1 Q) : el_ xs N9 l m_L_law kc ks 698 [some (.retAddr 20), some (.ref 0), some (.ref 104), some (.ref 135), some (.int (nI i)), none, none] [] M Q := by
  obtain ⟨hR, ⟨zi, zl, hRR⟩, ⟨g, hg⟩, hlen⟩ := hLI
  have h10 : S.T.length ≤ 10 := hR.m.1
  have h3 : S.G.length ≤ 3 := hR.g.2.1
  have h20 : S.H.length ≤ 20 := by have := hR.h.2.1.2.1; rwa [hL_len] at this
  refine el_blk (B := [(.aload_n 1, 1), (.aload_n 0, 1), (.iload 4, 2), (.iconst 1, 1), (.iadd, 1)]) (pe := 704) (ls' := [some (.retAddr 20), some (.ref (0)), some (.ref (104)), some (.ref (135)), some (.int (nI i)), none, none]) (st' := [.int (nI (i + 1)), .retAddr 20, .ref (0)]) ⟨dL_law_698, dL_law_699, dL_law_700, dL_law_702, dL_law_703, rfl⟩ (by show some (([some (.retAddr 20), some (.ref (0)), some (.ref (104)), some (.ref (135)), some (.int (nI i)), none, none] : ev_L), ([.int ((nI i) + (nI 1)), .retAddr 20, .ref (0)] : List Value)) = _; rw [nI_add i 1]) ?_
  refine el_sld (vp_in_nI (show i + 1 < N9 by omega) (by omega)) dL_law_704 ?_
  rw [nI_clamp (show i + 1 < 2 ^ 31 by omega)]
  refine el_blk (B := [(.aload_n 0, 1), (.iload 4, 2), (.iconst 2, 1), (.iadd, 1)]) (pe := 710) (ls' := [some (.retAddr 20), some (.ref (0)), some (.ref (104)), some (.ref (135)), some (.int (nI i)), none, none]) (st' := [.int (nI (i + 2)), .retAddr 20, .int (xs (i + 1)), .ref (0)]) ⟨dL_law_705, dL_law_706, dL_law_708, dL_law_709, rfl⟩ (by show some (([some (.retAddr 20), some (.ref (0)), some (.ref (104)), some (.ref (135)), some (.int (nI i)), none, none] : ev_L), ([.int ((nI i) + (nI 2)), .retAddr 20, .int (xs (i + 1)), .ref (0)] : List Value)) = _; rw [nI_add i 2]) ?_
  refine el_sld (vp_in_nI (show i + 2 < N9 by omega) (by omega)) dL_law_710 ?_
  rw [nI_clamp (show i + 2 < 2 ^ 31 by omega)]
  refine el_blk (B := [(.aload_n 3, 1)]) (pe := 712) (ls' := [some (.retAddr 20), some (.ref (0)), some (.ref (104)), some (.ref (135)), some (.int (nI i)), none, none]) (st' := [.ref (135), .int (xs (i + 2)), .int (xs (i + 1)), .ref (0)]) ⟨dL_law_711, rfl⟩ rfl ?_
  refine el_cSHw YH_L_letter L_RL_158 dL_law_712 ⟨Nat.le_of_ble_eq_true rfl, Nat.le_of_ble_eq_true rfl, (by show kc + 2 ≤ 601024; omega), (by show ks + 12 ≤ 7293034; omega), Nat.le_of_ble_eq_true rfl⟩ (as := [.ref (0), .int (xs (i + 1)), .int (xs (i + 2)), .ref (135)]) rfl rfl (h_letter hl S hS hR (xs (i + 1)) (xs (i + 2)) 135 (by decide) g hg) (fun M1 hL1 hB1 => ?_)
  obtain ⟨cR, ⟨g1, cg, cz⟩, cl, co⟩ := hB1
  have dR := RR.kept hRR (fun j h1 h2 => co j h1 (by omega))
  refine el_blk (B := [(.istore 5, 2), (.aload_n 2, 1), (.aload_n 0, 1), (.iload 4, 2), (.iconst 1, 1), (.iadd, 1)]) (pe := 723) (ls' := [some (.retAddr 20), some (.ref (0)), some (.ref (104)), some (.ref (135)), some (.int (nI i)), some (.int (nI (sLet S (xs (i + 1)) (xs (i + 2))).1)), none]) (st' := [.int (nI (i + 1)), .retAddr 20, .ref (104)]) ⟨dL_law_715, dL_law_717, dL_law_718, dL_law_719, dL_law_721, dL_law_722, rfl⟩ (by show some (([some (.retAddr 20), some (.ref (0)), some (.ref (104)), some (.ref (135)), some (.int (nI i)), some (.int (nI (sLet S (xs (i + 1)) (xs (i + 2))).1)), none] : ev_L), ([.int ((nI i) + (nI 1)), .retAddr 20, .ref (104)] : List Value)) = _; rw [nI_add i 1]) ?_
  refine el_sld (vp_in_nI (show i + 1 < N9 by omega) (by omega)) dL_law_723 ?_
  rw [nI_clamp (show i + 1 < 2 ^ 31 by omega)]
  refine el_blk (B := [(.aload_n 0, 1), (.iload 4, 2), (.iconst 2, 1), (.iadd, 1)]) (pe := 729) (ls' := [some (.retAddr 20), some (.ref (0)), some (.ref (104)), some (.ref (135)), some (.int (nI i)), some (.int (nI (sLet S (xs (i + 1)) (xs (i + 2))).1)), none]) (st' := [.int (nI (i + 2)), .retAddr 20, .int (xs (i + 1)), .ref (104)]) ⟨dL_law_724, dL_law_725, dL_law_727, dL_law_728, rfl⟩ (by show some (([some (.retAddr 20), some (.ref (0)), some (.ref (104)), some (.ref (135)), some (.int (nI i)), some (.int (nI (sLet S (xs (i + 1)) (xs (i + 2))).1)), none] : ev_L), ([.int ((nI i) + (nI 2)), .retAddr 20, .int (xs (i + 1)), .ref (104)] : List Value)) = _; rw [nI_add i 2]) ?_
  refine el_sld (vp_in_nI (show i + 2 < N9 by omega) (by omega)) dL_law_729 ?_
  rw [nI_clamp (show i + 2 < 2 ^ 31 by omega)]
  refine el_cVw Y_X11_letter L_RL_160 dL_law_730 ⟨Nat.le_of_ble_eq_true rfl, Nat.le_of_ble_eq_true rfl, (by show kc + 2 + 0 ≤ 601024; omega), (by show ks + 12 + 0 ≤ 7293034; omega), Nat.le_of_ble_eq_true rfl⟩ dR.z (as := [.int (xs (i + 1)), .int (xs (i + 2))]) rfl rfl (r_letter hl 104 S hS h10 h3 h20 _ _ dR (xs (i + 1)) (xs (i + 2))) (fun M2 hL2 hB2 => ?_)
  obtain ⟨zi1, zl1, eR, ez, eF⟩ := hB2
  have fR := cR.fr eF (by decide)
  have fg := (eF.2 135 (Or.inr (by decide))).trans cg
  have fl := eF.1
  refine el_blk (B := [(.istore 6, 2), (.aload_n 2, 1)]) (pe := 736) (ls' := [some (.retAddr 20), some (.ref (0)), some (.ref (104)), some (.ref (135)), some (.int (nI i)), some (.int (nI (sLet S (xs (i + 1)) (xs (i + 2))).1)), some (.int ((sLet S (xs (i + 1)) (xs (i + 2))).2))]) (st' := [.ref (104)]) ⟨dL_law_733, dL_law_735, rfl⟩ rfl ?_
  refine el_cVv Y_X11_thrown L_RL_127 dL_law_736 ⟨Nat.le_of_ble_eq_true rfl, Nat.le_of_ble_eq_true rfl, (by show kc + 2 + 0 + 0 ≤ 601024; omega), (by show ks + 12 + 0 + 0 ≤ 7293034; omega), Nat.le_of_ble_eq_true rfl⟩ eR.z (as := []) rfl rfl (c_R_thrown hl 104 zi1 zl1 eR.z) ?_
  rw [ez]
  refine el_blk (B := [(.iload 5, 2)]) (pe := 741) (ls' := [some (.retAddr 20), some (.ref (0)), some (.ref (104)), some (.ref (135)), some (.int (nI i)), some (.int (nI (sLet S (xs (i + 1)) (xs (i + 2))).1)), some (.int ((sLet S (xs (i + 1)) (xs (i + 2))).2))]) (st' := [.int (nI (sLet S (xs (i + 1)) (xs (i + 2))).1), .int (nI (sLet S (xs (i + 1)) (xs (i + 2))).1)]) ⟨dL_law_739, rfl⟩ rfl ?_
  refine el_ic_eq dL_law_741 (tgt := 746) (by decide) (fun q741 => ?_) (fun q741 => ?_)
  · refine el_blk (B := [(.iload 5, 2)]) (pe := 748) (ls' := [some (.retAddr 20), some (.ref (0)), some (.ref (104)), some (.ref (135)), some (.int (nI i)), some (.int (nI (sLet S (xs (i + 1)) (xs (i + 2))).1)), some (.int ((sLet S (xs (i + 1)) (xs (i + 2))).2))]) (st' := [.int (nI (sLet S (xs (i + 1)) (xs (i + 2))).1)]) ⟨dL_law_746, rfl⟩ rfl ?_
    refine el_if_ne dL_law_748 (tgt := 763) (by decide) (fun q748 => ?_) (fun q748 => ?_)
    · refine el_goto (tgt := 2054) dL_law_763 (by decide) ?_
      refine el_fgt (ls' := [some (.retAddr 20), some (.ref (0)), some (.ref (104)), some (.ref (135)), some (.int (nI i)), none, none]) ⟨Or.inr rfl, Or.inr rfl, Or.inr rfl, Or.inr rfl, Or.inr rfl, Or.inl rfl, Or.inl rfl, trivial⟩ ?_
      exact el_wid (by show kc + 2 + 0 + 0 ≤ kc + 8; omega) (by show ks + 12 + 0 + 0 ≤ ks + 40; omega) (hk _ S (hS) ⟨fR, ⟨_, _, eR⟩, ⟨_, fg⟩, fl.trans (cl.trans hlen)⟩)
    · refine el_blk (B := [(.aload_n 3, 1), (.iconst 0, 1)]) (pe := 753) (ls' := [some (.retAddr 20), some (.ref (0)), some (.ref (104)), some (.ref (135)), some (.int (nI i)), some (.int (nI (sLet S (xs (i + 1)) (xs (i + 2))).1)), some (.int ((sLet S (xs (i + 1)) (xs (i + 2))).2))]) (st' := [.int (nI 0), .ref (135)]) ⟨dL_law_751, dL_law_752, rfl⟩ rfl ?_
      refine el_lald dL_law_753 fg (vp_in_nI (show 0 < 1 by omega) (by omega)) ?_
      rw [nI_clamp (show 0 < 2 ^ 31 by omega)]
      refine el_blk (B := [(.iload 6, 2), (.i2l, 1), (.lcmp, 1)]) (pe := 758) (ls' := [some (.retAddr 20), some (.ref (0)), some (.ref (104)), some (.ref (135)), some (.int (nI i)), some (.int (nI (sLet S (xs (i + 1)) (xs (i + 2))).1)), some (.int ((sLet S (xs (i + 1)) (xs (i + 2))).2))]) (st' := [.int (lg_cmp (g1 0) (((sLet S (xs (i + 1)) (xs (i + 2))).2).toInt64))]) ⟨dL_law_754, dL_law_756, dL_law_757, rfl⟩ rfl ?_
      refine el_lc_eq dL_law_758 (tgt := 763) (by decide) (fun q758 => ?_) (fun q758 => ?_)
      · refine el_goto (tgt := 2054) dL_law_763 (by decide) ?_
        refine el_fgt (ls' := [some (.retAddr 20), some (.ref (0)), some (.ref (104)), some (.ref (135)), some (.int (nI i)), none, none]) ⟨Or.inr rfl, Or.inr rfl, Or.inr rfl, Or.inr rfl, Or.inr rfl, Or.inl rfl, Or.inl rfl, trivial⟩ ?_
        exact el_wid (by show kc + 2 + 0 + 0 ≤ kc + 8; omega) (by show ks + 12 + 0 + 0 ≤ ks + 40; omega) (hk _ S (hS) ⟨fR, ⟨_, _, eR⟩, ⟨_, fg⟩, fl.trans (cl.trans hlen)⟩)
      · exact absurd (cz q748) q758
  · exact absurd rfl q741

set_option maxHeartbeats 4000000 in
set_option maxRecDepth 100000 in
theorem w_10 {xs : Nat → Int32} {N9 : Nat} {l : Launch} (hl : l.stackTraces = false) (hN : N9 ≤ 3072) (i : Nat) (hi : i + 6 ≤ N9) {M : ev_M} (S : St) (hS : okS S) (hLI : LI M S) (kc ks : Nat) (hkc : kc + 8 ≤ 601024) (hks : ks + 40 ≤ 7293034) (Q : ev_R → ev_M → Prop) (hk : ∀ (M1 : ev_M) (S1 : St), okS S1 → LI M1 S1 → el_ xs N9 l m_L_law (kc + 8) (ks + 40) 2054 [some (.retAddr 20), some (.ref 0), some (.ref 104), some (.ref 135), some (.int (nI i)), none, none] [] M1 Q) : el_ xs N9 l m_L_law kc ks 766 [some (.retAddr 20), some (.ref 0), some (.ref 104), some (.ref 135), some (.int (nI i)), none, none] [] M Q := by
  obtain ⟨hR, ⟨zi, zl, hRR⟩, ⟨g, hg⟩, hlen⟩ := hLI
  have h10 : S.T.length ≤ 10 := hR.m.1
  have h3 : S.G.length ≤ 3 := hR.g.2.1
  have h20 : S.H.length ≤ 20 := by have := hR.h.2.1.2.1; rwa [hL_len] at this
  refine el_blk (B := [(.aload_n 1, 1), (.aload_n 0, 1), (.iload 4, 2), (.iconst 1, 1), (.iadd, 1)]) (pe := 772) (ls' := [some (.retAddr 20), some (.ref (0)), some (.ref (104)), some (.ref (135)), some (.int (nI i)), none, none]) (st' := [.int (nI (i + 1)), .retAddr 20, .ref (0)]) ⟨dL_law_766, dL_law_767, dL_law_768, dL_law_770, dL_law_771, rfl⟩ (by show some (([some (.retAddr 20), some (.ref (0)), some (.ref (104)), some (.ref (135)), some (.int (nI i)), none, none] : ev_L), ([.int ((nI i) + (nI 1)), .retAddr 20, .ref (0)] : List Value)) = _; rw [nI_add i 1]) ?_
  refine el_sld (vp_in_nI (show i + 1 < N9 by omega) (by omega)) dL_law_772 ?_
  rw [nI_clamp (show i + 1 < 2 ^ 31 by omega)]
  refine el_if_eq dL_law_773 (tgt := 780) (by decide) (fun q773 => ?_) (fun q773 => ?_)
  · refine el_blk (B := [(.iconst 0, 1)]) (pe := 781) (ls' := [some (.retAddr 20), some (.ref (0)), some (.ref (104)), some (.ref (135)), some (.int (nI i)), none, none]) (st' := [.int (nI 0), .ref (0)]) ⟨dL_law_780, rfl⟩ rfl ?_
    refine el_cVv Y_X10_enabled L_RL_161 dL_law_781 ⟨Nat.le_of_ble_eq_true rfl, Nat.le_of_ble_eq_true rfl, (by show kc + 0 ≤ 601024; omega), (by show ks + 0 ≤ 7293034; omega), Nat.le_of_ble_eq_true rfl⟩ hR.1 (as := [.int (nI 0)]) rfl rfl (c_X10_enabled hl S hS hR false) ?_
    have cR := hR
    have dR := hRR
    have cg := hg
    have cl : M.length = M.length := rfl
    refine el_blk (B := [(.aload_n 2, 1), (.aload_n 0, 1), (.iload 4, 2), (.iconst 1, 1), (.iadd, 1)]) (pe := 790) (ls' := [some (.retAddr 20), some (.ref (0)), some (.ref (104)), some (.ref (135)), some (.int (nI i)), none, none]) (st' := [.int (nI (i + 1)), .retAddr 20, .ref (104), .int (sEna S false)]) ⟨dL_law_784, dL_law_785, dL_law_786, dL_law_788, dL_law_789, rfl⟩ (by show some (([some (.retAddr 20), some (.ref (0)), some (.ref (104)), some (.ref (135)), some (.int (nI i)), none, none] : ev_L), ([.int ((nI i) + (nI 1)), .retAddr 20, .ref (104), .int (sEna S false)] : List Value)) = _; rw [nI_add i 1]) ?_
    refine el_sld (vp_in_nI (show i + 1 < N9 by omega) (by omega)) dL_law_790 ?_
    rw [nI_clamp (show i + 1 < 2 ^ 31 by omega)]
    refine el_if_eq dL_law_791 (tgt := 798) (by decide) (fun q791 => ?_) (fun q791 => ?_)
    · refine el_blk (B := [(.iconst 0, 1)]) (pe := 799) (ls' := [some (.retAddr 20), some (.ref (0)), some (.ref (104)), some (.ref (135)), some (.int (nI i)), none, none]) (st' := [.int (nI 0), .ref (104), .int (sEna S false)]) ⟨dL_law_798, rfl⟩ rfl ?_
      refine el_cVw Y_X11_enabled L_RL_165 dL_law_799 ⟨Nat.le_of_ble_eq_true rfl, Nat.le_of_ble_eq_true rfl, (by show kc + 0 + 0 ≤ 601024; omega), (by show ks + 0 + 0 ≤ 7293034; omega), Nat.le_of_ble_eq_true rfl⟩ dR.z (as := [.int (nI 0)]) rfl rfl (r_enabled hl 104 S hS h10 h3 h20 _ _ dR false) (fun M1 hL1 hB1 => ?_)
      obtain ⟨zi1, zl1, eR, ez, eF⟩ := hB1
      have fR := cR.fr eF (by decide)
      have fg := (eF.2 135 (Or.inr (by decide))).trans cg
      have fl := eF.1
      refine el_ic_eq dL_law_802 (tgt := 2054) (by decide) (fun q802 => ?_) (fun q802 => ?_)
      · exact el_wid (by show kc + 0 + 0 ≤ kc + 8; omega) (by show ks + 0 + 0 ≤ ks + 40; omega) (hk _ S (hS) ⟨fR, ⟨_, _, eR⟩, ⟨_, fg⟩, fl.trans (cl.trans hlen)⟩)
      · exact absurd rfl q802
    · exact absurd q773 q791
  · refine el_blk (B := [(.iconst 1, 1)]) (pe := 777) (ls' := [some (.retAddr 20), some (.ref (0)), some (.ref (104)), some (.ref (135)), some (.int (nI i)), none, none]) (st' := [.int (nI 1), .ref (0)]) ⟨dL_law_776, rfl⟩ rfl ?_
    refine el_goto (tgt := 781) dL_law_777 (by decide) ?_
    refine el_cVv Y_X10_enabled L_RL_161 dL_law_781 ⟨Nat.le_of_ble_eq_true rfl, Nat.le_of_ble_eq_true rfl, (by show kc + 0 ≤ 601024; omega), (by show ks + 0 ≤ 7293034; omega), Nat.le_of_ble_eq_true rfl⟩ hR.1 (as := [.int (nI 1)]) rfl rfl (c_X10_enabled hl S hS hR true) ?_
    have cR := hR
    have dR := hRR
    have cg := hg
    have cl : M.length = M.length := rfl
    refine el_blk (B := [(.aload_n 2, 1), (.aload_n 0, 1), (.iload 4, 2), (.iconst 1, 1), (.iadd, 1)]) (pe := 790) (ls' := [some (.retAddr 20), some (.ref (0)), some (.ref (104)), some (.ref (135)), some (.int (nI i)), none, none]) (st' := [.int (nI (i + 1)), .retAddr 20, .ref (104), .int (sEna S true)]) ⟨dL_law_784, dL_law_785, dL_law_786, dL_law_788, dL_law_789, rfl⟩ (by show some (([some (.retAddr 20), some (.ref (0)), some (.ref (104)), some (.ref (135)), some (.int (nI i)), none, none] : ev_L), ([.int ((nI i) + (nI 1)), .retAddr 20, .ref (104), .int (sEna S true)] : List Value)) = _; rw [nI_add i 1]) ?_
    refine el_sld (vp_in_nI (show i + 1 < N9 by omega) (by omega)) dL_law_790 ?_
    rw [nI_clamp (show i + 1 < 2 ^ 31 by omega)]
    refine el_if_eq dL_law_791 (tgt := 798) (by decide) (fun q791 => ?_) (fun q791 => ?_)
    · exact absurd q791 q773
    · refine el_blk (B := [(.iconst 1, 1)]) (pe := 795) (ls' := [some (.retAddr 20), some (.ref (0)), some (.ref (104)), some (.ref (135)), some (.int (nI i)), none, none]) (st' := [.int (nI 1), .ref (104), .int (sEna S true)]) ⟨dL_law_794, rfl⟩ rfl ?_
      refine el_goto (tgt := 799) dL_law_795 (by decide) ?_
      refine el_cVw Y_X11_enabled L_RL_165 dL_law_799 ⟨Nat.le_of_ble_eq_true rfl, Nat.le_of_ble_eq_true rfl, (by show kc + 0 + 0 ≤ 601024; omega), (by show ks + 0 + 0 ≤ 7293034; omega), Nat.le_of_ble_eq_true rfl⟩ dR.z (as := [.int (nI 1)]) rfl rfl (r_enabled hl 104 S hS h10 h3 h20 _ _ dR true) (fun M2 hL2 hB2 => ?_)
      obtain ⟨zi1, zl1, eR, ez, eF⟩ := hB2
      have fR := cR.fr eF (by decide)
      have fg := (eF.2 135 (Or.inr (by decide))).trans cg
      have fl := eF.1
      refine el_ic_eq dL_law_802 (tgt := 2054) (by decide) (fun q802 => ?_) (fun q802 => ?_)
      · exact el_wid (by show kc + 0 + 0 ≤ kc + 8; omega) (by show ks + 0 + 0 ≤ ks + 40; omega) (hk _ S (hS) ⟨fR, ⟨_, _, eR⟩, ⟨_, fg⟩, fl.trans (cl.trans hlen)⟩)
      · exact absurd rfl q802

set_option maxHeartbeats 4000000 in
set_option maxRecDepth 100000 in
theorem w_11 {xs : Nat → Int32} {N9 : Nat} {l : Launch} (hl : l.stackTraces = false) (hN : N9 ≤ 3072) (i : Nat) (hi : i + 6 ≤ N9) {M : ev_M} (S : St) (hS : okS S) (hLI : LI M S) (kc ks : Nat) (hkc : kc + 8 ≤ 601024) (hks : ks + 40 ≤ 7293034) (Q : ev_R → ev_M → Prop) (hk : ∀ (M1 : ev_M) (S1 : St), okS S1 → LI M1 S1 → el_ xs N9 l m_L_law (kc + 8) (ks + 40) 2054 [some (.retAddr 20), some (.ref 0), some (.ref 104), some (.ref 135), some (.int (nI i)), none, none] [] M1 Q) : el_ xs N9 l m_L_law kc ks 807 [some (.retAddr 20), some (.ref 0), some (.ref 104), some (.ref 135), some (.int (nI i)), none, none] [] M Q := by
  obtain ⟨hR, ⟨zi, zl, hRR⟩, ⟨g, hg⟩, hlen⟩ := hLI
  have h10 : S.T.length ≤ 10 := hR.m.1
  have h3 : S.G.length ≤ 3 := hR.g.2.1
  have h20 : S.H.length ≤ 20 := by have := hR.h.2.1.2.1; rwa [hL_len] at this
  refine el_blk (B := [(.aload_n 1, 1), (.aload_n 0, 1), (.iload 4, 2), (.iconst 1, 1), (.iadd, 1)]) (pe := 813) (ls' := [some (.retAddr 20), some (.ref (0)), some (.ref (104)), some (.ref (135)), some (.int (nI i)), none, none]) (st' := [.int (nI (i + 1)), .retAddr 20, .ref (0)]) ⟨dL_law_807, dL_law_808, dL_law_809, dL_law_811, dL_law_812, rfl⟩ (by show some (([some (.retAddr 20), some (.ref (0)), some (.ref (104)), some (.ref (135)), some (.int (nI i)), none, none] : ev_L), ([.int ((nI i) + (nI 1)), .retAddr 20, .ref (0)] : List Value)) = _; rw [nI_add i 1]) ?_
  refine el_sld (vp_in_nI (show i + 1 < N9 by omega) (by omega)) dL_law_813 ?_
  rw [nI_clamp (show i + 1 < 2 ^ 31 by omega)]
  refine el_blk (B := [(.aload_n 3, 1)]) (pe := 815) (ls' := [some (.retAddr 20), some (.ref (0)), some (.ref (104)), some (.ref (135)), some (.int (nI i)), none, none]) (st' := [.ref (135), .int (xs (i + 1)), .ref (0)]) ⟨dL_law_814, rfl⟩ rfl ?_
  refine el_cSHw YH_L_fire L_RL_166 dL_law_815 ⟨Nat.le_of_ble_eq_true rfl, Nat.le_of_ble_eq_true rfl, (by show kc + 3 ≤ 601024; omega), (by show ks + 18 ≤ 7293034; omega), Nat.le_of_ble_eq_true rfl⟩ (as := [.ref (0), .int (xs (i + 1)), .ref (135)]) rfl rfl (h_fire hl S hS hR (xs (i + 1)) 135 (by decide) g hg) (fun M1 hL1 hB1 => ?_)
  obtain ⟨cR, ⟨g1, cg, cz⟩, cl, co⟩ := hB1
  have dR := RR.kept hRR (fun j h1 h2 => co j h1 (by omega))
  refine el_blk (B := [(.istore 5, 2), (.aload_n 2, 1), (.aload_n 0, 1), (.iload 4, 2), (.iconst 1, 1), (.iadd, 1)]) (pe := 826) (ls' := [some (.retAddr 20), some (.ref (0)), some (.ref (104)), some (.ref (135)), some (.int (nI i)), some (.int (nI (sFir S (xs (i + 1))).1.1)), none]) (st' := [.int (nI (i + 1)), .retAddr 20, .ref (104)]) ⟨dL_law_818, dL_law_820, dL_law_821, dL_law_822, dL_law_824, dL_law_825, rfl⟩ (by show some (([some (.retAddr 20), some (.ref (0)), some (.ref (104)), some (.ref (135)), some (.int (nI i)), some (.int (nI (sFir S (xs (i + 1))).1.1)), none] : ev_L), ([.int ((nI i) + (nI 1)), .retAddr 20, .ref (104)] : List Value)) = _; rw [nI_add i 1]) ?_
  refine el_sld (vp_in_nI (show i + 1 < N9 by omega) (by omega)) dL_law_826 ?_
  rw [nI_clamp (show i + 1 < 2 ^ 31 by omega)]
  refine el_cVw Y_X11_fire L_RL_168 dL_law_827 ⟨Nat.le_of_ble_eq_true rfl, Nat.le_of_ble_eq_true rfl, (by show kc + 3 + 0 ≤ 601024; omega), (by show ks + 18 + 0 ≤ 7293034; omega), Nat.le_of_ble_eq_true rfl⟩ dR.z (as := [.int (xs (i + 1))]) rfl rfl (r_fire hl 104 S hS h10 h3 h20 _ _ dR (xs (i + 1))) (fun M2 hL2 hB2 => ?_)
  obtain ⟨zi1, zl1, eR, ez, eF⟩ := hB2
  have fR := cR.fr eF (by decide)
  have fg := (eF.2 135 (Or.inr (by decide))).trans cg
  have fl := eF.1
  refine el_blk (B := [(.istore 6, 2), (.aload_n 2, 1)]) (pe := 833) (ls' := [some (.retAddr 20), some (.ref (0)), some (.ref (104)), some (.ref (135)), some (.int (nI i)), some (.int (nI (sFir S (xs (i + 1))).1.1)), some (.int ((sFir S (xs (i + 1))).1.2))]) (st' := [.ref (104)]) ⟨dL_law_830, dL_law_832, rfl⟩ rfl ?_
  refine el_cVv Y_X11_thrown L_RL_127 dL_law_833 ⟨Nat.le_of_ble_eq_true rfl, Nat.le_of_ble_eq_true rfl, (by show kc + 3 + 0 + 0 ≤ 601024; omega), (by show ks + 18 + 0 + 0 ≤ 7293034; omega), Nat.le_of_ble_eq_true rfl⟩ eR.z (as := []) rfl rfl (c_R_thrown hl 104 zi1 zl1 eR.z) ?_
  rw [ez]
  refine el_blk (B := [(.iload 5, 2)]) (pe := 838) (ls' := [some (.retAddr 20), some (.ref (0)), some (.ref (104)), some (.ref (135)), some (.int (nI i)), some (.int (nI (sFir S (xs (i + 1))).1.1)), some (.int ((sFir S (xs (i + 1))).1.2))]) (st' := [.int (nI (sFir S (xs (i + 1))).1.1), .int (nI (sFir S (xs (i + 1))).1.1)]) ⟨dL_law_836, rfl⟩ rfl ?_
  refine el_ic_eq dL_law_838 (tgt := 843) (by decide) (fun q838 => ?_) (fun q838 => ?_)
  · refine el_blk (B := [(.iload 5, 2)]) (pe := 845) (ls' := [some (.retAddr 20), some (.ref (0)), some (.ref (104)), some (.ref (135)), some (.int (nI i)), some (.int (nI (sFir S (xs (i + 1))).1.1)), some (.int ((sFir S (xs (i + 1))).1.2))]) (st' := [.int (nI (sFir S (xs (i + 1))).1.1)]) ⟨dL_law_843, rfl⟩ rfl ?_
    refine el_if_ne dL_law_845 (tgt := 860) (by decide) (fun q845 => ?_) (fun q845 => ?_)
    · refine el_goto (tgt := 2054) dL_law_860 (by decide) ?_
      refine el_fgt (ls' := [some (.retAddr 20), some (.ref (0)), some (.ref (104)), some (.ref (135)), some (.int (nI i)), none, none]) ⟨Or.inr rfl, Or.inr rfl, Or.inr rfl, Or.inr rfl, Or.inr rfl, Or.inl rfl, Or.inl rfl, trivial⟩ ?_
      exact el_wid (by show kc + 3 + 0 + 0 ≤ kc + 8; omega) (by show ks + 18 + 0 + 0 ≤ ks + 40; omega) (hk _ ((sFir S (xs (i + 1))).2) (k_Fir hS (xs (i + 1)) h10) ⟨fR, ⟨_, _, eR⟩, ⟨_, fg⟩, fl.trans (cl.trans hlen)⟩)
    · refine el_blk (B := [(.aload_n 3, 1), (.iconst 0, 1)]) (pe := 850) (ls' := [some (.retAddr 20), some (.ref (0)), some (.ref (104)), some (.ref (135)), some (.int (nI i)), some (.int (nI (sFir S (xs (i + 1))).1.1)), some (.int ((sFir S (xs (i + 1))).1.2))]) (st' := [.int (nI 0), .ref (135)]) ⟨dL_law_848, dL_law_849, rfl⟩ rfl ?_
      refine el_lald dL_law_850 fg (vp_in_nI (show 0 < 1 by omega) (by omega)) ?_
      rw [nI_clamp (show 0 < 2 ^ 31 by omega)]
      refine el_blk (B := [(.iload 6, 2), (.i2l, 1), (.lcmp, 1)]) (pe := 855) (ls' := [some (.retAddr 20), some (.ref (0)), some (.ref (104)), some (.ref (135)), some (.int (nI i)), some (.int (nI (sFir S (xs (i + 1))).1.1)), some (.int ((sFir S (xs (i + 1))).1.2))]) (st' := [.int (lg_cmp (g1 0) (((sFir S (xs (i + 1))).1.2).toInt64))]) ⟨dL_law_851, dL_law_853, dL_law_854, rfl⟩ rfl ?_
      refine el_lc_eq dL_law_855 (tgt := 860) (by decide) (fun q855 => ?_) (fun q855 => ?_)
      · refine el_goto (tgt := 2054) dL_law_860 (by decide) ?_
        refine el_fgt (ls' := [some (.retAddr 20), some (.ref (0)), some (.ref (104)), some (.ref (135)), some (.int (nI i)), none, none]) ⟨Or.inr rfl, Or.inr rfl, Or.inr rfl, Or.inr rfl, Or.inr rfl, Or.inl rfl, Or.inl rfl, trivial⟩ ?_
        exact el_wid (by show kc + 3 + 0 + 0 ≤ kc + 8; omega) (by show ks + 18 + 0 + 0 ≤ ks + 40; omega) (hk _ ((sFir S (xs (i + 1))).2) (k_Fir hS (xs (i + 1)) h10) ⟨fR, ⟨_, _, eR⟩, ⟨_, fg⟩, fl.trans (cl.trans hlen)⟩)
      · exact absurd (cz q845) q855
  · exact absurd rfl q838

set_option maxHeartbeats 4000000 in
set_option maxRecDepth 100000 in
theorem w_12 {xs : Nat → Int32} {N9 : Nat} {l : Launch} (hl : l.stackTraces = false) (hN : N9 ≤ 3072) (i : Nat) (hi : i + 6 ≤ N9) {M : ev_M} (S : St) (hS : okS S) (hLI : LI M S) (kc ks : Nat) (hkc : kc + 8 ≤ 601024) (hks : ks + 40 ≤ 7293034) (Q : ev_R → ev_M → Prop) (hk : ∀ (M1 : ev_M) (S1 : St), okS S1 → LI M1 S1 → el_ xs N9 l m_L_law (kc + 8) (ks + 40) 2054 [some (.retAddr 20), some (.ref 0), some (.ref 104), some (.ref 135), some (.int (nI i)), none, none] [] M1 Q) : el_ xs N9 l m_L_law kc ks 863 [some (.retAddr 20), some (.ref 0), some (.ref 104), some (.ref 135), some (.int (nI i)), none, none] [] M Q := by
  obtain ⟨hR, ⟨zi, zl, hRR⟩, ⟨g, hg⟩, hlen⟩ := hLI
  have h10 : S.T.length ≤ 10 := hR.m.1
  have h3 : S.G.length ≤ 3 := hR.g.2.1
  have h20 : S.H.length ≤ 20 := by have := hR.h.2.1.2.1; rwa [hL_len] at this
  refine el_blk (B := [(.aload_n 1, 1), (.aload_n 0, 1), (.iload 4, 2), (.iconst 1, 1), (.iadd, 1)]) (pe := 869) (ls' := [some (.retAddr 20), some (.ref (0)), some (.ref (104)), some (.ref (135)), some (.int (nI i)), none, none]) (st' := [.int (nI (i + 1)), .retAddr 20, .ref (0)]) ⟨dL_law_863, dL_law_864, dL_law_865, dL_law_867, dL_law_868, rfl⟩ (by show some (([some (.retAddr 20), some (.ref (0)), some (.ref (104)), some (.ref (135)), some (.int (nI i)), none, none] : ev_L), ([.int ((nI i) + (nI 1)), .retAddr 20, .ref (0)] : List Value)) = _; rw [nI_add i 1]) ?_
  refine el_sld (vp_in_nI (show i + 1 < N9 by omega) (by omega)) dL_law_869 ?_
  rw [nI_clamp (show i + 1 < 2 ^ 31 by omega)]
  refine el_blk (B := [(.aload_n 0, 1), (.iload 4, 2), (.iconst 2, 1), (.iadd, 1)]) (pe := 875) (ls' := [some (.retAddr 20), some (.ref (0)), some (.ref (104)), some (.ref (135)), some (.int (nI i)), none, none]) (st' := [.int (nI (i + 2)), .retAddr 20, .int (xs (i + 1)), .ref (0)]) ⟨dL_law_870, dL_law_871, dL_law_873, dL_law_874, rfl⟩ (by show some (([some (.retAddr 20), some (.ref (0)), some (.ref (104)), some (.ref (135)), some (.int (nI i)), none, none] : ev_L), ([.int ((nI i) + (nI 2)), .retAddr 20, .int (xs (i + 1)), .ref (0)] : List Value)) = _; rw [nI_add i 2]) ?_
  refine el_sld (vp_in_nI (show i + 2 < N9 by omega) (by omega)) dL_law_875 ?_
  rw [nI_clamp (show i + 2 < 2 ^ 31 by omega)]
  refine el_blk (B := [(.aload_n 3, 1)]) (pe := 877) (ls' := [some (.retAddr 20), some (.ref (0)), some (.ref (104)), some (.ref (135)), some (.int (nI i)), none, none]) (st' := [.ref (135), .int (xs (i + 2)), .int (xs (i + 1)), .ref (0)]) ⟨dL_law_876, rfl⟩ rfl ?_
  refine el_cSHw YH_L_lose L_RL_169 dL_law_877 ⟨Nat.le_of_ble_eq_true rfl, Nat.le_of_ble_eq_true rfl, (by show kc + 2 ≤ 601024; omega), (by show ks + 12 ≤ 7293034; omega), Nat.le_of_ble_eq_true rfl⟩ (as := [.ref (0), .int (xs (i + 1)), .int (xs (i + 2)), .ref (135)]) rfl rfl (h_lose hl S hS hR (xs (i + 1)) (xs (i + 2)) 135 (by decide) g hg) (fun M1 hL1 hB1 => ?_)
  obtain ⟨cR, ⟨g1, cg, cz⟩, cl, co⟩ := hB1
  have dR := RR.kept hRR (fun j h1 h2 => co j h1 (by omega))
  refine el_blk (B := [(.istore 5, 2), (.aload_n 2, 1), (.aload_n 0, 1), (.iload 4, 2), (.iconst 1, 1), (.iadd, 1)]) (pe := 888) (ls' := [some (.retAddr 20), some (.ref (0)), some (.ref (104)), some (.ref (135)), some (.int (nI i)), some (.int (nI (sLos S (xs (i + 1)) (xs (i + 2))).1.1)), none]) (st' := [.int (nI (i + 1)), .retAddr 20, .ref (104)]) ⟨dL_law_880, dL_law_882, dL_law_883, dL_law_884, dL_law_886, dL_law_887, rfl⟩ (by show some (([some (.retAddr 20), some (.ref (0)), some (.ref (104)), some (.ref (135)), some (.int (nI i)), some (.int (nI (sLos S (xs (i + 1)) (xs (i + 2))).1.1)), none] : ev_L), ([.int ((nI i) + (nI 1)), .retAddr 20, .ref (104)] : List Value)) = _; rw [nI_add i 1]) ?_
  refine el_sld (vp_in_nI (show i + 1 < N9 by omega) (by omega)) dL_law_888 ?_
  rw [nI_clamp (show i + 1 < 2 ^ 31 by omega)]
  refine el_blk (B := [(.aload_n 0, 1), (.iload 4, 2), (.iconst 2, 1), (.iadd, 1)]) (pe := 894) (ls' := [some (.retAddr 20), some (.ref (0)), some (.ref (104)), some (.ref (135)), some (.int (nI i)), some (.int (nI (sLos S (xs (i + 1)) (xs (i + 2))).1.1)), none]) (st' := [.int (nI (i + 2)), .retAddr 20, .int (xs (i + 1)), .ref (104)]) ⟨dL_law_889, dL_law_890, dL_law_892, dL_law_893, rfl⟩ (by show some (([some (.retAddr 20), some (.ref (0)), some (.ref (104)), some (.ref (135)), some (.int (nI i)), some (.int (nI (sLos S (xs (i + 1)) (xs (i + 2))).1.1)), none] : ev_L), ([.int ((nI i) + (nI 2)), .retAddr 20, .int (xs (i + 1)), .ref (104)] : List Value)) = _; rw [nI_add i 2]) ?_
  refine el_sld (vp_in_nI (show i + 2 < N9 by omega) (by omega)) dL_law_894 ?_
  rw [nI_clamp (show i + 2 < 2 ^ 31 by omega)]
  refine el_cVw Y_X11_lose L_RL_171 dL_law_895 ⟨Nat.le_of_ble_eq_true rfl, Nat.le_of_ble_eq_true rfl, (by show kc + 2 + 0 ≤ 601024; omega), (by show ks + 12 + 0 ≤ 7293034; omega), Nat.le_of_ble_eq_true rfl⟩ dR.z (as := [.int (xs (i + 1)), .int (xs (i + 2))]) rfl rfl (r_lose hl 104 S hS h10 h3 h20 _ _ dR (xs (i + 1)) (xs (i + 2))) (fun M2 hL2 hB2 => ?_)
  obtain ⟨zi1, zl1, eR, ez, eF⟩ := hB2
  have fR := cR.fr eF (by decide)
  have fg := (eF.2 135 (Or.inr (by decide))).trans cg
  have fl := eF.1
  refine el_blk (B := [(.istore 6, 2), (.aload_n 2, 1)]) (pe := 901) (ls' := [some (.retAddr 20), some (.ref (0)), some (.ref (104)), some (.ref (135)), some (.int (nI i)), some (.int (nI (sLos S (xs (i + 1)) (xs (i + 2))).1.1)), some (.int ((sLos S (xs (i + 1)) (xs (i + 2))).1.2))]) (st' := [.ref (104)]) ⟨dL_law_898, dL_law_900, rfl⟩ rfl ?_
  refine el_cVv Y_X11_thrown L_RL_127 dL_law_901 ⟨Nat.le_of_ble_eq_true rfl, Nat.le_of_ble_eq_true rfl, (by show kc + 2 + 0 + 0 ≤ 601024; omega), (by show ks + 12 + 0 + 0 ≤ 7293034; omega), Nat.le_of_ble_eq_true rfl⟩ eR.z (as := []) rfl rfl (c_R_thrown hl 104 zi1 zl1 eR.z) ?_
  rw [ez]
  refine el_blk (B := [(.iload 5, 2)]) (pe := 906) (ls' := [some (.retAddr 20), some (.ref (0)), some (.ref (104)), some (.ref (135)), some (.int (nI i)), some (.int (nI (sLos S (xs (i + 1)) (xs (i + 2))).1.1)), some (.int ((sLos S (xs (i + 1)) (xs (i + 2))).1.2))]) (st' := [.int (nI (sLos S (xs (i + 1)) (xs (i + 2))).1.1), .int (nI (sLos S (xs (i + 1)) (xs (i + 2))).1.1)]) ⟨dL_law_904, rfl⟩ rfl ?_
  refine el_ic_eq dL_law_906 (tgt := 911) (by decide) (fun q906 => ?_) (fun q906 => ?_)
  · refine el_blk (B := [(.iload 5, 2)]) (pe := 913) (ls' := [some (.retAddr 20), some (.ref (0)), some (.ref (104)), some (.ref (135)), some (.int (nI i)), some (.int (nI (sLos S (xs (i + 1)) (xs (i + 2))).1.1)), some (.int ((sLos S (xs (i + 1)) (xs (i + 2))).1.2))]) (st' := [.int (nI (sLos S (xs (i + 1)) (xs (i + 2))).1.1)]) ⟨dL_law_911, rfl⟩ rfl ?_
    refine el_if_ne dL_law_913 (tgt := 928) (by decide) (fun q913 => ?_) (fun q913 => ?_)
    · refine el_goto (tgt := 2054) dL_law_928 (by decide) ?_
      refine el_fgt (ls' := [some (.retAddr 20), some (.ref (0)), some (.ref (104)), some (.ref (135)), some (.int (nI i)), none, none]) ⟨Or.inr rfl, Or.inr rfl, Or.inr rfl, Or.inr rfl, Or.inr rfl, Or.inl rfl, Or.inl rfl, trivial⟩ ?_
      exact el_wid (by show kc + 2 + 0 + 0 ≤ kc + 8; omega) (by show ks + 12 + 0 + 0 ≤ ks + 40; omega) (hk _ ((sLos S (xs (i + 1)) (xs (i + 2))).2) (k_Los hS (xs (i + 1)) (xs (i + 2))) ⟨fR, ⟨_, _, eR⟩, ⟨_, fg⟩, fl.trans (cl.trans hlen)⟩)
    · refine el_blk (B := [(.aload_n 3, 1), (.iconst 0, 1)]) (pe := 918) (ls' := [some (.retAddr 20), some (.ref (0)), some (.ref (104)), some (.ref (135)), some (.int (nI i)), some (.int (nI (sLos S (xs (i + 1)) (xs (i + 2))).1.1)), some (.int ((sLos S (xs (i + 1)) (xs (i + 2))).1.2))]) (st' := [.int (nI 0), .ref (135)]) ⟨dL_law_916, dL_law_917, rfl⟩ rfl ?_
      refine el_lald dL_law_918 fg (vp_in_nI (show 0 < 1 by omega) (by omega)) ?_
      rw [nI_clamp (show 0 < 2 ^ 31 by omega)]
      refine el_blk (B := [(.iload 6, 2), (.i2l, 1), (.lcmp, 1)]) (pe := 923) (ls' := [some (.retAddr 20), some (.ref (0)), some (.ref (104)), some (.ref (135)), some (.int (nI i)), some (.int (nI (sLos S (xs (i + 1)) (xs (i + 2))).1.1)), some (.int ((sLos S (xs (i + 1)) (xs (i + 2))).1.2))]) (st' := [.int (lg_cmp (g1 0) (((sLos S (xs (i + 1)) (xs (i + 2))).1.2).toInt64))]) ⟨dL_law_919, dL_law_921, dL_law_922, rfl⟩ rfl ?_
      refine el_lc_eq dL_law_923 (tgt := 928) (by decide) (fun q923 => ?_) (fun q923 => ?_)
      · refine el_goto (tgt := 2054) dL_law_928 (by decide) ?_
        refine el_fgt (ls' := [some (.retAddr 20), some (.ref (0)), some (.ref (104)), some (.ref (135)), some (.int (nI i)), none, none]) ⟨Or.inr rfl, Or.inr rfl, Or.inr rfl, Or.inr rfl, Or.inr rfl, Or.inl rfl, Or.inl rfl, trivial⟩ ?_
        exact el_wid (by show kc + 2 + 0 + 0 ≤ kc + 8; omega) (by show ks + 12 + 0 + 0 ≤ ks + 40; omega) (hk _ ((sLos S (xs (i + 1)) (xs (i + 2))).2) (k_Los hS (xs (i + 1)) (xs (i + 2))) ⟨fR, ⟨_, _, eR⟩, ⟨_, fg⟩, fl.trans (cl.trans hlen)⟩)
      · exact absurd (cz q913) q923
  · exact absurd rfl q906

