/-! clear, state, act, weight -/
theorem clr_at (G : GT) : clrV G 2 = G 2 ∧ (clrV G 1 0 = 0 ∧ clrV G 1 1 = 1 ∧ clrV G 1 2 = 2) ∧ (∀ s, s < 5 → clrV G 3 s = 0) ∧ (∀ q, q < 15 → clrV G 4 q = 0 ∧ clrV G 5 q = 0) ∧ (∀ q t, q < 15 → t < 5 → clrV G (7 + q) t = 0) ∧ (∀ s, s < 5 → clrV G 47 s = 0 ∧ clrV G 48 s = 0) ∧ (clrV G 0 8 = 0 ∧ clrV G 0 9 = 1) ∧ ∀ b, 50 ≤ b → clrV G b = G b := by
  have e : ∀ b, b ≠ 0 → b ≠ 47 → b ≠ 48 → clrV G b = clrG (forgG G) 7 15 5 b := fun b h1 h2 h3 => by unfold clrV; rw [uG_n _ _ h1, uG_n _ _ h3, uG_n _ _ h2]
  have f1 : forgG G 1 = up (up (up (G 1) 0 0) 1 1) 2 2 := by
    unfold forgG
    rw [uG_n _ _ (by decide), uG_n _ _ (by decide), uG_n _ _ (by decide), uG_s]
    congr 1
  refine ⟨?_, ⟨?_, ?_, ?_⟩, fun s hs => ?_, fun q hq => ⟨?_, ?_⟩, fun q t hq ht => ?_, fun s hs => ⟨?_, ?_⟩, ⟨?_, ?_⟩, fun b hb => ?_⟩
  · rw [e 2 (by decide) (by decide) (by decide), clr_off (by omega)]; unfold forgG; rw [uG_n _ _ (by decide), uG_n _ _ (by decide), uG_n _ _ (by decide), uG_n _ _ (by decide), uG_n _ _ (by decide), uG_n _ _ (by decide)]
  · rw [e 1 (by decide) (by decide) (by decide), clr_off (by omega), f1, up_n _ _ (by decide), up_n _ _ (by decide), up_s]
  · rw [e 1 (by decide) (by decide) (by decide), clr_off (by omega), f1, up_n _ _ (by decide), up_s]
  · rw [e 1 (by decide) (by decide) (by decide), clr_off (by omega), f1, up_s]
  · rw [e 3 (by decide) (by decide) (by decide), clr_off (by omega)]; unfold forgG; rw [uG_n _ _ (by decide), uG_n _ _ (by decide), uG_s]; exact if_pos hs
  · rw [e 4 (by decide) (by decide) (by decide), clr_off (by omega)]; unfold forgG; rw [uG_n _ _ (by decide), uG_s]; exact if_pos hq
  · rw [e 5 (by decide) (by decide) (by decide), clr_off (by omega)]; unfold forgG; rw [uG_s]; exact if_pos hq
  · rw [e (7 + q) (by omega) (by omega) (by omega)]; unfold clrG; rw [if_pos (by omega)]; exact if_pos ht
  · unfold clrV; rw [uG_n _ _ (by decide), uG_n _ _ (by decide), uG_s]; exact if_pos hs
  · unfold clrV; rw [uG_n _ _ (by decide), uG_s]; exact if_pos hs
  · unfold clrV; rw [uG_s, up_n _ _ (by decide), up_s]
  · unfold clrV; rw [uG_s, up_s]
  · rw [e b (by omega) (by omega) (by omega), clr_off (by omega)]; unfold forgG; rw [uG_n _ _ (by omega), uG_n _ _ (by omega), uG_n _ _ (by omega), uG_n _ _ (by omega), uG_n _ _ (by omega), uG_n _ _ (by omega)]
theorem inv_clear {G : GT} {N : Nat} (h : Inv G N) : Inv (mclr (clrV G)) 0 := by
  obtain ⟨c2, c1, c3, c4, c7, c8, c0, c50⟩ := clr_at G
  have e : ∀ b, b ≠ 50 → mclr (clrV G) b = clrV G b := fun b hb => uG_n _ _ hb
  have e50 : mclr (clrV G) 50 1 = 0 ∧ mclr (clrV G) 50 7 = 1 ∧ mclr (clrV G) 50 8 = 2 ∧ mclr (clrV G) 50 9 = 0 ∧ mclr (clrV G) 50 10 = 1 := by
    unfold mclr
    rw [uG_s]
    refine ⟨?_, ?_, ?_, ?_, up_s _ _ _⟩
    · rw [up_n _ _ (by decide), up_n _ _ (by decide), up_n _ _ (by decide), up_n _ _ (by decide), up_s]
    · rw [up_n _ _ (by decide), up_n _ _ (by decide), up_n _ _ (by decide), up_s]
    · rw [up_n _ _ (by decide), up_n _ _ (by decide), up_s]
    · rw [up_n _ _ (by decide), up_s]
  refine ⟨⟨⟨by rw [e 1 (by decide)]; exact c1.1, by decide, ?_, fun s hs => by rw [e 3 (by decide), c3 s hs]; decide, fun q hq => by rw [e 4 (by decide), e 5 (by decide), (c4 q hq).1, (c4 q hq).2]; decide, fun q t hq ht => by rw [e (7 + q) (by omega), c7 q t hq ht]; decide, fun s hs => by rw [e 2 (by decide), c2]; exact h.1.1.2.2.2.2.2.2 s hs⟩, fun s hs => ?_, fun s hs => ?_, fun s a hs ha _ => by rw [e 4 (by decide), e 5 (by decide)]; exact c4 _ (by omega), fun s _ hs => by rw [e 3 (by decide)]; exact c3 s hs⟩, ⟨?_, fun t ht => by rw [e 52 (by decide), e 55 (by decide), c50 52 (by decide), c50 55 (by decide)]; exact h.2.1.2.1 t ht, fun s a hs ha => by rw [totZ_congr (G := G) (by rw [e 54 (by decide), c50 54 (by decide)])]; exact h.2.1.2.2 s a hs ha⟩, ?_⟩
  · rw [e 1 (by decide), c1.2.1, c1.2.2]
    exact ⟨by decide, by decide, by decide, fun q hq => ⟨by rw [e 5 (by decide), (c4 q hq).2]; rfl, fun t _ ht => by rw [e (7 + q) (by omega)]; exact c7 q t hq ht⟩⟩
  · rw [e 47 (by decide), e 3 (by decide), (c8 s hs).1, c3 s hs]; decide
  · rw [e 48 (by decide), e 3 (by decide), (c8 s hs).2, c3 s hs]; decide
  · obtain ⟨n1, n2, n3, n4, n5, n6, n7, n8⟩ := h.2.1.1
    exact ⟨by rw [e50.1]; rfl, by decide, by rw [e50.2.1, e50.2.2.1]; decide, fun s hs => by rw [e 52 (by decide), c50 52 (by decide)]; exact n4 s hs, fun q hq => by rw [e 53 (by decide), c50 53 (by decide)]; exact n5 q hq, fun q hq => by rw [e 54 (by decide), c50 54 (by decide)]; exact n6 q hq, fun s hs => by rw [e 51 (by decide), c50 51 (by decide)]; exact n7 s hs, fun s hs => by rw [e 55 (by decide), c50 55 (by decide)]; exact n8 s hs⟩
  · exact ⟨by rw [e50.2.1, e50.2.2.1, e 1 (by decide), c1.2.1, c1.2.2]; exact ⟨rfl, rfl⟩, fun s hs => by omega, fun s a hs _ => by omega, by rw [e 0 (by decide), c0.1, e50.2.2.2.1], by rw [e 0 (by decide), c0.2, e50.2.2.2.2]⟩
section OPS
variable {l : Launch} {D : va_G} {K : K5} {G : GT} {N : Nat}
/-- state -/
theorem op_state (h : Inv G N) {t : Int} (ht : t = 0 ∨ t = 1) : ∃ v G1 G2 N2, Ct l D K y_V_state c_V_state 2 (some .int) 1 22 [.ref 0, vi t] G (some (vi v)) G1 ∧ Ct l D K y_M_state c_M_state 2 (some .int) 0 0 [.ref 50, vi t] G1 (some (vi v)) G2 ∧ Inv G2 N2 ∧ inI v := by
  have hN := h.1.1.2.1
  by_cases c : N = 5
  · exact ⟨-4, G, m0 G, N, ct_V_state_full l D K G N t ht h.1.vv c, ct_M_state_full l D K G N t h.2.1.1 c, h.m0, by unfold inI; omega⟩
  have hN5 : N < 5 := by omega
  have iM : IMod (uG (uG G 2 (up (G 2) N t)) 1 (up (G 1) 0 (G 1 0 + 1))) N := h.2.1.keep (fun b hb => by rw [uG_n _ _ (by omega), uG_n _ _ (by omega)]) (fun k _ => by rw [uG_n _ _ (by decide), uG_n _ _ (by decide)])
  have e : ∀ b, b ≠ 1 → b ≠ 2 → b ≠ 50 → b ≠ 51 → b ≠ 52 → b ≠ 55 → mstG (uG (uG G 2 (up (G 2) N t)) 1 (up (G 1) 0 (G 1 0 + 1))) N t b = G b := fun b h1 h2 h3 h4 h5 h6 => by unfold mstG; rw [uG_n _ _ h3, uG_n _ _ h6, uG_n _ _ h5, uG_n _ _ h4, m0_n h3, uG_n _ _ h1, uG_n _ _ h2]
  have e1 : mstG (uG (uG G 2 (up (G 2) N t)) 1 (up (G 1) 0 (G 1 0 + 1))) N t 1 = up (G 1) 0 (G 1 0 + 1) := by unfold mstG; rw [uG_n _ _ (by decide), uG_n _ _ (by decide), uG_n _ _ (by decide), uG_n _ _ (by decide), m0_n (by decide), uG_s]
  have e2 : mstG (uG (uG G 2 (up (G 2) N t)) 1 (up (G 1) 0 (G 1 0 + 1))) N t 2 = up (G 2) N t := by unfold mstG; rw [uG_n _ _ (by decide), uG_n _ _ (by decide), uG_n _ _ (by decide), uG_n _ _ (by decide), m0_n (by decide), uG_n _ _ (by decide), uG_s]
  have e51 : mstG (uG (uG G 2 (up (G 2) N t)) 1 (up (G 1) 0 (G 1 0 + 1))) N t 51 = up (G 51) N t := by unfold mstG; rw [uG_n _ _ (by decide), uG_n _ _ (by decide), uG_n _ _ (by decide), uG_s, uG_n _ _ (by decide), uG_n _ _ (by decide)]
  have e52 : mstG (uG (uG G 2 (up (G 2) N t)) 1 (up (G 1) 0 (G 1 0 + 1))) N t 52 = up (G 52) N 0 := by unfold mstG; rw [uG_n _ _ (by decide), uG_n _ _ (by decide), uG_s, uG_n _ _ (by decide), uG_n _ _ (by decide)]
  have e55 : mstG (uG (uG G 2 (up (G 2) N t)) 1 (up (G 1) 0 (G 1 0 + 1))) N t 55 = up (G 55) N 0 := by unfold mstG; rw [uG_n _ _ (by decide), uG_s, uG_n _ _ (by decide), uG_n _ _ (by decide)]
  have e50 : ∀ k, k ≠ 0 → k ≠ 1 → mstG (uG (uG G 2 (up (G 2) N t)) 1 (up (G 1) 0 (G 1 0 + 1))) N t 50 k = G 50 k := fun k h0 h1 => by unfold mstG; rw [uG_s, up_n _ _ h1, m0_k h0, uG_n _ _ (by decide), uG_n _ _ (by decide)]
  have e501 : mstG (uG (uG G 2 (up (G 2) N t)) 1 (up (G 1) 0 (G 1 0 + 1))) N t 50 1 = (N : Int) + 1 := by unfold mstG; rw [uG_s, up_s]
  have g0 := h.1.2.2.2.2 N (Nat.le_refl _) hN5
  have t47 := h.1.2.1 N hN5
  refine ⟨(N : Int), _, _, N + 1, ct_V_state l D K G N t ht h.1.vv hN5, ct_M_state l D K _ N t ht iM.1 hN5, ⟨?_, ?_, ?_⟩, by unfold inI; omega⟩
  · obtain ⟨⟨w1, w2, w3, w4, w5, w6, w7⟩, t7, t8, ab, hi⟩ := h.1
    refine ⟨⟨by rw [e1, up_s, w1]; rfl, by omega, ?_, fun s hs => by rw [e 3 (by decide) (by decide) (by decide) (by decide) (by decide) (by decide)]; exact w4 s hs, fun q hq => by rw [e 4 (by decide) (by decide) (by decide) (by decide) (by decide) (by decide), e 5 (by decide) (by decide) (by decide) (by decide) (by decide) (by decide)]; exact w5 q hq, fun q t hq ht => by rw [e (7 + q) (by omega) (by omega) (by omega) (by omega) (by omega) (by omega)]; exact w6 q t hq ht, fun s hs => ?_⟩, fun s hs => by rw [e 47 (by decide) (by decide) (by decide) (by decide) (by decide) (by decide), e 3 (by decide) (by decide) (by decide) (by decide) (by decide) (by decide)]; exact t7 s hs, fun s hs => by rw [e 48 (by decide) (by decide) (by decide) (by decide) (by decide) (by decide), e 3 (by decide) (by decide) (by decide) (by decide) (by decide) (by decide)]; exact t8 s hs, fun s a hs ha hl => ?_, fun s hs h => by rw [e 3 (by decide) (by decide) (by decide) (by decide) (by decide) (by decide)]; exact hi s (by omega) h⟩
    · rw [e1, up_n _ _ (by decide), up_n _ _ (by decide)]
      refine ⟨w3.1, w3.2.1, w3.2.2.1, fun q hq => ?_⟩
      rw [e (7 + q) (by omega) (by omega) (by omega) (by omega) (by omega) (by omega), e 5 (by decide) (by decide) (by decide) (by decide) (by decide) (by decide)]
      have hq2 := w3.2.2.2 q hq
      refine ⟨?_, fun z h1 h2 => hq2.2 z (by omega) h2⟩
      show sumZ (G (7 + q)) N + G (7 + q) N = _
      rw [hq2.1, hq2.2 N (Nat.le_refl _) hN5]; omega
    · rw [e2]
      by_cases es : s = N
      · rw [es, up_s]; exact ht
      · rw [up_n _ _ es]; exact w7 s hs
    · rw [e 3 (by decide) (by decide) (by decide) (by decide) (by decide) (by decide)] at hl
      rw [e 4 (by decide) (by decide) (by decide) (by decide) (by decide) (by decide), e 5 (by decide) (by decide) (by decide) (by decide) (by decide) (by decide)]; exact ab s a hs ha hl
  · obtain ⟨⟨n1, n2, n3, n4, n5, n6, n7, n8⟩, m2, m3⟩ := h.2.1
    refine ⟨⟨by rw [e501]; rfl, by omega, by rw [e50 7 (by decide) (by decide), e50 8 (by decide) (by decide)]; exact n3, fun s hs => ?_, fun q hq => by rw [e 53 (by decide) (by decide) (by decide) (by decide) (by decide) (by decide)]; exact n5 q hq, fun q hq => by rw [e 54 (by decide) (by decide) (by decide) (by decide) (by decide) (by decide)]; exact n6 q hq, fun s hs => ?_, fun s hs => ?_⟩, fun s hs => ?_, fun s a hs ha => by rw [totZ_congr (e 54 (by decide) (by decide) (by decide) (by decide) (by decide) (by decide))]; exact m3 s a hs ha⟩
    · rw [e52]
      by_cases es : s = N
      · rw [es, up_s]; decide
      · rw [up_n _ _ es]; exact n4 s hs
    · rw [e51]
      by_cases es : s = N
      · rw [es, up_s]; exact ht
      · rw [up_n _ _ es]; exact n7 s hs
    · rw [e55]
      by_cases es : s = N
      · rw [es, up_s]; decide
      · rw [up_n _ _ es]; exact n8 s hs
    · rw [e52, e55]
      by_cases es : s = N
      · rw [es, up_s, up_s]; intro q; omega
      · rw [up_n _ _ es, up_n _ _ es]; exact m2 s hs
  · obtain ⟨r1, r2, r3, r4, r5⟩ := h.2.2
    refine ⟨by rw [e50 7 (by decide) (by decide), e50 8 (by decide) (by decide), e1, up_n _ _ (by decide), up_n _ _ (by decide)]; exact r1, fun s hs => ?_, fun s a hs ha => ?_, by rw [e 0 (by decide) (by decide) (by decide) (by decide) (by decide) (by decide), e50 9 (by decide) (by decide)]; exact r4, by rw [e 0 (by decide) (by decide) (by decide) (by decide) (by decide) (by decide), e50 10 (by decide) (by decide)]; exact r5⟩
    · rw [e52, e51, e55, e2, e 3 (by decide) (by decide) (by decide) (by decide) (by decide) (by decide), e 47 (by decide) (by decide) (by decide) (by decide) (by decide) (by decide)]
      by_cases es : s = N
      · rw [es, up_s, up_s, up_s, up_s, g0]; exact ⟨rfl, rfl, by omega⟩
      · rw [up_n _ _ es, up_n _ _ es, up_n _ _ es, up_n _ _ es]; exact r2 s (by omega)
    · rw [e 3 (by decide) (by decide) (by decide) (by decide) (by decide) (by decide)] at ha
      have hsN : s < N := by
        by_cases q : s < N
        · exact q
        · rw [h.1.2.2.2.2 s (by omega) (by omega)] at ha; omega
      have h3s := h.1.1.2.2.2.1 s (by omega)
      rw [e 53 (by decide) (by decide) (by decide) (by decide) (by decide) (by decide), e 4 (by decide) (by decide) (by decide) (by decide) (by decide) (by decide), e 54 (by decide) (by decide) (by decide) (by decide) (by decide) (by decide), e (7 + (s * 3 + a)) (by omega) (by omega) (by omega) (by omega) (by omega) (by omega)]
      exact r3 s a hsN ha
theorem clW_at {f : Nat → Int} {s a s' a' t : Nat} (ht : t < 5) (ha : a < 3) (ha' : a' < 3) : clW f s a 5 (wIx s' a' t) = if s' = s ∧ a' = a then 0 else f (wIx s' a' t) := by
  unfold clW wIx
  by_cases c : s' = s ∧ a' = a
  · rw [if_pos c, if_pos (by omega)]
  · rw [if_neg c, if_neg (by omega)]
/-- act -/
theorem op_act (h : Inv G N) {s p : Int} (hs : inI s) (hp : inI p) : ∃ v G1 G2, Ct l D K y_V_act c_V_act 3 (some .int) 2 44 [.ref 0, vi s, vi p] G (some (vi v)) G1 ∧ Ct l D K y_M_act c_M_act 5 (some .int) 2 46 [.ref 50, vi s, vi p] G1 (some (vi v)) G2 ∧ Inv G2 N ∧ inI v := by
  have hN := h.1.1.2.1
  have hS := has_m h.1.1.1 h.2.1.1.1 s
  by_cases c : hasS G s = 0
  · exact ⟨-1, G, m0 G, ct_V_act_no l D K G N s p hs h.1.vv c, ct_M_act_no l D K G N s p hs h.2.1.1 (hS.1.1 c), h.m0, by unfold inI; omega⟩
  obtain ⟨s0, s1⟩ := hS.2 c
  obtain ⟨s', rfl⟩ : ∃ s' : Nat, s = (s' : Int) := ⟨s.toNat, by omega⟩
  have hsN : s' < N := by omega
  have h3 := h.1.1.2.2.2.1 s' (by omega)
  have e52 := (h.2.2.2.1 s' hsN).1
  by_cases cp : payZ p = 0
  · have cz : inZ p (-50) 50 = 0 := cp
    exact ⟨-2, G, m0 G, ct_V_act_pay l D K G N s' p hsN hp h.1.vv cp, ct_M_act_pay l D K G N s' p hsN hp h.2.1.1 cz, h.m0, by unfold inI; omega⟩
  have cz : ¬ inZ p (-50) 50 = 0 := cp
  have hpr : -50 ≤ p ∧ p ≤ 50 := by
    by_cases q : -50 ≤ p ∧ p ≤ 50
    · exact q
    · exact absurd (if_neg q) cp
  by_cases cf : G 3 s' = 3
  · exact ⟨-4, G, m0 G, ct_V_act_full l D K G N s' p hsN hp h.1.vv cp cf, ct_M_act_full l D K G N s' p hsN hp h.2.1.1 cz (by rw [e52]; exact cf), h.m0, by unfold inI; omega⟩
  obtain ⟨A, hA⟩ : ∃ A : Nat, G 3 s' = (A : Int) := ⟨(G 3 s').toNat, by omega⟩
  have hA3 : A < 3 := by omega
  have iM : IMod (uG (uG G 4 (up (G 4) (s' * 3 + A) p)) 3 (up (G 3) s' (G 3 s' + 1))) N := h.2.1.keep (fun b hb => by rw [uG_n _ _ (by omega), uG_n _ _ (by omega)]) (fun k _ => by rw [uG_n _ _ (by decide), uG_n _ _ (by decide)])
  have e : ∀ b, b ≠ 3 → b ≠ 4 → b ≠ 50 → b ≠ 52 → b ≠ 53 → b ≠ 54 → macG (uG (uG G 4 (up (G 4) (s' * 3 + A) p)) 3 (up (G 3) s' (G 3 s' + 1))) s' A p b = G b := fun b h1 h2 h3 h4 h5 h6 => by unfold macG; rw [uG_n _ _ h4, uG_n _ _ h6, uG_n _ _ h5, m0_n h3, uG_n _ _ h1, uG_n _ _ h2]
  have e3 : macG (uG (uG G 4 (up (G 4) (s' * 3 + A) p)) 3 (up (G 3) s' (G 3 s' + 1))) s' A p 3 = up (G 3) s' (G 3 s' + 1) := by unfold macG; rw [uG_n _ _ (by decide), uG_n _ _ (by decide), uG_n _ _ (by decide), m0_n (by decide), uG_s]
  have e4 : macG (uG (uG G 4 (up (G 4) (s' * 3 + A) p)) 3 (up (G 3) s' (G 3 s' + 1))) s' A p 4 = up (G 4) (s' * 3 + A) p := by unfold macG; rw [uG_n _ _ (by decide), uG_n _ _ (by decide), uG_n _ _ (by decide), m0_n (by decide), uG_n _ _ (by decide), uG_s]
  have e52' : macG (uG (uG G 4 (up (G 4) (s' * 3 + A) p)) 3 (up (G 3) s' (G 3 s' + 1))) s' A p 52 = up (G 52) s' ((A : Int) + 1) := by unfold macG; rw [uG_s, uG_n _ _ (by decide), uG_n _ _ (by decide)]
  have e53 : macG (uG (uG G 4 (up (G 4) (s' * 3 + A) p)) 3 (up (G 3) s' (G 3 s' + 1))) s' A p 53 = up (G 53) (3 * s' + A) p := by unfold macG; rw [uG_n _ _ (by decide), uG_n _ _ (by decide), uG_s, uG_n _ _ (by decide), uG_n _ _ (by decide)]
  have e54 : macG (uG (uG G 4 (up (G 4) (s' * 3 + A) p)) 3 (up (G 3) s' (G 3 s' + 1))) s' A p 54 = clW (G 54) s' A 5 := by unfold macG; rw [uG_n _ _ (by decide), uG_s, uG_n _ _ (by decide), uG_n _ _ (by decide)]
  have e50 : ∀ k, k ≠ 0 → macG (uG (uG G 4 (up (G 4) (s' * 3 + A) p)) 3 (up (G 3) s' (G 3 s' + 1))) s' A p 50 k = G 50 k := fun k h0 => by unfold macG; rw [uG_n _ _ (by decide), uG_n _ _ (by decide), uG_n _ _ (by decide), m0_k h0, uG_n _ _ (by decide), uG_n _ _ (by decide)]
  have hab := h.1.2.2.2.1 s' A (by omega) hA3 (by omega)
  refine ⟨(A : Int), _, _, ct_V_act l D K G N s' A p hsN hp h.1.vv cp hA hA3, ct_M_act l D K _ N s' A p hsN hp iM.1 cz (by rw [uG_n _ _ (by decide), uG_n _ _ (by decide), e52]; exact hA) hA3, ⟨?_, ?_, ?_⟩, by unfold inI; omega⟩
  · obtain ⟨⟨w1, w2, w3, w4, w5, w6, w7⟩, t7, t8, ab, hi⟩ := h.1
    refine ⟨⟨by rw [e 1 (by decide) (by decide) (by decide) (by decide) (by decide) (by decide)]; exact w1, w2, ?_, fun s hs => ?_, fun q hq => ?_, fun q t hq ht => by rw [e (7 + q) (by omega) (by omega) (by omega) (by omega) (by omega) (by omega)]; exact w6 q t hq ht, fun s hs => by rw [e 2 (by decide) (by decide) (by decide) (by decide) (by decide) (by decide)]; exact w7 s hs⟩, fun s hs => ?_, fun s hs => ?_, fun s a hs ha hl => ?_, fun s hs h => ?_⟩
    · rw [e 1 (by decide) (by decide) (by decide) (by decide) (by decide) (by decide)]
      exact ⟨w3.1, w3.2.1, w3.2.2.1, fun q hq => by rw [e (7 + q) (by omega) (by omega) (by omega) (by omega) (by omega) (by omega), e 5 (by decide) (by decide) (by decide) (by decide) (by decide) (by decide)]; exact w3.2.2.2 q hq⟩
    · rw [e3]
      by_cases es : s = s'
      · rw [es, up_s]; omega
      · rw [up_n _ _ es]; exact w4 s hs
    · rw [e4, e 5 (by decide) (by decide) (by decide) (by decide) (by decide) (by decide)]
      have := w5 q hq
      by_cases eq : q = s' * 3 + A
      · rw [eq, up_s, ← eq]; exact ⟨hpr.1, hpr.2, this.2.2⟩
      · rw [up_n _ _ eq]; exact this
    · rw [e3, e 47 (by decide) (by decide) (by decide) (by decide) (by decide) (by decide)]
      have := t7 s hs
      by_cases es : s = s'
      · rw [es, up_s]; rw [es] at this; omega
      · rw [up_n _ _ es]; exact this
    · rw [e3, e 48 (by decide) (by decide) (by decide) (by decide) (by decide) (by decide)]
      have := t8 s hs
      by_cases es : s = s'
      · rw [es, up_s]; rw [es] at this; omega
      · rw [up_n _ _ es]; exact this
    · rw [e3] at hl
      rw [e4, e 5 (by decide) (by decide) (by decide) (by decide) (by decide) (by decide)]
      by_cases es : s = s'
      · rw [es, up_s] at hl
        rw [up_n _ _ (by omega)]
        exact ab s a hs ha (by rw [es]; omega)
      · rw [up_n _ _ es] at hl
        rw [up_n _ _ (by omega)]
        exact ab s a hs ha hl
    · rw [e3, up_n _ _ (by omega)]; exact hi s hs h
  · obtain ⟨⟨n1, n2, n3, n4, n5, n6, n7, n8⟩, m2, m3⟩ := h.2.1
    refine ⟨⟨by rw [e50 1 (by decide)]; exact n1, n2, by rw [e50 7 (by decide), e50 8 (by decide)]; exact n3, fun s hs => ?_, fun q hq => ?_, fun q hq => ?_, fun s hs => by rw [e 51 (by decide) (by decide) (by decide) (by decide) (by decide) (by decide)]; exact n7 s hs, fun s hs => by rw [e 55 (by decide) (by decide) (by decide) (by decide) (by decide) (by decide)]; exact n8 s hs⟩, fun s hs => ?_, fun s a hs ha => ?_⟩
    · rw [e52']
      by_cases es : s = s'
      · rw [es, up_s]; omega
      · rw [up_n _ _ es]; exact n4 s hs
    · rw [e53]
      by_cases es : q = 3 * s' + A
      · rw [es, up_s]; exact hpr
      · rw [up_n _ _ es]; exact n5 q hq
    · rw [e54]; unfold clW; split
      · decide
      · exact n6 q hq
    · rw [e52', e 55 (by decide) (by decide) (by decide) (by decide) (by decide) (by decide)]
      by_cases es : s = s'
      · rw [es, up_s]
        intro _
        have h1 := h.1.2.1 s' (by omega)
        have h2 := (h.2.2.2.1 s' hsN).2.2
        omega
      · rw [up_n _ _ es]; exact m2 s hs
    · rw [totZ_sum, e54]
      by_cases es : s = s' ∧ a = A
      · rw [sumZ_0 (fun t ht => by rw [clW_at ht hA3 ha, if_pos es])]; decide
      · rw [sumZ_congr (g := fun t => G 54 (wIx s a t)) (fun t ht => by rw [clW_at ht hA3 ha, if_neg es]), ← totZ_sum]; exact m3 s a hs ha
  · obtain ⟨r1, r2, r3, r4, r5⟩ := h.2.2
    refine ⟨by rw [e50 7 (by decide), e50 8 (by decide), e 1 (by decide) (by decide) (by decide) (by decide) (by decide) (by decide)]; exact r1, fun s hs => ?_, fun s a hs ha => ?_, by rw [e 0 (by decide) (by decide) (by decide) (by decide) (by decide) (by decide), e50 9 (by decide)]; exact r4, by rw [e 0 (by decide) (by decide) (by decide) (by decide) (by decide) (by decide), e50 10 (by decide)]; exact r5⟩
    · rw [e52', e3, e 51 (by decide) (by decide) (by decide) (by decide) (by decide) (by decide), e 2 (by decide) (by decide) (by decide) (by decide) (by decide) (by decide), e 55 (by decide) (by decide) (by decide) (by decide) (by decide) (by decide), e 47 (by decide) (by decide) (by decide) (by decide) (by decide) (by decide)]
      have := r2 s hs
      by_cases es : s = s'
      · rw [es] at this ⊢
        rw [up_s, up_s, hA]; exact ⟨rfl, this.2⟩
      · rw [up_n _ _ es, up_n _ _ es]; exact this
    · have h3s := h.1.1.2.2.2.1 s (by omega)
      rw [e3] at ha
      have ha3 : a < 3 := by
        by_cases es : s = s'
        · rw [es, up_s] at ha; omega
        · rw [up_n _ _ es] at ha; omega
      rw [e53, e4, e54, e (7 + (s * 3 + a)) (by omega) (by omega) (by omega) (by omega) (by omega) (by omega)]
      by_cases es : s = s' ∧ a = A
      · rw [es.1, es.2, up_s, up_s]
        refine ⟨rfl, fun t ht => ?_⟩
        rw [clW_at ht hA3 hA3, if_pos ⟨rfl, rfl⟩]
        exact (h.1.1.none (by omega) hab.2 ht).symm
      · have ha2 : (a : Int) < G 3 s := by
          by_cases e9 : s = s'
          · rw [e9, up_s] at ha; rw [e9]; omega
          · rw [up_n _ _ e9] at ha; exact ha
        rw [up_n _ _ (by omega), up_n _ _ (by omega)]
        have hr := r3 s a hs ha2
        refine ⟨hr.1, fun t ht => ?_⟩
        rw [clW_at ht hA3 ha3, if_neg es]; exact hr.2 t ht
/-- weight -/
theorem op_weight (h : Inv G N) {s a t x : Int} (hs : inI s) (ha : inI a) (ht : inI t) (hx : inI x) : ∃ v G1 G2, Ct l D K y_V_weight c_V_weight 8 (some .int) 2 43 [.ref 0, vi s, vi a, vi t, vi x] G (some (vi v)) G1 ∧ Ct l D K y_M_weight c_M_weight 6 (some .int) 3 68 [.ref 50, vi s, vi a, vi t, vi x] G1 (some (vi v)) G2 ∧ Inv G2 N ∧ inI v := by
  have hN := h.1.1.2.1
  have hA := hasA_m h s a
  have hS := has_m h.1.1.1 h.2.1.1.1 t
  by_cases c : hasA G s a = 0 ∨ hasS G t = 0
  · exact ⟨-1, G, m0 G, ct_V_weight_no l D K G N s a t x hs ha ht hx h.1.vv c, ct_M_weight_no l D K G N s a t x hs ha ht hx h.2.1.1 (c.imp hA.1.1 hS.1.1), h.m0, by unfold inI; omega⟩
  obtain ⟨⟨s0, s1⟩, a0, a1⟩ := hA.2 (fun q => c (Or.inl q))
  obtain ⟨t0, t1⟩ := hS.2 (fun q => c (Or.inr q))
  obtain ⟨s', rfl⟩ : ∃ s' : Nat, s = (s' : Int) := ⟨s.toNat, by omega⟩
  obtain ⟨a', rfl⟩ : ∃ a' : Nat, a = (a' : Int) := ⟨a.toNat, by omega⟩
  obtain ⟨t', rfl⟩ : ∃ t' : Nat, t = (t' : Int) := ⟨t.toNat, by omega⟩
  rw [Int.toNat_natCast] at a1
  have hsN : s' < N := by omega
  have htN : t' < N := by omega
  have h3 := h.1.1.2.2.2.1 s' (by omega)
  have e52 := (h.2.2.2.1 s' hsN).1
  have etot := h.rel.tot hsN a1
  have hw := (h.2.2.2.2.1 s' a' hsN a1).2
  have ewt := hw t' (by omega)
  by_cases cb : x < 0 ∨ 6 < x ∨ 6 < G 5 (s' * 3 + a') - G (7 + (s' * 3 + a')) t' + x
  · exact ⟨-2, G, m0 G, ct_V_weight_bad l D K G N s' a' t' x hsN a1 htN hx h.1.vv cb, ct_M_weight_bad l D K G N s' a' t' x hsN (by rw [e52]; exact a1) htN hx h.2.1.1 (by rw [etot, ewt]; exact cb), h.m0, by unfold inI; omega⟩
  have ok : 0 ≤ x ∧ x ≤ 6 ∧ G 5 (s' * 3 + a') - G (7 + (s' * 3 + a')) t' + x ≤ 6 := by omega
  have hq : s' * 3 + a' < 15 := by omega
  have hw6 := h.1.1.2.2.2.2.2.1 (s' * 3 + a') t' hq (by omega)
  have iM : IMod (uG (uG G (7 + (s' * 3 + a')) (up (G (7 + (s' * 3 + a'))) t' x)) 5 (up (G 5) (s' * 3 + a') (G 5 (s' * 3 + a') - G (7 + (s' * 3 + a')) t' + x))) N := h.2.1.keep (fun b hb => by rw [uG_n _ _ (by omega), uG_n _ _ (by omega)]) (fun k _ => by rw [uG_n _ _ (by decide), uG_n _ _ (by omega)])
  generalize hG1 : uG (uG G (7 + (s' * 3 + a')) (up (G (7 + (s' * 3 + a'))) t' x)) 5 (up (G 5) (s' * 3 + a') (G 5 (s' * 3 + a') - G (7 + (s' * 3 + a')) t' + x)) = G1 at *
  have g : ∀ b, b ≠ 5 → b ≠ 7 + (s' * 3 + a') → G1 b = G b := fun b h1 h2 => by rw [← hG1, uG_n _ _ h1, uG_n _ _ h2]
  have g5 : G1 5 = up (G 5) (s' * 3 + a') (G 5 (s' * 3 + a') - G (7 + (s' * 3 + a')) t' + x) := by rw [← hG1, uG_s]
  have g7 : G1 (7 + (s' * 3 + a')) = up (G (7 + (s' * 3 + a'))) t' x := by rw [← hG1, uG_n _ _ (by omega), uG_s]
  have g54 : G1 54 = G 54 := g 54 (by decide) (by omega)
  have hV := ct_V_weight l D K G N s' a' t' x hsN a1 htN hx h.1.vv ok
  rw [hG1] at hV
  have hM := ct_M_weight l D K G1 N s' a' t' x hsN (by rw [g 52 (by decide) (by omega), e52]; exact a1) htN hx iM.1 (by rw [totZ_congr g54, g54, etot, ewt]; exact ok)
  rw [g54, ewt] at hM
  have e : ∀ b, b ≠ 5 → b ≠ 7 + (s' * 3 + a') → b ≠ 50 → b ≠ 54 → uG (m0 G1) 54 (up (G 54) (wIx s' a' t') x) b = G b := fun b h1 h2 h3 h4 => by rw [uG_n _ _ h4, m0_n h3, g b h1 h2]
  have e5 : uG (m0 G1) 54 (up (G 54) (wIx s' a' t') x) 5 = up (G 5) (s' * 3 + a') (G 5 (s' * 3 + a') - G (7 + (s' * 3 + a')) t' + x) := by rw [uG_n _ _ (by decide), m0_n (by decide), g5]
  have e7 : ∀ q, uG (m0 G1) 54 (up (G 54) (wIx s' a' t') x) (7 + q) = if q = s' * 3 + a' then up (G (7 + (s' * 3 + a'))) t' x else (if q < 15 then G (7 + q) else uG (m0 G1) 54 (up (G 54) (wIx s' a' t') x) (7 + q)) := fun q => by
    by_cases c1 : q = s' * 3 + a'
    · rw [if_pos c1, c1, uG_n _ _ (by omega), m0_n (by omega), g7]
    · rw [if_neg c1]
      by_cases c2 : q < 15
      · rw [if_pos c2]; exact e (7 + q) (by omega) (by omega) (by omega) (by omega)
      · rw [if_neg c2]
  have e50 : ∀ k, k ≠ 0 → uG (m0 G1) 54 (up (G 54) (wIx s' a' t') x) 50 k = G 50 k := fun k h0 => by rw [uG_n _ _ (by decide), m0_k h0, g 50 (by decide) (by omega)]
  refine ⟨G (7 + (s' * 3 + a')) t', _, _, hV, hM, ⟨?_, ?_, ?_⟩, by unfold inI; omega⟩
  · obtain ⟨⟨w1, w2, w3, w4, w5, w6, w7⟩, t7, t8, ab, hi⟩ := h.1
    refine ⟨⟨by rw [e 1 (by decide) (by omega) (by decide) (by decide)]; exact w1, w2, ?_, fun s hs => by rw [e 3 (by decide) (by omega) (by decide) (by decide)]; exact w4 s hs, fun q hq => ?_, fun q t hq ht => ?_, fun s hs => by rw [e 2 (by decide) (by omega) (by decide) (by decide)]; exact w7 s hs⟩, fun s hs => by rw [e 47 (by decide) (by omega) (by decide) (by decide), e 3 (by decide) (by omega) (by decide) (by decide)]; exact t7 s hs, fun s hs => by rw [e 48 (by decide) (by omega) (by decide) (by decide), e 3 (by decide) (by omega) (by decide) (by decide)]; exact t8 s hs, fun s a hs ha hl => ?_, fun s hs h => by rw [e 3 (by decide) (by omega) (by decide) (by decide)]; exact hi s hs h⟩
    · rw [e 1 (by decide) (by omega) (by decide) (by decide)]
      refine ⟨w3.1, w3.2.1, w3.2.2.1, fun q hq => ?_⟩
      have hq2 := w3.2.2.2 q hq
      rw [e7 q, e5]
      by_cases c1 : q = s' * 3 + a'
      · rw [if_pos c1, c1, up_s, sumZ_up htN, ← c1]
        refine ⟨by rw [hq2.1], fun z h1 h2 => ?_⟩
        rw [up_n _ _ (by omega)]; exact hq2.2 z h1 h2
      · rw [if_neg c1, if_pos hq, up_n _ _ c1]; exact hq2
    · rw [e 4 (by decide) (by omega) (by decide) (by decide), e5]
      have := w5 q hq
      by_cases c1 : q = s' * 3 + a'
      · rw [c1, up_s, ← c1]
        have hge : G (7 + q) t' ≤ G 5 q := by
          rw [← (w3.2.2.2 q hq).1, sumZ_pick htN]
          have : 0 ≤ sumZ (fun z => if z = t' then 0 else G (7 + q) z) N := sumZ_nonneg (fun z hz => by
            show 0 ≤ (if z = t' then 0 else G (7 + q) z)
            split
            · exact Int.le_refl _
            · exact (w6 q z hq (by omega)).1)
          omega
        rw [← c1] at ok
        exact ⟨this.1, this.2.1, by omega, ok.2.2⟩
      · rw [up_n _ _ c1]; exact this
    · rw [e7 q]
      by_cases c1 : q = s' * 3 + a'
      · rw [if_pos c1]
        by_cases c2 : t = t'
        · rw [c2, up_s]; exact ⟨ok.1, ok.2.1⟩
        · rw [up_n _ _ c2, ← c1]; exact w6 q t hq ht
      · rw [if_neg c1, if_pos hq]; exact w6 q t hq ht
    · rw [e 3 (by decide) (by omega) (by decide) (by decide)] at hl
      rw [e 4 (by decide) (by omega) (by decide) (by decide), e5, up_n _ _ (fun eq => by
        have e1 : s = s' := by omega
        have e2 : a = a' := by omega
        rw [e1, e2] at hl; omega)]
      exact ab s a hs ha hl
  · obtain ⟨⟨n1, n2, n3, n4, n5, n6, n7, n8⟩, m2, m3⟩ := h.2.1
    refine ⟨⟨by rw [e50 1 (by decide)]; exact n1, n2, by rw [e50 7 (by decide), e50 8 (by decide)]; exact n3, fun s hs => by rw [e 52 (by decide) (by omega) (by decide) (by decide)]; exact n4 s hs, fun q hq => by rw [e 53 (by decide) (by omega) (by decide) (by decide)]; exact n5 q hq, fun q hq => ?_, fun s hs => by rw [e 51 (by decide) (by omega) (by decide) (by decide)]; exact n7 s hs, fun s hs => by rw [e 55 (by decide) (by omega) (by decide) (by decide)]; exact n8 s hs⟩, fun t ht => by rw [e 52 (by decide) (by omega) (by decide) (by decide), e 55 (by decide) (by omega) (by decide) (by decide)]; exact m2 t ht, fun s a hs ha => ?_⟩
    · rw [uG_s]
      by_cases c1 : q = wIx s' a' t'
      · rw [c1, up_s]; exact ⟨ok.1, ok.2.1⟩
      · rw [up_n _ _ c1]; exact n6 q hq
    · rw [totZ_sum, uG_s]
      by_cases c1 : s = s' ∧ a = a'
      · rw [sumZ_congr (g := up (fun z => G 54 (wIx s' a' z)) t' x) (fun z hz => ?_), sumZ_up (by omega), ← totZ_sum, etot, ewt]
        · exact ok.2.2
        · rw [c1.1, c1.2]
          by_cases c2 : z = t'
          · rw [c2, up_s, up_s]
          · rw [up_n _ _ c2, up_n _ _ (by unfold wIx; omega)]
      · rw [sumZ_congr (g := fun z => G 54 (wIx s a z)) (fun z hz => up_n _ _ (by unfold wIx; omega)), ← totZ_sum]
        exact m3 s a hs ha
  · obtain ⟨r1, r2, r3, r4, r5⟩ := h.2.2
    refine ⟨by rw [e50 7 (by decide), e50 8 (by decide), e 1 (by decide) (by omega) (by decide) (by decide)]; exact r1, fun s hs => by rw [e 52 (by decide) (by omega) (by decide) (by decide), e 3 (by decide) (by omega) (by decide) (by decide), e 51 (by decide) (by omega) (by decide) (by decide), e 2 (by decide) (by omega) (by decide) (by decide), e 55 (by decide) (by omega) (by decide) (by decide), e 47 (by decide) (by omega) (by decide) (by decide)]; exact r2 s hs, fun s a hs ha => ?_, by rw [e 0 (by decide) (by omega) (by decide) (by decide), e50 9 (by decide)]; exact r4, by rw [e 0 (by decide) (by omega) (by decide) (by decide), e50 10 (by decide)]; exact r5⟩
    rw [e 3 (by decide) (by omega) (by decide) (by decide)] at ha
    have h3s := h.1.1.2.2.2.1 s (by omega)
    have hr := r3 s a hs ha
    rw [e 53 (by decide) (by omega) (by decide) (by decide), e 4 (by decide) (by omega) (by decide) (by decide), uG_s, e7]
    refine ⟨hr.1, fun z hz => ?_⟩
    by_cases c1 : s * 3 + a = s' * 3 + a'
    · have e1 : s = s' := by omega
      have e2 : a = a' := by omega
      rw [if_pos c1, e1, e2]
      by_cases c2 : z = t'
      · rw [c2, up_s, up_s]
      · rw [up_n _ _ c2, up_n _ _ (by unfold wIx; omega)]
        exact hw z hz
    · rw [if_neg c1, if_pos (by omega), up_n _ _ (by unfold wIx; omega)]; exact hr.2 z hz
end OPS
