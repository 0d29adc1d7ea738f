/-! what class and reference hold between the calls of the law -/
def T5 (G : GT) (pl : Nat) : Prop := ∀ s, s < 5 → 0 ≤ G pl s ∧ (G pl s < G 3 s ∨ (G pl s = 0 ∧ G 3 s = 0))
def ICls (G : GT) (N : Nat) : Prop := WW G N ∧ T5 G 47 ∧ T5 G 48 ∧ (∀ s a : Nat, s < 5 → a < 3 → G 3 s ≤ (a : Int) → G 4 (s * 3 + a) = 0 ∧ G 5 (s * 3 + a) = 0) ∧ ∀ s, N ≤ s → s < 5 → G 3 s = 0
def IMod (G : GT) (N : Nat) : Prop := MM G N ∧ ChOk G ∧ ∀ s a, s < 5 → a < 3 → totZ G s a 5 ≤ 6
def IRel (G : GT) (N : Nat) : Prop := (G 50 7 = G 1 1 ∧ G 50 8 = G 1 2) ∧ (∀ s, s < N → G 52 s = G 3 s ∧ G 51 s = G 2 s ∧ G 55 s = G 47 s) ∧ (∀ s a : Nat, s < N → (a : Int) < G 3 s → G 53 (3 * s + a) = G 4 (s * 3 + a) ∧ ∀ t, t < 5 → G 54 (wIx s a t) = G (7 + (s * 3 + a)) t) ∧ G 0 8 = G 50 9 ∧ G 0 9 = G 50 10
def Inv (G : GT) (N : Nat) : Prop := ICls G N ∧ IMod G N ∧ IRel G N
theorem ICls.keep {G G' : GT} {N : Nat} (h : ICls G N) (e : ∀ b, 1 ≤ b ∧ b ≤ 21 → G' b = G b) (e7 : G' 47 = G 47) (e8 : G' 48 = G 48) : ICls G' N := by
  obtain ⟨h1, h2, h3, h4, h5⟩ := h
  refine ⟨h1.keep1 e, fun s hs => by rw [e7, e 3 (by omega)]; exact h2 s hs, fun s hs => by rw [e8, e 3 (by omega)]; exact h3 s hs, fun s a hs ha hl => ?_, fun s hs h => by rw [e 3 (by omega)]; exact h5 s hs h⟩
  rw [e 3 (by omega)] at hl
  rw [e 4 (by omega), e 5 (by omega)]; exact h4 s a hs ha hl
theorem IMod.keep {G G' : GT} {N : Nat} (h : IMod G N) (e : ∀ b, 51 ≤ b ∧ b ≤ 55 → G' b = G b) (e0 : ∀ k, k = 1 ∨ k = 7 ∨ k = 8 → G' 50 k = G 50 k) : IMod G' N :=
  ⟨h.1.keep e e0, fun t ht => by rw [e 52 (by omega), e 55 (by omega)]; exact h.2.1 t ht, fun s a hs ha => by rw [totZ_congr (e 54 (by omega))]; exact h.2.2 s a hs ha⟩
theorem Inv.rel {G : GT} {N : Nat} (h : Inv G N) : Rel G N := ⟨h.1.1, h.2.1.1, h.2.2.1, fun s hs => ⟨(h.2.2.2.1 s hs).1, (h.2.2.2.1 s hs).2.1⟩, h.2.2.2.2.1, h.1.2.2.2.1⟩
theorem T5.ok {G : GT} {N pl : Nat} (hw : WW G N) (h : T5 G pl) : TOk G pl N := fun s hs => by
  have hN := hw.2.1
  have h1 := h s (by omega)
  refine ⟨h1.1, ?_⟩
  unfold vd
  omega
theorem ICls.vv {G : GT} {N : Nat} (h : ICls G N) : VV G N := by
  have hN := h.1.2.1
  refine ⟨h.1, ⟨Or.inl rfl, fun s hs => ?_⟩, ⟨Or.inr (Or.inl rfl), fun s hs => ?_⟩⟩
  · have h1 := h.2.1 s (by omega)
    have h2 := h.1.2.2.2.1 s (by omega)
    omega
  · have h1 := h.2.2.1 s (by omega)
    have h2 := h.1.2.2.2.1 s (by omega)
    omega
theorem has_m {G : GT} {N : Nat} (h1 : G 1 0 = (N : Int)) (h2 : G 50 1 = (N : Int)) (s : Int) : (hasS G s = 0 ↔ mS G s = 0) ∧ (¬ hasS G s = 0 → 0 ≤ s ∧ s < (N : Int)) := by
  unfold hasS mS inZ
  rw [h1, h2]
  by_cases c : 0 ≤ s ∧ s < (N : Int)
  · rw [if_pos c, if_pos (by omega)]; exact ⟨⟨fun q => absurd q (by decide), fun q => absurd q (by decide)⟩, fun _ => c⟩
  · rw [if_neg c, if_neg (by omega)]; exact ⟨⟨fun _ => rfl, fun _ => rfl⟩, fun q => absurd rfl q⟩
theorem hasA_m {G : GT} {N : Nat} (h : Inv G N) (s a : Int) : (hasA G s a = 0 ↔ mA G s a = 0) ∧ (¬ hasA G s a = 0 → (0 ≤ s ∧ s < (N : Int)) ∧ 0 ≤ a ∧ a < G 3 s.toNat) := by
  have h1 := h.1.1.1
  have h2 := h.2.1.1.1
  unfold hasA mA mS inZ
  rw [h1, h2]
  by_cases c : 0 ≤ s ∧ s < (N : Int)
  · have e := (h.2.2.2.1 s.toNat (by omega)).1
    rw [if_pos (show 0 ≤ s ∧ s ≤ (N : Int) - 1 by omega), e]
    by_cases c2 : 0 ≤ a ∧ a < G 3 s.toNat
    · rw [if_pos (show 0 ≤ a ∧ a ≤ G 3 s.toNat - 1 by omega), if_pos ⟨c.1, c.2, c2⟩, if_pos ⟨rfl, rfl⟩]
      exact ⟨⟨fun q => absurd q (by decide), fun q => absurd q (by decide)⟩, fun _ => ⟨c, c2⟩⟩
    · rw [if_neg (show ¬ (0 ≤ a ∧ a ≤ G 3 s.toNat - 1) by omega), if_neg (fun q => c2 q.2.2), if_neg (fun q => absurd q.2 (by decide))]
      exact ⟨⟨fun _ => rfl, fun _ => rfl⟩, fun q => absurd rfl q⟩
  · rw [if_neg (show ¬ (0 ≤ s ∧ s ≤ (N : Int) - 1) by omega), if_neg (fun q => c ⟨q.1, q.2.1⟩), if_neg (fun q => absurd q.1 (by decide))]
    exact ⟨⟨fun _ => rfl, fun _ => rfl⟩, fun q => absurd rfl q⟩
/-- a call that changes neither side's walks -/
theorem Inv.m0 {G : GT} {N : Nat} (h : Inv G N) : Inv (m0 G) N :=
  ⟨h.1.keep (fun b hb => m0_n (by omega)) (m0_n (by decide)) (m0_n (by decide)), h.2.1.keep (fun b hb => m0_n (by omega)) (fun k hk => m0_k (by omega)), by
    obtain ⟨h1, h2, h3, h4, h5⟩ := h.2.2
    refine ⟨?_, fun s hs => ?_, fun s a hs ha => ?_, ?_, ?_⟩
    · rw [m0_k (by decide), m0_k (by decide), m0_n (by decide)]; exact h1
    · rw [m0_n (by decide), m0_n (by decide), m0_n (by decide), m0_n (by decide), m0_n (by decide), m0_n (by decide)]; exact h2 s hs
    · rw [m0_n (by decide)] at ha
      have h6 := h.1.1.2.2.2.1 s (by have := h.1.1.2.1; omega)
      have h7 := h.1.1.2.1
      rw [m0_n (by decide), m0_n (by decide), m0_n (by decide), m0_n (show 7 + (s * 3 + a) ≠ 50 by omega)]; exact h3 s a hs ha
    · rw [m0_n (by decide), m0_k (by decide)]; exact h4
    · rw [m0_n (by decide), m0_k (by decide)]; exact h5⟩
theorem sumZ_up {f : Nat → Int} {t n : Nat} {x : Int} (ht : t < n) : sumZ (up f t x) n = sumZ f n - f t + x := by
  rw [sumZ_pick ht, sumZ_pick (f := f) ht, up_s, sumZ_congr (f := fun z => if z = t then 0 else up f t x z) (g := fun z => if z = t then 0 else f z) (fun z _ => by
    by_cases e : z = t
    · rw [if_pos e, if_pos e]
    · rw [if_neg e, if_neg e, up_n _ _ e])]
  omega
section OPS
variable {l : Launch} {D : va_G} {K : K5} {G : GT} {N : Nat}
/-- pay -/
theorem op_pay (h : Inv G N) {s a p : Int} (hs : inI s) (ha : inI a) (hp : inI p) : ∃ v G1 G2, Ct l D K y_V_pay c_V_pay 6 (some .int) 2 43 [.ref 0, vi s, vi a, vi p] G (some (vi v)) G1 ∧ Ct l D K y_M_pay c_M_pay 5 (some .int) 3 68 [.ref 50, vi s, vi a, vi p] G1 (some (vi v)) G2 ∧ Inv G2 N ∧ inI v := by
  have hA := hasA_m h s a
  by_cases c : hasA G s a = 0
  · exact ⟨-1, G, m0 G, ct_V_pay_no l D K G N s a p hs ha h.1.vv c, ct_M_pay_no l D K G N s a p hs ha h.2.1.1 (hA.1.1 c), h.m0, by unfold inI; omega⟩
  obtain ⟨⟨s0, s1⟩, a0, a1⟩ := hA.2 c
  obtain ⟨s', rfl⟩ : ∃ s' : Nat, s = (s' : Int) := ⟨s.toNat, by omega⟩
  obtain ⟨a', rfl⟩ : ∃ a' : Nat, a = (a' : Int) := ⟨a.toNat, by omega⟩
  rw [Int.toNat_natCast] at a1
  have hsN : s' < N := by omega
  have hN := h.1.1.2.1
  have h3 := h.1.1.2.2.2.1 s' (by omega)
  have e52 := (h.2.2.2.1 s' hsN).1
  by_cases cp : payZ p = 0
  · have cz : inZ p (-50) 50 = 0 := cp
    exact ⟨-2, G, m0 G, ct_V_pay_bad l D K G N s' a' p hsN a1 hp h.1.vv cp, ct_M_pay_bad l D K G N s' a' p hsN (by rw [e52]; exact a1) hp h.2.1.1 cz, h.m0, by unfold inI; omega⟩
  have cz : ¬ inZ p (-50) 50 = 0 := cp
  have hpr : -50 ≤ p ∧ p ≤ 50 := by
    by_cases q : -50 ≤ p ∧ p ≤ 50
    · exact q
    · exact absurd (if_neg q) cp
  have e4 := (h.2.2.2.2.1 s' a' hsN a1).1
  have h4 := h.1.1.2.2.2.2.1 (s' * 3 + a') (by omega)
  have iM : IMod (uG G 4 (up (G 4) (s' * 3 + a') p)) N := h.2.1.keep (fun b hb => uG_n _ _ (by omega)) (fun k _ => by rw [uG_n _ _ (by decide)])
  have hM := ct_M_pay l D K (uG G 4 (up (G 4) (s' * 3 + a') p)) N s' a' p hsN (by rw [uG_n _ _ (by decide), e52]; exact a1) hp iM.1 cz
  rw [uG_n _ _ (show 53 ≠ 4 by decide), e4] at hM
  refine ⟨G 4 (s' * 3 + a') + 50, _, _, ct_V_pay l D K G N s' a' p hsN a1 hp h.1.vv cp, hM, ⟨?_, ?_, ?_⟩, by unfold inI; omega⟩
  · have e : ∀ b, b ≠ 4 → b ≠ 50 → b ≠ 53 → uG (m0 (uG G 4 (up (G 4) (s' * 3 + a') p))) 53 (up (G 53) (3 * s' + a') p) b = G b := fun b h1 h2 h3 => by rw [uG_n _ _ h3, m0_n h2, uG_n _ _ h1]
    have e4' : uG (m0 (uG G 4 (up (G 4) (s' * 3 + a') p))) 53 (up (G 53) (3 * s' + a') p) 4 = up (G 4) (s' * 3 + a') p := by rw [uG_n _ _ (by decide), m0_n (by decide), uG_s]
    obtain ⟨⟨w1, w2, w3, w4, w5, w6, w7⟩, t7, t8, ab, hi⟩ := h.1
    refine ⟨⟨by rw [e 1 (by decide) (by decide) (by decide)]; exact w1, w2, ?_, fun s hs => by rw [e 3 (by decide) (by decide) (by decide)]; exact w4 s hs, fun q hq => ?_, fun q t hq ht => by rw [e (7 + q) (by omega) (by omega) (by omega)]; exact w6 q t hq ht, fun s hs => by rw [e 2 (by decide) (by decide) (by decide)]; exact w7 s hs⟩, fun s hs => by rw [e 47 (by decide) (by decide) (by decide), e 3 (by decide) (by decide) (by decide)]; exact t7 s hs, fun s hs => by rw [e 48 (by decide) (by decide) (by decide), e 3 (by decide) (by decide) (by decide)]; exact t8 s hs, fun s a hs ha hl => ?_, fun s hs h => by rw [e 3 (by decide) (by decide) (by decide)]; exact hi s hs h⟩
    · rw [e 1 (by decide) (by decide) (by decide)]
      exact ⟨w3.1, w3.2.1, w3.2.2.1, fun q hq => by rw [e (7 + q) (by omega) (by omega) (by omega), e 5 (by decide) (by decide) (by decide)]; exact w3.2.2.2 q hq⟩
    · rw [e4', e 5 (by decide) (by decide) (by decide)]
      have := w5 q hq
      by_cases eq : q = s' * 3 + a'
      · rw [eq, up_s, ← eq]; exact ⟨hpr.1, hpr.2, this.2.2⟩
      · rw [up_n _ _ eq]; exact this
    · rw [e 3 (by decide) (by decide) (by decide)] at hl
      rw [e4', e 5 (by decide) (by decide) (by decide), up_n _ _ (fun eq => by
        have e1 : s = s' := by omega
        have e2 : a = a' := by omega
        rw [e1, e2] at hl; omega)]
      exact ab s a hs ha hl
  · obtain ⟨m1, m2, m3⟩ := iM
    refine ⟨?_, fun t ht => ?_, fun s a hs ha => ?_⟩
    · obtain ⟨n1, n2, n3, n4, n5, n6, n7, n8⟩ := m1.m0
      refine ⟨by rw [uG_n _ _ (by decide)]; exact n1, n2, by rw [uG_n _ _ (by decide)]; exact n3, fun s hs => by rw [uG_n _ _ (by decide)]; exact n4 s hs, fun q hq => ?_, fun q hq => by rw [uG_n _ _ (by decide)]; exact n6 q hq, fun s hs => by rw [uG_n _ _ (by decide)]; exact n7 s hs, fun s hs => by rw [uG_n _ _ (by decide)]; exact n8 s hs⟩
      rw [uG_s]
      by_cases eq : q = 3 * s' + a'
      · rw [eq, up_s]; exact hpr
      · rw [up_n _ _ eq]
        have := h.2.1.1.2.2.2.2.1 q hq
        exact this
    · rw [uG_n _ _ (by decide), m0_n (by decide), uG_n _ _ (by decide), uG_n _ _ (by decide), m0_n (by decide), uG_n _ _ (by decide)]; exact h.2.1.2.1 t ht
    · rw [totZ_congr (G := G) (by rw [uG_n _ _ (by decide), m0_n (by decide), uG_n _ _ (by decide)])]; exact h.2.1.2.2 s a hs ha
  · obtain ⟨r1, r2, r3, r4, r5⟩ := h.2.2
    have e : ∀ b, b ≠ 4 → b ≠ 50 → b ≠ 53 → uG (m0 (uG G 4 (up (G 4) (s' * 3 + a') p))) 53 (up (G 53) (3 * s' + a') p) b = G b := fun b h1 h2 h3 => by rw [uG_n _ _ h3, m0_n h2, uG_n _ _ h1]
    have e4' : uG (m0 (uG G 4 (up (G 4) (s' * 3 + a') p))) 53 (up (G 53) (3 * s' + a') p) 4 = up (G 4) (s' * 3 + a') p := by rw [uG_n _ _ (by decide), m0_n (by decide), uG_s]
    have e50 : ∀ k, k ≠ 0 → uG (m0 (uG G 4 (up (G 4) (s' * 3 + a') p))) 53 (up (G 53) (3 * s' + a') p) 50 k = G 50 k := fun k hk => by rw [uG_n _ _ (by decide), m0_k hk, uG_n _ _ (by decide)]
    refine ⟨by rw [e50 7 (by decide), e50 8 (by decide), e 1 (by decide) (by decide) (by decide)]; exact r1, fun s hs => by rw [e 52 (by decide) (by decide) (by decide), e 3 (by decide) (by decide) (by decide), e 51 (by decide) (by decide) (by decide), e 2 (by decide) (by decide) (by decide), e 55 (by decide) (by decide) (by decide), e 47 (by decide) (by decide) (by decide)]; exact r2 s hs, fun s a hs ha => ?_, by rw [e 0 (by decide) (by decide) (by decide), e50 9 (by decide)]; exact r4, by rw [e 0 (by decide) (by decide) (by decide), e50 10 (by decide)]; exact r5⟩
    rw [e 3 (by decide) (by decide) (by decide)] at ha
    have h3s := h.1.1.2.2.2.1 s (by omega)
    rw [uG_s, e4', e 54 (by decide) (by decide) (by decide), e (7 + (s * 3 + a)) (by omega) (by omega) (by omega)]
    have hr := r3 s a hs ha
    refine ⟨?_, hr.2⟩
    by_cases eq : s * 3 + a = s' * 3 + a'
    · rw [eq, up_s, show 3 * s + a = 3 * s' + a' by omega, up_s]
    · rw [up_n _ _ eq, up_n _ _ (by omega)]; exact hr.1
/-- tell -/
theorem op_tell (h : Inv G N) {s a : Int} (hs : inI s) (ha : inI a) : ∃ v G1 G2, Ct l D K y_V_tell c_V_tell 4 (some .int) 2 43 [.ref 0, vi s, vi a] G (some (vi v)) G1 ∧ Ct l D K y_M_tell c_M_tell 4 (some .int) 3 68 [.ref 50, vi s, vi a] G1 (some (vi v)) G2 ∧ Inv G2 N ∧ inI v := by
  have hA := hasA_m h s a
  by_cases c : hasA G s a = 0
  · exact ⟨-1, G, m0 G, ct_V_tell_no l D K G N s a hs ha h.1.vv c, ct_M_tell_no l D K G N s a hs ha h.2.1.1 (hA.1.1 c), h.m0, by unfold inI; omega⟩
  obtain ⟨⟨s0, s1⟩, a0, a1⟩ := hA.2 c
  obtain ⟨s', rfl⟩ : ∃ s' : Nat, s = (s' : Int) := ⟨s.toNat, by omega⟩
  obtain ⟨a', rfl⟩ : ∃ a' : Nat, a = (a' : Int) := ⟨a.toNat, by omega⟩
  rw [Int.toNat_natCast] at a1
  have hsN : s' < N := by omega
  have hN := h.1.1.2.1
  have h3 := h.1.1.2.2.2.1 s' (by omega)
  have e52 := (h.2.2.2.1 s' hsN).1
  have e55 := (h.2.2.2.1 s' hsN).2.2
  have h47 := h.1.2.1 s' (by omega)
  have iM : IMod (uG G 47 (up (G 47) s' (a' : Int))) N := h.2.1.keep (fun b hb => uG_n _ _ (by omega)) (fun k _ => by rw [uG_n _ _ (by decide)])
  have hM := ct_M_tell l D K (uG G 47 (up (G 47) s' (a' : Int))) N s' a' hsN (by rw [uG_n _ _ (by decide), e52]; exact a1) iM.1
  rw [uG_n _ _ (show 55 ≠ 47 by decide), e55] at hM
  have e : ∀ b, b ≠ 47 → b ≠ 50 → b ≠ 55 → uG (m0 (uG G 47 (up (G 47) s' (a' : Int)))) 55 (up (G 55) s' (a' : Int)) b = G b := fun b h1 h2 h3 => by rw [uG_n _ _ h3, m0_n h2, uG_n _ _ h1]
  have e47 : uG (m0 (uG G 47 (up (G 47) s' (a' : Int)))) 55 (up (G 55) s' (a' : Int)) 47 = up (G 47) s' (a' : Int) := by rw [uG_n _ _ (by decide), m0_n (by decide), uG_s]
  have e50 : ∀ k, k ≠ 0 → uG (m0 (uG G 47 (up (G 47) s' (a' : Int)))) 55 (up (G 55) s' (a' : Int)) 50 k = G 50 k := fun k hk => by rw [uG_n _ _ (by decide), m0_k hk, uG_n _ _ (by decide)]
  refine ⟨G 47 s', _, _, ct_V_tell l D K G N s' a' hsN a1 h.1.vv, hM, ⟨?_, ?_, ?_⟩, by unfold inI; omega⟩
  · obtain ⟨w, t7, t8, ab, hi⟩ := h.1
    refine ⟨w.keep1 (fun b hb => e b (by omega) (by omega) (by omega)), fun s hs => ?_, fun s hs => by rw [e 48 (by decide) (by decide) (by decide), e 3 (by decide) (by decide) (by decide)]; exact t8 s hs, fun s a hs ha hl => ?_, fun s hs h => by rw [e 3 (by decide) (by decide) (by decide)]; exact hi s hs h⟩
    · rw [e47, e 3 (by decide) (by decide) (by decide)]
      by_cases es : s = s'
      · rw [es, up_s]; omega
      · rw [up_n _ _ es]; exact t7 s hs
    · rw [e 3 (by decide) (by decide) (by decide)] at hl
      rw [e 4 (by decide) (by decide) (by decide), e 5 (by decide) (by decide) (by decide)]; exact ab s a hs ha hl
  · obtain ⟨⟨n1, n2, n3, n4, n5, n6, n7, n8⟩, m2, m3⟩ := h.2.1
    refine ⟨⟨by rw [e50 1 (by decide)]; exact n1, n2, by rw [e50 7 (by decide), e50 8 (by decide)]; exact n3, fun s hs => by rw [e 52 (by decide) (by decide) (by decide)]; exact n4 s hs, fun q hq => by rw [e 53 (by decide) (by decide) (by decide)]; exact n5 q hq, fun q hq => by rw [e 54 (by decide) (by decide) (by decide)]; exact n6 q hq, fun s hs => by rw [e 51 (by decide) (by decide) (by decide)]; exact n7 s hs, fun s hs => ?_⟩, fun t ht => ?_, fun s a hs ha => by rw [totZ_congr (e 54 (by decide) (by decide) (by decide))]; exact m3 s a hs ha⟩
    · rw [uG_s]
      by_cases es : s = s'
      · rw [es, up_s]; omega
      · rw [up_n _ _ es]; exact n8 s hs
    · rw [uG_s, e 52 (by decide) (by decide) (by decide)]
      by_cases es : t = s'
      · rw [es, up_s]; intro _; omega
      · rw [up_n _ _ es]; exact m2 t ht
  · obtain ⟨r1, r2, r3, r4, r5⟩ := h.2.2
    refine ⟨by rw [e50 7 (by decide), e50 8 (by decide), e 1 (by decide) (by decide) (by decide)]; exact r1, fun s hs => ?_, fun s a hs ha => ?_, by rw [e 0 (by decide) (by decide) (by decide), e50 9 (by decide)]; exact r4, by rw [e 0 (by decide) (by decide) (by decide), e50 10 (by decide)]; exact r5⟩
    · rw [e 52 (by decide) (by decide) (by decide), e 3 (by decide) (by decide) (by decide), e 51 (by decide) (by decide) (by decide), e 2 (by decide) (by decide) (by decide), uG_s, e47]
      have := r2 s hs
      refine ⟨this.1, this.2.1, ?_⟩
      by_cases es : s = s'
      · rw [es, up_s, up_s]
      · rw [up_n _ _ es, up_n _ _ es]; exact this.2.2
    · rw [e 3 (by decide) (by decide) (by decide)] at ha
      have h3s := h.1.1.2.2.2.1 s (by omega)
      rw [e 53 (by decide) (by decide) (by decide), e 4 (by decide) (by decide) (by decide), e 54 (by decide) (by decide) (by decide), e (7 + (s * 3 + a)) (by omega) (by omega) (by omega)]
      exact r3 s a hs ha
/-- share -/
theorem op_share (h : Inv G N) {u d : Int} (hu : inI u) (hd : inI d) : ∃ v G1 G2, Ct l D K y_V_share c_V_share 3 (some .int) 0 0 [.ref 0, vi u, vi d] G (some (vi v)) G1 ∧ Ct l D K y_M_share c_M_share 3 (some .int) 1 25 [.ref 50, vi u, vi d] G1 (some (vi v)) G2 ∧ Inv G2 N ∧ inI v := by
  by_cases c : d < 1 ∨ 6 < d ∨ u < 0 ∨ d ≤ u
  · exact ⟨-2, G, m0 G, ct_V_share_bad l D K G u d hu hd c, ct_M_share_bad l D K G u d hu hd c, h.m0, by unfold inI; omega⟩
  have ok : 1 ≤ d ∧ d ≤ 6 ∧ 0 ≤ u ∧ u < d := by omega
  have e : ∀ b, b ≠ 1 → b ≠ 50 → uG (m0 (uG G 1 (up (up (G 1) 1 u) 2 d))) 50 (up (up ((m0 (uG G 1 (up (up (G 1) 1 u) 2 d))) 50) 7 u) 8 d) b = G b := fun b h1 h2 => by rw [uG_n _ _ h2, m0_n h2, uG_n _ _ h1]
  have e1 : uG (m0 (uG G 1 (up (up (G 1) 1 u) 2 d))) 50 (up (up ((m0 (uG G 1 (up (up (G 1) 1 u) 2 d))) 50) 7 u) 8 d) 1 = up (up (G 1) 1 u) 2 d := by rw [uG_n _ _ (by decide), m0_n (by decide), uG_s]
  have e50 : ∀ k, k ≠ 0 → k ≠ 7 → k ≠ 8 → uG (m0 (uG G 1 (up (up (G 1) 1 u) 2 d))) 50 (up (up ((m0 (uG G 1 (up (up (G 1) 1 u) 2 d))) 50) 7 u) 8 d) 50 k = G 50 k := fun k h0 h7 h8 => by rw [uG_s, up_n _ _ h8, up_n _ _ h7, m0_k h0, uG_n _ _ (by decide)]
  have e57 : uG (m0 (uG G 1 (up (up (G 1) 1 u) 2 d))) 50 (up (up ((m0 (uG G 1 (up (up (G 1) 1 u) 2 d))) 50) 7 u) 8 d) 50 7 = u := by rw [uG_s, up_n _ _ (by decide), up_s]
  have e58 : uG (m0 (uG G 1 (up (up (G 1) 1 u) 2 d))) 50 (up (up ((m0 (uG G 1 (up (up (G 1) 1 u) 2 d))) 50) 7 u) 8 d) 50 8 = d := by rw [uG_s, up_s]
  have f0 : up (up (G 1) 1 u) 2 d 0 = G 1 0 := by rw [up_n _ _ (by decide), up_n _ _ (by decide)]
  have f1 : up (up (G 1) 1 u) 2 d 1 = u := by rw [up_n _ _ (by decide), up_s]
  have f2 : up (up (G 1) 1 u) 2 d 2 = d := up_s _ _ _
  refine ⟨1, _, _, ct_V_share l D K G u d hu hd ok, ct_M_share l D K _ u d hu hd ok, ⟨?_, ?_, ?_⟩, by unfold inI; omega⟩
  · obtain ⟨⟨w1, w2, w3, w4, w5, w6, w7⟩, t7, t8, ab, hi⟩ := h.1
    refine ⟨⟨by rw [e1, f0]; exact w1, w2, ?_, fun s hs => by rw [e 3 (by decide) (by decide)]; exact w4 s hs, fun q hq => by rw [e 4 (by decide) (by decide), e 5 (by decide) (by decide)]; exact w5 q hq, fun q t hq ht => by rw [e (7 + q) (by omega) (by omega)]; exact w6 q t hq ht, fun s hs => by rw [e 2 (by decide) (by decide)]; exact w7 s hs⟩, fun s hs => by rw [e 47 (by decide) (by decide), e 3 (by decide) (by decide)]; exact t7 s hs, fun s hs => by rw [e 48 (by decide) (by decide), e 3 (by decide) (by decide)]; exact t8 s hs, fun s a hs ha hl => ?_, fun s hs h => by rw [e 3 (by decide) (by decide)]; exact hi s hs h⟩
    · rw [e1, f1, f2]
      exact ⟨ok.2.2.1, ok.2.2.2, ok.2.1, fun q hq => by rw [e (7 + q) (by omega) (by omega), e 5 (by decide) (by decide)]; exact w3.2.2.2 q hq⟩
    · rw [e 3 (by decide) (by decide)] at hl
      rw [e 4 (by decide) (by decide), e 5 (by decide) (by decide)]; exact ab s a hs ha hl
  · obtain ⟨⟨n1, n2, n3, n4, n5, n6, n7, n8⟩, m2, m3⟩ := h.2.1
    refine ⟨⟨by rw [e50 1 (by decide) (by decide) (by decide)]; exact n1, n2, by rw [e57, e58]; exact ⟨ok.2.2.1, ok.2.2.2, ok.2.1⟩, fun s hs => by rw [e 52 (by decide) (by decide)]; exact n4 s hs, fun q hq => by rw [e 53 (by decide) (by decide)]; exact n5 q hq, fun q hq => by rw [e 54 (by decide) (by decide)]; exact n6 q hq, fun s hs => by rw [e 51 (by decide) (by decide)]; exact n7 s hs, fun s hs => by rw [e 55 (by decide) (by decide)]; exact n8 s hs⟩, fun t ht => by rw [e 52 (by decide) (by decide), e 55 (by decide) (by decide)]; exact m2 t ht, fun s a hs ha => by rw [totZ_congr (e 54 (by decide) (by decide))]; exact m3 s a hs ha⟩
  · obtain ⟨r1, r2, r3, r4, r5⟩ := h.2.2
    refine ⟨by rw [e57, e58, e1, f1, f2]; exact ⟨rfl, rfl⟩, fun s hs => by rw [e 52 (by decide) (by decide), e 3 (by decide) (by decide), e 51 (by decide) (by decide), e 2 (by decide) (by decide), e 55 (by decide) (by decide), e 47 (by decide) (by decide)]; exact r2 s hs, fun s a hs ha => ?_, by rw [e 0 (by decide) (by decide), e50 9 (by decide) (by decide) (by decide)]; exact r4, by rw [e 0 (by decide) (by decide), e50 10 (by decide) (by decide) (by decide)]; exact r5⟩
    rw [e 3 (by decide) (by decide)] at ha
    have hN := h.1.1.2.1
    have h3s := h.1.1.2.2.2.1 s (by omega)
    rw [e 53 (by decide) (by decide), e 4 (by decide) (by decide), e 54 (by decide) (by decide), e (7 + (s * 3 + a)) (by omega) (by omega)]
    exact r3 s a hs ha
end OPS
