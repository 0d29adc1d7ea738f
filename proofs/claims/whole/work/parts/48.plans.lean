/-! the reference's plans: their numbers are the worths -/
/-- class and reference hold the same walks -/
def Rel (G : GT) (N : Nat) : Prop := WW G N ∧ MM G N ∧ (G 50 7 = G 1 1 ∧ G 50 8 = G 1 2) ∧ (∀ s, s < N → G 52 s = G 3 s ∧ G 51 s = G 2 s) ∧ (∀ s a : Nat, s < N → (a : Int) < G 3 s → G 53 (3 * s + a) = G 4 (s * 3 + a) ∧ ∀ t, t < 5 → G 54 (wIx s a t) = G (7 + (s * 3 + a)) t) ∧ ∀ s a : Nat, s < 5 → a < 3 → G 3 s ≤ (a : Int) → G 4 (s * 3 + a) = 0 ∧ G 5 (s * 3 + a) = 0
theorem totZ_sum (G : GT) (s a : Nat) : ∀ n, totZ G s a n = sumZ (fun t => G 54 (wIx s a t)) n
  | 0 => rfl
  | n + 1 => by show totZ G s a n + _ = sumZ _ n + _; rw [totZ_sum G s a n]
theorem Rel.tot {G : GT} {N s a : Nat} (h : Rel G N) (hs : s < N) (ha : (a : Int) < G 3 s) : totZ G s a 5 = G 5 (s * 3 + a) := by
  obtain ⟨hw, hm, hsh, hst, hac, hab⟩ := h
  have hN := hw.2.1
  have h3 := hw.2.2.2.1 s (by omega)
  have hS := hw.2.2.1.2.2.2 (s * 3 + a) (by omega)
  rw [totZ_sum, sumZ_congr (g := G (7 + (s * 3 + a))) (fun t ht => (hac s a hs ha).2 t ht), sumZ_grow hN (fun t h1 h2 => hS.2 t h1 h2), hS.1]
theorem sumZ_each {f : Nat → Int} : ∀ {n : Nat}, (∀ t, t < n → 0 ≤ f t) → sumZ f n = 0 → ∀ t, t < n → f t = 0
  | n, h, h0, t, ht => by
    rw [sumZ_pick ht] at h0
    have h1 := h t ht
    have h2 : 0 ≤ sumZ (fun z => if z = t then 0 else f z) n := sumZ_nonneg (fun z hz => by
      show 0 ≤ (if z = t then 0 else f z)
      split
      · exact Int.le_refl _
      · exact h z hz)
    omega
/-- an act with no total leads nowhere -/
theorem WW.none {G : GT} {N q t : Nat} (h : WW G N) (hq : q < 15) (h0 : G 5 q = 0) (ht : t < 5) : G (7 + q) t = 0 := by
  have hS := h.2.2.1.2.2.2 q hq
  by_cases l : t < N
  · exact sumZ_each (fun t ht => (h.2.2.2.2.2.1 q t hq (by have := h.2.1; omega)).1) (hS.1.trans h0) t l
  · exact hS.2 t (by omega) ht
/-- the act of the plan with number p, 0 where there is none -/
def fP (G : GT) (p : Nat) : Nat → Nat := fun s => (actZ G p s).toNat
theorem fP_in {G : GT} {N : Nat} (h : MM G N) (p : Nat) {s : Nat} (hs : s < 5) : fP G p s ≤ 2 := by
  have := actZ_in3 (p := p) h.2.2.2.1 hs
  unfold fP; omega
def mX (G : GT) (p r t : Nat) : Int := if actZ G p r = -1 ∨ totZ G r (fP G p r) 5 = 0 then (if t = r then 1 else 0) else lwX G r (fP G p r) t
def mR (G : GT) (p r : Nat) : Int := if actZ G p r = -1 then 0 else if totZ G r (fP G p r) 5 = 0 then G 53 (3 * r + fP G p r) else byZ G r (fP G p r) * G 53 (3 * r + fP G p r)
/-- the reference's equations of the plan p -/
def mM (G : GT) (p : Nat) : Nat → Nat → Int := fun t r => if t = 5 then mR G p r else mX G p r t
def kR (G : GT) (p r : Nat) : Int := if G 5 (r * 3 + fP G p r) = 0 then G 1 2 else 1
theorem Rel.act {G : GT} {N s : Nat} (h : Rel G N) (p : Nat) (hs : s < N) : (G 3 s = 0 ∧ actZ G p s = -1 ∧ fP G p s = 0) ∨ (0 ≤ actZ G p s ∧ ((fP G p s : Nat) : Int) = actZ G p s ∧ ((fP G p s : Nat) : Int) < G 3 s) := by
  obtain ⟨hw, hm, hsh, hst, hac, hab⟩ := h
  have hN := hw.2.1
  have h1 := (hst s hs).1
  unfold fP
  rcases actZ_in (p := p) hm.2.2.2.1 (show s < 5 by omega) with ⟨h2, h3⟩ | h2
  · exact Or.inl ⟨by omega, h3, by rw [h3]; rfl⟩
  · exact Or.inr ⟨by omega, by omega, by omega⟩
theorem Rel.row {G : GT} {N r t : Nat} (h : Rel G N) (p : Nat) (hr : r < N) (ht : t ≤ 5) : kR G p r * mM G p t r = plA G (fP G p) t r := by
  have hact := h.act p hr
  have htot := fun a => h.tot (a := a) hr
  obtain ⟨hw, hm, hsh, hst, hac, hab⟩ := h
  have hN := hw.2.1
  have h3 := hw.2.2.2.1 r (by omega)
  have hf := fP_in hm p (show r < 5 by omega)
  have hq : r * 3 + fP G p r < 15 := by omega
  have h5 := hw.2.2.2.2.1 _ hq
  have key0 : G 5 (r * 3 + fP G p r) = 0 → (∀ t, t ≠ 5 → mM G p t r = if t = r then 1 else 0) → mM G p 5 r = G 4 (r * 3 + fP G p r) → kR G p r * mM G p t r = plA G (fP G p) t r := by
    intro h0 hx hy
    have hsc : scaleZ G (r * 3 + fP G p r) = G 1 2 := by unfold scaleZ maxZ; rw [h0, if_neg (by decide), Int.mul_one]
    unfold kR plA
    rw [if_pos h0, hsc]
    by_cases e5 : t = 5
    · subst e5; rw [hy, if_pos rfl]
    · rw [hx t e5, if_neg e5, hw.none hq h0 (by omega)]
      split <;> omega
  rcases hact with ⟨a0, a1, a2⟩ | ⟨a0, a1, a2⟩
  · have hz := hab r (fP G p r) (by omega) (by omega) (by omega)
    refine key0 hz.2 (fun t e5 => ?_) ?_
    · unfold mM mX; rw [if_neg e5, if_pos (Or.inl a1)]
    · unfold mM mR; rw [if_pos rfl, if_pos a1, hz.1]
  · have e1 := htot _ a2
    have e2 := hac r _ hr a2
    by_cases h0 : G 5 (r * 3 + fP G p r) = 0
    · refine key0 h0 (fun t e5 => ?_) ?_
      · unfold mM mX; rw [if_neg e5, if_pos (Or.inr (e1.trans h0))]
      · unfold mM mR; rw [if_pos rfl, if_neg (by omega), if_pos (e1.trans h0), e2.1]
    · have hsc : scaleZ G (r * 3 + fP G p r) = byZ G r (fP G p r) := by unfold scaleZ maxZ byZ; rw [if_pos (by omega), e1, hsh.2]
      unfold kR mM plA
      rw [if_neg h0, Int.one_mul]
      by_cases e5 : t = 5
      · rw [if_pos e5, if_pos e5]
        unfold mR
        rw [if_neg (by omega), if_neg (by rw [e1]; exact h0), e2.1, hsc]
      · rw [if_neg e5, if_neg e5]
        unfold mX
        rw [if_neg (by rw [e1]; omega)]
        unfold lwX
        rw [e2.2 t (by omega), hsc, hsh.1]
theorem kR_pos {G : GT} {N p r : Nat} (hw : WW G N) : 0 < kR G p r := by
  unfold kR; have := hw.2.2.1; split <;> omega
theorem Rel.pm {G : GT} {N : Nat} (h : Rel G N) (p : Nat) : PM (mM G p) N := by
  have hrow := fun r t => h.row (r := r) (t := t) p
  have hact := fun s => h.act (s := s) p
  obtain ⟨hw, hm, hsh, hst, hac, hab⟩ := h
  have hN := hw.2.1
  intro r hr
  have hf := fP_in hm p (show r < 5 by omega)
  have hA := plA_PM (f := fP G p) hw (fun r hr => fP_in hm p (by omega)) r hr
  have e : sumZ (fun t => plA G (fP G p) t r) N = kR G p r * sumZ (fun t => mM G p t r) N := by
    rw [← sumZ_mul]; exact sumZ_congr (fun t ht => (hrow r t hr (by omega)).symm)
  have hk := kR_pos (p := p) (r := r) hw
  have hk6 : kR G p r ≤ 6 := by unfold kR; have := hw.2.2.1; split <;> omega
  rw [e, ← hrow r r hr (by omega), ← hrow r 5 hr (by omega)] at hA
  have hoff : ∀ t, t < N → t ≠ r → kR G p r * mM G p t r ≤ 0 := fun t ht hne => by
    have h1 := hA.1 t ht hne
    rw [← hrow r t hr (by omega)] at h1
    exact h1
  generalize kR G p r = k at *
  refine ⟨fun t ht hne => ?_, ?_, ?_, ?_, ?_⟩
  · have h1 := hoff t ht hne
    exact Int.nonpos_of_mul_nonpos_right h1 hk
  · have h1 := hA.2.1
    by_cases l : 1 ≤ sumZ (fun t => mM G p t r) N
    · exact l
    · have := Int.mul_nonpos_of_nonneg_of_nonpos (show 0 ≤ k by omega) (show sumZ (fun t => mM G p t r) N ≤ 0 by omega)
      omega
  · have h1 := hA.2.2.1
    by_cases l : mM G p r r ≤ 36
    · exact l
    · have : 1 * mM G p r r ≤ k * mM G p r r := Int.mul_le_mul_of_nonneg_right (by omega) (by omega)
      omega
  · have h1 := hA.2.2.2.1
    refine Int.le_of_mul_le_mul_left (a := k) ?_ hk
    rw [Int.mul_neg, Int.mul_left_comm]
    exact h1
  · have h1 := hA.2.2.2.2
    refine Int.le_of_mul_le_mul_left (a := k) ?_ hk
    rw [Int.mul_left_comm]
    exact h1
theorem lwG_hi {G : GT} {N s : Nat} {a : Int} {j : Nat} (hN : N ≤ 5) (h : j < 5 * s) : lwG G N s a 56 j = G 56 j := by
  unfold lwG fixG
  split
  · rw [uG_n _ _ (by decide), uG_s]; exact if_neg (by omega)
  · split
    · rw [uG_n _ _ (by decide), uG_s]; exact if_neg (by omega)
    · rw [uG_n _ _ (by decide), uG_s]; exact if_neg (by omega)
theorem lwG_hi2 {G : GT} {N s : Nat} {a : Int} {j : Nat} (h : j ≠ s) : lwG G N s a 57 j = G 57 j := by
  unfold lwG fixG
  split
  · rw [uG_s, up_n _ _ h]
  · split
    · rw [uG_s, up_n _ _ h]
    · rw [uG_s, up_n _ _ h]
theorem lwG_at {G : GT} {N s t : Nat} {a : Int} (ht : t < N) : lwG G N s a 56 (5 * s + t) = if a = -1 ∨ totZ G s a.toNat 5 = 0 then (if t = s then 1 else 0) else lwX G s a.toNat t := by
  unfold lwG fixG
  by_cases h1 : a = -1
  · rw [if_pos h1, if_pos (Or.inl h1), uG_n _ _ (by decide), uG_s]
    unfold fxF
    rw [if_pos (by omega)]
    by_cases e : t = s
    · rw [if_pos e, if_pos (by omega)]
    · rw [if_neg e, if_neg (by omega)]
  · rw [if_neg h1]
    by_cases h2 : totZ G s a.toNat 5 = 0
    · rw [if_pos h2, if_pos (Or.inr h2), uG_n _ _ (by decide), uG_s]
      unfold fxF
      rw [if_pos (by omega)]
      by_cases e : t = s
      · rw [if_pos e, if_pos (by omega)]
      · rw [if_neg e, if_neg (by omega)]
    · rw [if_neg h2, if_neg (fun q => q.elim h1 h2), uG_n _ _ (by decide), uG_s]
      unfold lwF
      rw [if_pos (by omega), show 5 * s + t - 5 * s = t by omega]
theorem lwG_at2 {G : GT} {N s : Nat} {a : Int} : lwG G N s a 57 s = if a = -1 then 0 else if totZ G s a.toNat 5 = 0 then G 53 (3 * s + a.toNat) else byZ G s a.toNat * G 53 (3 * s + a.toNat) := by
  unfold lwG fixG
  split
  · rw [uG_s, up_s]
  · split
    · rw [uG_s, up_s]
    · rw [uG_s, up_s]
theorem lyW_at {G : GT} {p N : Nat} (hN : N ≤ 5) : ∀ s, s ≤ N → ∀ r, r < s → (∀ t, t < N → lyW G p N s 56 (5 * r + t) = mX G p r t) ∧ lyW G p N s 57 r = mR G p r
  | 0, _, r, h => by omega
  | s + 1, hs, r, hr => by
    have ih := lyW_at (G := G) (p := p) hN s (by omega)
    have e2 : lyW G p N s 52 = G 52 := lyW_off (by decide) (by decide) s
    have ea : actZ (lyW G p N s) p s = actZ G p s := actZ_congr e2 _ _
    have et : ∀ a, totZ (lyW G p N s) s a 5 = totZ G s a 5 := fun a => totZ_congr (lyW_off (by decide) (by decide) s) _ _ _
    have e50 : lyW G p N s 50 = G 50 := lyW_off (by decide) (by decide) s
    have e53 : lyW G p N s 53 = G 53 := lyW_off (by decide) (by decide) s
    have e54 : lyW G p N s 54 = G 54 := lyW_off (by decide) (by decide) s
    show (∀ t, t < N → lwG (lyW G p N s) N s (actZ (lyW G p N s) p s) 56 (5 * r + t) = _) ∧ lwG (lyW G p N s) N s (actZ (lyW G p N s) p s) 57 r = _
    rw [ea]
    by_cases e : r = s
    · subst e
      refine ⟨fun t ht => ?_, ?_⟩
      · rw [lwG_at ht, et]
        unfold mX lwX byZ
        rw [et, e50, e54]; rfl
      · rw [lwG_at2, et]
        unfold mR byZ
        rw [et, e50, e53]; rfl
    · refine ⟨fun t ht => ?_, ?_⟩
      · rw [lwG_hi hN (by omega)]; exact (ih r (by omega)).1 t ht
      · rw [lwG_hi2 e]; exact (ih r (by omega)).2
