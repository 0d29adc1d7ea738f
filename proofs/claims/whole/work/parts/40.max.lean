/-! sums; the max principle -/
theorem sumZ_congr {f g : Nat → Int} : ∀ {n : Nat}, (∀ t, t < n → f t = g t) → sumZ f n = sumZ g n
  | 0, _ => rfl
  | n + 1, h => by
    show sumZ f n + f n = sumZ g n + g n
    rw [sumZ_congr (fun t ht => h t (by omega)), h n (by omega)]
theorem sumZ_le {f g : Nat → Int} : ∀ {n : Nat}, (∀ t, t < n → f t ≤ g t) → sumZ f n ≤ sumZ g n
  | 0, _ => Int.le_refl _
  | n + 1, h => by
    show sumZ f n + f n ≤ sumZ g n + g n
    have h1 := sumZ_le (fun t (ht : t < n) => h t (by omega))
    have h2 := h n (by omega)
    omega
theorem sumZ_add (f g : Nat → Int) : ∀ n, sumZ (fun t => f t + g t) n = sumZ f n + sumZ g n
  | 0 => rfl
  | n + 1 => by
    show sumZ _ n + (f n + g n) = (sumZ f n + f n) + (sumZ g n + g n)
    rw [sumZ_add f g n]; omega
theorem sumZ_sub (f g : Nat → Int) : ∀ n, sumZ (fun t => f t - g t) n = sumZ f n - sumZ g n
  | 0 => rfl
  | n + 1 => by
    show sumZ _ n + (f n - g n) = (sumZ f n + f n) - (sumZ g n + g n)
    rw [sumZ_sub f g n]; omega
theorem sumZ_neg (f : Nat → Int) : ∀ n, sumZ (fun t => -f t) n = -sumZ f n
  | 0 => rfl
  | n + 1 => by
    show sumZ _ n + (-f n) = -(sumZ f n + f n)
    rw [sumZ_neg f n]; omega
theorem sumZ_mul (c : Int) (f : Nat → Int) : ∀ n, sumZ (fun t => c * f t) n = c * sumZ f n
  | 0 => (Int.mul_zero c).symm
  | n + 1 => by
    show sumZ _ n + c * f n = c * (sumZ f n + f n)
    rw [sumZ_mul c f n, Int.mul_add]
theorem sumZ_mulR (c : Int) (f : Nat → Int) (n : Nat) : sumZ (fun t => f t * c) n = sumZ f n * c := by
  rw [Int.mul_comm, ← sumZ_mul]; exact sumZ_congr (fun t _ => Int.mul_comm _ _)
theorem sumZ_0 {f : Nat → Int} : ∀ {n : Nat}, (∀ t, t < n → f t = 0) → sumZ f n = 0
  | 0, _ => rfl
  | n + 1, h => by
    show sumZ f n + f n = 0
    rw [sumZ_0 (fun t ht => h t (by omega)), h n (by omega)]; rfl
theorem sumZ_nonneg {f : Nat → Int} {n : Nat} (h : ∀ t, t < n → 0 ≤ f t) : 0 ≤ sumZ f n := by
  have := sumZ_le (f := fun _ => 0) (g := f) (n := n) h
  rw [sumZ_0 (fun _ _ => rfl)] at this; exact this
theorem sumZ_pick {f : Nat → Int} {s : Nat} : ∀ {n : Nat}, s < n → sumZ f n = f s + sumZ (fun t => if t = s then 0 else f t) n
  | 0, h => by omega
  | n + 1, h => by
    show sumZ f n + f n = f s + (sumZ _ n + (if n = s then 0 else f n))
    by_cases e : n = s
    · rw [if_pos e, ← e, sumZ_congr (g := f) (fun t ht => if_neg (by omega))]; omega
    · rw [if_neg e, sumZ_pick (show s < n by omega)]; omega
theorem sumZ_one {f : Nat → Int} {s n : Nat} (hs : s < n) (h : ∀ t, t < n → t ≠ s → f t = 0) : sumZ f n = f s := by
  rw [sumZ_pick hs, sumZ_0 (fun t ht => ?_)]
  · omega
  · by_cases e : t = s
    · exact if_pos e
    · show (if t = s then 0 else f t) = 0
      rw [if_neg e]; exact h t ht e
theorem sumZ_swap (f : Nat → Nat → Int) (m : Nat) : ∀ n, sumZ (fun i => sumZ (f i) m) n = sumZ (fun j => sumZ (fun i => f i j) n) m
  | 0 => (sumZ_0 (fun _ _ => rfl)).symm
  | n + 1 => by
    show sumZ _ n + sumZ (f n) m = sumZ (fun j => sumZ (fun i => f i j) n + f n j) m
    rw [sumZ_swap f m n, sumZ_add]
theorem sumZ_grow {f : Nat → Int} {n : Nat} : ∀ {m : Nat}, n ≤ m → (∀ t, n ≤ t → t < m → f t = 0) → sumZ f m = sumZ f n
  | 0, h, _ => by rw [show n = 0 by omega]
  | m + 1, h, hz => by
    by_cases e : n = m + 1
    · rw [e]
    · show sumZ f m + f m = _
      rw [sumZ_grow (show n ≤ m by omega) (fun t h1 h2 => hz t h1 (by omega)), hz m (by omega) (by omega)]; omega
theorem argmin {f : Nat → Int} {p : Nat → Bool} : ∀ {n : Nat}, (∃ r, r < n ∧ p r = true) → ∃ r, r < n ∧ p r = true ∧ ∀ t, t < n → p t = true → f r ≤ f t
  | 0, h => by obtain ⟨r, hr, _⟩ := h; omega
  | n + 1, h => by
    by_cases e : ∃ r, r < n ∧ p r = true
    · obtain ⟨r, hr, hp, hm⟩ := argmin (f := f) e
      by_cases q : p n = true ∧ f n < f r
      · refine ⟨n, by omega, q.1, fun t ht hpt => ?_⟩
        by_cases e2 : t = n
        · rw [e2]; exact Int.le_refl _
        · have := hm t (by omega) hpt; omega
      · refine ⟨r, by omega, hp, fun t ht hpt => ?_⟩
        by_cases e2 : t = n
        · subst e2
          by_cases l : f t < f r
          · exact absurd ⟨hpt, l⟩ q
          · omega
        · exact hm t (by omega) hpt
    · obtain ⟨r, hr, hp⟩ := h
      have er : r = n := by
        by_cases l : r < n
        · exact absurd ⟨r, l, hp⟩ e
        · omega
      subst er
      refine ⟨r, by omega, hp, fun t ht hpt => ?_⟩
      by_cases e2 : t = r
      · rw [e2]; exact Int.le_refl _
      · exact absurd ⟨t, by omega, hpt⟩ e
def bsum (B : Nat → Bool) (f : Nat → Int) (n : Nat) : Int := sumZ (fun t => if B t = true then f t else 0) n
/-- a block whose diagonal outweighs the rest of its rows, strictly so somewhere in each part of it -/
def Dom (a : Nat → Nat → Int) (B : Nat → Bool) (n : Nat) : Prop :=
  (∀ r t, r < n → t < n → B r = true → B t = true → r ≠ t → a r t ≤ 0) ∧ (∀ r, r < n → B r = true → 0 ≤ bsum B (a r) n) ∧
  ∀ S : Nat → Bool, (∀ r, S r = true → r < n ∧ B r = true) → (∃ r, S r = true) → ∃ r, S r = true ∧ 0 < bsum S (a r) n
theorem Dom.pos {a : Nat → Nat → Int} {B : Nat → Bool} {n : Nat} (h : Dom a B n) {z : Nat → Int} (hz : ∀ r, r < n → B r = true → 0 ≤ bsum B (fun t => a r t * z t) n) : ∀ r, r < n → B r = true → 0 ≤ z r := by
  intro r0 hr0 hB0
  obtain ⟨r1, hr1, hB1, hmin⟩ := argmin (f := z) ⟨r0, hr0, hB0⟩
  by_cases hneg : 0 ≤ z r1
  · have := hmin r0 hr0 hB0; omega
  exfalso
  obtain ⟨r, hS, hpos⟩ := h.2.2 (fun t => decide (t < n) && B t && decide (z t = z r1)) (fun t ht => by
    simp only [Bool.and_eq_true, decide_eq_true_eq] at ht; exact ht.1) ⟨r1, by simp [hr1, hB1]⟩
  have hr : r < n ∧ B r = true ∧ z r = z r1 := by
    simp only [Bool.and_eq_true, decide_eq_true_eq] at hS; exact ⟨hS.1.1, hS.1.2, hS.2⟩
  have h1 := hz r hr.1 hr.2.1
  have h2 := h.2.1 r hr.1 hr.2.1
  have h3 : bsum B (fun t => a r t * z t) n ≤ (z r1 + 1) * bsum B (a r) n - bsum (fun t => decide (t < n) && B t && decide (z t = z r1)) (a r) n := by
    unfold bsum
    rw [← sumZ_mul, ← sumZ_sub]
    refine sumZ_le (fun t ht => ?_)
    show (if B t = true then a r t * z t else 0) ≤ (z r1 + 1) * (if B t = true then a r t else 0) - (if (decide (t < n) && B t && decide (z t = z r1)) = true then a r t else 0)
    by_cases hb : B t = true
    · rw [if_pos hb, if_pos hb]
      by_cases he : z t = z r1
      · rw [if_pos (by simp [ht, hb, he]), he, Int.add_mul, Int.one_mul, Int.mul_comm (a r t)]; omega
      · rw [if_neg (by simp [he])]
        have m1 := hmin t ht hb
        have m2 : a r t ≤ 0 := h.1 r t hr.1 ht hr.2.1 hb (fun e => he (by rw [← e]; exact hr.2.2))
        have m3 : a r t * z t ≤ a r t * (z r1 + 1) := Int.mul_le_mul_of_nonpos_left m2 (by omega)
        rw [Int.mul_comm (z r1 + 1)]; omega
    · rw [if_neg hb, if_neg hb, if_neg (by simp [hb])]; simp
  have h4 : (z r1 + 1) * bsum B (a r) n ≤ 0 := Int.mul_nonpos_of_nonpos_of_nonneg (by omega) h2
  omega
