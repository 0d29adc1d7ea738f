/-! dominance: leading minors above 0, bounds of the solutions -/
theorem bsum_all (f : Nat → Int) (n : Nat) : bsum (fun _ => true) f n = sumZ f n := by
  unfold bsum; exact sumZ_congr (fun t _ => if_pos rfl)
theorem bsum_sub {S B : Nat → Bool} {f : Nat → Int} {n : Nat} (h : ∀ t, t < n → S t = true → B t = true) (hf : ∀ t, t < n → B t = true → S t = false → f t ≤ 0) : bsum B f n ≤ bsum S f n := by
  unfold bsum
  refine sumZ_le (fun t ht => ?_)
  show (if B t = true then f t else 0) ≤ (if S t = true then f t else 0)
  by_cases hs : S t = true
  · rw [if_pos hs, if_pos (h t ht hs)]; exact Int.le_refl _
  · rw [if_neg hs]
    by_cases hb : B t = true
    · rw [if_pos hb]; exact hf t ht hb (by simpa using hs)
    · rw [if_neg hb]; exact Int.le_refl _
theorem Dom.of_strict {a : Nat → Nat → Int} {B : Nat → Bool} {n : Nat} (h1 : ∀ r t, r < n → t < n → B r = true → B t = true → r ≠ t → a r t ≤ 0) (h2 : ∀ r, r < n → B r = true → 0 < bsum B (a r) n) : Dom a B n := by
  refine ⟨h1, fun r hr hb => by have := h2 r hr hb; omega, fun S hS ⟨r, hr⟩ => ⟨r, hr, ?_⟩⟩
  have h3 := h2 r (hS r hr).1 (hS r hr).2
  have h4 := bsum_sub (S := S) (B := B) (f := a r) (n := n) (fun t _ hs => (hS t hs).2) (fun t ht hb hs => h1 r t (hS r hr).1 ht (hS r hr).2 hb (fun e => by rw [← e, hr] at hs; cases hs))
  omega
theorem det_pos0 {A : Nat → Nat → Int} {k : Nat} (hpos : ∀ j, 1 ≤ j → j ≤ k → 0 < det j A) : 0 < det k A := by
  by_cases e : k = 0
  · subst e; show (0 : Int) < 1; decide
  · exact hpos k (by omega) (Nat.le_refl _)
/-- the solution by the leading k equations -/
theorem adjP {A : Nat → Nat → Int} {k : Nat} (hk : k ≤ 5) (hpos : ∀ j, 1 ≤ j → j ≤ k → 0 < det j A) (b : Nat → Int) {r : Nat} (hr : r < k) : sumZ (fun t => A t r * det k (ud A t b)) k = det k A * b r :=
  adj hk (fun j a c => by have := hpos j a c; omega) b r hr
theorem det_lapE {A : Nat → Nat → Int} {k : Nat} (hk : k ≤ 4) : det (k + 1) A = det k A * A k k - sumZ (fun t => A t k * det k (ud A t (A k))) k := by
  rw [det_lap hk]
  congr 1
  exact sumZ_congr (fun t _ => Int.mul_comm _ _)
/-- the next leading minor is above 0 if its last row is in a dominated block that is closed -/
theorem det_pos_step {A : Nat → Nat → Int} {k : Nat} (hk : k + 1 ≤ 5) (hpos : ∀ j, 1 ≤ j → j ≤ k → 0 < det j A) {B : Nat → Bool} (hB : B k = true) (hD : Dom (fun r t => A t r) B (k + 1)) (hz : ∀ r t, r < k + 1 → t < k → B r = true → B t = false → A t r * det k (ud A t (A k)) = 0) : 0 < det (k + 1) A := by
  have hP := det_pos0 hpos
  by_cases hneg : 0 < det (k + 1) A
  · exact hneg
  exfalso
  have key : ∀ r, r < k + 1 → B r = true → bsum B (fun t => A t r * (if t = k then -det k A else det k (ud A t (A k)))) (k + 1) = sumZ (fun t => A t r * det k (ud A t (A k))) k - det k A * A k r := by
    intro r hr hb
    show sumZ _ k + (if B k = true then A k r * (if k = k then -det k A else det k (ud A k (A k))) else 0) = _
    rw [if_pos hB, if_pos rfl]
    rw [sumZ_congr (g := fun t => A t r * det k (ud A t (A k))) (fun t ht => ?_)]
    · rw [Int.mul_neg, Int.mul_comm (A k r)]; omega
    · show (if B t = true then A t r * (if t = k then -det k A else det k (ud A t (A k))) else 0) = _
      rw [if_neg (show ¬ t = k by omega)]
      by_cases hbt : B t = true
      · rw [if_pos hbt]
      · rw [if_neg hbt, hz r t hr ht hb (by simpa using hbt)]
  have h := Dom.pos hD (z := fun t => if t = k then -det k A else det k (ud A t (A k))) (fun r hr hb => by
    show 0 ≤ bsum B (fun t => A t r * (if t = k then -det k A else det k (ud A t (A k)))) (k + 1)
    rw [key r hr hb]
    by_cases e : r = k
    · subst e
      have h2 := det_lapE (A := A) (k := r) (by omega)
      omega
    · rw [adjP (by omega) hpos (A k) (show r < k by omega)]; omega) k (by omega) hB
  have h2 : (0 : Int) ≤ if k = k then -det k A else det k (ud A k (A k)) := h
  rw [if_pos rfl] at h2
  omega
/-- rows of a plan's equations: N of them, the right column is 5 -/
def PM (A : Nat → Nat → Int) (N : Nat) : Prop := ∀ r, r < N → (∀ t, t < N → t ≠ r → A t r ≤ 0) ∧ 1 ≤ sumZ (fun t => A t r) N ∧ A r r ≤ 36 ∧ -(300 * sumZ (fun t => A t r) N) ≤ A 5 r ∧ A 5 r ≤ 300 * sumZ (fun t => A t r) N
/-- the sum of the leading k entries of a row is no less than that of more, the diagonal being among them -/
theorem sum_lead {f : Nat → Int} {k r : Nat} : ∀ {n : Nat}, k ≤ n → (∀ t, k ≤ t → t < n → f t ≤ 0) → sumZ f n ≤ sumZ f k
  | 0, h, _ => by rw [show k = 0 by omega]; exact Int.le_refl _
  | n + 1, h, hf => by
    by_cases e : k = n + 1
    · rw [e]; exact Int.le_refl _
    · have h1 := sum_lead (f := f) (k := k) (r := r) (n := n) (by omega) (fun t a b => hf t a (by omega))
      have h2 := hf n (by omega) (by omega)
      show sumZ f n + f n ≤ _
      omega
theorem PM.lead {A : Nat → Nat → Int} {N k r : Nat} (h : PM A N) (hk : k ≤ N) (hr : r < k) : sumZ (fun t => A t r) N ≤ sumZ (fun t => A t r) k :=
  sum_lead (r := r) hk (fun t a b => (h r (by omega)).1 t b (by omega))
theorem PM.dom {A : Nat → Nat → Int} {N k : Nat} (h : PM A N) (hk : k ≤ N) : Dom (fun r t => A t r) (fun _ => true) k :=
  Dom.of_strict (fun r t hr ht _ _ hne => (h r (by omega)).1 t (by omega) (fun e => hne e.symm)) (fun r hr _ => by
    rw [bsum_all]
    have h1 := (h r (by omega)).2.1
    have h2 := h.lead hk hr
    show 0 < sumZ (fun t => A t r) k
    omega)
theorem PM.pos {A : Nat → Nat → Int} {N : Nat} (h : PM A N) (hN : N ≤ 5) : ∀ k, k ≤ N → ∀ j, 1 ≤ j → j ≤ k → 0 < det j A
  | 0, _, j, a, b => by omega
  | k + 1, hk, j, a, b => by
    by_cases e : j = k + 1
    · subst e
      exact det_pos_step (by omega) (h.pos hN k (by omega)) (B := fun _ => true) rfl (h.dom hk) (fun r t _ _ _ hb => by cases hb)
    · exact h.pos hN k (by omega) j a (by omega)
/-- the max principle for a plan's leading rows -/
theorem PM.nonneg {A : Nat → Nat → Int} {N k : Nat} (h : PM A N) (hk : k ≤ N) {z : Nat → Int} (hz : ∀ r, r < k → 0 ≤ sumZ (fun t => A t r * z t) k) : ∀ r, r < k → 0 ≤ z r :=
  fun r hr => Dom.pos (h.dom hk) (fun r hr _ => by rw [bsum_all]; exact hz r hr) r hr rfl
theorem PM.bnd {A : Nat → Nat → Int} {N k : Nat} (h : PM A N) (hN : N ≤ 5) (hk : k ≤ N) {b : Nat → Int} {M : Int} (hb : ∀ r, r < k → -(M * sumZ (fun t => A t r) k) ≤ b r ∧ b r ≤ M * sumZ (fun t => A t r) k) {t : Nat} (ht : t < k) : -(M * det k A) ≤ det k (ud A t b) ∧ det k (ud A t b) ≤ M * det k A := by
  have hpos := h.pos hN k hk
  have hP := det_pos0 hpos
  have e : ∀ (c : Int) r, r < k → sumZ (fun t => A t r * (M * det k A + c * det k (ud A t b))) k = det k A * (M * sumZ (fun t => A t r) k + c * b r) := by
    intro c r hr
    have h1 := adjP (by omega) hpos b hr
    rw [sumZ_congr (g := fun t => (M * det k A) * A t r + c * (A t r * det k (ud A t b))) (fun t _ => by grind), sumZ_add, sumZ_mul, sumZ_mul, h1]
    grind
  have h1 := h.nonneg hk (z := fun t => M * det k A + 1 * det k (ud A t b)) (fun r hr => by
    show 0 ≤ sumZ (fun t => A t r * (M * det k A + 1 * det k (ud A t b))) k
    rw [e 1 r hr]; exact Int.mul_nonneg (by omega) (by have := hb r hr; omega)) t ht
  have h2 := h.nonneg hk (z := fun t => M * det k A + (-1) * det k (ud A t b)) (fun r hr => by
    show 0 ≤ sumZ (fun t => A t r * (M * det k A + (-1) * det k (ud A t b))) k
    rw [e (-1) r hr]; exact Int.mul_nonneg (by omega) (by have := hb r hr; omega)) t ht
  have h3 : 0 ≤ M * det k A + 1 * det k (ud A t b) := h1
  have h4 : 0 ≤ M * det k A + (-1) * det k (ud A t b) := h2
  omega
theorem PM.up {A : Nat → Nat → Int} {N : Nat} (h : PM A N) (hN : N ≤ 5) : ∀ k, k ≤ N → det k A ≤ 36 ^ k
  | 0, _ => by show (1 : Int) ≤ 1; decide
  | k + 1, hk => by
    have ih := h.up hN k (by omega)
    have hpos := h.pos hN k (by omega)
    have hP := det_pos0 hpos
    rw [det_lapE (by omega)]
    have h1 : 0 ≤ sumZ (fun t => A t k * det k (ud A t (A k))) k := by
      refine sumZ_nonneg (fun t ht => ?_)
      have h2 := h.nonneg (k := k) (by omega) (z := fun t => -det k (ud A t (A k))) (fun r hr => by
        show 0 ≤ sumZ (fun t => A t r * -det k (ud A t (A k))) k
        rw [sumZ_congr (g := fun t => -(A t r * det k (ud A t (A k)))) (fun t _ => Int.mul_neg _ _), sumZ_neg, adjP (by omega) hpos (A k) hr, ← Int.mul_neg]
        exact Int.mul_nonneg (by omega) (by have := (h r (by omega)).1 k (by omega) (by omega); omega)) t ht
      have h3 : 0 ≤ -det k (ud A t (A k)) := h2
      have h4 := (h k (by omega)).1 t (by omega) (by omega)
      exact Int.mul_nonneg_of_nonpos_of_nonpos h4 (by omega)
    have h5 : det k A * A k k ≤ det k A * 36 := Int.mul_le_mul_of_nonneg_left (h k (by omega)).2.2.1 (by omega)
    have h6 : (36 : Int) ^ (k + 1) = 36 ^ k * 36 := Int.pow_succ _ _
    omega
