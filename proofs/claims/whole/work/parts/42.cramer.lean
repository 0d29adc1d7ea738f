/-! determinants of families of columns; Cramer; elimination -/
def ud (c : Nat → Nat → Int) (j : Nat) (w : Nat → Int) : Nat → Nat → Int := fun t => if t = j then w else c t
theorem ud_s (c : Nat → Nat → Int) (j : Nat) (w : Nat → Int) : ud c j w j = w := if_pos rfl
theorem ud_n (c : Nat → Nat → Int) {j t : Nat} (w : Nat → Int) (h : t ≠ j) : ud c j w t = c t := if_neg h
def det : Nat → (Nat → Nat → Int) → Int
  | 0, _ => 1
  | 1, c => d1 (c 0)
  | 2, c => d2 (c 0) (c 1)
  | 3, c => d3 (c 0) (c 1) (c 2)
  | 4, c => d4 (c 0) (c 1) (c 2) (c 3)
  | 5, c => d5 (c 0) (c 1) (c 2) (c 3) (c 4)
  | _ + 6, _ => 0
theorem det_congr {n : Nat} (hn : n ≤ 5) {c c2 : Nat → Nat → Int} (h : ∀ t, t < n → ∀ r, r < n → c t r = c2 t r) : det n c = det n c2 := by
  rcases (by omega : n = 0 ∨ n = 1 ∨ n = 2 ∨ n = 3 ∨ n = 4 ∨ n = 5) with rfl | rfl | rfl | rfl | rfl | rfl
  · rfl
  · exact d1_c (h 0 (by decide))
  · exact d2_c (h 0 (by decide)) (h 1 (by decide))
  · exact d3_c (h 0 (by decide)) (h 1 (by decide)) (h 2 (by decide))
  · exact d4_c (h 0 (by decide)) (h 1 (by decide)) (h 2 (by decide)) (h 3 (by decide))
  · exact d5_c (h 0 (by decide)) (h 1 (by decide)) (h 2 (by decide)) (h 3 (by decide)) (h 4 (by decide))
theorem det_lin {n j : Nat} (hn : n ≤ 5) (hj : j < n) (c : Nat → Nat → Int) (x y : Int) (u v : Nat → Int) : det n (ud c j (fun r => x * u r + y * v r)) = x * det n (ud c j u) + y * det n (ud c j v) := by
  rcases (by omega : n = 1 ∨ n = 2 ∨ n = 3 ∨ n = 4 ∨ n = 5) with rfl | rfl | rfl | rfl | rfl
  · obtain rfl : j = 0 := by omega
    · exact d1_l0 x y u v
  · rcases (by omega : j = 0 ∨ j = 1) with rfl | rfl
    · exact d2_l0 x y u v (c 1)
    · exact d2_l1 x y u v (c 0)
  · rcases (by omega : j = 0 ∨ j = 1 ∨ j = 2) with rfl | rfl | rfl
    · exact d3_l0 x y u v (c 1) (c 2)
    · exact d3_l1 x y u v (c 0) (c 2)
    · exact d3_l2 x y u v (c 0) (c 1)
  · rcases (by omega : j = 0 ∨ j = 1 ∨ j = 2 ∨ j = 3) with rfl | rfl | rfl | rfl
    · exact d4_l0 x y u v (c 1) (c 2) (c 3)
    · exact d4_l1 x y u v (c 0) (c 2) (c 3)
    · exact d4_l2 x y u v (c 0) (c 1) (c 3)
    · exact d4_l3 x y u v (c 0) (c 1) (c 2)
  · rcases (by omega : j = 0 ∨ j = 1 ∨ j = 2 ∨ j = 3 ∨ j = 4) with rfl | rfl | rfl | rfl | rfl
    · exact d5_l0 x y u v (c 1) (c 2) (c 3) (c 4)
    · exact d5_l1 x y u v (c 0) (c 2) (c 3) (c 4)
    · exact d5_l2 x y u v (c 0) (c 1) (c 3) (c 4)
    · exact d5_l3 x y u v (c 0) (c 1) (c 2) (c 4)
    · exact d5_l4 x y u v (c 0) (c 1) (c 2) (c 3)
theorem det_e0 {n i j : Nat} (hn : n ≤ 5) (hj : j < n) (hij : i < j) {c : Nat → Nat → Int} (h : c j = c i) : det n c = 0 := by
  rcases (by omega : n = 2 ∨ n = 3 ∨ n = 4 ∨ n = 5) with rfl | rfl | rfl | rfl
  · obtain rfl : j = 1 := by omega
    · obtain rfl : i = 0 := by omega
      · show d2 (c 0) (c 1) = 0
        rw [h]; exact d2_e01 (c 0)
  · rcases (by omega : j = 1 ∨ j = 2) with rfl | rfl
    · obtain rfl : i = 0 := by omega
      · show d3 (c 0) (c 1) (c 2) = 0
        rw [h]; exact d3_e01 (c 0) (c 2)
    · rcases (by omega : i = 0 ∨ i = 1) with rfl | rfl
      · show d3 (c 0) (c 1) (c 2) = 0
        rw [h]; exact d3_e02 (c 0) (c 1)
      · show d3 (c 0) (c 1) (c 2) = 0
        rw [h]; exact d3_e12 (c 0) (c 1)
  · rcases (by omega : j = 1 ∨ j = 2 ∨ j = 3) with rfl | rfl | rfl
    · obtain rfl : i = 0 := by omega
      · show d4 (c 0) (c 1) (c 2) (c 3) = 0
        rw [h]; exact d4_e01 (c 0) (c 2) (c 3)
    · rcases (by omega : i = 0 ∨ i = 1) with rfl | rfl
      · show d4 (c 0) (c 1) (c 2) (c 3) = 0
        rw [h]; exact d4_e02 (c 0) (c 1) (c 3)
      · show d4 (c 0) (c 1) (c 2) (c 3) = 0
        rw [h]; exact d4_e12 (c 0) (c 1) (c 3)
    · rcases (by omega : i = 0 ∨ i = 1 ∨ i = 2) with rfl | rfl | rfl
      · show d4 (c 0) (c 1) (c 2) (c 3) = 0
        rw [h]; exact d4_e03 (c 0) (c 1) (c 2)
      · show d4 (c 0) (c 1) (c 2) (c 3) = 0
        rw [h]; exact d4_e13 (c 0) (c 1) (c 2)
      · show d4 (c 0) (c 1) (c 2) (c 3) = 0
        rw [h]; exact d4_e23 (c 0) (c 1) (c 2)
  · rcases (by omega : j = 1 ∨ j = 2 ∨ j = 3 ∨ j = 4) with rfl | rfl | rfl | rfl
    · obtain rfl : i = 0 := by omega
      · show d5 (c 0) (c 1) (c 2) (c 3) (c 4) = 0
        rw [h]; exact d5_e01 (c 0) (c 2) (c 3) (c 4)
    · rcases (by omega : i = 0 ∨ i = 1) with rfl | rfl
      · show d5 (c 0) (c 1) (c 2) (c 3) (c 4) = 0
        rw [h]; exact d5_e02 (c 0) (c 1) (c 3) (c 4)
      · show d5 (c 0) (c 1) (c 2) (c 3) (c 4) = 0
        rw [h]; exact d5_e12 (c 0) (c 1) (c 3) (c 4)
    · rcases (by omega : i = 0 ∨ i = 1 ∨ i = 2) with rfl | rfl | rfl
      · show d5 (c 0) (c 1) (c 2) (c 3) (c 4) = 0
        rw [h]; exact d5_e03 (c 0) (c 1) (c 2) (c 4)
      · show d5 (c 0) (c 1) (c 2) (c 3) (c 4) = 0
        rw [h]; exact d5_e13 (c 0) (c 1) (c 2) (c 4)
      · show d5 (c 0) (c 1) (c 2) (c 3) (c 4) = 0
        rw [h]; exact d5_e23 (c 0) (c 1) (c 2) (c 4)
    · rcases (by omega : i = 0 ∨ i = 1 ∨ i = 2 ∨ i = 3) with rfl | rfl | rfl | rfl
      · show d5 (c 0) (c 1) (c 2) (c 3) (c 4) = 0
        rw [h]; exact d5_e04 (c 0) (c 1) (c 2) (c 3)
      · show d5 (c 0) (c 1) (c 2) (c 3) (c 4) = 0
        rw [h]; exact d5_e14 (c 0) (c 1) (c 2) (c 3)
      · show d5 (c 0) (c 1) (c 2) (c 3) (c 4) = 0
        rw [h]; exact d5_e24 (c 0) (c 1) (c 2) (c 3)
      · show d5 (c 0) (c 1) (c 2) (c 3) (c 4) = 0
        rw [h]; exact d5_e34 (c 0) (c 1) (c 2) (c 3)
theorem det_eq {n i j : Nat} (hn : n ≤ 5) (hi : i < n) (hj : j < n) (hij : i ≠ j) {c : Nat → Nat → Int} (h : c i = c j) : det n c = 0 := by
  rcases Nat.lt_or_gt_of_ne hij with l | l
  · exact det_e0 hn hj l h.symm
  · exact det_e0 hn hi l h
theorem det_lap {n : Nat} (hn : n ≤ 4) (c : Nat → Nat → Int) : det (n + 1) c = det n c * c n n - sumZ (fun t => det n (ud c t (c n)) * c t n) n := by
  rcases (by omega : n = 0 ∨ n = 1 ∨ n = 2 ∨ n = 3 ∨ n = 4) with rfl | rfl | rfl | rfl | rfl
  · show c 0 0 = 1 * c 0 0 - 0
    omega
  · show d2 (c 0) (c 1) = d1 (c 0) * c 1 1 - ((0) + d1 (c 1) * c 0 1)
    unfold d2
    grind
  · show d3 (c 0) (c 1) (c 2) = d2 (c 0) (c 1) * c 2 2 - (((0) + d2 (c 2) (c 1) * c 0 2) + d2 (c 0) (c 2) * c 1 2)
    rw [show d2 (c 2) (c 1) = -d2 (c 1) (c 2) by rw [d2_w0 (c 1) (c 2)]]
    unfold d3
    grind
  · show d4 (c 0) (c 1) (c 2) (c 3) = d3 (c 0) (c 1) (c 2) * c 3 3 - ((((0) + d3 (c 3) (c 1) (c 2) * c 0 3) + d3 (c 0) (c 3) (c 2) * c 1 3) + d3 (c 0) (c 1) (c 3) * c 2 3)
    rw [show d3 (c 3) (c 1) (c 2) = d3 (c 1) (c 2) (c 3) by rw [d3_w0 (c 1) (c 3) (c 2), d3_w1 (c 1) (c 2) (c 3)]; omega]
    rw [show d3 (c 0) (c 3) (c 2) = -d3 (c 0) (c 2) (c 3) by rw [d3_w1 (c 0) (c 2) (c 3)]]
    unfold d4
    grind
  · show d5 (c 0) (c 1) (c 2) (c 3) (c 4) = d4 (c 0) (c 1) (c 2) (c 3) * c 4 4 - (((((0) + d4 (c 4) (c 1) (c 2) (c 3) * c 0 4) + d4 (c 0) (c 4) (c 2) (c 3) * c 1 4) + d4 (c 0) (c 1) (c 4) (c 3) * c 2 4) + d4 (c 0) (c 1) (c 2) (c 4) * c 3 4)
    rw [show d4 (c 4) (c 1) (c 2) (c 3) = -d4 (c 1) (c 2) (c 3) (c 4) by rw [d4_w0 (c 1) (c 4) (c 2) (c 3), d4_w1 (c 1) (c 2) (c 4) (c 3), d4_w2 (c 1) (c 2) (c 3) (c 4)]; omega]
    rw [show d4 (c 0) (c 4) (c 2) (c 3) = d4 (c 0) (c 2) (c 3) (c 4) by rw [d4_w1 (c 0) (c 2) (c 4) (c 3), d4_w2 (c 0) (c 2) (c 3) (c 4)]; omega]
    rw [show d4 (c 0) (c 1) (c 4) (c 3) = -d4 (c 0) (c 1) (c 3) (c 4) by rw [d4_w2 (c 0) (c 1) (c 3) (c 4)]]
    unfold d5
    grind
theorem ud_self (c : Nat → Nat → Int) (i : Nat) : ud c i (c i) = c := by
  funext t; unfold ud; split
  · next h => rw [h]
  · rfl
theorem det_zero {n j : Nat} (hn : n ≤ 5) (hj : j < n) (c : Nat → Nat → Int) {w : Nat → Int} (hw : ∀ r, r < n → w r = 0) : det n (ud c j w) = 0 := by
  have h := det_lin hn hj c 0 0 w w
  rw [Int.zero_mul, Int.zero_add] at h
  rw [← h]
  refine det_congr hn (fun t ht r hr => ?_)
  unfold ud
  split
  · show w r = 0 * w r + 0 * w r
    rw [hw r hr]; rfl
  · rfl
theorem det_colsum {n i : Nat} (hn : n ≤ 5) (hi : i < n) (c : Nat → Nat → Int) (k : Nat → Nat → Int) (y : Nat → Int) : ∀ m, det n (ud c i (fun r => sumZ (fun t => k t r * y t) m)) = sumZ (fun t => y t * det n (ud c i (k t))) m
  | 0 => det_zero hn hi c (fun _ _ => rfl)
  | m + 1 => by
    show _ = sumZ _ m + y m * det n (ud c i (k m))
    rw [← det_colsum hn hi c k y m]
    have h := det_lin hn hi c 1 (y m) (fun r => sumZ (fun t => k t r * y t) m) (k m)
    rw [Int.one_mul] at h
    rw [← h]
    refine det_congr hn (fun t ht r hr => ?_)
    unfold ud
    split
    · show sumZ _ m + k m r * y m = 1 * sumZ _ m + y m * k m r
      rw [Int.one_mul, Int.mul_comm (k m r)]
    · rfl
theorem det_sc {n i : Nat} (hn : n ≤ 5) (hi : i < n) (c : Nat → Nat → Int) (x : Int) (b w : Nat → Int) (h : ∀ r, r < n → w r = x * b r) : det n (ud c i w) = x * det n (ud c i b) := by
  have h1 := det_lin hn hi c x 0 b b
  rw [Int.zero_mul, Int.add_zero] at h1
  rw [← h1]
  refine det_congr hn (fun t ht r hr => ?_)
  unfold ud
  split
  · show w r = x * b r + 0 * b r
    rw [h r hr, Int.zero_mul, Int.add_zero]
  · rfl
theorem det_cram {n i : Nat} (hn : n ≤ 5) (hi : i < n) (c : Nat → Nat → Int) {x : Int} {b y : Nat → Int} (h : ∀ r, r < n → sumZ (fun t => c t r * y t) n = x * b r) : x * det n (ud c i b) = y i * det n c := by
  rw [← det_sc hn hi c x b (fun r => sumZ (fun t => c t r * y t) n) h, det_colsum hn hi c c y n, sumZ_one hi, ud_self]
  intro t ht hne
  rw [det_eq hn hi ht (fun e => hne e.symm) (show ud c i (c t) i = ud c i (c t) t by rw [ud_s, ud_n _ _ hne]), Int.mul_zero]
theorem det_em {k : Nat} (hk : k ≤ 4) (A : Nat → Nat → Int) (b : Nat → Int) : det (k + 1) (ud A k b) = det k A * b k - sumZ (fun t => det k (ud A t b) * A t k) k := by
  rw [det_lap (by omega), ud_s]
  rw [det_congr (by omega) (c := ud A k b) (c2 := A) (fun t ht r hr => by rw [ud_n _ _ (by omega)])]
  rw [sumZ_congr (fun t ht => ?_)]
  rw [ud_n A (t := t) b (by omega)]
  rw [det_congr (by omega) (c := ud (ud A k b) t b) (c2 := ud A t b) (fun t2 ht2 r hr => by unfold ud; split; rfl; rw [if_neg (by omega)])]
theorem cr_step {A : Nat → Nat → Int} {k : Nat} (hk : k + 1 ≤ 5) (h0 : det k A ≠ 0) (h1 : det (k + 1) A ≠ 0) (adj : ∀ b : Nat → Int, ∀ r, r < k → sumZ (fun t => A t r * det k (ud A t b)) k = det k A * b r) (b : Nat → Int) :
    (∀ t, t < k → det (k + 1) A * det k (ud A t b) - det k (ud A t (A k)) * det (k + 1) (ud A k b) = det k A * det (k + 1) (ud A t b)) ∧ (∀ r, r < k + 1 → sumZ (fun t => A t r * det (k + 1) (ud A t b)) (k + 1) = det (k + 1) A * b r) := by
  have em := det_em (by omega : k ≤ 4) A b
  have eo : det (k + 1) A = det k A * A k k - sumZ (fun t => det k (ud A t (A k)) * A t k) k := det_lap (by omega) A
  have a1 := adj b
  have a2 := adj (A k)
  -- the vector
  have hX : ∀ r, r < k + 1 → sumZ (fun t => A t r * (if t = k then det k A * det (k + 1) (ud A k b) else det (k + 1) A * det k (ud A t b) - det k (ud A t (A k)) * det (k + 1) (ud A k b))) (k + 1) = (det k A * det (k + 1) A) * b r := by
    intro r hr
    show sumZ _ k + A k r * (if k = k then _ else _) = _
    rw [if_pos rfl, sumZ_congr (g := fun t => det (k + 1) A * (A t r * det k (ud A t b)) - det (k + 1) (ud A k b) * (A t r * det k (ud A t (A k)))) (fun t ht => by rw [if_neg (by omega)]; grind), sumZ_sub, sumZ_mul, sumZ_mul]
    by_cases e : r = k
    · subst e
      rw [sumZ_congr (f := fun t => A t r * det r (ud A t b)) (g := fun t => det r (ud A t b) * A t r) (fun t _ => Int.mul_comm _ _), sumZ_congr (f := fun t => A t r * det r (ud A t (A r))) (g := fun t => det r (ud A t (A r)) * A t r) (fun t _ => Int.mul_comm _ _)]
      grind
    · rw [a1 r (by omega), a2 r (by omega)]; grind
  have hc : ∀ t, t < k + 1 → (if t = k then det k A * det (k + 1) (ud A k b) else det (k + 1) A * det k (ud A t b) - det k (ud A t (A k)) * det (k + 1) (ud A k b)) = det k A * det (k + 1) (ud A t b) := by
    intro t ht
    have h2 := det_cram (by omega) ht A hX
    refine Int.eq_of_mul_eq_mul_right h1 ?_
    rw [← h2]; grind
  refine ⟨fun t ht => ?_, fun r hr => ?_⟩
  · have h2 := hc t (by omega)
    rw [if_neg (by omega)] at h2; exact h2
  · have h2 := hX r hr
    rw [sumZ_congr (g := fun t => det k A * (A t r * det (k + 1) (ud A t b))) (fun t ht => by rw [hc t ht]; grind), sumZ_mul, Int.mul_assoc] at h2
    exact Int.eq_of_mul_eq_mul_left h0 h2
theorem adj {A : Nat → Nat → Int} : ∀ {k : Nat}, k ≤ 5 → (∀ j, 1 ≤ j → j ≤ k → det j A ≠ 0) → ∀ b : Nat → Int, ∀ r, r < k → sumZ (fun t => A t r * det k (ud A t b)) k = det k A * b r
  | 0, _, _, _, _, h => by omega
  | k + 1, hk, hp, b, r, hr => by
    have h0 : det k A ≠ 0 := by
      by_cases e : k = 0
      · subst e; show (1 : Int) ≠ 0; decide
      · exact hp k (by omega) (by omega)
    exact (cr_step hk h0 (hp (k + 1) (by omega) (by omega)) (adj (by omega) (fun j h1 h2 => hp j h1 (by omega))) b).2 r hr

