/-! the reference's sums over sets are determinants -/
def mC (G : GT) (pl : Int) : Nat → Nat → Int := fun t r => if (t : Int) = pl then G 57 r else G 56 (5 * r + t)
theorem ix_ne : ∀ m, m < 32 → ∀ t, t < 5 → bt2 m t = 0 → orN m t ≠ m := by decide +kernel
theorem ix_iff : ∀ m, m < 32 → ∀ t, t < 5 → ∀ S, S < 32 → ((bt2 m t = 0 ∧ orN m t = S) ↔ (bt2 S t = 1 ∧ m = S - 2 ^ t)) := by decide +kernel
theorem ix_sub : ∀ S, S < 32 → ∀ t, t < 5 → bt2 S t = 1 → S - 2 ^ t < S := by decide +kernel
theorem ix_hi : ∀ N, N ≤ 5 → ∀ S, S < 2 ^ N → ∀ t, t < 5 → N ≤ t → bt2 S t ≠ 1 := by decide +kernel
theorem aT_m {G : GT} {pl : Int} {m : Nat} (hm : m < 32) (f : Nat → Int) : ∀ t, t ≤ 5 → aT G pl m f t m = f m
  | 0, _ => rfl
  | t + 1, ht => by
    unfold aT
    split
    · next h => rw [up_n _ _ (fun e => ix_ne m hm t (by omega) h e.symm)]; exact aT_m hm f t (by omega)
    · exact aT_m hm f t (by omega)
theorem aT_at {G : GT} {pl : Int} {m : Nat} (hm : m < 32) (f : Nat → Int) (S : Nat) : ∀ t, t ≤ 5 → aT G pl m f t S = f S + sumZ (fun t => if bt2 m t = 0 ∧ orN m t = S then sgZ m t (f m * alX G pl m t) else 0) t
  | 0, _ => (Int.add_zero _).symm
  | t + 1, ht => by
    have ih := aT_at hm f S t (by omega) (G := G) (pl := pl)
    show (if bt2 m t = 0 then up (aT G pl m f t) (orN m t) ((aT G pl m f t (orN m t)) + (sgZ m t ((aT G pl m f t m) * (alX G pl m t)))) else aT G pl m f t) S = f S + (sumZ _ t + (if bt2 m t = 0 ∧ orN m t = S then _ else 0))
    by_cases h : bt2 m t = 0
    · rw [if_pos h]
      by_cases e : orN m t = S
      · rw [if_pos ⟨h, e⟩, ← e, up_s, aT_m hm f t (by omega), e, ih]; omega
      · rw [if_neg (fun q => e q.2), up_n _ _ (fun q => e q.symm), ih]; omega
    · rw [if_neg h, if_neg (fun q => h q.1), ih]; omega
def dS (G : GT) (pl : Int) (N S : Nat) : Int := aS G pl N S S
theorem aS_at {G : GT} {pl : Int} {N : Nat} (hN : N ≤ 5) (S : Nat) : ∀ M, M ≤ 32 → aS G pl N M S = iniF (G 58) 32 S + sumZ (fun m => sumZ (fun t => if bt2 m t = 0 ∧ orN m t = S then sgZ m t (dS G pl N m * alX G pl m t) else 0) N) M
  | 0, _ => (Int.add_zero _).symm
  | M + 1, hM => by
    show aT G pl M (aS G pl N M) N S = _ + (sumZ _ M + sumZ _ N)
    rw [aT_at (by omega) _ S N hN, aS_at hN S M (by omega)]
    show _ + sumZ (fun t => if bt2 M t = 0 ∧ orN M t = S then sgZ M t (dS G pl N M * alX G pl M t) else 0) N = _
    omega
theorem dS_rec {G : GT} {pl : Int} {N S : Nat} (hN : N ≤ 5) (hS : S < 2 ^ N) : dS G pl N S = (if S = 0 then 1 else 0) + sumZ (fun t => if bt2 S t = 1 then sgZ (S - 2 ^ t) t (dS G pl N (S - 2 ^ t) * mC G pl t (mnS (S - 2 ^ t) 5).toNat) else 0) 5 := by
  have h32 : S < 32 := Nat.lt_of_lt_of_le hS (Nat.pow_le_pow_right (by decide) hN)
  unfold dS
  rw [aS_at hN S S (by omega)]
  unfold iniF
  rw [if_pos h32, sumZ_swap]
  congr 1
  rw [sumZ_grow hN (fun t h1 h2 => if_neg (ix_hi N hN S hS t h2 h1))]
  refine sumZ_congr (fun t ht => ?_)
  by_cases e : bt2 S t = 1
  · rw [if_pos e, sumZ_one (s := S - 2 ^ t) (ix_sub S h32 t (by omega) e)]
    · rw [if_pos ((ix_iff (S - 2 ^ t) (by have := ix_sub S h32 t (by omega) e; omega) t (by omega) S h32).2 ⟨e, rfl⟩)]; rfl
    · intro m hm hne
      rw [if_neg (fun q => hne ((ix_iff m (by omega) t (by omega) S h32).1 q).2)]
  · rw [if_neg e]
    refine sumZ_0 (fun m hm => ?_)
    rw [if_neg (fun q => e ((ix_iff m (by omega) t (by omega) S h32).1 q).1)]

theorem dS_0 {G : GT} {pl : Int} {N : Nat} (hN : N ≤ 5) : dS G pl N 0 = 1 := rfl
theorem dS_1 {G : GT} {pl : Int} {N : Nat} (hN : N ≤ 5) (h : 1 < 2 ^ N) : dS G pl N 1 = d1 (mC G pl 0) := by
  have e : dS G pl N 1 = 0 + (((((0 + (dS G pl N 0 * mC G pl 0 0)) + 0) + 0) + 0) + 0) := dS_rec hN h
  rw [e, dS_0 hN]
  unfold d1
  omega
theorem dS_2 {G : GT} {pl : Int} {N : Nat} (hN : N ≤ 5) (h : 2 < 2 ^ N) : dS G pl N 2 = d1 (mC G pl 1) := by
  have e : dS G pl N 2 = 0 + (((((0 + 0) + (dS G pl N 0 * mC G pl 1 0)) + 0) + 0) + 0) := dS_rec hN h
  rw [e, dS_0 hN]
  unfold d1
  omega
theorem dS_3 {G : GT} {pl : Int} {N : Nat} (hN : N ≤ 5) (h : 3 < 2 ^ N) : dS G pl N 3 = d2 (mC G pl 0) (mC G pl 1) := by
  have e : dS G pl N 3 = 0 + (((((0 + (-(dS G pl N 2 * mC G pl 0 1))) + (dS G pl N 1 * mC G pl 1 1)) + 0) + 0) + 0) := dS_rec hN h
  rw [e, dS_2 hN (by omega), dS_1 hN (by omega)]
  unfold d2
  omega
theorem dS_4 {G : GT} {pl : Int} {N : Nat} (hN : N ≤ 5) (h : 4 < 2 ^ N) : dS G pl N 4 = d1 (mC G pl 2) := by
  have e : dS G pl N 4 = 0 + (((((0 + 0) + 0) + (dS G pl N 0 * mC G pl 2 0)) + 0) + 0) := dS_rec hN h
  rw [e, dS_0 hN]
  unfold d1
  omega
theorem dS_5 {G : GT} {pl : Int} {N : Nat} (hN : N ≤ 5) (h : 5 < 2 ^ N) : dS G pl N 5 = d2 (mC G pl 0) (mC G pl 2) := by
  have e : dS G pl N 5 = 0 + (((((0 + (-(dS G pl N 4 * mC G pl 0 1))) + 0) + (dS G pl N 1 * mC G pl 2 1)) + 0) + 0) := dS_rec hN h
  rw [e, dS_4 hN (by omega), dS_1 hN (by omega)]
  unfold d2
  omega
theorem dS_6 {G : GT} {pl : Int} {N : Nat} (hN : N ≤ 5) (h : 6 < 2 ^ N) : dS G pl N 6 = d2 (mC G pl 1) (mC G pl 2) := by
  have e : dS G pl N 6 = 0 + (((((0 + 0) + (-(dS G pl N 4 * mC G pl 1 1))) + (dS G pl N 2 * mC G pl 2 1)) + 0) + 0) := dS_rec hN h
  rw [e, dS_4 hN (by omega), dS_2 hN (by omega)]
  unfold d2
  omega
theorem dS_7 {G : GT} {pl : Int} {N : Nat} (hN : N ≤ 5) (h : 7 < 2 ^ N) : dS G pl N 7 = d3 (mC G pl 0) (mC G pl 1) (mC G pl 2) := by
  have e : dS G pl N 7 = 0 + (((((0 + (dS G pl N 6 * mC G pl 0 2)) + (-(dS G pl N 5 * mC G pl 1 2))) + (dS G pl N 3 * mC G pl 2 2)) + 0) + 0) := dS_rec hN h
  rw [e, dS_6 hN (by omega), dS_5 hN (by omega), dS_3 hN (by omega)]
  unfold d3
  omega
theorem dS_8 {G : GT} {pl : Int} {N : Nat} (hN : N ≤ 5) (h : 8 < 2 ^ N) : dS G pl N 8 = d1 (mC G pl 3) := by
  have e : dS G pl N 8 = 0 + (((((0 + 0) + 0) + 0) + (dS G pl N 0 * mC G pl 3 0)) + 0) := dS_rec hN h
  rw [e, dS_0 hN]
  unfold d1
  omega
theorem dS_9 {G : GT} {pl : Int} {N : Nat} (hN : N ≤ 5) (h : 9 < 2 ^ N) : dS G pl N 9 = d2 (mC G pl 0) (mC G pl 3) := by
  have e : dS G pl N 9 = 0 + (((((0 + (-(dS G pl N 8 * mC G pl 0 1))) + 0) + 0) + (dS G pl N 1 * mC G pl 3 1)) + 0) := dS_rec hN h
  rw [e, dS_8 hN (by omega), dS_1 hN (by omega)]
  unfold d2
  omega
theorem dS_10 {G : GT} {pl : Int} {N : Nat} (hN : N ≤ 5) (h : 10 < 2 ^ N) : dS G pl N 10 = d2 (mC G pl 1) (mC G pl 3) := by
  have e : dS G pl N 10 = 0 + (((((0 + 0) + (-(dS G pl N 8 * mC G pl 1 1))) + 0) + (dS G pl N 2 * mC G pl 3 1)) + 0) := dS_rec hN h
  rw [e, dS_8 hN (by omega), dS_2 hN (by omega)]
  unfold d2
  omega
theorem dS_11 {G : GT} {pl : Int} {N : Nat} (hN : N ≤ 5) (h : 11 < 2 ^ N) : dS G pl N 11 = d3 (mC G pl 0) (mC G pl 1) (mC G pl 3) := by
  have e : dS G pl N 11 = 0 + (((((0 + (dS G pl N 10 * mC G pl 0 2)) + (-(dS G pl N 9 * mC G pl 1 2))) + 0) + (dS G pl N 3 * mC G pl 3 2)) + 0) := dS_rec hN h
  rw [e, dS_10 hN (by omega), dS_9 hN (by omega), dS_3 hN (by omega)]
  unfold d3
  omega
theorem dS_12 {G : GT} {pl : Int} {N : Nat} (hN : N ≤ 5) (h : 12 < 2 ^ N) : dS G pl N 12 = d2 (mC G pl 2) (mC G pl 3) := by
  have e : dS G pl N 12 = 0 + (((((0 + 0) + 0) + (-(dS G pl N 8 * mC G pl 2 1))) + (dS G pl N 4 * mC G pl 3 1)) + 0) := dS_rec hN h
  rw [e, dS_8 hN (by omega), dS_4 hN (by omega)]
  unfold d2
  omega
theorem dS_13 {G : GT} {pl : Int} {N : Nat} (hN : N ≤ 5) (h : 13 < 2 ^ N) : dS G pl N 13 = d3 (mC G pl 0) (mC G pl 2) (mC G pl 3) := by
  have e : dS G pl N 13 = 0 + (((((0 + (dS G pl N 12 * mC G pl 0 2)) + 0) + (-(dS G pl N 9 * mC G pl 2 2))) + (dS G pl N 5 * mC G pl 3 2)) + 0) := dS_rec hN h
  rw [e, dS_12 hN (by omega), dS_9 hN (by omega), dS_5 hN (by omega)]
  unfold d3
  omega
theorem dS_14 {G : GT} {pl : Int} {N : Nat} (hN : N ≤ 5) (h : 14 < 2 ^ N) : dS G pl N 14 = d3 (mC G pl 1) (mC G pl 2) (mC G pl 3) := by
  have e : dS G pl N 14 = 0 + (((((0 + 0) + (dS G pl N 12 * mC G pl 1 2)) + (-(dS G pl N 10 * mC G pl 2 2))) + (dS G pl N 6 * mC G pl 3 2)) + 0) := dS_rec hN h
  rw [e, dS_12 hN (by omega), dS_10 hN (by omega), dS_6 hN (by omega)]
  unfold d3
  omega
theorem dS_15 {G : GT} {pl : Int} {N : Nat} (hN : N ≤ 5) (h : 15 < 2 ^ N) : dS G pl N 15 = d4 (mC G pl 0) (mC G pl 1) (mC G pl 2) (mC G pl 3) := by
  have e : dS G pl N 15 = 0 + (((((0 + (-(dS G pl N 14 * mC G pl 0 3))) + (dS G pl N 13 * mC G pl 1 3)) + (-(dS G pl N 11 * mC G pl 2 3))) + (dS G pl N 7 * mC G pl 3 3)) + 0) := dS_rec hN h
  rw [e, dS_14 hN (by omega), dS_13 hN (by omega), dS_11 hN (by omega), dS_7 hN (by omega)]
  unfold d4
  omega
theorem dS_16 {G : GT} {pl : Int} {N : Nat} (hN : N ≤ 5) (h : 16 < 2 ^ N) : dS G pl N 16 = d1 (mC G pl 4) := by
  have e : dS G pl N 16 = 0 + (((((0 + 0) + 0) + 0) + 0) + (dS G pl N 0 * mC G pl 4 0)) := dS_rec hN h
  rw [e, dS_0 hN]
  unfold d1
  omega
theorem dS_17 {G : GT} {pl : Int} {N : Nat} (hN : N ≤ 5) (h : 17 < 2 ^ N) : dS G pl N 17 = d2 (mC G pl 0) (mC G pl 4) := by
  have e : dS G pl N 17 = 0 + (((((0 + (-(dS G pl N 16 * mC G pl 0 1))) + 0) + 0) + 0) + (dS G pl N 1 * mC G pl 4 1)) := dS_rec hN h
  rw [e, dS_16 hN (by omega), dS_1 hN (by omega)]
  unfold d2
  omega
theorem dS_18 {G : GT} {pl : Int} {N : Nat} (hN : N ≤ 5) (h : 18 < 2 ^ N) : dS G pl N 18 = d2 (mC G pl 1) (mC G pl 4) := by
  have e : dS G pl N 18 = 0 + (((((0 + 0) + (-(dS G pl N 16 * mC G pl 1 1))) + 0) + 0) + (dS G pl N 2 * mC G pl 4 1)) := dS_rec hN h
  rw [e, dS_16 hN (by omega), dS_2 hN (by omega)]
  unfold d2
  omega
theorem dS_19 {G : GT} {pl : Int} {N : Nat} (hN : N ≤ 5) (h : 19 < 2 ^ N) : dS G pl N 19 = d3 (mC G pl 0) (mC G pl 1) (mC G pl 4) := by
  have e : dS G pl N 19 = 0 + (((((0 + (dS G pl N 18 * mC G pl 0 2)) + (-(dS G pl N 17 * mC G pl 1 2))) + 0) + 0) + (dS G pl N 3 * mC G pl 4 2)) := dS_rec hN h
  rw [e, dS_18 hN (by omega), dS_17 hN (by omega), dS_3 hN (by omega)]
  unfold d3
  omega
theorem dS_20 {G : GT} {pl : Int} {N : Nat} (hN : N ≤ 5) (h : 20 < 2 ^ N) : dS G pl N 20 = d2 (mC G pl 2) (mC G pl 4) := by
  have e : dS G pl N 20 = 0 + (((((0 + 0) + 0) + (-(dS G pl N 16 * mC G pl 2 1))) + 0) + (dS G pl N 4 * mC G pl 4 1)) := dS_rec hN h
  rw [e, dS_16 hN (by omega), dS_4 hN (by omega)]
  unfold d2
  omega
theorem dS_21 {G : GT} {pl : Int} {N : Nat} (hN : N ≤ 5) (h : 21 < 2 ^ N) : dS G pl N 21 = d3 (mC G pl 0) (mC G pl 2) (mC G pl 4) := by
  have e : dS G pl N 21 = 0 + (((((0 + (dS G pl N 20 * mC G pl 0 2)) + 0) + (-(dS G pl N 17 * mC G pl 2 2))) + 0) + (dS G pl N 5 * mC G pl 4 2)) := dS_rec hN h
  rw [e, dS_20 hN (by omega), dS_17 hN (by omega), dS_5 hN (by omega)]
  unfold d3
  omega
theorem dS_22 {G : GT} {pl : Int} {N : Nat} (hN : N ≤ 5) (h : 22 < 2 ^ N) : dS G pl N 22 = d3 (mC G pl 1) (mC G pl 2) (mC G pl 4) := by
  have e : dS G pl N 22 = 0 + (((((0 + 0) + (dS G pl N 20 * mC G pl 1 2)) + (-(dS G pl N 18 * mC G pl 2 2))) + 0) + (dS G pl N 6 * mC G pl 4 2)) := dS_rec hN h
  rw [e, dS_20 hN (by omega), dS_18 hN (by omega), dS_6 hN (by omega)]
  unfold d3
  omega
theorem dS_23 {G : GT} {pl : Int} {N : Nat} (hN : N ≤ 5) (h : 23 < 2 ^ N) : dS G pl N 23 = d4 (mC G pl 0) (mC G pl 1) (mC G pl 2) (mC G pl 4) := by
  have e : dS G pl N 23 = 0 + (((((0 + (-(dS G pl N 22 * mC G pl 0 3))) + (dS G pl N 21 * mC G pl 1 3)) + (-(dS G pl N 19 * mC G pl 2 3))) + 0) + (dS G pl N 7 * mC G pl 4 3)) := dS_rec hN h
  rw [e, dS_22 hN (by omega), dS_21 hN (by omega), dS_19 hN (by omega), dS_7 hN (by omega)]
  unfold d4
  omega
theorem dS_24 {G : GT} {pl : Int} {N : Nat} (hN : N ≤ 5) (h : 24 < 2 ^ N) : dS G pl N 24 = d2 (mC G pl 3) (mC G pl 4) := by
  have e : dS G pl N 24 = 0 + (((((0 + 0) + 0) + 0) + (-(dS G pl N 16 * mC G pl 3 1))) + (dS G pl N 8 * mC G pl 4 1)) := dS_rec hN h
  rw [e, dS_16 hN (by omega), dS_8 hN (by omega)]
  unfold d2
  omega
theorem dS_25 {G : GT} {pl : Int} {N : Nat} (hN : N ≤ 5) (h : 25 < 2 ^ N) : dS G pl N 25 = d3 (mC G pl 0) (mC G pl 3) (mC G pl 4) := by
  have e : dS G pl N 25 = 0 + (((((0 + (dS G pl N 24 * mC G pl 0 2)) + 0) + 0) + (-(dS G pl N 17 * mC G pl 3 2))) + (dS G pl N 9 * mC G pl 4 2)) := dS_rec hN h
  rw [e, dS_24 hN (by omega), dS_17 hN (by omega), dS_9 hN (by omega)]
  unfold d3
  omega
theorem dS_26 {G : GT} {pl : Int} {N : Nat} (hN : N ≤ 5) (h : 26 < 2 ^ N) : dS G pl N 26 = d3 (mC G pl 1) (mC G pl 3) (mC G pl 4) := by
  have e : dS G pl N 26 = 0 + (((((0 + 0) + (dS G pl N 24 * mC G pl 1 2)) + 0) + (-(dS G pl N 18 * mC G pl 3 2))) + (dS G pl N 10 * mC G pl 4 2)) := dS_rec hN h
  rw [e, dS_24 hN (by omega), dS_18 hN (by omega), dS_10 hN (by omega)]
  unfold d3
  omega
theorem dS_27 {G : GT} {pl : Int} {N : Nat} (hN : N ≤ 5) (h : 27 < 2 ^ N) : dS G pl N 27 = d4 (mC G pl 0) (mC G pl 1) (mC G pl 3) (mC G pl 4) := by
  have e : dS G pl N 27 = 0 + (((((0 + (-(dS G pl N 26 * mC G pl 0 3))) + (dS G pl N 25 * mC G pl 1 3)) + 0) + (-(dS G pl N 19 * mC G pl 3 3))) + (dS G pl N 11 * mC G pl 4 3)) := dS_rec hN h
  rw [e, dS_26 hN (by omega), dS_25 hN (by omega), dS_19 hN (by omega), dS_11 hN (by omega)]
  unfold d4
  omega
theorem dS_28 {G : GT} {pl : Int} {N : Nat} (hN : N ≤ 5) (h : 28 < 2 ^ N) : dS G pl N 28 = d3 (mC G pl 2) (mC G pl 3) (mC G pl 4) := by
  have e : dS G pl N 28 = 0 + (((((0 + 0) + 0) + (dS G pl N 24 * mC G pl 2 2)) + (-(dS G pl N 20 * mC G pl 3 2))) + (dS G pl N 12 * mC G pl 4 2)) := dS_rec hN h
  rw [e, dS_24 hN (by omega), dS_20 hN (by omega), dS_12 hN (by omega)]
  unfold d3
  omega
theorem dS_29 {G : GT} {pl : Int} {N : Nat} (hN : N ≤ 5) (h : 29 < 2 ^ N) : dS G pl N 29 = d4 (mC G pl 0) (mC G pl 2) (mC G pl 3) (mC G pl 4) := by
  have e : dS G pl N 29 = 0 + (((((0 + (-(dS G pl N 28 * mC G pl 0 3))) + 0) + (dS G pl N 25 * mC G pl 2 3)) + (-(dS G pl N 21 * mC G pl 3 3))) + (dS G pl N 13 * mC G pl 4 3)) := dS_rec hN h
  rw [e, dS_28 hN (by omega), dS_25 hN (by omega), dS_21 hN (by omega), dS_13 hN (by omega)]
  unfold d4
  omega
theorem dS_30 {G : GT} {pl : Int} {N : Nat} (hN : N ≤ 5) (h : 30 < 2 ^ N) : dS G pl N 30 = d4 (mC G pl 1) (mC G pl 2) (mC G pl 3) (mC G pl 4) := by
  have e : dS G pl N 30 = 0 + (((((0 + 0) + (-(dS G pl N 28 * mC G pl 1 3))) + (dS G pl N 26 * mC G pl 2 3)) + (-(dS G pl N 22 * mC G pl 3 3))) + (dS G pl N 14 * mC G pl 4 3)) := dS_rec hN h
  rw [e, dS_28 hN (by omega), dS_26 hN (by omega), dS_22 hN (by omega), dS_14 hN (by omega)]
  unfold d4
  omega
theorem dS_31 {G : GT} {pl : Int} {N : Nat} (hN : N ≤ 5) (h : 31 < 2 ^ N) : dS G pl N 31 = d5 (mC G pl 0) (mC G pl 1) (mC G pl 2) (mC G pl 3) (mC G pl 4) := by
  have e : dS G pl N 31 = 0 + (((((0 + (dS G pl N 30 * mC G pl 0 4)) + (-(dS G pl N 29 * mC G pl 1 4))) + (dS G pl N 27 * mC G pl 2 4)) + (-(dS G pl N 23 * mC G pl 3 4))) + (dS G pl N 15 * mC G pl 4 4)) := dS_rec hN h
  rw [e, dS_30 hN (by omega), dS_29 hN (by omega), dS_27 hN (by omega), dS_23 hN (by omega), dS_15 hN (by omega)]
  unfold d5
  omega
theorem allZ_det {G : GT} {pl : Int} {N : Nat} (hN : N ≤ 5) : allZ G pl N = det N (mC G pl) := by
  show dS G pl N (pw N - 1) = _
  rcases (by omega : N = 0 ∨ N = 1 ∨ N = 2 ∨ N = 3 ∨ N = 4 ∨ N = 5) with rfl | rfl | rfl | rfl | rfl | rfl
  · rfl
  · exact dS_1 hN (by decide)
  · exact dS_3 hN (by decide)
  · exact dS_7 hN (by decide)
  · exact dS_15 hN (by decide)
  · exact dS_31 hN (by decide)
theorem mC_ud (G : GT) (s : Nat) : mC G (s : Int) = ud (mC G (-1)) s (G 57) := by
  funext t r
  unfold mC ud
  by_cases e : t = s
  · rw [if_pos (by omega), if_pos e]
  · rw [if_neg (by omega), if_neg e]
    show G 56 (5 * r + t) = if (t : Int) = -1 then G 57 r else G 56 (5 * r + t)
    rw [if_neg (by omega)]
