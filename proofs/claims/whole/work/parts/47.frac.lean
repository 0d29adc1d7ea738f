/-! fractions, lowest terms -/
def fr (a b : Int) : Rat := Rat.divInt a b
theorem fr_eq {a b c d : Int} (hb : 0 < b) (hd : 0 < d) : fr a b = fr c d ↔ a * d = c * b := Rat.divInt_eq_divInt_iff (by omega) (by omega)
theorem fr_le {a b c d : Int} (hb : 0 < b) (hd : 0 < d) : fr a b ≤ fr c d ↔ a * d ≤ c * b := by
  rw [Rat.le_iff_sub_nonneg]; unfold fr
  rw [Rat.divInt_sub_divInt _ _ (by omega) (by omega), Rat.divInt_nonneg_iff_of_pos_right (Int.mul_pos hd hb)]
  omega
theorem fr_lt {a b c d : Int} (hb : 0 < b) (hd : 0 < d) : fr a b < fr c d ↔ a * d < c * b := by
  rw [← Rat.not_le, fr_le hd hb]; omega
theorem low_t {x y : Int} (hy : 1 ≤ y) : Int.tdiv x (gcZ x y) = (fr x y).num ∧ Int.tdiv y (gcZ x y) = ((fr x y).den : Int) := by
  have e : gcZ x y = ((Int.gcd y x : Nat) : Int) := by unfold gcZ Int.gcd; rw [Nat.gcd_comm]
  have d1 : ((Int.gcd y x : Nat) : Int) ∣ x := Int.gcd_dvd_right ..
  have d2 : ((Int.gcd y x : Nat) : Int) ∣ y := Int.gcd_dvd_left ..
  rw [e, Int.tdiv_eq_ediv_of_dvd d1, Int.tdiv_eq_ediv_of_dvd d2]
  unfold fr
  rw [Rat.num_divInt, Rat.den_divInt, if_neg (by omega), Int.sign_eq_one_of_pos (by omega), Int.one_mul]
  refine ⟨rfl, ?_⟩
  rw [Int.natCast_ediv, Int.natAbs_of_nonneg (by omega)]
theorem low_eq {x y x' y' : Int} (hy : 1 ≤ y) (hy' : 1 ≤ y') (h : fr x y = fr x' y') : Int.tdiv x (gcZ x y) = Int.tdiv x' (gcZ x' y') ∧ Int.tdiv y (gcZ x y) = Int.tdiv y' (gcZ x' y') := by
  have h1 := low_t (x := x) hy
  have h2 := low_t (x := x') hy'
  rw [h1.1, h1.2, h2.1, h2.2, h]
  exact ⟨rfl, rfl⟩
theorem low_iff {x y x' y' : Int} (hy : 1 ≤ y) (hy' : 1 ≤ y') : (Int.tdiv x (gcZ x y) = Int.tdiv x' (gcZ x' y') ∧ Int.tdiv y (gcZ x y) = Int.tdiv y' (gcZ x' y')) ↔ fr x y = fr x' y' := by
  refine ⟨fun ⟨a, b⟩ => ?_, low_eq hy hy'⟩
  have h1 := low_t (x := x) hy
  have h2 := low_t (x := x') hy'
  rw [h1.1, h2.1] at a
  rw [h1.2, h2.2] at b
  exact Rat.ext a (by omega)
theorem cdL_gc : ∀ (k j : Nat) {a b : Int}, 0 ≤ a → 0 ≤ b → b < 2 ^ k → cdL (2 * k + 1 + j) a b = gcZ a b
  | 0, j, a, b, ha, hb, hk => by
    have e : b = 0 := by have : (2 : Int) ^ 0 = 1 := rfl; omega
    subst e
    rw [show 2 * 0 + 1 + j = j + 1 by omega]
    show (if (0 : Int) = 0 then a else _) = _
    rw [if_pos rfl, gcZ_0 ha]
  | k + 1, j, a, b, ha, hb, hk => by
    rw [show 2 * (k + 1) + 1 + j = (2 * k + 1 + j + 1) + 1 by omega]
    show (if b = 0 then a else cdL (2 * k + 1 + j + 1) b (Int.tmod a b)) = _
    by_cases e : b = 0
    · rw [if_pos e, e, gcZ_0 ha]
    · rw [if_neg e]
      have hr := tmod_in ha hb e
      show (if Int.tmod a b = 0 then b else cdL (2 * k + 1 + j) (Int.tmod a b) (Int.tmod b (Int.tmod a b))) = _
      by_cases e2 : Int.tmod a b = 0
      · rw [if_pos e2, ← gcZ_s ha hb, e2, gcZ_0 hb]
      · rw [if_neg e2]
        have hs := tmod_in hb hr.1 e2
        have h2 : Int.tmod b (Int.tmod a b) + Int.tmod a b ≤ b := by
          generalize Int.tmod a b = r at hr e2
          obtain ⟨y, rfl⟩ : ∃ y : Nat, b = (y : Int) := ⟨b.toNat, by omega⟩
          obtain ⟨z, rfl⟩ : ∃ z : Nat, r = (z : Int) := ⟨r.toNat, by omega⟩
          rw [show Int.tmod (y : Int) (z : Int) = ((y % z : Nat) : Int) from rfl, Nat.mod_eq_sub_mod (show z ≤ y by omega)]
          have := Nat.mod_le (y - z) z
          omega
        have h3 : (2 : Int) ^ (k + 1) = 2 ^ k * 2 := Int.pow_succ _ _
        rw [cdL_gc k j hr.1 hs.1 (by omega), gcZ_s hb hr.1, gcZ_s ha hb]
theorem gdZ_gc {x y : Int} (hy : 1 ≤ y) (h2 : y < 281474976710656) : gdZ x y = gcZ x y := by
  have h0 : 0 ≤ absZ x := by unfold absZ; split <;> omega
  unfold gdZ
  rw [show 100 = 2 * 48 + 1 + 3 from rfl, cdL_gc 48 3 h0 (by omega) (by omega)]
  have e : gcZ (absZ x) y = gcZ x y := by
    rw [← gcZ_abs x y]
    congr 1
    unfold absZ; rw [if_neg (by omega)]
  rw [e]
  have := gcZ_in (a := x) hy
  exact if_pos (by omega)
/-- both sides give the same lowest terms -/
theorem ans_eq {x y x' y' : Int} (hy : 1 ≤ y) (h2 : y < 281474976710656) (hy' : 1 ≤ y') (h : fr x y = fr x' y') : Int.tdiv x (gdZ x y) = Int.tdiv x' (gcZ x' y') ∧ Int.tdiv y (gdZ x y) = Int.tdiv y' (gcZ x' y') := by
  rw [gdZ_gc hy h2]; exact low_eq hy hy' h
/-- equations whose rows are multiples of each other have the same solution -/
theorem prop_sol {A B : Nat → Nat → Int} {n : Nat} {k : Nat → Int} (hn : n ≤ 5) (hB : ∀ j, 1 ≤ j → j ≤ n → 0 < det j B) (h : ∀ t r, t ≤ 5 → r < n → k r * B t r = A t r) {i : Nat} (hi : i < n) : det n B * det n (ud A i (A 5)) = det n (ud B i (B 5)) * det n A := by
  refine det_cram (y := fun t => det n (ud B t (B 5))) hn hi A (fun r hr => ?_)
  rw [sumZ_congr (g := fun t => k r * (B t r * det n (ud B t (B 5)))) (fun t ht => by rw [← h t r (by omega) hr]; grind), sumZ_mul, adjP hn hB (B 5) hr, ← h 5 r (by omega) hr]
  grind
