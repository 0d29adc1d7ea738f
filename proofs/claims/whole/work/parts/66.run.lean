/-! the long run: the sum over the rings -/
theorem run_ind {H : GT} {N f : Nat} {w : Nat → Nat → Int} {T y : Nat → Int} {b : Nat → Nat → Bool} {C : Nat → Bool} {hm : Nat → Nat} (h : LR N w T b C hm) (h6 : ∀ s, s < N → T s ≤ 6) (hy : ∀ s, s < N → -50 ≤ y s ∧ y s ≤ 50) (hw : ∀ s t, s < N → t < N → tWei H s t = w s t) (hT : ∀ s, s < N → tTot H s = T s) (hp : ∀ s, s < N → 0 < T s → gnP H s = y s) (hf : f < N) : ∀ k, k ≤ N →
    (1 ≤ (ruS H N f k).2.2 ∧ fr (ruS H N f k).2.1 (ruS H N f k).2.2 = sumQ (fun s => if isF H N s = true then fr (uGn N w T y b s) (dG N w T b s) * fr (zF N w T b C s f) (dF N w T C) else 0) k ∧ (ruS H N f k).2.2 ∣ dF N w T C * prodZ (fun s => if isF H N s = true then dG N w T b s else 1) k ∧ -(50 * (k : Int) * (ruS H N f k).2.2) ≤ (ruS H N f k).2.1 ∧ (ruS H N f k).2.1 ≤ 50 * (k : Int) * (ruS H N f k).2.2) ∧
    (k < N → isF H N k = true → ruU (ruS H N f k).1 N (rng H N k) = uGn N w T y b k ∧ ruD (ruS H N f k).1 N (rng H N k) = dG N w T b k ∧ 1 ≤ ruY0 (ruS H N f k).1 N f (frS H N N) (rng H N k) ∧ ruY0 (ruS H N f k).1 N f (frS H N N) (rng H N k) ∣ dF N w T C * dG N w T b k ∧ -(50 * ruY0 (ruS H N f k).1 N f (frS H N N) (rng H N k)) ≤ ruX0 (ruS H N f k).1 N f (frS H N N) (rng H N k) ∧ ruX0 (ruS H N f k).1 N f (frS H N N) (rng H N k) ≤ 50 * ruY0 (ruS H N f k).1 N f (frS H N N) (rng H N k) ∧ fr (ruX0 (ruS H N f k).1 N f (frS H N N) (rng H N k)) (ruY0 (ruS H N f k).1 N f (frS H N N) (rng H N k)) = fr (uGn N w T y b k) (dG N w T b k) * fr (zF N w T b C k f) (dF N w T C)) := by
  have hN := h.1
  have hdF := h.dF_in h6
  -- one ring
  have one : ∀ k, k < N → isF H N k = true → ruU (ruS H N f k).1 N (rng H N k) = uGn N w T y b k ∧ ruD (ruS H N f k).1 N (rng H N k) = dG N w T b k ∧ 1 ≤ ruY0 (ruS H N f k).1 N f (frS H N N) (rng H N k) ∧ ruY0 (ruS H N f k).1 N f (frS H N N) (rng H N k) ∣ dF N w T C * dG N w T b k ∧ -(50 * ruY0 (ruS H N f k).1 N f (frS H N N) (rng H N k)) ≤ ruX0 (ruS H N f k).1 N f (frS H N N) (rng H N k) ∧ ruX0 (ruS H N f k).1 N f (frS H N N) (rng H N k) ≤ 50 * ruY0 (ruS H N f k).1 N f (frS H N N) (rng H N k) ∧ fr (ruX0 (ruS H N f k).1 N f (frS H N N) (rng H N k)) (ruY0 (ruS H N f k).1 N f (frS H N N) (rng H N k)) = fr (uGn N w T y b k) (dG N w T b k) * fr (zF N w T b C k f) (dF N w T C) := by
    intro k hk hF
    have hck := ((isF_iff h hw hT hk).1 hF).1
    have hr := rng_iff (H := H) hN h.2.1 hw hT hk
    have hic := (h.2.2.1 k hk).1 hck
    have e : ∀ b, 52 ≤ b ∧ b ≤ 55 → (ruS H N f k).1 b = H b := fun b hb => ruS_n (by omega) (by omega) (by omega) (by omega) k
    have e53 : (ruS H N f k).1 53 = H 53 := e 53 (by omega)
    have e55 : (ruS H N f k).1 55 = H 55 := e 55 (by omega)
    obtain ⟨a1, a2, a3, a4⟩ := ru_at (H := (ruS H N f k).1) (m := rng H N k) (s := k) (f := f) (fm := frS H N N) (w := w) (T := T) (y := y) (b := b) (C := C) hN (fun s t hs ht => by rw [tWei_congr e]; exact hw s t hs ht) (fun s hs => by rw [tTot_congr e]; exact hT s hs) (rng_lt hN (by omega)) (fun r hr2 => by rw [hr.1 hic r (by omega)]; exact ⟨fun q => q.2, fun q => ⟨hr2, q⟩⟩) (fun r hr2 hb => by
      have := hp r hr2 ((h.tot hr2).2 (h.same hk hr2 hck hb).1)
      unfold gnP at *
      rw [e53, e55]; exact this) (fun r hr2 => by
      rw [frS_bit hN (by omega) N (Nat.le_refl _), frB_iff, hT r hr2]
      have hrr := rng_iff (H := H) hN h.2.1 hw hT hr2
      have hcc := h.2.2.1 r hr2
      constructor
      · rintro ⟨_, q1, q2⟩
        refine ⟨?_, q2⟩
        by_cases c : C r = true
        · exact absurd q1 (hrr.2.2 (hcc.1 c))
        · simpa using c
      · rintro ⟨q1, q2⟩
        exact ⟨hr2, hrr.2.1 (fun c => by rw [hcc.2 c] at q1; cases q1), q2⟩)
    have hd := h.dG_in (y := y) h6 hy hk hck
    have hz := h.zF_in hk hck hf
    unfold ruX0 ruY0
    rw [a1, a2, a3, a4]
    obtain ⟨f1, f2, f3, f4⟩ := fr_low (x := uGn N w T y b k) hd.1
    obtain ⟨b1, b2, b3⟩ := red_bnd hd.1 hd.2.2.1 hd.2.2.2
    have q1 : fr (Int.tdiv (uGn N w T y b k) (gcZ (uGn N w T y b k) (dG N w T b k)) * zF N w T b C k f) (Int.tdiv (dG N w T b k) (gcZ (uGn N w T y b k) (dG N w T b k)) * dF N w T C) = fr (uGn N w T y b k) (dG N w T b k) * fr (zF N w T b C k f) (dF N w T C) := by
      rw [← f1]; exact (Rat.divInt_mul_divInt _ _).symm
    generalize Int.tdiv (uGn N w T y b k) (gcZ (uGn N w T y b k) (dG N w T b k)) = a at *
    generalize Int.tdiv (dG N w T b k) (gcZ (uGn N w T y b k) (dG N w T b k)) = c at *
    have p1 : 0 < c * dF N w T C := Int.mul_pos (by omega) (by omega)
    refine ⟨rfl, rfl, by omega, ?_, ?_, ?_, q1⟩
    · rw [← f4]
      exact ⟨gcZ (uGn N w T y b k) (dG N w T b k), by grind⟩
    · have := mul_inA (x := a) (y := zF N w T b C k f) (a := 50 * c) (b := dF N w T C) (by omega) b1 b2 (by omega) hz.2
      rw [Int.mul_assoc] at this; exact this.1
    · have := mul_inA (x := a) (y := zF N w T b C k f) (a := 50 * c) (b := dF N w T C) (by omega) b1 b2 (by omega) hz.2
      rw [Int.mul_assoc] at this; exact this.2
  have main : ∀ k, k ≤ N → (1 ≤ (ruS H N f k).2.2 ∧ fr (ruS H N f k).2.1 (ruS H N f k).2.2 = sumQ (fun s => if isF H N s = true then fr (uGn N w T y b s) (dG N w T b s) * fr (zF N w T b C s f) (dF N w T C) else 0) k ∧ (ruS H N f k).2.2 ∣ dF N w T C * prodZ (fun s => if isF H N s = true then dG N w T b s else 1) k ∧ -(50 * (k : Int) * (ruS H N f k).2.2) ≤ (ruS H N f k).2.1 ∧ (ruS H N f k).2.1 ≤ 50 * (k : Int) * (ruS H N f k).2.2) := by
    intro k
    induction k with
    | zero =>
      intro _
      refine ⟨Int.le_refl _, ?_, ⟨_, (Int.one_mul _).symm⟩, by show -(50 * (0 : Int) * 1) ≤ 0; decide, by show (0 : Int) ≤ 50 * (0 : Int) * 1; decide⟩
      show Rat.divInt 0 1 = 0
      exact Rat.zero_divInt 1
    | succ k ih =>
      intro hk
      obtain ⟨i1, i2, i3, i4, i5⟩ := ih (by omega)
      by_cases c : isF H N k = true
      · obtain ⟨o1, o2, o3, o4, o5, o6, o7⟩ := one k (by omega) c
        obtain ⟨f1, f2, f3, f4⟩ := fr_low (x := ruX0 (ruS H N f k).1 N f (frS H N N) (rng H N k)) o3
        obtain ⟨b1, b2, b3⟩ := red_bnd o3 o5 o6
        have y1 : 1 ≤ ruY (ruS H N f k).1 N f (frS H N N) (rng H N k) := f2
        have g1 : -(50 * ruY (ruS H N f k).1 N f (frS H N N) (rng H N k)) ≤ ruX (ruS H N f k).1 N f (frS H N N) (rng H N k) := b1
        have g2 : ruX (ruS H N f k).1 N f (frS H N N) (rng H N k) ≤ 50 * ruY (ruS H N f k).1 N f (frS H N N) (rng H N k) := b2
        have q1 : fr (ruX (ruS H N f k).1 N f (frS H N N) (rng H N k)) (ruY (ruS H N f k).1 N f (frS H N N) (rng H N k)) = fr (uGn N w T y b k) (dG N w T b k) * fr (zF N w T b C k f) (dF N w T C) := f1.trans o7
        have dy : ruY (ruS H N f k).1 N f (frS H N N) (rng H N k) ∣ dF N w T C * dG N w T b k := Int.dvd_trans ⟨gcZ (ruX0 (ruS H N f k).1 N f (frS H N N) (rng H N k)) (ruY0 (ruS H N f k).1 N f (frS H N N) (rng H N k)), by rw [Int.mul_comm]; exact f4.symm⟩ o4
        have e1 : ruS H N f (k + 1) = (ruB (ruS H N f k).1 N f (frS H N N) (rng H N k), (ruS H N f k).2.1 * Int.tdiv (ruY (ruS H N f k).1 N f (frS H N N) (rng H N k)) (gcZ (ruS H N f k).2.2 (ruY (ruS H N f k).1 N f (frS H N N) (rng H N k))) + ruX (ruS H N f k).1 N f (frS H N N) (rng H N k) * Int.tdiv (ruS H N f k).2.2 (gcZ (ruS H N f k).2.2 (ruY (ruS H N f k).1 N f (frS H N N) (rng H N k))), Int.tdiv (ruS H N f k).2.2 (gcZ (ruS H N f k).2.2 (ruY (ruS H N f k).1 N f (frS H N N) (rng H N k))) * ruY (ruS H N f k).1 N f (frS H N N) (rng H N k)) := by
          show (if isF H N k = true then _ else _) = _
          rw [if_pos c]
        rw [e1]
        show 1 ≤ Int.tdiv (ruS H N f k).2.2 (gcZ (ruS H N f k).2.2 (ruY (ruS H N f k).1 N f (frS H N N) (rng H N k))) * ruY (ruS H N f k).1 N f (frS H N N) (rng H N k) ∧ fr ((ruS H N f k).2.1 * Int.tdiv (ruY (ruS H N f k).1 N f (frS H N N) (rng H N k)) (gcZ (ruS H N f k).2.2 (ruY (ruS H N f k).1 N f (frS H N N) (rng H N k))) + ruX (ruS H N f k).1 N f (frS H N N) (rng H N k) * Int.tdiv (ruS H N f k).2.2 (gcZ (ruS H N f k).2.2 (ruY (ruS H N f k).1 N f (frS H N N) (rng H N k)))) (Int.tdiv (ruS H N f k).2.2 (gcZ (ruS H N f k).2.2 (ruY (ruS H N f k).1 N f (frS H N N) (rng H N k))) * ruY (ruS H N f k).1 N f (frS H N N) (rng H N k)) = sumQ _ k + (if isF H N k = true then _ else 0) ∧ Int.tdiv (ruS H N f k).2.2 (gcZ (ruS H N f k).2.2 (ruY (ruS H N f k).1 N f (frS H N N) (rng H N k))) * ruY (ruS H N f k).1 N f (frS H N N) (rng H N k) ∣ dF N w T C * (prodZ _ k * (if isF H N k = true then dG N w T b k else 1)) ∧ -(50 * ((k + 1 : Nat) : Int) * (Int.tdiv (ruS H N f k).2.2 (gcZ (ruS H N f k).2.2 (ruY (ruS H N f k).1 N f (frS H N N) (rng H N k))) * ruY (ruS H N f k).1 N f (frS H N N) (rng H N k))) ≤ (ruS H N f k).2.1 * Int.tdiv (ruY (ruS H N f k).1 N f (frS H N N) (rng H N k)) (gcZ (ruS H N f k).2.2 (ruY (ruS H N f k).1 N f (frS H N N) (rng H N k))) + ruX (ruS H N f k).1 N f (frS H N N) (rng H N k) * Int.tdiv (ruS H N f k).2.2 (gcZ (ruS H N f k).2.2 (ruY (ruS H N f k).1 N f (frS H N N) (rng H N k))) ∧ (ruS H N f k).2.1 * Int.tdiv (ruY (ruS H N f k).1 N f (frS H N N) (rng H N k)) (gcZ (ruS H N f k).2.2 (ruY (ruS H N f k).1 N f (frS H N N) (rng H N k))) + ruX (ruS H N f k).1 N f (frS H N N) (rng H N k) * Int.tdiv (ruS H N f k).2.2 (gcZ (ruS H N f k).2.2 (ruY (ruS H N f k).1 N f (frS H N N) (rng H N k))) ≤ 50 * ((k + 1 : Nat) : Int) * (Int.tdiv (ruS H N f k).2.2 (gcZ (ruS H N f k).2.2 (ruY (ruS H N f k).1 N f (frS H N N) (rng H N k))) * ruY (ruS H N f k).1 N f (frS H N N) (rng H N k))
        rw [if_pos c, if_pos c, ← i2, ← q1]
        generalize ruX (ruS H N f k).1 N f (frS H N N) (rng H N k) = x at *
        generalize ruY (ruS H N f k).1 N f (frS H N N) (rng H N k) = yy at *
        generalize (ruS H N f k).2.1 = n at *
        generalize (ruS H N f k).2.2 = d at *
        have ad := add_fr (n := n) (x := x) i1 y1
        refine ⟨ad.1, ad.2, lcm_dvd i1 y1 (Int.dvd_trans i3 ⟨dG N w T b k, by grind⟩) (Int.dvd_trans dy ⟨prodZ (fun s => if isF H N s = true then dG N w T b s else 1) k, by grind⟩), ?_⟩
        obtain ⟨_, z2, z3, z4⟩ := fr_low (x := d) y1
        have hg := gcZ_in (a := d) y1
        have p1 : 1 ≤ Int.tdiv d (gcZ d yy) := by
          by_cases l : 1 ≤ Int.tdiv d (gcZ d yy)
          · exact l
          · have := Int.mul_nonpos_of_nonneg_of_nonpos (show 0 ≤ gcZ d yy by omega) (show Int.tdiv d (gcZ d yy) ≤ 0 by omega)
            omega
        generalize Int.tdiv d (gcZ d yy) = a at *
        generalize Int.tdiv yy (gcZ d yy) = cc at *
        generalize gcZ d yy = g at *
        have m1 := mul_inA (x := n) (y := cc) (a := 50 * (k : Int) * d) (b := cc) (Int.mul_nonneg (by omega) (by omega)) i4 i5 (by omega) (Int.le_refl _)
        have m2 := mul_inA (x := x) (y := a) (a := 50 * yy) (b := a) (by omega) g1 g2 (by omega) (Int.le_refl _)
        have e2 : 50 * ((k + 1 : Nat) : Int) * (a * yy) = 50 * (k : Int) * d * cc + 50 * yy * a := by
          rw [Int.natCast_add, ← z3, ← z4]
          show 50 * ((k : Int) + 1) * (a * (g * cc)) = _
          grind
        rw [e2]
        omega
      · have e1 : ruS H N f (k + 1) = ruS H N f k := by
          show (if isF H N k = true then _ else _) = _
          rw [if_neg c]
        rw [e1]
        show _ ∧ _ = sumQ _ k + (if isF H N k = true then _ else 0) ∧ _ ∣ dF N w T C * (prodZ _ k * (if isF H N k = true then dG N w T b k else 1)) ∧ _
        rw [if_neg c, if_neg c, Rat.add_zero, Int.mul_one]
        refine ⟨i1, i2, i3, ?_⟩
        have e2 : 50 * ((k + 1 : Nat) : Int) * (ruS H N f k).2.2 = 50 * (k : Int) * (ruS H N f k).2.2 + 50 * (ruS H N f k).2.2 := by
          rw [Int.natCast_add]
          show 50 * ((k : Int) + 1) * _ = _
          grind
        rw [e2]
        omega
  exact fun k hk => ⟨main k hk, fun hkN hF => one k hkN hF⟩
theorem run_sum {N f : Nat} {w : Nat → Nat → Int} {T y : Nat → Int} {b : Nat → Nat → Bool} {C : Nat → Bool} {hm : Nat → Nat} {F : Nat → Bool} (h : LR N w T b C hm) (h6 : ∀ s, s < N → T s ≤ 6) (hy : ∀ s, s < N → -50 ≤ y s ∧ y s ≤ 50) (hF : ∀ s, s < N → (F s = true ↔ C s = true ∧ ∀ t, t < s → b s t = false)) (hf : f < N) {x : Nat → Int} (hx : x = fun t => det N (ud (lA N w T y C hm) t (lA N w T y C hm 5))) {P : Int} (hP : P = det N (lA N w T y C hm)) : fr (x (hm f)) P = sumQ (fun s => if F s = true then fr (uGn N w T y b s) (dG N w T b s) * fr (zF N w T b C s f) (dF N w T C) else 0) N := by
  have hN := h.1
  have hP0 : 0 < P := by rw [hP]; exact det_pos0 (h.pos N (Nat.le_refl _))
  have hdF := h.dF_in h6
  have hq : (dF N w T C : Rat) ≠ 0 := ca_ne (by omega)
  have hPq : (P : Rat) ≠ 0 := ca_ne hP0
  have all : ∀ k, k ≤ N → (P : Rat) * (dF N w T C : Rat) * sumQ (fun s => if F s = true then fr (uGn N w T y b s) (dG N w T b s) * fr (zF N w T b C s f) (dF N w T C) else 0) k = ((sumZ (fun s => if F s = true then x (hm s) * zF N w T b C s f else 0) k : Int) : Rat) := by
    intro k
    induction k with
    | zero => intro _; show (P : Rat) * (dF N w T C : Rat) * 0 = ((0 : Int) : Rat); rw [Rat.mul_zero]; rfl
    | succ k ih =>
      intro hk
      have ih := ih (by omega)
      show (P : Rat) * (dF N w T C : Rat) * (sumQ _ k + (if F k = true then fr (uGn N w T y b k) (dG N w T b k) * fr (zF N w T b C k f) (dF N w T C) else 0)) = ((sumZ _ k + (if F k = true then x (hm k) * zF N w T b C k f else 0) : Int) : Rat)
      rw [Rat.intCast_add, ← ih, Rat.mul_add]
      congr 1
      by_cases c : F k = true
      · have hck := ((hF k (by omega)).1 c).1
        have hd := (h.dG_in (y := y) h6 hy (show k < N by omega) hck).1
        have hdq : (dG N w T b k : Rat) ≠ 0 := ca_ne (by omega)
        have hg := h.gain (show k < N by omega) hck hx hP
        have hgq : (P : Rat) * (uGn N w T y b k : Rat) = (x (hm k) : Rat) * (dG N w T b k : Rat) := by rw [← Rat.intCast_mul, ← Rat.intCast_mul, hg]
        rw [if_pos c, if_pos c, fr_div, fr_div, Rat.div_def, Rat.div_def, Rat.intCast_mul]
        have i1 := Rat.mul_inv_cancel _ hdq
        have i2 := Rat.mul_inv_cancel _ hq
        generalize (dG N w T b k : Rat)⁻¹ = i at *
        generalize (dF N w T C : Rat)⁻¹ = j at *
        generalize (dG N w T b k : Rat) = D at *
        generalize (dF N w T C : Rat) = E at *
        generalize (uGn N w T y b k : Rat) = U at *
        generalize (x (hm k) : Rat) = X at *
        generalize (zF N w T b C k f : Rat) = Z at *
        generalize (P : Rat) = Q at *
        have e1 : Q * E * (U * i * (Z * j)) = (Q * U) * i * Z * (E * j) := by grind
        have e2 : X * D * i * Z * 1 = X * (D * i) * Z := by grind
        rw [e1, hgq, i2, e2, i1, Rat.mul_one]
      · rw [if_neg c, if_neg c, Rat.mul_zero]; rfl
  have hall := all N (Nat.le_refl _)
  rw [← h.total hF hx hP hf, Rat.intCast_mul] at hall
  generalize sumQ (fun s => if F s = true then fr (uGn N w T y b s) (dG N w T b s) * fr (zF N w T b C s f) (dF N w T C) else 0) N = S at *
  rw [fr_div, Rat.div_def]
  have i1 := Rat.mul_inv_cancel _ hPq
  have i2 := Rat.mul_inv_cancel _ hq
  generalize (P : Rat)⁻¹ = i at *
  generalize (dF N w T C : Rat)⁻¹ = j at *
  generalize (dF N w T C : Rat) = E at *
  generalize (x (hm f) : Rat) = X at *
  generalize (P : Rat) = Q at *
  have e1 : X * i = X * E * j * i := by
    have : X * E * j * i = X * (E * j) * i := by grind
    rw [this, i2, Rat.mul_one]
  rw [e1, ← hall]
  have e2 : Q * E * S * j * i = (Q * i) * (E * j) * S := by grind
  rw [e2, i1, i2, Rat.one_mul, Rat.one_mul]
/-- run -/
theorem run_eq {G H : GT} {N f : Nat} (h : Rel H N) (hw : WW G N) (e : ∀ b, 1 ≤ b ∧ b ≤ 21 → H b = G b) (ht : TOk G 47 N) (h5 : ∀ s, s < N → H 55 s = G 47 s) (hf : f < N) : RuOk H N f ∧ 1 ≤ (ruS H N f N).2.2 ∧ fr (lrR G 47 N 41 (homZ (reaG G 47 N) N f).toNat) (lrR G 47 N 40 1) = fr (ruS H N f N).2.1 (ruS H N f N).2.2 := by
  have hN := hw.2.1
  have hp : PlOk G 47 N := PlOk.of (Or.inl rfl) (ht.le hw) (fun s hs => ht.eqN hs)
  have hLR := lr_LR hw hp
  have h6 : ∀ s, s < N → lT G 47 s ≤ 6 := fun s hs => (hw.2.2.2.2.1 _ (slot_in hw hp hs)).2.2.2
  have hy : ∀ s, s < N → -50 ≤ ly G 47 s ∧ ly G 47 s ≤ 50 := fun s hs => ⟨(hw.2.2.2.2.1 _ (slot_in hw hp hs)).1, (hw.2.2.2.2.1 _ (slot_in hw hp hs)).2.1⟩
  have htw := fun s (hs : s < N) => told_w h hw e ht h5 hs
  have hww : ∀ s t, s < N → t < N → tWei H s t = lw G 47 s t := fun s t hs htN => (htw s hs).1 t (by omega)
  have hTT : ∀ s, s < N → tTot H s = lT G 47 s := fun s hs => (htw s hs).2.1
  have hpp : ∀ s, s < N → 0 < lT G 47 s → gnP H s = ly G 47 s := fun s hs => (htw s hs).2.2
  have hind := fun k (hk : k ≤ N) => run_ind (f := f) hLR h6 hy hww hTT hpp hf k hk
  have hF : ∀ s, s < N → (isF H N s = true ↔ lC G 47 N s = true ∧ ∀ t, t < s → lb G 47 N s t = false) := fun s hs => isF_iff hLR hww hTT hs
  have hro := runOk hw hp
  have hsum := run_sum (y := ly G 47) hLR h6 hy hF hf rfl rfl
  have hdF := hLR.dF_in h6
  refine ⟨fun k hk => ?_, (hind N (Nat.le_refl _)).1.1, ?_⟩
  · obtain ⟨⟨i1, i2, i3, i4, i5⟩, one⟩ := hind k hk
    have hQ := hLR.Qd h6 hF k hk
    have hQ2 := p12_in (p := dn (isF H N) (lb G 47 N) k) hN
    have hb : dF N (lw G 47) (lT G 47) (lC G 47 N) * prodZ (fun s => if isF H N s = true then dG N (lw G 47) (lT G 47) (lb G 47 N) s else 1) k ≤ 7776 * 248832 := Int.mul_le_mul hdF.2 (by omega) (by omega) (by decide)
    have hb0 : 0 < dF N (lw G 47) (lT G 47) (lC G 47 N) * prodZ (fun s => if isF H N s = true then dG N (lw G 47) (lT G 47) (lb G 47 N) s else 1) k := Int.mul_pos (by omega) (by omega)
    have hd := Int.le_of_dvd hb0 i3
    have hkd : 50 * (k : Int) * (ruS H N f k).2.2 ≤ 250 * (7776 * 248832) := Int.mul_le_mul (by omega) (by omega) (by omega) (by decide)
    refine ⟨abs_in (A := 250 * (7776 * 248832)) ⟨by omega, by omega⟩ (by decide), ⟨i1, ⟨by omega, by omega⟩⟩, fun hkN hFk => ?_⟩
    obtain ⟨o1, o2, o3, o4, o5, o6, o7⟩ := one hkN hFk
    have hck := ((hF k hkN).1 hFk).1
    have hdk := hLR.dG_in (y := ly G 47) h6 hy hkN hck
    have hdk2 := p12_in (p := lb G 47 N k) hN
    have hY0 : 0 < dF N (lw G 47) (lT G 47) (lC G 47 N) * dG N (lw G 47) (lT G 47) (lb G 47 N) k := Int.mul_pos (by omega) (by omega)
    have hY1 : dF N (lw G 47) (lT G 47) (lC G 47 N) * dG N (lw G 47) (lT G 47) (lb G 47 N) k ≤ 7776 * 248832 := Int.mul_le_mul hdF.2 (by omega) (by omega) (by decide)
    have hY := Int.le_of_dvd hY0 o4
    obtain ⟨b1, b2, b3⟩ := red_bnd o3 o5 o6
    have f2 : 1 ≤ ruY (ruS H N f k).1 N f (frS H N N) (rng H N k) := (fr_low (x := ruX0 (ruS H N f k).1 N f (frS H N N) (rng H N k)) o3).2.1
    have b4 : ruY (ruS H N f k).1 N f (frS H N N) (rng H N k) ≤ ruY0 (ruS H N f k).1 N f (frS H N N) (rng H N k) := b3
    refine ⟨?_, ?_, abs_in (A := 50 * (7776 * 248832)) ⟨by omega, by omega⟩ (by decide), ⟨o3, ⟨by omega, by omega⟩⟩, InA.pos ⟨f2, ⟨by omega, by omega⟩⟩⟩
    · rw [o1]; exact abs_in (A := 50 * 248832) ⟨by omega, by omega⟩ (by decide)
    · rw [o2]; exact ⟨hdk.1, ⟨by omega, by omega⟩⟩
  · rw [(hind N (Nat.le_refl _)).1.2.1, ← hsum, hro.2.1]
    have hh : lh G 47 N f < N := (hLR.hom hf).1
    rw [show (homZ (reaG G 47 N) N f).toNat = lh G 47 N f from rfl, hro.2.2 _ hh]
