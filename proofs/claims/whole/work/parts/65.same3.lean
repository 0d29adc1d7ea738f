/-! the long run: class and reference give the same -/
theorem told_w {G H : GT} {N s : Nat} (h : Rel H N) (hw : WW G N) (e : ∀ b, 1 ≤ b ∧ b ≤ 21 → H b = G b) (ht : TOk G 47 N) (h5 : ∀ s, s < N → H 55 s = G 47 s) (hs : s < N) : (∀ t, t < 5 → tWei H s t = lw G 47 s t) ∧ tTot H s = lT G 47 s ∧ (0 < lT G 47 s → gnP H s = ly G 47 s) := by
  have hN := hw.2.1
  have h3 := hw.2.2.2.1 s (by omega)
  have hv := (ht s hs).2
  have h0 := (ht s hs).1
  have e52 : H 52 s = G 3 s := by rw [(h.2.2.2.1 s hs).1, e 3 (by omega)]
  have e55 : (H 55 s).toNat = plN G 47 s := by rw [h5 s hs]; rfl
  have esl : slotN G 47 s = s * 3 + plN G 47 s := rfl
  unfold tWei tTot gnP lw lT ly
  rw [e52, e55, esl]
  by_cases c : G 3 s = 0
  · have p0 : plN G 47 s = 0 := by unfold vd at hv; unfold plN; omega
    have hz := h.2.2.2.2.2 s (plN G 47 s) (by omega) (by omega) (by rw [e 3 (by omega)]; omega)
    rw [e 4 (by omega), e 5 (by omega)] at hz
    rw [if_pos c]
    refine ⟨fun t ht => ?_, hz.2.symm, fun q => by omega⟩
    rw [if_pos c, hw.none (by omega) hz.2 ht]
  · have pl : ((plN G 47 s : Nat) : Int) < G 3 s := by unfold vd at hv; unfold plN; omega
    have plH : ((plN G 47 s : Nat) : Int) < H 3 s := by rw [e 3 (by omega)]; exact pl
    have hh := h.2.2.2.2.1 s (plN G 47 s) hs plH
    have htot := h.tot hs plH
    rw [e 5 (by omega)] at htot
    rw [e 4 (by omega), e (7 + (s * 3 + plN G 47 s)) (by omega)] at hh
    rw [if_neg c]
    refine ⟨fun t ht => ?_, htot, fun _ => hh.1⟩
    rw [if_neg c]; exact hh.2 t ht
theorem loN_bit : ∀ m, m < 32 → ∀ s, s < 5 → (loN m s = 0 ↔ ∀ t, t < s → bt2 m t ≠ 1) := by decide +kernel
theorem isF_iff {H : GT} {N : Nat} {w : Nat → Nat → Int} {T : Nat → Int} {b : Nat → Nat → Bool} {C : Nat → Bool} {hm : Nat → Nat} (h : LR N w T b C hm) (hw : ∀ s t, s < N → t < N → tWei H s t = w s t) (hT : ∀ s, s < N → tTot H s = T s) {s : Nat} (hs : s < N) : isF H N s = true ↔ C s = true ∧ ∀ t, t < s → b s t = false := by
  have hN := h.1
  have hr := rng_iff (H := H) hN h.2.1 hw hT hs
  have hC := h.2.2.1 s hs
  unfold isF
  rw [Bool.and_eq_true, decide_eq_true_eq, decide_eq_true_eq, loN_bit _ (rng_lt hN (by omega)) s (by omega)]
  constructor
  · rintro ⟨h1, h2⟩
    have c : inC N b s := by
      by_cases q : inC N b s
      · exact q
      · exact absurd (hr.2.1 q) h1
    refine ⟨hC.2 c, fun t ht => ?_⟩
    by_cases q : b s t = true
    · exact absurd ((hr.1 c t (by omega)).2 ⟨by omega, q⟩) (h2 t ht)
    · simpa using q
  · rintro ⟨h1, h2⟩
    have c := hC.1 h1
    refine ⟨hr.2.2 c, fun t ht q => ?_⟩
    have := ((hr.1 c t (by omega)).1 q).2
    rw [h2 t ht] at this; cases this
theorem frS_bit {H : GT} {N r : Nat} (hN : N ≤ 5) (hr : r < 5) : ∀ n, n ≤ N → (bt2 (frS H N n) r = 1 ↔ r < n ∧ rng H N r = 0 ∧ 0 < tTot H r)
  | 0, _ => by
    unfold frS
    refine ⟨fun q => ?_, fun q => by omega⟩
    have e : bt2 0 r = 0 := by unfold bt2 sr; rw [Nat.zero_div]
    omega
  | n + 1, hn => by
    have ih := frS_bit (H := H) (N := N) hN hr n (by omega)
    unfold frS
    by_cases c : rng H N n = 0 ∧ 0 < tTot H n
    · rw [if_pos c, orN_bit _ (frS_lt H N n (by omega)) n (by omega) r hr, ih]
      constructor
      · rintro (a | a)
        · exact ⟨by omega, a.2⟩
        · rw [a]; exact ⟨by omega, c⟩
      · rintro ⟨a, a2⟩
        by_cases e : r = n
        · exact Or.inr e
        · exact Or.inl ⟨by omega, a2⟩
    · rw [if_neg c, ih]
      constructor
      · rintro ⟨a, a2⟩
        exact ⟨by omega, a2⟩
      · rintro ⟨a, a2⟩
        by_cases e : r = n
        · rw [e] at a2; exact absurd a2 c
        · exact ⟨by omega, a2⟩
def sumQ (f : Nat → Rat) : Nat → Rat
  | 0 => 0
  | n + 1 => sumQ f n + f n
/-- states whose rings are through -/
def dn (F : Nat → Bool) (b : Nat → Nat → Bool) : Nat → Nat → Bool
  | 0, _ => false
  | k + 1, r => dn F b k r || (F k && b k r)
theorem dn_iff {F : Nat → Bool} {b : Nat → Nat → Bool} {r : Nat} : ∀ {k : Nat}, dn F b k r = true → ∃ s, s < k ∧ F s = true ∧ b s r = true
  | 0, h => by cases h
  | k + 1, h => by
    unfold dn at h
    rw [Bool.or_eq_true, Bool.and_eq_true] at h
    rcases h with h | h
    · obtain ⟨s, s1, s2⟩ := dn_iff h
      exact ⟨s, by omega, s2⟩
    · exact ⟨k, by omega, h⟩
theorem LR.Qd {N : Nat} {w : Nat → Nat → Int} {T : Nat → Int} {b : Nat → Nat → Bool} {C : Nat → Bool} {hm : Nat → Nat} (h : LR N w T b C hm) (h6 : ∀ s, s < N → T s ≤ 6) {F : Nat → Bool} (hF : ∀ s, s < N → (F s = true ↔ C s = true ∧ ∀ t, t < s → b s t = false)) : ∀ k, k ≤ N → 1 ≤ prodZ (fun s => if F s = true then dG N w T b s else 1) k ∧ prodZ (fun s => if F s = true then dG N w T b s else 1) k ≤ prodZ (fun r => if dn F b k r = true then 12 else 1) N
  | 0, _ => by
    refine ⟨Int.le_refl _, ?_⟩
    have : prodZ (fun r => if dn F b 0 r = true then 12 else 1) N = prodZ (fun _ => 1) N := prodZ_congr (fun t _ => rfl)
    rw [this]
    have : ∀ n, prodZ (fun _ => (1 : Int)) n = 1 := by
      intro n
      induction n with
      | zero => rfl
      | succ n ih => show prodZ _ n * 1 = 1; rw [ih]; rfl
    rw [this]; exact Int.le_refl _
  | k + 1, hk => by
    obtain ⟨i1, i2⟩ := h.Qd h6 hF k (by omega)
    have hkN : k < N := by omega
    show 1 ≤ prodZ _ k * (if F k = true then dG N w T b k else 1) ∧ prodZ _ k * (if F k = true then dG N w T b k else 1) ≤ _
    by_cases c : F k = true
    · have hFk := (hF k hkN).1 c
      have hd := h.dG_in (y := fun _ => 0) h6 (fun _ _ => ⟨by decide, by decide⟩) hkN hFk.1
      rw [if_pos c]
      have e1 : prodZ (fun r => if dn F b (k + 1) r = true then 12 else 1) N = prodZ (fun r => if dn F b k r = true then 12 else 1) N * prodZ (fun r => if b k r = true then 12 else 1) N := by
        rw [prodZ_mul]
        refine prodZ_congr (fun r hr => ?_)
        show (if (dn F b k r || (F k && b k r)) = true then (12 : Int) else 1) = (if dn F b k r = true then 12 else 1) * (if b k r = true then 12 else 1)
        rw [c, Bool.true_and]
        by_cases c1 : dn F b k r = true
        · obtain ⟨s, s1, s2, s3⟩ := dn_iff c1
          have hFs := (hF s (by omega)).1 s2
          have c2 : ¬ b k r = true := fun q => by
            have l1 := (h.same hkN hr hFk.1 q).2.2
            have l2 := (h.same (show s < N by omega) hr hFs.1 s3).2.2
            have l3 : b k s = true := h.2.1.2.1 k r s hkN hr (by have := h.1; omega) q l2
            rw [hFk.2 s s1] at l3; cases l3
          rw [c1, Bool.true_or, if_pos rfl, if_neg c2]; rfl
        · rw [Bool.eq_false_iff.2 c1, Bool.false_or, if_neg (show ¬ false = true by decide), Int.one_mul]
      rw [e1]
      have p1 : 1 ≤ prodZ (fun s => if F s = true then dG N w T b s else 1) k * dG N w T b k := by
        have := Int.mul_pos (show 0 < prodZ (fun s => if F s = true then dG N w T b s else 1) k by omega) (show 0 < dG N w T b k by omega)
        omega
      exact ⟨p1, Int.mul_le_mul i2 hd.2.1 (by omega) (by omega)⟩
    · rw [if_neg c, Int.mul_one]
      refine ⟨i1, ?_⟩
      rw [prodZ_congr (f := fun r => if dn F b (k + 1) r = true then 12 else 1) (g := fun r => if dn F b k r = true then 12 else 1) (fun r _ => by
        show (if (dn F b k r || (F k && b k r)) = true then (12 : Int) else 1) = _
        rw [Bool.eq_false_iff.2 c, Bool.false_and, Bool.or_false])]
      exact i2
theorem p12_in {N : Nat} {p : Nat → Bool} (hN : N ≤ 5) : prodZ (fun r => if p r = true then 12 else 1) N ≤ 248832 := by
  have h1 : prodZ (fun r => if p r = true then 12 else 1) N ≤ prodZ (fun _ => 12) N := prodZ_le (fun t _ => by
    show (0 : Int) ≤ (if p t = true then 12 else 1) ∧ (if p t = true then (12 : Int) else 1) ≤ 12
    split <;> decide)
  have h2 : prodZ (fun _ => 12) N ≤ 248832 := by
    rcases (by omega : N = 0 ∨ N = 1 ∨ N = 2 ∨ N = 3 ∨ N = 4 ∨ N = 5) with rfl | rfl | rfl | rfl | rfl | rfl <;> decide
  omega
theorem red_bnd {x y : Int} (hy : 1 ≤ y) (h1 : -(50 * y) ≤ x) (h2 : x ≤ 50 * y) : -(50 * Int.tdiv y (gcZ x y)) ≤ Int.tdiv x (gcZ x y) ∧ Int.tdiv x (gcZ x y) ≤ 50 * Int.tdiv y (gcZ x y) ∧ Int.tdiv y (gcZ x y) ≤ y := by
  have hg := gcZ_in (a := x) hy
  obtain ⟨_, p, e1, e2⟩ := fr_low (x := x) hy
  generalize Int.tdiv x (gcZ x y) = a at *
  generalize Int.tdiv y (gcZ x y) = c at *
  generalize gcZ x y = g at *
  refine ⟨?_, ?_, ?_⟩
  · refine Int.le_of_mul_le_mul_left (a := g) ?_ (by omega)
    rw [Int.mul_neg, Int.mul_left_comm, e1, e2]; exact h1
  · refine Int.le_of_mul_le_mul_left (a := g) ?_ (by omega)
    rw [Int.mul_left_comm, e1, e2]; exact h2
  · have : 1 * c ≤ g * c := Int.mul_le_mul_of_nonneg_right (by omega) (by omega)
    omega
