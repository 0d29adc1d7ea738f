/-! the long run: the reference's cells -/
theorem allZ_of {L : GT} {A : Nat → Nat → Int} {N : Nat} (hN : N ≤ 5) (h : ∀ r t, r < N → t < N → L 56 (5 * r + t) = A t r) : allZ L (-1) N = det N A := by
  rw [allZ_det hN]
  exact det_congr hN (fun t ht r hr => by unfold mC; rw [if_neg (by omega), h r t hr ht])
theorem allZ_of2 {L : GT} {A : Nat → Nat → Int} {β : Nat → Int} {N f : Nat} (hN : N ≤ 5) (h : ∀ r t, r < N → t < N → L 56 (5 * r + t) = A t r) (h2 : ∀ r, r < N → L 57 r = β r) : allZ L (f : Int) N = det N (ud A f β) := by
  rw [allZ_det hN, mC_ud]
  refine det_congr hN (fun t ht r hr => ?_)
  unfold ud
  split
  · exact h2 r hr
  · unfold mC; rw [if_neg (by omega), h r t hr ht]
def btB (m : Nat) : Nat → Bool := fun r => decide (bt2 m r = 1)
theorem lkS_at {H : GT} {N m : Nat} {w : Nat → Nat → Int} {T : Nat → Int} (hN : N ≤ 5) (hw : ∀ s t, s < N → t < N → tWei H s t = w s t) (hT : ∀ s, s < N → tTot H s = T s) : ∀ s, s ≤ N → ∀ r, r < s → (∀ t, t < N → lkS H N m s 56 (5 * r + t) = kA w T (btB m) t r) ∧ lkS H N m s 57 r = 0
  | 0, _, r, h => by omega
  | s + 1, hs, r, hr => by
    have ih := lkS_at (m := m) hN hw hT s (by omega)
    have e : ∀ b, 52 ≤ b ∧ b ≤ 55 → lkS H N m s b = H b := fun b hb => lkS_off (by omega) (by omega) s
    unfold lkS
    by_cases c : bt2 m s = 1
    · rw [if_pos c]
      by_cases er : r = s
      · subst er
        refine ⟨fun t ht => ?_, by rw [uG_s, up_s]⟩
        rw [uG_n _ _ (by decide), uG_s]
        unfold wkF
        rw [if_pos (by omega), show 5 * r + t - 5 * r = t by omega]
        unfold wkX kA btB
        rw [tTot_congr e, tWei_congr e, hw r t (by omega) ht, hT r (by omega), decide_eq_true c, if_pos rfl]
      · refine ⟨fun t ht => ?_, by rw [uG_s, up_n _ _ er]; exact (ih r (by omega)).2⟩
        rw [uG_n _ _ (by decide), uG_s]
        unfold wkF
        rw [if_neg (by omega)]; exact (ih r (by omega)).1 t ht
    · rw [if_neg c]
      unfold fixG
      by_cases er : r = s
      · subst er
        refine ⟨fun t ht => ?_, by rw [uG_s, up_s]⟩
        rw [uG_n _ _ (by decide), uG_s]
        unfold fxF kA btB
        have c2 : ¬ decide (bt2 m r = 1) = true := by rw [decide_eq_false c]; decide
        rw [if_pos (show 5 * r ≤ 5 * r + t ∧ 5 * r + t < 5 * r + N by omega), if_neg c2]
        by_cases e2 : t = r
        · rw [if_pos e2, if_pos (by omega)]
        · rw [if_neg e2, if_neg (by omega)]
      · refine ⟨fun t ht => ?_, by rw [uG_s, up_n _ _ er]; exact (ih r (by omega)).2⟩
        rw [uG_n _ _ (by decide), uG_s]
        unfold fxF
        rw [if_neg (by omega)]; exact (ih r (by omega)).1 t ht
theorem clN_bit : ∀ m, m < 32 → ∀ t, t < 5 → ∀ r, r < 5 → ((bt2 m t = 1 ∧ bt2 (clN m t) r = 1) ↔ (bt2 m t = 1 ∧ bt2 m r = 1 ∧ r ≠ t)) := by decide +kernel
theorem clN_b {m t r : Nat} (hm : m < 32) (ht : t < 5) (hr : r < 5) (h : bt2 m t = 1) : bt2 (clN m t) r = 1 ↔ bt2 m r = 1 ∧ r ≠ t := ⟨fun q => ((clN_bit m hm t ht r hr).1 ⟨h, q⟩).2, fun q => ((clN_bit m hm t ht r hr).2 ⟨h, q⟩).2⟩
/-- a ring's act: its weight -/
theorem gnV_at {X : GT} {N m s t : Nat} {w : Nat → Nat → Int} {T : Nat → Int} {b : Nat → Nat → Bool} (hN : N ≤ 5) (hw : ∀ s t, s < N → t < N → tWei X s t = w s t) (hT : ∀ s, s < N → tTot X s = T s) (hm : m < 32) (hb : ∀ r, r < N → (bt2 m r = 1 ↔ b s r = true)) (ht : t < N) (hbt : bt2 m t = 1) : gnV X N m t = T t * cG N w T b s t := by
  unfold gnV cG
  rw [hT t ht]
  congr 1
  refine allZ_of hN (fun r z hr hz => ?_)
  unfold gnC
  rw [uG_s]
  unfold gcF
  unfold ud
  by_cases e : z = t
  · rw [if_pos (by omega), if_pos e]
    unfold eC
    by_cases e2 : r = t
    · rw [if_pos (by omega), if_pos e2]
    · rw [if_neg (by omega), if_neg e2]
  · rw [if_neg (by omega), if_neg e, (lkS_at hN hw hT N (Nat.le_refl _) r hr).1 z hz]
    refine kA_congr ?_
    unfold btB
    rw [Bool.eq_iff_iff, decide_eq_true_eq, clN_b hm (by omega) (by omega) hbt, hb r hr, Bool.and_eq_true, decide_eq_true_eq]
theorem gnS_sum {H : GT} {N m s : Nat} {w : Nat → Nat → Int} {T y : Nat → Int} {b : Nat → Nat → Bool} (hN : N ≤ 5) (hw : ∀ s t, s < N → t < N → tWei H s t = w s t) (hT : ∀ s, s < N → tTot H s = T s) (hm : m < 32) (hb : ∀ r, r < N → (bt2 m r = 1 ↔ b s r = true)) (hy : ∀ r, r < N → b s r = true → gnP H r = y r) : ∀ n, n ≤ N → gnS H N m n 50 25 = sumZ (fun t => if b s t = true then T t * cG N w T b s t else 0) n ∧ gnS H N m n 50 24 = sumZ (fun t => if b s t = true then T t * cG N w T b s t * y t else 0) n
  | 0, _ => by
    unfold gnS
    rw [uG_s]
    exact ⟨up_s _ _ _, by rw [up_n _ _ (by decide), up_s]; rfl⟩
  | n + 1, hn => by
    obtain ⟨i1, i2⟩ := gnS_sum hN hw hT hm hb hy n (by omega)
    have e : ∀ b, 52 ≤ b ∧ b ≤ 55 → gnS H N m n b = H b := fun b hb => gnS_n (by omega) (by omega) (by omega) (by omega) n
    have e53 : gnS H N m n 53 = H 53 := e 53 (by omega)
    have e55 : gnS H N m n 55 = H 55 := e 55 (by omega)
    unfold gnS
    show _ = sumZ _ n + (if b s n = true then T n * cG N w T b s n else 0) ∧ _ = sumZ _ n + (if b s n = true then T n * cG N w T b s n * y n else 0)
    by_cases c : bt2 m n = 1
    · have cb := (hb n (by omega)).1 c
      have hv := gnV_at (X := gnS H N m n) (s := s) (b := b) (w := w) (T := T) hN (fun s t hs ht => by rw [tWei_congr e]; exact hw s t hs ht) (fun s hs => by rw [tTot_congr e]; exact hT s hs) hm hb (show n < N by omega) c
      have hp : gnP (gnS H N m n) n = y n := by
        have := hy n (by omega) cb
        unfold gnP at *
        rw [e53, e55]; exact this
      rw [if_pos c, if_pos cb, if_pos cb]
      unfold gnN
      rw [uG_s, hv, hp, i1, i2]
      exact ⟨by rw [up_n _ _ (by decide), up_s], up_s _ _ _⟩
    · have cb : ¬ b s n = true := fun q => c ((hb n (by omega)).2 q)
      rw [if_neg c, if_neg cb, if_neg cb, i1, i2]
      exact ⟨by omega, by omega⟩
/-- one ring, in numbers -/
theorem ru_at {H : GT} {N m s f fm : Nat} {w : Nat → Nat → Int} {T y : Nat → Int} {b : Nat → Nat → Bool} {C : Nat → Bool} (hN : N ≤ 5) (hw : ∀ s t, s < N → t < N → tWei H s t = w s t) (hT : ∀ s, s < N → tTot H s = T s) (hm : m < 32) (hb : ∀ r, r < N → (bt2 m r = 1 ↔ b s r = true)) (hy : ∀ r, r < N → b s r = true → gnP H r = y r) (hfm : ∀ r, r < N → (bt2 fm r = 1 ↔ frB T C r = true)) : ruU H N m = uGn N w T y b s ∧ ruD H N m = dG N w T b s ∧ allZ (ruR H N fm m) (f : Int) N = zF N w T b C s f ∧ allZ (ruA H N f fm m) (-1) N = dF N w T C := by
  have hs := gnS_sum (y := y) hN hw hT hm hb hy N (Nat.le_refl _)
  have e : ∀ b, 52 ≤ b ∧ b ≤ 55 → ruG H N m b = H b := fun b hb => gnS_n (by omega) (by omega) (by omega) (by omega) N
  have hlk := lkS_at (H := ruG H N m) (m := fm) (w := w) (T := T) hN (fun s t hs ht => by rw [tWei_congr e]; exact hw s t hs ht) (fun s hs => by rw [tTot_congr e]; exact hT s hs) N (Nat.le_refl _)
  have hrow : ∀ r t, r < N → t < N → ruR H N fm m 56 (5 * r + t) = kA w T (frB T C) t r := fun r t hr ht => by
    unfold ruR
    rw [uG_n _ _ (by decide), (hlk r hr).1 t ht]
    refine kA_congr ?_
    unfold btB
    rw [Bool.eq_iff_iff, decide_eq_true_eq]; exact hfm r hr
  refine ⟨hs.2, hs.1, allZ_of2 hN hrow (fun r hr => ?_), allZ_of hN (fun r t hr ht => by unfold ruA; rw [alG_off (by decide)]; exact hrow r t hr ht)⟩
  unfold ruR
  rw [uG_s]
  unfold rtF
  rw [if_pos hr]
  have h01 := bt2_in m r
  by_cases c : b s r = true
  · rw [if_pos c, (hb r hr).2 c]; rfl
  · rw [if_neg c]
    have : bt2 m r ≠ 1 := fun q => c ((hb r hr).1 q)
    rw [show bt2 m r = 0 by omega]; rfl
/-! sums of fractions -/
theorem fr_div (a b : Int) : fr a b = (a : Rat) / (b : Rat) := Rat.divInt_eq_div a b
theorem ca_ne {a : Int} (h : 0 < a) : (a : Rat) ≠ 0 := fun q => by
  have := Rat.intCast_eq_zero_iff.1 q
  omega
theorem fr_low {x y : Int} (hy : 1 ≤ y) : fr (Int.tdiv x (gcZ x y)) (Int.tdiv y (gcZ x y)) = fr x y ∧ 1 ≤ Int.tdiv y (gcZ x y) ∧ gcZ x y * Int.tdiv x (gcZ x y) = x ∧ gcZ x y * Int.tdiv y (gcZ x y) = y := by
  have hg := gcZ_in (a := x) hy
  have d1 : gcZ x y ∣ x := by unfold gcZ; exact Int.ofNat_dvd_left.2 (Nat.gcd_dvd_left _ _)
  have d2 : gcZ x y ∣ y := by unfold gcZ; exact Int.ofNat_dvd_left.2 (Nat.gcd_dvd_right _ _)
  have e1 : gcZ x y * Int.tdiv x (gcZ x y) = x := Int.mul_tdiv_cancel' d1
  have e2 : gcZ x y * Int.tdiv y (gcZ x y) = y := Int.mul_tdiv_cancel' d2
  have p : 1 ≤ Int.tdiv y (gcZ x y) := by
    by_cases l : 1 ≤ Int.tdiv y (gcZ x y)
    · exact l
    · have := Int.mul_nonpos_of_nonneg_of_nonpos (show 0 ≤ gcZ x y by omega) (show Int.tdiv y (gcZ x y) ≤ 0 by omega)
      omega
  refine ⟨?_, p, e1, e2⟩
  rw [fr_eq (by omega) (by omega)]
  generalize Int.tdiv x (gcZ x y) = a at *
  generalize Int.tdiv y (gcZ x y) = c at *
  generalize gcZ x y = g at *
  rw [← e1, ← e2]
  grind
theorem lcm_dvd {d y K : Int} (hd : 1 ≤ d) (hy : 1 ≤ y) (h1 : d ∣ K) (h2 : y ∣ K) : Int.tdiv d (gcZ d y) * y ∣ K := by
  obtain ⟨a, rfl⟩ : ∃ a : Nat, d = (a : Int) := ⟨d.toNat, by omega⟩
  obtain ⟨c, rfl⟩ : ∃ c : Nat, y = (c : Int) := ⟨y.toNat, by omega⟩
  have e : gcZ (a : Int) (c : Int) = ((Nat.gcd a c : Nat) : Int) := rfl
  rw [e, show Int.tdiv (a : Int) ((Nat.gcd a c : Nat) : Int) = ((a / Nat.gcd a c : Nat) : Int) from rfl, ← Int.natCast_mul, Nat.div_mul_right_comm (Nat.gcd_dvd_left a c)]
  rw [Int.ofNat_dvd_left] at h1 h2 ⊢
  exact Nat.lcm_dvd h1 h2
/-- the reference's addition -/
theorem add_fr {n d x y : Int} (hd : 1 ≤ d) (hy : 1 ≤ y) : 1 ≤ Int.tdiv d (gcZ d y) * y ∧ fr (n * Int.tdiv y (gcZ d y) + x * Int.tdiv d (gcZ d y)) (Int.tdiv d (gcZ d y) * y) = fr n d + fr x y := by
  have hg := gcZ_in (a := d) hy
  have hl := fr_low (x := d) hy
  have p1 : 1 ≤ Int.tdiv d (gcZ d y) := by
    by_cases l : 1 ≤ Int.tdiv d (gcZ d y)
    · exact l
    · have := Int.mul_nonpos_of_nonneg_of_nonpos (show 0 ≤ gcZ d y by omega) (show Int.tdiv d (gcZ d y) ≤ 0 by omega)
      omega
  have p2 : 0 < Int.tdiv d (gcZ d y) * y := Int.mul_pos (by omega) (by omega)
  refine ⟨by omega, ?_⟩
  have hs : fr n d + fr x y = fr (n * y + x * d) (d * y) := Rat.divInt_add_divInt n x (by omega) (by omega)
  rw [hs, fr_eq p2 (Int.mul_pos (by omega) (by omega))]
  have e1 := hl.2.2.1
  have e2 := hl.2.2.2
  generalize Int.tdiv d (gcZ d y) = a at *
  generalize Int.tdiv y (gcZ d y) = c at *
  generalize gcZ d y = g at *
  subst e1
  subst e2
  grind
