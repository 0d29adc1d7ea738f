/-! the long run: gains of rings, shares of walks, abstractly -/
/-- walks' rows in the set M, units elsewhere -/
def kA (w : Nat → Nat → Int) (T : Nat → Int) (M : Nat → Bool) (t r : Nat) : Int := if M r = true then (if t = r then T r else 0) - w r t else (if t = r then 1 else 0)
theorem kA_congr {w : Nat → Nat → Int} {T : Nat → Int} {M M2 : Nat → Bool} {t r : Nat} (h : M r = M2 r) : kA w T M t r = kA w T M2 t r := by unfold kA; rw [h]
theorem bsum_unit {S : Nat → Bool} {a : Nat → Int} {r N : Nat} (hr : r < N) (hSr : S r = true) (h : ∀ t, t < N → S t = true → a t = if t = r then 1 else 0) : bsum S a N = 1 := by
  have := bsum_row (S := S) (a := a) (f := fun _ => 0) (d := 1) hr hSr (fun t ht hs => by rw [h t ht hs]; omega)
  rw [this]
  unfold bsum
  rw [sumZ_0 (fun t _ => by split <;> rfl)]; rfl
/-- the ring of s without t, column t a unit -/
theorem LR.domG {N : Nat} {w : Nat → Nat → Int} {T : Nat → Int} {b : Nat → Nat → Bool} {C : Nat → Bool} {hm : Nat → Nat} (h : LR N w T b C hm) {s t : Nat} (hs : s < N) (hc : C s = true) (ht : t < N) (hbt : b s t = true) : Dom (fun r z => ud (kA w T (fun r => b s r && decide (r ≠ t))) t (eC t) z r) (fun _ => true) N := by
  have hN := h.1
  have um : ∀ r, (b s r && decide (r ≠ t)) = true ↔ b s r = true ∧ r ≠ t := fun r => by simp
  have ent : ∀ r z, r < N → ud (kA w T (fun r => b s r && decide (r ≠ t))) t (eC t) z r = if b s r = true ∧ r ≠ t then (if z = t then 0 else (if z = r then T r else 0) - w r z) else (if z = r then 1 else 0) := by
    intro r z hr
    unfold ud
    by_cases e : z = t
    · rw [if_pos e]
      show (if r = t then 1 else 0) = _
      by_cases c : b s r = true ∧ r ≠ t
      · rw [if_pos c, if_pos e, if_neg c.2]
      · rw [if_neg c]
        by_cases e2 : r = t
        · rw [if_pos e2, if_pos (e.trans e2.symm)]
        · rw [if_neg e2, if_neg (fun q => e2 (q.symm.trans e))]
    · rw [if_neg e]
      unfold kA
      by_cases c : b s r = true ∧ r ≠ t
      · rw [if_pos c, if_pos ((um r).2 c), if_neg e]
      · rw [if_neg c, if_neg (fun q => c ((um r).1 q))]
  refine ⟨fun r z hr hz _ _ hne => ?_, fun r hr _ => ?_, fun S hS hne => ?_⟩
  · show ud _ t (eC t) z r ≤ 0
    rw [ent r z hr]
    have := h.2.2.2.2.2.1 r z hr hz
    split
    · split
      · exact Int.le_refl _
      · rw [if_neg (fun q => hne q.symm)]; omega
    · rw [if_neg (fun q => hne q.symm)]; exact Int.le_refl _
  · rw [bsum_all]
    show 0 ≤ sumZ (fun z => ud _ t (eC t) z r) N
    by_cases c : b s r = true ∧ r ≠ t
    · have e1 : sumZ (fun z => ud (kA w T (fun r => b s r && decide (r ≠ t))) t (eC t) z r) N = T r - sumZ (fun z => if z = t then 0 else w r z) N := by
        rw [sumZ_congr (g := fun z => (if z = r then T r else 0) - (if z = t then 0 else w r z)) (fun z hz => ?_), sumZ_sub, sumZ_one hr (fun z _ hne => if_neg hne), if_pos rfl]
        rw [ent r z hr, if_pos c]
        by_cases e : z = t
        · rw [if_pos e, if_pos e, if_neg (fun q => c.2 (q.symm.trans e))]; rfl
        · rw [if_neg e, if_neg e]
      rw [e1]
      have h1 : sumZ (fun z => if z = t then 0 else w r z) N ≤ sumZ (w r) N := sumZ_le (fun z hz => by
        show (if z = t then 0 else w r z) ≤ w r z
        split
        · exact h.2.2.2.2.2.1 r z hr hz
        · exact Int.le_refl _)
      rw [h.2.2.2.2.2.2 r hr] at h1
      omega
    · have := bsum_unit (S := fun _ => true) (a := fun z => ud (kA w T (fun r => b s r && decide (r ≠ t))) t (eC t) z r) hr rfl (fun z hz _ => by rw [ent r z hr, if_neg c])
      rw [bsum_all] at this
      rw [this]; decide
  · by_cases q : ∃ r, S r = true ∧ ¬ (b s r = true ∧ r ≠ t)
    · obtain ⟨r, hSr, c⟩ := q
      have hr := (hS r hSr).1
      refine ⟨r, hSr, ?_⟩
      have := bsum_unit (S := S) (a := fun z => ud (kA w T (fun r => b s r && decide (r ≠ t))) t (eC t) z r) hr hSr (fun z hz _ => by rw [ent r z hr, if_neg c])
      show 0 < bsum S (fun z => ud (kA w T (fun r => b s r && decide (r ≠ t))) t (eC t) z r) N
      rw [this]; decide
    · have all : ∀ r, S r = true → b s r = true ∧ r ≠ t := fun r hSr => by
        by_cases c : b s r = true ∧ r ≠ t
        · exact c
        · exact absurd ⟨r, hSr, c⟩ q
      obtain ⟨r, hSr, hl⟩ := h.leave (S := S) (k := s) (h0 := t) hs ht (fun r hSr => ⟨(hS r hSr).1, (h.same hs (hS r hSr).1 hc (all r hSr).1).1, (all r hSr).1⟩) hc hbt (by
        by_cases e : S t = true
        · exact absurd rfl (all t e).2
        · simpa using e) hne
      have hr := (hS r hSr).1
      refine ⟨r, hSr, ?_⟩
      show 0 < bsum S (fun z => ud (kA w T (fun r => b s r && decide (r ≠ t))) t (eC t) z r) N
      rw [bsum_row (f := w r) (d := T r) hr hSr (fun z hz hSz => by rw [ent r z hr, if_pos (all r hSr), if_neg (all z hSz).2])]
      omega
/-- a ring's weight of t -/
def cG (N : Nat) (w : Nat → Nat → Int) (T : Nat → Int) (b : Nat → Nat → Bool) (s t : Nat) : Int := det N (ud (kA w T (fun r => b s r && decide (r ≠ t))) t (eC t))
theorem cG_full {N : Nat} {w : Nat → Nat → Int} {T : Nat → Int} {b : Nat → Nat → Bool} {s t : Nat} (hN : N ≤ 5) (ht : t < N) : cG N w T b s t = det N (ud (kA w T (b s)) t (eC t)) := by
  refine det_row hN ht (fun z hz hne r hr hrne => ?_)
  refine kA_congr ?_
  show (b s r && decide (r ≠ t)) = b s r
  rw [decide_eq_true hrne, Bool.and_true]
theorem LR.cpos {N : Nat} {w : Nat → Nat → Int} {T : Nat → Int} {b : Nat → Nat → Bool} {C : Nat → Bool} {hm : Nat → Nat} (h : LR N w T b C hm) (h6 : ∀ s, s < N → T s ≤ 6) {s t : Nat} (hs : s < N) (hc : C s = true) (ht : t < N) (hbt : b s t = true) : 0 < cG N w T b s t ∧ T t * cG N w T b s t ≤ prodZ (fun r => if b s r = true then 6 else 1) N := by
  have hN := h.1
  have hD := h.domG hs hc ht hbt
  have h1 : 0 < cG N w T b s t := det_pos0 (hD.dets hN N (Nat.le_refl _))
  refine ⟨h1, ?_⟩
  have h2 : cG N w T b s t ≤ prodZ (fun r => ud (kA w T (fun r => b s r && decide (r ≠ t))) t (eC t) r r) N := hD.upP hN N (Nat.le_refl _)
  have hTt := (h.tot ht).1
  have h0 : ∀ r, r < N → 0 ≤ ud (kA w T (fun r => b s r && decide (r ≠ t))) t (eC t) r r ∧ ud (kA w T (fun r => b s r && decide (r ≠ t))) t (eC t) r r ≤ (if r = t then 1 else if b s r = true then 6 else 1) := by
    intro r hr
    unfold ud
    by_cases e : r = t
    · rw [if_pos e, if_pos e]
      show 0 ≤ (if r = t then (1 : Int) else 0) ∧ (if r = t then (1 : Int) else 0) ≤ 1
      rw [if_pos e]; decide
    · rw [if_neg e, if_neg e, kA_congr (M2 := b s) (show (b s r && decide (r ≠ t)) = b s r by rw [decide_eq_true e, Bool.and_true])]
      unfold kA
      rw [if_pos (rfl : r = r), if_pos (rfl : r = r)]
      have w0 := h.2.2.2.2.2.1 r r hr hr
      have w1 : w r r ≤ T r := by
        rw [← h.2.2.2.2.2.2 r hr, sumZ_pick hr]
        have : 0 ≤ sumZ (fun t => if t = r then 0 else w r t) N := sumZ_nonneg (fun t ht => by
          show 0 ≤ (if t = r then 0 else w r t)
          split
          · exact Int.le_refl _
          · exact h.2.2.2.2.2.1 r t hr ht)
        omega
      have := h6 r hr
      by_cases c : b s r = true
      · rw [if_pos c, if_pos c]; omega
      · rw [if_neg c, if_neg c]; decide
  have h3 := prodZ_le h0
  have h4 := prodZ_ud (m := fun r => if b s r = true then 6 else 1) (x := 1) (t := t) (n := N) ht
  rw [if_pos hbt, Int.mul_one] at h4
  have h5 := h6 t ht
  have h7 : T t * cG N w T b s t ≤ 6 * prodZ (fun r => if r = t then 1 else if b s r = true then 6 else 1) N := Int.mul_le_mul h5 (by omega) (by omega) (by decide)
  omega
/-- a ring's lower and upper number -/
def dG (N : Nat) (w : Nat → Nat → Int) (T : Nat → Int) (b : Nat → Nat → Bool) (s : Nat) : Int := sumZ (fun t => if b s t = true then T t * cG N w T b s t else 0) N
def uGn (N : Nat) (w : Nat → Nat → Int) (T y : Nat → Int) (b : Nat → Nat → Bool) (s : Nat) : Int := sumZ (fun t => if b s t = true then T t * cG N w T b s t * y t else 0) N
theorem LR.gain {N : Nat} {w : Nat → Nat → Int} {T y : Nat → Int} {b : Nat → Nat → Bool} {C : Nat → Bool} {hm : Nat → Nat} (h : LR N w T b C hm) {s : Nat} (hs : s < N) (hc : C s = true) {x : Nat → Int} (hx : x = fun t => det N (ud (lA N w T y C hm) t (lA N w T y C hm 5))) {P : Int} (hP : P = det N (lA N w T y C hm)) : P * uGn N w T y b s = x (hm s) * dG N w T b s := by
  have hN := h.1
  have hh := h.hom hs
  have ring : ∀ r, r < N → b s r = true → C r = true ∧ hm r = hm s ∧ ∀ z, z < N → (b r z = true ↔ b s z = true) := fun r hr hb => by
    have h1 := h.same hs hr hc hb
    exact ⟨h1.1, h1.2.1, fun z hz => ⟨fun q => h.2.1.2.1 s r z hs hr (by omega) hb q, fun q => h.2.1.2.1 r s z hr hs (by omega) h1.2.2 q⟩⟩
  -- columns of the ring sum to nothing
  have hsum : ∀ r, r < N → sumZ (fun z => if b s z = true then kA w T (b s) z r else 0) N = 0 := by
    intro r hr
    by_cases c : b s r = true
    · have := bsum_row (S := b s) (a := fun z => kA w T (b s) z r) (f := w r) (d := T r) hr c (fun z _ _ => by unfold kA; rw [if_pos c])
      unfold bsum at this
      rw [this, sumZ_congr (f := fun z => if b s z = true then w r z else 0) (g := w r) (fun z hz => ?_), h.2.2.2.2.2.2 r hr]
      · omega
      · by_cases c2 : b s z = true
        · rw [if_pos c2]
        · rw [if_neg c2]
          refine (h.edge hr hz ?_).symm
          by_cases q : b r z = true
          · exact absurd (((ring r hr c).2.2 z hz).1 q) c2
          · simpa using q
    · refine sumZ_0 (fun z _ => ?_)
      by_cases c2 : b s z = true
      · rw [if_pos c2]; unfold kA; rw [if_neg c, if_neg (fun e => c (by rw [← e]; exact c2))]
      · rw [if_neg c2]
  -- any column of the ring may be replaced
  have col : ∀ β : Nat → Int, (∀ t, t < N → b s t = false → β t = 0) → det N (ud (kA w T (b s)) (hm s) β) = sumZ (fun t => if b s t = true then β t * cG N w T b s t else 0) N := by
    intro β hβ
    have h1 := det_colsum hN hh.1 (kA w T (b s)) (fun t => eC t) β N
    have h2 : det N (ud (kA w T (b s)) (hm s) (fun r => sumZ (fun t => eC t r * β t) N)) = det N (ud (kA w T (b s)) (hm s) β) := det_congr hN (fun z hz r hr => by
      unfold ud
      by_cases e : z = hm s
      · rw [if_pos e, if_pos e]
        show sumZ (fun t => eC t r * β t) N = β r
        rw [sumZ_one hr (fun t _ hne => by unfold eC; rw [if_neg (fun q => hne q.symm), Int.zero_mul])]
        unfold eC; rw [if_pos rfl, Int.one_mul]
      · rw [if_neg e, if_neg e])
    rw [← h2, h1]
    refine sumZ_congr (fun t ht => ?_)
    by_cases c : b s t = true
    · rw [if_pos c, cG_full hN ht, cof_eq hN hh.1 ht (kA w T (b s)) (b s) hh.2.2.2 c hsum]
    · rw [if_neg c, hβ t ht (by simpa using c), Int.zero_mul]
  -- Cramer
  have hcr := det_cram (n := N) (i := hm s) hN hh.1 (ud (kA w T (b s)) (hm s) (fun r => if b s r = true then T r else 0)) (x := P) (b := fun r => if b s r = true then T r * y r else 0) (y := fun z => if b s z = true then x z else 0) (fun r hr => by
    by_cases c : b s r = true
    · obtain ⟨cr, hmr, hz⟩ := ring r hr c
      rw [if_pos c, ← (h.rows hr hx hP).1 cr]
      refine sumZ_congr (fun z hzN => ?_)
      by_cases c2 : b s z = true
      · rw [if_pos c2]
        congr 1
        by_cases e : z = hm s
        · rw [e, ud_s, lA_h cr (by omega) hmr.symm]
          show (if b s r = true then T r else 0) = _
          rw [if_pos c]
        · rw [ud_n _ _ e, lA_c cr (by omega) (by rw [hmr]; exact e)]
          unfold kA; rw [if_pos c]
      · rw [if_neg c2, Int.mul_zero, h.out hr hzN cr (by
          by_cases q : b r z = true
          · exact absurd ((hz z hzN).1 q) c2
          · simpa using q), Int.zero_mul]
    · rw [if_neg c, Int.mul_zero]
      refine sumZ_0 (fun z hzN => ?_)
      by_cases c2 : b s z = true
      · rw [if_pos c2]
        by_cases e : z = hm s
        · rw [e, ud_s]; show (if b s r = true then T r else 0) * _ = 0; rw [if_neg c, Int.zero_mul]
        · rw [ud_n _ _ e]; unfold kA; rw [if_neg c, if_neg (fun e => c (by rw [← e]; exact c2)), Int.zero_mul]
      · rw [if_neg c2, Int.mul_zero])
  rw [ud_ud, if_pos hh.2.2.2, col _ (fun t _ q => if_neg (by rw [q]; decide)), col _ (fun t _ q => if_neg (by rw [q]; decide))] at hcr
  have e1 : sumZ (fun t => if b s t = true then (if b s t = true then T t * y t else 0) * cG N w T b s t else 0) N = uGn N w T y b s := sumZ_congr (fun t _ => by
    by_cases c : b s t = true
    · rw [if_pos c, if_pos c, if_pos c]; grind
    · rw [if_neg c, if_neg c])
  have e2 : sumZ (fun t => if b s t = true then (if b s t = true then T t else 0) * cG N w T b s t else 0) N = dG N w T b s := sumZ_congr (fun t _ => by
    by_cases c : b s t = true
    · rw [if_pos c, if_pos c, if_pos c]
    · rw [if_neg c, if_neg c])
  rw [e1, e2] at hcr
  exact hcr
theorem cnt2 {p : Nat → Bool} {K : Int} (hK : 0 ≤ K) : ∀ n, sumZ (fun t => if p t = true then K else 0) n ≤ prodZ (fun t => if p t = true then 2 else 1) n * K
  | 0 => by show (0 : Int) ≤ 1 * K; omega
  | n + 1 => by
    have ih := cnt2 (p := p) hK n
    have h1 : 1 ≤ prodZ (fun t => if p t = true then 2 else 1) n := by
      have : ∀ m, 1 ≤ prodZ (fun t => if p t = true then 2 else 1) m := by
        intro m
        induction m with
        | zero => exact Int.le_refl _
        | succ m ih =>
          show 1 ≤ prodZ _ m * (if p m = true then 2 else 1)
          split <;> omega
      exact this n
    show sumZ _ n + (if p n = true then K else 0) ≤ prodZ _ n * (if p n = true then 2 else 1) * K
    generalize prodZ (fun t => if p t = true then 2 else 1) n = Q at *
    by_cases c : p n = true
    · rw [if_pos c, if_pos c]
      have h2 : 1 * K ≤ Q * K := Int.mul_le_mul_of_nonneg_right h1 hK
      have h3 : Q * 2 * K = Q * K + Q * K := by grind
      omega
    · rw [if_neg c, if_neg c, Int.mul_one]; omega
theorem prodZ_mul (f g : Nat → Int) : ∀ n, prodZ f n * prodZ g n = prodZ (fun t => f t * g t) n
  | 0 => rfl
  | n + 1 => by
    show prodZ f n * f n * (prodZ g n * g n) = prodZ _ n * (f n * g n)
    rw [← prodZ_mul f g n]; grind
theorem prodZ_congr {f g : Nat → Int} : ∀ {n : Nat}, (∀ t, t < n → f t = g t) → prodZ f n = prodZ g n
  | 0, _ => rfl
  | n + 1, h => by show prodZ f n * f n = prodZ g n * g n; rw [prodZ_congr (fun t ht => h t (by omega)), h n (by omega)]
/-- how large a ring's numbers are -/
theorem LR.dG_in {N : Nat} {w : Nat → Nat → Int} {T y : Nat → Int} {b : Nat → Nat → Bool} {C : Nat → Bool} {hm : Nat → Nat} (h : LR N w T b C hm) (h6 : ∀ s, s < N → T s ≤ 6) (hy : ∀ s, s < N → -50 ≤ y s ∧ y s ≤ 50) {s : Nat} (hs : s < N) (hc : C s = true) : 1 ≤ dG N w T b s ∧ dG N w T b s ≤ prodZ (fun r => if b s r = true then 12 else 1) N ∧ -(50 * dG N w T b s) ≤ uGn N w T y b s ∧ uGn N w T y b s ≤ 50 * dG N w T b s := by
  have hN := h.1
  have hpos : ∀ t, t < N → b s t = true → 0 < T t * cG N w T b s t := fun t ht hb => Int.mul_pos ((h.tot ht).2 (h.same hs ht hc hb).1) (h.cpos h6 hs hc ht hb).1
  have nn : ∀ t, t < N → 0 ≤ (if b s t = true then T t * cG N w T b s t else 0) := fun t ht => by
    split
    · next c => have := hpos t ht c; omega
    · exact Int.le_refl _
  refine ⟨?_, ?_, ?_, ?_⟩
  · have h1 := hpos s hs (h.2.1.1 s hs)
    have h2 : dG N w T b s = (if b s s = true then T s * cG N w T b s s else 0) + sumZ (fun t => if t = s then 0 else (if b s t = true then T t * cG N w T b s t else 0)) N := sumZ_pick (f := fun t => if b s t = true then T t * cG N w T b s t else 0) hs
    have h3 : 0 ≤ sumZ (fun t => if t = s then 0 else (if b s t = true then T t * cG N w T b s t else 0)) N := sumZ_nonneg (fun t ht => by
      show 0 ≤ (if t = s then 0 else (if b s t = true then T t * cG N w T b s t else 0))
      split
      · exact Int.le_refl _
      · exact nn t ht)
    rw [if_pos (h.2.1.1 s hs)] at h2
    omega
  · have hp0 : 0 ≤ prodZ (fun r => if b s r = true then 6 else 1) N := prodZ_nn (fun t _ => by show (0 : Int) ≤ (if b s t = true then 6 else 1); split <;> decide)
    have h1 : dG N w T b s ≤ sumZ (fun t => if b s t = true then prodZ (fun r => if b s r = true then 6 else 1) N else 0) N := sumZ_le (fun t ht => by
      show (if b s t = true then T t * cG N w T b s t else 0) ≤ (if b s t = true then prodZ (fun r => if b s r = true then 6 else 1) N else 0)
      by_cases c : b s t = true
      · rw [if_pos c, if_pos c]; exact (h.cpos h6 hs hc ht c).2
      · rw [if_neg c, if_neg c]; exact Int.le_refl _)
    have h2 := cnt2 (p := b s) hp0 N
    rw [prodZ_mul, prodZ_congr (f := fun t => (if b s t = true then 2 else 1) * (if b s t = true then 6 else 1)) (g := fun r => if b s r = true then 12 else 1) (fun t _ => by show (if b s t = true then (2 : Int) else 1) * (if b s t = true then 6 else 1) = (if b s t = true then 12 else 1); split <;> rfl)] at h2
    omega
  · unfold dG uGn
    rw [← sumZ_mul, ← sumZ_neg]
    refine sumZ_le (fun t ht => ?_)
    show -(50 * (if b s t = true then T t * cG N w T b s t else 0)) ≤ (if b s t = true then T t * cG N w T b s t * y t else 0)
    by_cases c : b s t = true
    · rw [if_pos c, if_pos c]
      have := pay_bnd (hy t ht).1 (hy t ht).2 (show 0 ≤ T t * cG N w T b s t by have := hpos t ht c; omega)
      rw [Int.mul_comm (T t * cG N w T b s t) (y t)]; exact this.1
    · rw [if_neg c, if_neg c]; decide
  · unfold dG uGn
    rw [← sumZ_mul]
    refine sumZ_le (fun t ht => ?_)
    show (if b s t = true then T t * cG N w T b s t * y t else 0) ≤ 50 * (if b s t = true then T t * cG N w T b s t else 0)
    by_cases c : b s t = true
    · rw [if_pos c, if_pos c]
      have := pay_bnd (hy t ht).1 (hy t ht).2 (show 0 ≤ T t * cG N w T b s t by have := hpos t ht c; omega)
      rw [Int.mul_comm (T t * cG N w T b s t) (y t)]; exact this.2
    · rw [if_neg c, if_neg c]; decide
