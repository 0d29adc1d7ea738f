/-! the long run: leading minors, the solution -/
theorem rgB_iff {b : Nat → Nat → Bool} {C : Nat → Bool} {hm : Nat → Nat} {k t : Nat} : rgB b C hm k t = true ↔ C t = true ∧ b k t = true ∧ t ≠ hm k := by
  unfold rgB; simp only [Bool.and_eq_true, decide_eq_true_eq, and_assoc]
/-- a home's number is 0 where nothing of its circle is asked -/
theorem LR.homeY {N : Nat} {w : Nat → Nat → Int} {T y : Nat → Int} {b : Nat → Nat → Bool} {C : Nat → Bool} {hm : Nat → Nat} (h : LR N w T b C hm) {k t : Nat} (hk : k < N) (hck : C k = false) (ht : t < k) (hct : C t = true) (hht : hm t = t) (hpos : ∀ j, 1 ≤ j → j ≤ k → 0 < det j (lA N w T y C hm)) (c : Int) : 0 ≤ c * det k (ud (lA N w T y C hm) t (lA N w T y C hm k)) := by
  have hN := h.1
  obtain ⟨_, hb5, hmax⟩ := h.2.2.2.2.1 t (by omega) hct
  have hP := det_pos0 hpos
  -- the state of the circle with the least
  obtain ⟨r, hrk, hbr, hmin⟩ := argmin (f := fun z => c * (if z = t then 0 else det k (ud (lA N w T y C hm) z (lA N w T y C hm k)))) (p := b t) (n := k) ⟨t, ht, h.2.1.1 t (by omega)⟩
  have hrN : r < N := by omega
  have hs := h.same (by omega) hrN hct hbr
  have hTr := (h.tot hrN).2 hs.1
  have hmr : hm r = t := hs.2.1.trans hht
  have hadj := adjP (by omega) hpos (lA N w T y C hm k) hrk
  have bk : b r k = false := by
    by_cases e : b r k = true
    · have := (h.same hrN hk hs.1 e).1
      rw [hck] at this; cases this
    · simpa using e
  rw [h.out hrN hk hs.1 bk, Int.mul_zero] at hadj
  -- the row, written out
  have hrow : sumZ (fun z => lA N w T y C hm z r * det k (ud (lA N w T y C hm) z (lA N w T y C hm k))) k = T r * det k (ud (lA N w T y C hm) t (lA N w T y C hm k)) + (T r * (if r = t then 0 else det k (ud (lA N w T y C hm) r (lA N w T y C hm k))) - sumZ (fun z => w r z * (if z = t then 0 else det k (ud (lA N w T y C hm) z (lA N w T y C hm k)))) k) := by
    rw [sumZ_congr (g := fun z => (if z = t then T r * det k (ud (lA N w T y C hm) t (lA N w T y C hm k)) else 0) + ((if z = r then T r * (if r = t then 0 else det k (ud (lA N w T y C hm) r (lA N w T y C hm k))) else 0) - w r z * (if z = t then 0 else det k (ud (lA N w T y C hm) z (lA N w T y C hm k))))) (fun z hz => ?_), sumZ_add, sumZ_sub, sumZ_one ht (fun z _ hne => if_neg hne), if_pos rfl, sumZ_one hrk (fun z _ hne => if_neg hne), if_pos rfl]
    by_cases e1 : z = t
    · rw [if_pos e1, if_pos e1, Int.mul_zero, lA_h hs.1 (by omega) (by rw [hmr]; exact e1)]
      by_cases e2 : z = r
      · rw [if_pos e2, if_pos (e2.symm.trans e1), Int.mul_zero, e1]; omega
      · rw [if_neg e2, e1]; omega
    · rw [if_neg e1, if_neg e1, lA_c hs.1 (by omega) (by rw [hmr]; exact e1)]
      by_cases e2 : z = r
      · rw [if_pos e2, if_pos e2, if_neg (fun q => e1 (e2.trans q)), e2, Int.sub_mul]; omega
      · rw [if_neg e2, if_neg e2, Int.sub_mul]; omega
  rw [hrow] at hadj
  have hsum : sumZ (w r) k = T r := by
    rw [← h.2.2.2.2.2.2 r hrN]
    refine (sumZ_grow (by omega) (fun z h1 h2 => h.edge hrN h2 ?_)).symm
    by_cases e : b r z = true
    · have := h.2.1.2.1 t r z (by omega) hrN (by omega) hbr e
      have := hmax z h2 this
      omega
    · simpa using e
  have hge : (c * (if r = t then 0 else det k (ud (lA N w T y C hm) r (lA N w T y C hm k)))) * T r ≤ c * sumZ (fun z => w r z * (if z = t then 0 else det k (ud (lA N w T y C hm) z (lA N w T y C hm k)))) k := by
    rw [← hsum, Int.mul_comm, ← sumZ_mulR, ← sumZ_mul]
    refine sumZ_le (fun z hz => ?_)
    have e3 : c * (w r z * (if z = t then 0 else det k (ud (lA N w T y C hm) z (lA N w T y C hm k)))) = w r z * (c * (if z = t then 0 else det k (ud (lA N w T y C hm) z (lA N w T y C hm k)))) := Int.mul_left_comm _ _ _
    rw [e3]
    by_cases e : b t z = true
    · exact Int.mul_le_mul_of_nonneg_left (hmin z hz e) (h.2.2.2.2.2.1 r z hrN (by omega))
    · have e4 : b r z = false := by
        by_cases q : b r z = true
        · exact absurd (h.2.1.2.1 t r z (by omega) hrN (by omega) hbr q) e
        · simpa using q
      rw [h.edge hrN (by omega) e4, Int.zero_mul, Int.zero_mul]; exact Int.le_refl _
  generalize det k (ud (lA N w T y C hm) t (lA N w T y C hm k)) = Y at *
  generalize (if r = t then 0 else det k (ud (lA N w T y C hm) r (lA N w T y C hm k))) = v at *
  generalize sumZ (fun z => w r z * (if z = t then 0 else det k (ud (lA N w T y C hm) z (lA N w T y C hm k)))) k = S at *
  have e5 : T r * (c * Y) = c * S - c * v * T r := by
    have : S = T r * Y + T r * v := by omega
    rw [this]; grind
  have e6 : 0 ≤ T r * (c * Y) := by omega
  by_cases l : 0 ≤ c * Y
  · exact l
  · have := Int.mul_neg_of_pos_of_neg hTr (show c * Y < 0 by omega)
    omega
theorem LR.pos {N : Nat} {w : Nat → Nat → Int} {T y : Nat → Int} {b : Nat → Nat → Bool} {C : Nat → Bool} {hm : Nat → Nat} (h : LR N w T b C hm) : ∀ k, k ≤ N → ∀ j, 1 ≤ j → j ≤ k → 0 < det j (lA N w T y C hm)
  | 0, _, j, a, b => by omega
  | k + 1, hk, j, ha, hb => by
    have hN := h.1
    have ih := h.pos (y := y) k (by omega)
    have hP := det_pos0 ih
    by_cases e : j = k + 1
    · subst e
      have hkN : k < N := by omega
      by_cases hc : C k = true
      · have hh := h.hom hkN
        have hle := (h.2.2.2.2.1 k hkN hc).2.2 k hkN (h.2.1.1 k hkN)
        have zero : ∀ r t, r < N → t < N → C r = true → b k r = true → b k t = false → lA N w T y C hm t r = 0 := fun r t hr ht hcr hbr hbt => by
          refine h.out hr ht hcr ?_
          by_cases q : b r t = true
          · rw [h.2.1.2.1 k r t hkN hr (by omega) hbr q] at hbt; cases hbt
          · simpa using q
        by_cases hne : hm k = k
        · -- a home
          have hY : ∀ t, t < k → rgB b C hm k t = true → 0 ≤ det k (ud (lA N w T y C hm) t (lA N w T y C hm k)) := fun t ht hbt => by
            refine Dom.pos ((h.domR (y := y) hkN hc).down (k := k) (by omega)) (z := fun t => det k (ud (lA N w T y C hm) t (lA N w T y C hm k))) (fun r hr hbr => ?_) t ht hbt
            have ur := rgB_iff.1 hbr
            have hadj := adjP (by omega) ih (lA N w T y C hm k) hr
            have e2 : bsum (rgB b C hm k) (fun t => lA N w T y C hm t r * det k (ud (lA N w T y C hm) t (lA N w T y C hm k))) k = sumZ (fun t => lA N w T y C hm t r * det k (ud (lA N w T y C hm) t (lA N w T y C hm k))) k := by
              unfold bsum
              refine sumZ_congr (fun z hz => ?_)
              by_cases c2 : rgB b C hm k z = true
              · rw [if_pos c2]
              · rw [if_neg c2]
                have bz : b k z = false := by
                  by_cases q : b k z = true
                  · exact absurd (rgB_iff.2 ⟨(h.same hkN (by omega) hc q).1, q, by omega⟩) c2
                  · simpa using q
                rw [zero r z (by omega) (by omega) ur.1 ur.2.1 bz, Int.zero_mul]
            show 0 ≤ bsum (rgB b C hm k) (fun t => lA N w T y C hm t r * det k (ud (lA N w T y C hm) t (lA N w T y C hm k))) k
            rw [e2, hadj, lA_h ur.1 (by omega) (by rw [(h.same hkN (by omega) hc ur.2.1).2.1]; exact hne.symm)]
            exact Int.mul_nonneg (by omega) (h.tot (by omega)).1
          rw [det_lapE (by omega), lA_h hc (by omega) hne.symm]
          have h1 : sumZ (fun t => lA N w T y C hm t k * det k (ud (lA N w T y C hm) t (lA N w T y C hm k))) k ≤ sumZ (fun _ => 0) k := by
            refine sumZ_le (fun t ht => ?_)
            by_cases c2 : rgB b C hm k t = true
            · have ut := rgB_iff.1 c2
              rw [lA_c hc (by omega) ut.2.2, if_neg (by omega)]
              have := h.2.2.2.2.2.1 k t hkN (by omega)
              exact Int.mul_nonpos_of_nonpos_of_nonneg (by omega) (hY t ht c2)
            · have bz : b k t = false := by
                by_cases q : b k t = true
                · exact absurd (rgB_iff.2 ⟨(h.same hkN (by omega) hc q).1, q, by omega⟩) c2
                · simpa using q
              rw [zero k t hkN (by omega) hc (h.2.1.1 k hkN) bz, Int.zero_mul]; exact Int.le_refl _
          rw [sumZ_0 (f := fun _ => 0) (fun _ _ => rfl)] at h1
          have h2 := Int.mul_pos hP ((h.tot hkN).2 hc)
          omega
        · -- in a circle, no home
          refine det_pos_step (by omega) ih (B := rgB b C hm k) (rgB_iff.2 ⟨hc, h.2.1.1 k hkN, fun q => hne q.symm⟩) ((h.domR (y := y) hkN hc).down hk) (fun r t hr ht hbr hbt => ?_)
          have ur := rgB_iff.1 hbr
          have bz : b k t = false := by
            by_cases q : b k t = true
            · rw [rgB_iff.2 ⟨(h.same hkN (by omega) hc q).1, q, by omega⟩] at hbt; cases hbt
            · simpa using q
          rw [zero r t (by omega) (by omega) ur.1 ur.2.1 bz, Int.zero_mul]
      · -- a passage
        have hcf : C k = false := by simpa using hc
        refine det_pos_step (by omega) ih (B := fun t => !C t) (by show (!C k) = true; rw [hcf]; rfl) ((h.domP (y := y)).down hk) (fun r t hr ht hbr hbt => ?_)
        have hcr : C r = false := by simpa using hbr
        have hct : C t = true := by simpa using hbt
        by_cases hht : hm t = t
        · have p1 := h.homeY hkN hcf ht hct hht ih 1
          have p2 := h.homeY hkN hcf ht hct hht ih (-1)
          have p3 : det k (ud (lA N w T y C hm) t (lA N w T y C hm k)) = 0 := by omega
          rw [p3, Int.mul_zero]
        · rw [(h.pass (by omega) (by omega) hcr).2 hct hht, Int.zero_mul]
    · exact ih j ha (by omega)
/-- the solution's rows -/
theorem LR.rows {N : Nat} {w : Nat → Nat → Int} {T y : Nat → Int} {b : Nat → Nat → Bool} {C : Nat → Bool} {hm : Nat → Nat} (h : LR N w T b C hm) {r : Nat} (hr : r < N) {x : Nat → Int} (hx : x = fun t => det N (ud (lA N w T y C hm) t (lA N w T y C hm 5))) {P : Int} (hP : P = det N (lA N w T y C hm)) : (C r = true → sumZ (fun t => lA N w T y C hm t r * x t) N = P * (T r * y r)) ∧ (C r = false → maxZ 1 (T r) * x r = sumZ (fun z => w r z * x (hm z)) N) := by
  have hN := h.1
  have hadj : sumZ (fun t => lA N w T y C hm t r * x t) N = P * lA N w T y C hm 5 r := by rw [hx, hP]; exact adjP hN (h.pos N (Nat.le_refl _)) (lA N w T y C hm 5) hr
  refine ⟨fun hc => ?_, fun hc => ?_⟩
  · rw [hadj]; unfold lA; rw [if_pos hc, if_pos rfl]
  · have e5 : lA N w T y C hm 5 r = 0 := by unfold lA; rw [if_neg (by rw [hc]; decide), if_pos rfl]
    rw [e5, Int.mul_zero] at hadj
    have e1 : sumZ (fun t => lA N w T y C hm t r * x t) N = maxZ 1 (T r) * x r - sumZ (fun t => sumZ (fun z => if hm z = t then w r z * x t else 0) N) N := by
      rw [sumZ_congr (g := fun t => (if t = r then maxZ 1 (T r) * x r else 0) - sumZ (fun z => if hm z = t then w r z * x t else 0) N) (fun t ht => ?_), sumZ_sub, sumZ_one hr (fun t _ hne => if_neg hne), if_pos rfl]
      have e2 : lA N w T y C hm t r = (if t = r then maxZ 1 (T r) else 0) - sumZ (fun z => if hm z = t then w r z else 0) N := by
        unfold lA; rw [if_neg (by rw [hc]; decide), if_neg (by omega)]
      rw [e2, Int.sub_mul, ← sumZ_mulR]
      congr 1
      · by_cases e : t = r
        · rw [if_pos e, if_pos e, e]
        · rw [if_neg e, if_neg e, Int.zero_mul]
      · refine sumZ_congr (fun z _ => ?_)
        by_cases e : hm z = t
        · rw [if_pos e, if_pos e]
        · rw [if_neg e, if_neg e, Int.zero_mul]
    rw [e1, sumZ_swap] at hadj
    have e3 : sumZ (fun z => sumZ (fun t => if hm z = t then w r z * x t else 0) N) N = sumZ (fun z => w r z * x (hm z)) N := by
      refine sumZ_congr (fun z hz => ?_)
      show sumZ (fun t => if hm z = t then w r z * x t else 0) N = w r z * x (hm z)
      rw [sumZ_one (s := hm z) (h.hom hz).1 (fun t _ hne => if_neg (fun e => hne e.symm)), if_pos rfl]
    rw [e3] at hadj
    omega
