/-! the long run: where the walks go -/
def frB (T : Nat → Int) (C : Nat → Bool) : Nat → Bool := fun r => !C r && decide (0 < T r)
theorem frB_iff {T : Nat → Int} {C : Nat → Bool} {r : Nat} : frB T C r = true ↔ C r = false ∧ 0 < T r := by
  unfold frB; simp
theorem LR.domF {N : Nat} {w : Nat → Nat → Int} {T : Nat → Int} {b : Nat → Nat → Bool} {C : Nat → Bool} {hm : Nat → Nat} (h : LR N w T b C hm) : Dom (fun r z => kA w T (frB T C) z r) (fun _ => true) N := by
  have hN := h.1
  refine ⟨fun r z hr hz _ _ hne => ?_, fun r hr _ => ?_, fun S hS hne => ?_⟩
  · show kA w T (frB T C) z r ≤ 0
    unfold kA
    have e1 : ¬ z = r := fun q => hne q.symm
    rw [if_neg e1, if_neg e1]
    have := h.2.2.2.2.2.1 r z hr hz
    split <;> omega
  · rw [bsum_all]
    show 0 ≤ sumZ (fun z => kA w T (frB T C) z r) N
    by_cases c : frB T C r = true
    · have := bsum_row (S := fun _ => true) (a := fun z => kA w T (frB T C) z r) (f := w r) (d := T r) hr rfl (fun z _ _ => by unfold kA; rw [if_pos c])
      rw [bsum_all, bsum_all, h.2.2.2.2.2.2 r hr] at this
      omega
    · have := bsum_unit (S := fun _ => true) (a := fun z => kA w T (frB T C) z r) hr rfl (fun z _ _ => by unfold kA; rw [if_neg c])
      rw [bsum_all] at this
      rw [this]; decide
  · by_cases q : ∃ r, S r = true ∧ ¬ frB T C r = true
    · obtain ⟨r, hSr, c⟩ := q
      have hr := (hS r hSr).1
      refine ⟨r, hSr, ?_⟩
      have := bsum_unit (S := S) (a := fun z => kA w T (frB T C) z r) hr hSr (fun z _ _ => by unfold kA; rw [if_neg c])
      show 0 < bsum S (fun z => kA w T (frB T C) z r) N
      rw [this]; decide
    · have all : ∀ r, S r = true → C r = false ∧ 0 < T r := fun r hSr => by
        by_cases c : frB T C r = true
        · exact frB_iff.1 c
        · exact absurd ⟨r, hSr, c⟩ q
      obtain ⟨r, hSr, hl⟩ := h.leaveP (S := S) (fun r hSr => ⟨(hS r hSr).1, (all r hSr).1⟩) hne
      have hr := (hS r hSr).1
      have ha := all r hSr
      refine ⟨r, hSr, ?_⟩
      show 0 < bsum S (fun z => kA w T (frB T C) z r) N
      rw [bsum_row (f := w r) (d := T r) hr hSr (fun z _ _ => by unfold kA; rw [if_pos (frB_iff.2 ha)])]
      unfold maxZ at hl
      rw [if_pos (by omega)] at hl
      omega
def dF (N : Nat) (w : Nat → Nat → Int) (T : Nat → Int) (C : Nat → Bool) : Int := det N (kA w T (frB T C))
/-- how often the walks from f come to the ring of s, over dF -/
def zF (N : Nat) (w : Nat → Nat → Int) (T : Nat → Int) (b : Nat → Nat → Bool) (C : Nat → Bool) (s f : Nat) : Int := det N (ud (kA w T (frB T C)) f (fun r => if b s r = true then 1 else 0))
theorem LR.dF_in {N : Nat} {w : Nat → Nat → Int} {T : Nat → Int} {b : Nat → Nat → Bool} {C : Nat → Bool} {hm : Nat → Nat} (h : LR N w T b C hm) (h6 : ∀ s, s < N → T s ≤ 6) : 1 ≤ dF N w T C ∧ dF N w T C ≤ 7776 := by
  have hN := h.1
  have h1 : 0 < dF N w T C := det_pos0 (h.domF.dets hN N (Nat.le_refl _))
  have h2 : dF N w T C ≤ prodZ (fun r => kA w T (frB T C) r r) N := h.domF.upP hN N (Nat.le_refl _)
  have h3 : prodZ (fun r => kA w T (frB T C) r r) N ≤ prodZ (fun _ => 6) N := prodZ_le (fun r hr => by
    unfold kA
    have w0 := h.2.2.2.2.2.1 r r hr hr
    have w1 : w r r ≤ T r := by
      rw [← h.2.2.2.2.2.2 r hr, sumZ_pick hr]
      have : 0 ≤ sumZ (fun t => if t = r then 0 else w r t) N := sumZ_nonneg (fun t ht => by
        show 0 ≤ (if t = r then 0 else w r t)
        split
        · exact Int.le_refl _
        · exact h.2.2.2.2.2.1 r t hr ht)
      omega
    have := h6 r hr
    rw [if_pos rfl, if_pos rfl]
    split <;> omega)
  have h4 : prodZ (fun _ => 6) N ≤ 7776 := by
    rcases (by omega : N = 0 ∨ N = 1 ∨ N = 2 ∨ N = 3 ∨ N = 4 ∨ N = 5) with rfl | rfl | rfl | rfl | rfl | rfl <;> decide
  omega
theorem LR.zF_in {N : Nat} {w : Nat → Nat → Int} {T : Nat → Int} {b : Nat → Nat → Bool} {C : Nat → Bool} {hm : Nat → Nat} (h : LR N w T b C hm) {s f : Nat} (hs : s < N) (hc : C s = true) (hf : f < N) : 0 ≤ zF N w T b C s f ∧ zF N w T b C s f ≤ dF N w T C := by
  have hN := h.1
  have hpos := h.domF.dets hN N (Nat.le_refl _)
  have hD : 0 < dF N w T C := det_pos0 hpos
  have hadj := fun r (hr : r < N) => adjP hN hpos (fun r => if b s r = true then 1 else 0) hr
  constructor
  · refine Dom.nn h.domF (z := fun t => zF N w T b C s t) (fun r hr => ?_) f hf
    have := hadj r hr
    show 0 ≤ sumZ (fun t => kA w T (frB T C) t r * det N (ud (kA w T (frB T C)) t (fun r => if b s r = true then 1 else 0))) N
    rw [this]
    exact Int.mul_nonneg (by unfold dF at hD; omega) (by show (0 : Int) ≤ if b s r = true then 1 else 0; split <;> decide)
  · have h1 := Dom.nn h.domF (z := fun t => dF N w T C - zF N w T b C s t) (fun r hr => by
      have := hadj r hr
      have e : sumZ (fun t => kA w T (frB T C) t r * (dF N w T C - zF N w T b C s t)) N = dF N w T C * sumZ (fun t => kA w T (frB T C) t r) N - dF N w T C * (if b s r = true then 1 else 0) := by
        rw [sumZ_congr (g := fun t => dF N w T C * kA w T (frB T C) t r - kA w T (frB T C) t r * zF N w T b C s t) (fun t _ => by grind), sumZ_sub, sumZ_mul]
        congr 1
      show 0 ≤ sumZ (fun t => kA w T (frB T C) t r * (dF N w T C - zF N w T b C s t)) N
      rw [e, ← Int.mul_sub]
      refine Int.mul_nonneg (by omega) ?_
      have hrs := h.domF.2.1 r hr rfl
      rw [bsum_all] at hrs
      have hrs2 : 0 ≤ sumZ (fun t => kA w T (frB T C) t r) N := hrs
      by_cases c : b s r = true
      · have cr := (h.same hs hr hc c).1
        have nf : ¬ frB T C r = true := fun q => by have := (frB_iff.1 q).1; rw [cr] at this; cases this
        have := bsum_unit (S := fun _ => true) (a := fun z => kA w T (frB T C) z r) hr rfl (fun z _ _ => by unfold kA; rw [if_neg nf])
        rw [bsum_all] at this
        rw [this, if_pos c]; decide
      · rw [if_neg c]; omega) f hf
    have h2 : 0 ≤ dF N w T C - zF N w T b C s f := h1
    omega
/-- the class's number is the sum over the rings -/
theorem LR.total {N : Nat} {w : Nat → Nat → Int} {T y : Nat → Int} {b : Nat → Nat → Bool} {C : Nat → Bool} {hm : Nat → Nat} (h : LR N w T b C hm) {F : Nat → Bool} (hF : ∀ s, s < N → (F s = true ↔ C s = true ∧ ∀ t, t < s → b s t = false)) {x : Nat → Int} (hx : x = fun t => det N (ud (lA N w T y C hm) t (lA N w T y C hm 5))) {P : Int} (hP : P = det N (lA N w T y C hm)) {f : Nat} (hf : f < N) : x (hm f) * dF N w T C = sumZ (fun s => if F s = true then x (hm s) * zF N w T b C s f else 0) N := by
  have hN := h.1
  -- the rows
  have hcr := det_cram (n := N) (i := f) hN hf (kA w T (frB T C)) (x := 1) (b := fun r => if frB T C r = true then 0 else x (hm r)) (y := fun t => x (hm t)) (fun r hr => by
    have hrow := h.rows hr hx hP
    rw [Int.one_mul]
    by_cases c : frB T C r = true
    · have hc := frB_iff.1 c
      have hr2 := hrow.2 hc.1
      have hm1 : hm r = r := h.2.2.2.1 r hr hc.1
      have mx : maxZ 1 (T r) = T r := if_pos (by omega)
      rw [mx] at hr2
      rw [if_pos c, sumZ_congr (g := fun t => (if t = r then T r * x (hm r) else 0) - w r t * x (hm t)) (fun t _ => ?_), sumZ_sub, sumZ_one hr (fun t _ hne => if_neg hne), if_pos rfl, hm1, hr2]
      · omega
      · show kA w T (frB T C) t r * x (hm t) = _
        unfold kA
        rw [if_pos c, Int.sub_mul]
        by_cases e : t = r
        · rw [if_pos e, if_pos e, e]
        · rw [if_neg e, if_neg e, Int.zero_mul]
    · rw [if_neg c, sumZ_one hr (fun t _ hne => ?_)]
      · unfold kA; rw [if_neg c, if_pos rfl, Int.one_mul]
      · unfold kA; rw [if_neg c, if_neg hne, Int.zero_mul])
  rw [Int.one_mul] at hcr
  show x (hm f) * det N (kA w T (frB T C)) = _
  rw [← hcr]
  -- the right side, ring by ring
  have hcs := det_colsum hN hf (kA w T (frB T C)) (fun s r => if b s r = true then 1 else 0) (fun s => if F s = true then x (hm s) else 0) N
  have e1 : det N (ud (kA w T (frB T C)) f (fun r => if frB T C r = true then 0 else x (hm r))) = det N (ud (kA w T (frB T C)) f (fun r => sumZ (fun s => (if b s r = true then 1 else 0) * (if F s = true then x (hm s) else 0)) N)) := det_congr hN (fun z hz r hr => by
    unfold ud
    by_cases e : z = f
    · rw [if_pos e, if_pos e]
      show (if frB T C r = true then 0 else x (hm r)) = sumZ (fun s => (if b s r = true then 1 else 0) * (if F s = true then x (hm s) else 0)) N
      by_cases cr : C r = true
      · have nf : ¬ frB T C r = true := fun q => by have := (frB_iff.1 q).1; rw [cr] at this; cases this
        rw [if_neg nf]
        obtain ⟨s0, hs0, hb0, hmin⟩ := argmin (f := fun t => (t : Int)) (p := b r) (n := N) ⟨r, hr, h.2.1.1 r hr⟩
        have hsm := h.same hr hs0 cr hb0
        have hF0 : F s0 = true := by
          rw [hF s0 hs0]
          refine ⟨hsm.1, fun t ht => ?_⟩
          by_cases q : b s0 t = true
          · have h1 := hmin t (by omega) (h.2.1.2.1 r s0 t hr hs0 (by omega) hb0 q)
            have : (s0 : Int) ≤ (t : Int) := h1
            omega
          · simpa using q
        rw [sumZ_one hs0 (fun s hs hne => ?_), if_pos hsm.2.2, if_pos hF0, Int.one_mul, hsm.2.1]
        by_cases q : b s r = true
        · by_cases q2 : F s = true
          · exfalso
            have hq := (hF s hs).1 q2
            have hq0 := (hF s0 hs0).1 hF0
            have l1 : b s s0 = true := h.2.1.2.1 s r s0 hs hr (by omega) q hb0
            have l2 : b s0 s = true := (h.same hs hs0 hq.1 l1).2.2
            rcases Nat.lt_or_gt_of_ne hne with l | l
            · have := hq0.2 s l; rw [l2] at this; cases this
            · have := hq.2 s0 l; rw [l1] at this; cases this
          · rw [if_neg q2, Int.mul_zero]
        · rw [if_neg q, Int.zero_mul]
      · have cf : C r = false := by simpa using cr
        have z0 : sumZ (fun s => (if b s r = true then 1 else 0) * (if F s = true then x (hm s) else 0)) N = 0 := sumZ_0 (fun s hs => by
          by_cases q2 : F s = true
          · by_cases q : b s r = true
            · have := (h.same hs hr ((hF s hs).1 q2).1 q).1
              rw [cf] at this; cases this
            · rw [if_neg q, Int.zero_mul]
          · rw [if_neg q2, Int.mul_zero])
        rw [z0]
        by_cases c : frB T C r = true
        · rw [if_pos c]
        · rw [if_neg c, h.2.2.2.1 r hr cf]
          have hrow := (h.rows hr hx hP).2 cf
          have T0 : T r = 0 := by
            have := (h.tot hr).1
            by_cases q : 0 < T r
            · exact absurd (frB_iff.2 ⟨cf, q⟩) c
            · omega
          have w0 := sumZ_each (fun t ht => h.2.2.2.2.2.1 r t hr ht) ((h.2.2.2.2.2.2 r hr).trans T0)
          rw [T0, sumZ_0 (fun t ht => by rw [w0 t ht, Int.zero_mul])] at hrow
          have mx : maxZ 1 0 = 1 := rfl
          rw [mx] at hrow
          omega
    · rw [if_neg e, if_neg e])
  rw [e1, hcs]
  refine sumZ_congr (fun s _ => ?_)
  show (if F s = true then x (hm s) else 0) * zF N w T b C s f = _
  split
  · rfl
  · rw [Int.zero_mul]
