/-! the long run: the class's equations, abstractly -/
/-- w weights, T totals, y pays; b what reaches what; C the states in circles; hm the homes -/
def LR (N : Nat) (w : Nat → Nat → Int) (T : Nat → Int) (b : Nat → Nat → Bool) (C : Nat → Bool) (hm : Nat → Nat) : Prop :=
  N ≤ 5 ∧ Reach N w T b ∧ (∀ s, s < N → (C s = true ↔ inC N b s)) ∧ (∀ s, s < N → C s = false → hm s = s) ∧ (∀ s, s < N → C s = true → hm s < N ∧ b s (hm s) = true ∧ ∀ t, t < N → b s t = true → t ≤ hm s) ∧ (∀ s t, s < N → t < N → 0 ≤ w s t) ∧ ∀ s, s < N → sumZ (w s) N = T s
theorem LR.same {N : Nat} {w : Nat → Nat → Int} {T : Nat → Int} {b : Nat → Nat → Bool} {C : Nat → Bool} {hm : Nat → Nat} (h : LR N w T b C hm) {s t : Nat} (hs : s < N) (ht : t < N) (hc : C s = true) (hb : b s t = true) : C t = true ∧ hm t = hm s ∧ b t s = true := by
  obtain ⟨hN, ⟨r1, r2, r3, r4, r5, r6⟩, hC, h0, h1, hw, hT⟩ := h
  have c := (hC s hs).1 hc
  have bts := c.2 t ht hb
  have ct : C t = true := by
    rw [hC t ht]
    refine ⟨?_, fun z hz hbz => ?_⟩
    · by_cases e : b t 5 = true
      · have := r2 s t 5 hs ht (by omega) hb e
        rw [c.1] at this; cases this
      · simpa using e
    · have h2 := c.2 z hz (r2 s t z hs ht (by omega) hb hbz)
      exact r2 z s t hz hs (by omega) h2 hb
  refine ⟨ct, ?_, bts⟩
  obtain ⟨a1, a2, a3⟩ := h1 s hs hc
  obtain ⟨b1, b2, b3⟩ := h1 t ht ct
  have c1 := a3 (hm t) b1 (r2 s t (hm t) hs ht (by omega) hb b2)
  have c2 := b3 (hm s) a1 (r2 t s (hm s) ht hs (by omega) bts a2)
  omega
theorem LR.edge {N : Nat} {w : Nat → Nat → Int} {T : Nat → Int} {b : Nat → Nat → Bool} {C : Nat → Bool} {hm : Nat → Nat} (h : LR N w T b C hm) {r t : Nat} (hr : r < N) (ht : t < N) (hb : b r t = false) : w r t = 0 := by
  have h1 := h.2.2.2.2.2.1 r t hr ht
  by_cases e : 0 < w r t
  · have := h.2.1.2.2.1 r t hr ht e
    rw [hb] at this; cases this
  · omega
theorem LR.tot {N : Nat} {w : Nat → Nat → Int} {T : Nat → Int} {b : Nat → Nat → Bool} {C : Nat → Bool} {hm : Nat → Nat} (h : LR N w T b C hm) {r : Nat} (hr : r < N) : 0 ≤ T r ∧ (C r = true → 0 < T r) := by
  have h0 : 0 ≤ T r := by rw [← h.2.2.2.2.2.2 r hr]; exact sumZ_nonneg (fun t ht => h.2.2.2.2.2.1 r t hr ht)
  refine ⟨h0, fun hc => ?_⟩
  by_cases e : T r = 0
  · have h1 := ((h.2.2.1 r hr).1 hc).1
    rw [h.2.1.2.2.2.1 r hr e] at h1; cases h1
  · omega
theorem LR.hom {N : Nat} {w : Nat → Nat → Int} {T : Nat → Int} {b : Nat → Nat → Bool} {C : Nat → Bool} {hm : Nat → Nat} (h : LR N w T b C hm) {s : Nat} (hs : s < N) : hm s < N ∧ C (hm s) = C s ∧ hm (hm s) = hm s ∧ b s (hm s) = true := by
  by_cases hc : C s = true
  · obtain ⟨a1, a2, a3⟩ := h.2.2.2.2.1 s hs hc
    have := h.same hs a1 hc a2
    exact ⟨a1, by rw [this.1, hc], this.2.1, a2⟩
  · have e := h.2.2.2.1 s hs (by simpa using hc)
    rw [e]; exact ⟨hs, rfl, e, h.2.1.1 s hs⟩
/-- the class's equations -/
def lA (N : Nat) (w : Nat → Nat → Int) (T y : Nat → Int) (C : Nat → Bool) (hm : Nat → Nat) (t r : Nat) : Int :=
  if C r = true then (if t = 5 then T r * y r else if t = hm r then T r else (if t = r then T r else 0) - w r t)
  else (if t = 5 then 0 else (if t = r then maxZ 1 (T r) else 0) - sumZ (fun z => if hm z = t then w r z else 0) N)
theorem lA_c {N : Nat} {w : Nat → Nat → Int} {T y : Nat → Int} {C : Nat → Bool} {hm : Nat → Nat} {t r : Nat} (hc : C r = true) (h5 : t ≠ 5) (ht : t ≠ hm r) : lA N w T y C hm t r = (if t = r then T r else 0) - w r t := by
  unfold lA; rw [if_pos hc, if_neg h5, if_neg ht]
theorem lA_h {N : Nat} {w : Nat → Nat → Int} {T y : Nat → Int} {C : Nat → Bool} {hm : Nat → Nat} {t r : Nat} (hc : C r = true) (h5 : t ≠ 5) (ht : t = hm r) : lA N w T y C hm t r = T r := by
  unfold lA; rw [if_pos hc, if_neg h5, if_pos ht]
/-- outside its circle a circle's row holds nothing -/
theorem LR.out {N : Nat} {w : Nat → Nat → Int} {T y : Nat → Int} {b : Nat → Nat → Bool} {C : Nat → Bool} {hm : Nat → Nat} (h : LR N w T b C hm) {t r : Nat} (hr : r < N) (ht : t < N) (hc : C r = true) (hb : b r t = false) : lA N w T y C hm t r = 0 := by
  have hN := h.1
  have e1 : t ≠ hm r := fun e => by rw [e, (h.hom hr).2.2.2] at hb; cases hb
  have e2 : t ≠ r := fun e => by rw [e, h.2.1.1 r hr] at hb; cases hb
  rw [lA_c hc (by omega) e1, if_neg e2, h.edge hr ht hb]; rfl
/-- passages: the column of a passage, and of a circle's state that is no home -/
theorem LR.pass {N : Nat} {w : Nat → Nat → Int} {T y : Nat → Int} {b : Nat → Nat → Bool} {C : Nat → Bool} {hm : Nat → Nat} (h : LR N w T b C hm) {t r : Nat} (hr : r < N) (ht : t < N) (hc : C r = false) : (C t = false → lA N w T y C hm t r = (if t = r then maxZ 1 (T r) else 0) - w r t) ∧ (C t = true → hm t ≠ t → lA N w T y C hm t r = 0) := by
  have hN := h.1
  have e0 : lA N w T y C hm t r = (if t = r then maxZ 1 (T r) else 0) - sumZ (fun z => if hm z = t then w r z else 0) N := by
    unfold lA; rw [if_neg (by rw [hc]; decide), if_neg (by omega)]
  rw [e0]
  refine ⟨fun hct => ?_, fun hct hne => ?_⟩
  · congr 1
    rw [sumZ_one (s := t) ht (fun z hz hne => if_neg (fun e => ?_)), if_pos (h.2.2.2.1 t ht hct)]
    by_cases cz : C z = true
    · have := (h.hom hz).2.1
      rw [e, hct, cz] at this; cases this
    · exact hne ((h.2.2.2.1 z hz (by simpa using cz)).symm.trans e)
  · rw [if_neg (fun e => by rw [e, hc] at hct; cases hct), sumZ_0 (fun z hz => if_neg (fun e => ?_))]
    · rfl
    · have := (h.hom hz).2.2.1
      rw [e] at this; exact hne this
/-- a part of a circle without some state of it is left somewhere -/
theorem LR.leave {N : Nat} {w : Nat → Nat → Int} {T : Nat → Int} {b : Nat → Nat → Bool} {C : Nat → Bool} {hm : Nat → Nat} (h : LR N w T b C hm) {S : Nat → Bool} {k h0 : Nat} (hk : k < N) (hh : h0 < N) (hS : ∀ r, S r = true → r < N ∧ C r = true ∧ b k r = true) (hck : C k = true) (hb : b k h0 = true) (hn : S h0 = false) (hne : ∃ r, S r = true) : ∃ r, S r = true ∧ bsum S (w r) N < T r := by
  by_cases q : ∃ r, S r = true ∧ bsum S (w r) N < T r
  · exact q
  exfalso
  have hN := h.1
  have cl : ∀ x y, x < N → y < N → S x = true → 0 < w x y → S y = true := by
    intro x y hx hy hSx he
    by_cases e : S y = true
    · exact e
    exfalso
    have h1 : ¬ bsum S (w x) N < T x := fun l => q ⟨x, hSx, l⟩
    have h2 : sumZ (fun t => (if S t = true then w x t else 0) + (if S t = true then 0 else w x t)) N = T x := by
      rw [← h.2.2.2.2.2.2 x hx]
      exact sumZ_congr (fun t _ => by by_cases c : S t = true <;> simp [c])
    rw [sumZ_add] at h2
    unfold bsum at h1
    have h3 : sumZ (fun t => if S t = true then 0 else w x t) N = 0 := by
      have : 0 ≤ sumZ (fun t => if S t = true then 0 else w x t) N := sumZ_nonneg (fun t ht => by
        show 0 ≤ (if S t = true then 0 else w x t)
        split
        · exact Int.le_refl _
        · exact h.2.2.2.2.2.1 x t hx ht)
      omega
    have h4 := sumZ_each (f := fun t => if S t = true then 0 else w x t) (fun t ht => by
      show 0 ≤ (if S t = true then 0 else w x t)
      split
      · exact Int.le_refl _
      · exact h.2.2.2.2.2.1 x t hx ht) h3 y hy
    rw [if_neg e] at h4
    omega
  obtain ⟨r, hr⟩ := hne
  obtain ⟨hrN, hrC, hbr⟩ := hS r hr
  have h5 := (h.same hk hrN hck hbr).2.2
  have h6 := h.2.1.2.1 r k h0 hrN hk (by omega) h5 hb
  have h7 := h.2.1.2.2.2.2.1 (fun z => S z = true) cl r h0 hrN hh h6 hr
  rw [hn] at h7; cases h7
theorem cB_lt {p q : Nat → Bool} {c0 : Nat} : ∀ {n : Nat}, (∀ c, c < n → p c = true → q c = true) → c0 < n → q c0 = true → p c0 = false → cB p n < cB q n
  | 0, _, h, _, _ => by omega
  | n + 1, h, hc, hq, hp => by
    unfold cB
    by_cases e : c0 = n
    · subst e
      have : ∀ m, m ≤ c0 → cB p m ≤ cB q m := by
        intro m
        induction m with
        | zero => intro _; exact Nat.le_refl _
        | succ m ih =>
          intro hm
          have ih := ih (by omega)
          unfold cB
          by_cases c : p m = true
          · rw [if_pos c, if_pos (h m (by omega) c)]; omega
          · rw [if_neg c]; omega
      have := this c0 (Nat.le_refl _)
      rw [hp, hq, if_neg (by decide), if_pos rfl]; omega
    · have ih := cB_lt (n := n) (fun c hc => h c (by omega)) (by omega) hq hp
      by_cases c : p n = true
      · rw [if_pos c, if_pos (h n (by omega) c)]; omega
      · rw [if_neg c]; omega
/-- passages are left somewhere -/
theorem LR.leaveP {N : Nat} {w : Nat → Nat → Int} {T : Nat → Int} {b : Nat → Nat → Bool} {C : Nat → Bool} {hm : Nat → Nat} (h : LR N w T b C hm) {S : Nat → Bool} (hS : ∀ r, S r = true → r < N ∧ C r = false) (hne : ∃ r, S r = true) : ∃ r, S r = true ∧ bsum S (w r) N < maxZ 1 (T r) := by
  by_cases q : ∃ r, S r = true ∧ bsum S (w r) N < maxZ 1 (T r)
  · exact q
  exfalso
  have hN := h.1
  have key : ∀ x, S x = true → 1 ≤ T x ∧ ∀ y, y < N → 0 < w x y → S y = true := by
    intro x hSx
    have hx := (hS x hSx).1
    have h1 : ¬ bsum S (w x) N < maxZ 1 (T x) := fun l => q ⟨x, hSx, l⟩
    have h2 : sumZ (fun t => (if S t = true then w x t else 0) + (if S t = true then 0 else w x t)) N = T x := by
      rw [← h.2.2.2.2.2.2 x hx]
      exact sumZ_congr (fun t _ => by by_cases c : S t = true <;> simp [c])
    rw [sumZ_add] at h2
    unfold bsum at h1
    have nn : ∀ t, t < N → 0 ≤ (if S t = true then 0 else w x t) := fun t ht => by
      split
      · exact Int.le_refl _
      · exact h.2.2.2.2.2.1 x t hx ht
    have h3 : 0 ≤ sumZ (fun t => if S t = true then 0 else w x t) N := sumZ_nonneg nn
    have h4 : 1 ≤ maxZ 1 (T x) ∧ T x ≤ maxZ 1 (T x) := by unfold maxZ; split <;> omega
    refine ⟨by omega, fun y hy he => ?_⟩
    by_cases e : S y = true
    · exact e
    exfalso
    have h5 := sumZ_each nn (by omega) y hy
    rw [if_neg e] at h5
    omega
  have cl : ∀ x y, x < N → y < N → S x = true → 0 < w x y → S y = true := fun x y _ hy hSx he => (key x hSx).2 y hy he
  obtain ⟨r0, hr0⟩ := hne
  obtain ⟨r, hrN, hSr, hmin⟩ := argmin (f := fun s => ((cB (b s) N : Nat) : Int)) (p := S) (n := N) ⟨r0, (hS r0 hr0).1, hr0⟩
  have inS : ∀ t, t < N → b r t = true → S t = true := fun t ht hb => h.2.1.2.2.2.2.1 (fun z => S z = true) cl r t hrN ht hb hSr
  have hc : C r = true := by
    rw [h.2.2.1 r hrN]
    refine ⟨?_, fun t ht hb => ?_⟩
    · by_cases e : b r 5 = true
      · obtain ⟨t, t1, t2, t3⟩ := h.2.1.2.2.2.2.2 r hrN e
        have := (key t (inS t t1 t2)).1
        omega
      · simpa using e
    · by_cases e : b t r = true
      · exact e
      exfalso
      have h1 := hmin t ht (inS t ht hb)
      have h2 := cB_lt (p := b t) (q := b r) (c0 := r) (n := N) (fun c hc hbc => h.2.1.2.1 r t c hrN ht (by omega) hb hbc) hrN (h.2.1.1 r hrN) (by simpa using e)
      omega
  have := (hS r hSr).2
  rw [hc] at this; cases this
theorem bsum_le_all {S : Nat → Bool} {f : Nat → Int} {N : Nat} (h : ∀ t, t < N → 0 ≤ f t) : bsum S f N ≤ sumZ f N := by
  unfold bsum
  refine sumZ_le (fun t ht => ?_)
  show (if S t = true then f t else 0) ≤ f t
  split
  · exact Int.le_refl _
  · exact h t ht
theorem bsum_row {S : Nat → Bool} {a f : Nat → Int} {d : Int} {r N : Nat} (hr : r < N) (hSr : S r = true) (h : ∀ t, t < N → S t = true → a t = (if t = r then d else 0) - f t) : bsum S a N = d - bsum S f N := by
  unfold bsum
  rw [sumZ_congr (g := fun t => (if t = r then d else 0) - (if S t = true then f t else 0)) (fun t ht => ?_), sumZ_sub, sumZ_one hr (fun t _ hne => if_neg hne), if_pos rfl]
  by_cases c : S t = true
  · rw [if_pos c, if_pos c]; exact h t ht c
  · rw [if_neg c, if_neg c, if_neg (fun e => c (by rw [e]; exact hSr))]; rfl
/-- a circle without its home -/
def rgB (b : Nat → Nat → Bool) (C : Nat → Bool) (hm : Nat → Nat) (k : Nat) : Nat → Bool := fun t => C t && b k t && decide (t ≠ hm k)
theorem LR.domR {N : Nat} {w : Nat → Nat → Int} {T y : Nat → Int} {b : Nat → Nat → Bool} {C : Nat → Bool} {hm : Nat → Nat} (h : LR N w T b C hm) {k : Nat} (hk : k < N) (hck : C k = true) : Dom (fun r t => lA N w T y C hm t r) (rgB b C hm k) N := by
  have hN := h.1
  have un : ∀ t, t < N → rgB b C hm k t = true → C t = true ∧ b k t = true ∧ t ≠ hm k ∧ hm t = hm k := fun t ht q => by
    unfold rgB at q
    simp only [Bool.and_eq_true, decide_eq_true_eq] at q
    exact ⟨q.1.1, q.1.2, q.2, (h.same hk ht hck q.1.2).2.1⟩
  have row : ∀ (S : Nat → Bool) r, r < N → S r = true → (∀ t, t < N → S t = true → rgB b C hm k t = true) → bsum S (fun t => lA N w T y C hm t r) N = T r - bsum S (w r) N := by
    intro S r hr hSr hS
    have ur := un r hr (hS r hr hSr)
    exact bsum_row hr hSr (fun t ht hSt => by
      have ut := un t ht (hS t ht hSt)
      exact lA_c ur.1 (by omega) (by rw [ur.2.2.2]; exact ut.2.2.1))
  refine ⟨fun r t hr ht hbr hbt hne => ?_, fun r hr hbr => ?_, fun S hS hne => ?_⟩
  · have ur := un r hr hbr
    have ut := un t ht hbt
    show lA N w T y C hm t r ≤ 0
    rw [lA_c ur.1 (by omega) (by rw [ur.2.2.2]; exact ut.2.2.1), if_neg (fun e => hne e.symm)]
    have := h.2.2.2.2.2.1 r t hr ht
    omega
  · show 0 ≤ bsum (rgB b C hm k) (fun t => lA N w T y C hm t r) N
    rw [row _ r hr hbr (fun t _ q => q)]
    have h1 := bsum_le_all (S := rgB b C hm k) (f := w r) (N := N) (fun t ht => h.2.2.2.2.2.1 r t hr ht)
    rw [h.2.2.2.2.2.2 r hr] at h1
    omega
  · have hh := h.hom hk
    obtain ⟨r, hr, hl⟩ := h.leave (S := S) (k := k) (h0 := hm k) hk hh.1 (fun r hr => by
      have := hS r hr
      have ur := un r this.1 this.2
      exact ⟨this.1, ur.1, ur.2.1⟩) hck hh.2.2.2 (by
      by_cases e : S (hm k) = true
      · have := hS _ e
        exact absurd rfl (un _ this.1 this.2).2.2.1
      · simpa using e) hne
    refine ⟨r, hr, ?_⟩
    show 0 < bsum S (fun t => lA N w T y C hm t r) N
    rw [row S r (hS r hr).1 hr (fun t _ q => (hS t q).2)]
    omega
theorem LR.domP {N : Nat} {w : Nat → Nat → Int} {T y : Nat → Int} {b : Nat → Nat → Bool} {C : Nat → Bool} {hm : Nat → Nat} (h : LR N w T b C hm) : Dom (fun r t => lA N w T y C hm t r) (fun t => !C t) N := by
  have hN := h.1
  have un : ∀ t, (!C t) = true → C t = false := fun t q => by simpa using q
  have row : ∀ (S : Nat → Bool) r, r < N → S r = true → (∀ t, t < N → S t = true → C t = false) → bsum S (fun t => lA N w T y C hm t r) N = maxZ 1 (T r) - bsum S (w r) N := by
    intro S r hr hSr hS
    exact bsum_row hr hSr (fun t ht hSt => (h.pass hr ht (hS r hr hSr)).1 (hS t ht hSt))
  have hmx : ∀ r, T r ≤ maxZ 1 (T r) := fun r => by unfold maxZ; split <;> omega
  refine ⟨fun r t hr ht hbr hbt hne => ?_, fun r hr hbr => ?_, fun S hS hne => ?_⟩
  · show lA N w T y C hm t r ≤ 0
    rw [(h.pass hr ht (un r hbr)).1 (un t hbt), if_neg (fun e => hne e.symm)]
    have := h.2.2.2.2.2.1 r t hr ht
    omega
  · show 0 ≤ bsum (fun t => !C t) (fun t => lA N w T y C hm t r) N
    rw [row _ r hr hbr (fun t _ q => un t q)]
    have h1 := bsum_le_all (S := fun t => !C t) (f := w r) (N := N) (fun t ht => h.2.2.2.2.2.1 r t hr ht)
    rw [h.2.2.2.2.2.2 r hr] at h1
    have := hmx r
    omega
  · obtain ⟨r, hr, hl⟩ := h.leaveP (S := S) (fun r hr => ⟨(hS r hr).1, un r (hS r hr).2⟩) hne
    refine ⟨r, hr, ?_⟩
    show 0 < bsum S (fun t => lA N w T y C hm t r) N
    rw [row S r (hS r hr).1 hr (fun t _ q => un t (hS t q).2)]
    omega
