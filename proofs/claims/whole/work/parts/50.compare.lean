/-! plans compared -/
theorem WW.keep1 {G G' : GT} {N : Nat} (h : WW G N) (e : ∀ a, 1 ≤ a ∧ a ≤ 21 → G' a = G a) : WW G' N := by
  obtain ⟨h1, h2, h3, h4, h5, h6, h7⟩ := h
  refine ⟨by rw [e 1 (by omega)]; exact h1, h2, ⟨by rw [e 1 (by omega)]; exact h3.1, by rw [e 1 (by omega)]; exact h3.2.1, by rw [e 1 (by omega)]; exact h3.2.2.1, fun q hq => by rw [e (7 + q) (by omega), e 5 (by omega)]; exact h3.2.2.2 q hq⟩, fun s hs => by rw [e 3 (by omega)]; exact h4 s hs, fun q hq => by rw [e 4 (by omega), e 5 (by omega)]; exact h5 q hq, fun q t hq ht => by rw [e (7 + q) (by omega)]; exact h6 q t hq ht, fun s hs => by rw [e 2 (by omega)]; exact h7 s hs⟩
/-- what the act a of state r leaves over by the worths of the plan f -/
def rs (G : GT) (N : Nat) (f : Nat → Nat) (r a : Nat) : Int := wL G N f * plA G (fun _ => a) 5 r - sumZ (fun t => plA G (fun _ => a) t r * wU G N f t) N
theorem rs_self {G : GT} {N : Nat} {f : Nat → Nat} (hw : WW G N) (hf : ∀ r, r < N → f r ≤ 2) {r : Nat} (hr : r < N) : rs G N f r (f r) = 0 := by
  have h := adjP hw.2.1 ((plA_PM hw hf).pos hw.2.1 N (Nat.le_refl _)) (plA G f 5) hr
  have e : sumZ (fun t => plA G (fun _ => f r) t r * wU G N f t) N = wL G N f * plA G (fun _ => f r) 5 r := h
  unfold rs
  rw [e]; omega
theorem cmp_core {G : GT} {N : Nat} {f g : Nat → Nat} (hw : WW G N) (hf : ∀ r, r < N → f r ≤ 2) (hg : ∀ r, r < N → g r ≤ 2) (c : Int) (h : ∀ r, r < N → 0 ≤ c * rs G N f r (g r)) : ∀ s, s < N → 0 ≤ c * (wL G N f * wU G N g s - wL G N g * wU G N f s) ∧ (0 < c * rs G N f s (g s) → 0 < c * (wL G N f * wU G N g s - wL G N g * wU G N f s)) := by
  have hN := hw.2.1
  have hM := plA_PM hw hg
  have hLg := (w_in hw hg).1
  have e : ∀ r, r < N → sumZ (fun t => plA G g t r * (c * (wL G N f * wU G N g t - wL G N g * wU G N f t))) N = wL G N g * (c * rs G N f r (g r)) := by
    intro r hr
    have h1 : sumZ (fun t => plA G g t r * wU G N g t) N = wL G N g * plA G g 5 r := adjP hN (hM.pos hN N (Nat.le_refl _)) (plA G g 5) hr
    have h2 : rs G N f r (g r) = wL G N f * plA G g 5 r - sumZ (fun t => plA G g t r * wU G N f t) N := rfl
    rw [sumZ_congr (g := fun t => (c * wL G N f) * (plA G g t r * wU G N g t) - (c * wL G N g) * (plA G g t r * wU G N f t)) (fun t _ => by grind), sumZ_sub, sumZ_mul, sumZ_mul, h1, h2]
    grind
  have hz := hM.nonneg (Nat.le_refl N) (z := fun t => c * (wL G N f * wU G N g t - wL G N g * wU G N f t)) (fun r hr => by
    show 0 ≤ sumZ (fun t => plA G g t r * (c * (wL G N f * wU G N g t - wL G N g * wU G N f t))) N
    rw [e r hr]; exact Int.mul_nonneg (by omega) (h r hr))
  intro s hs
  have hzs : 0 ≤ c * (wL G N f * wU G N g s - wL G N g * wU G N f s) := hz s hs
  refine ⟨hzs, fun hp => ?_⟩
  by_cases hpos : 0 < c * (wL G N f * wU G N g s - wL G N g * wU G N f s)
  · exact hpos
  exfalso
  have h0 : c * (wL G N f * wU G N g s - wL G N g * wU G N f s) = 0 := by omega
  have h1 := e s hs
  have h2 : 0 < wL G N g * (c * rs G N f s (g s)) := Int.mul_pos (by omega) hp
  have h3 : sumZ (fun t => plA G g t s * (c * (wL G N f * wU G N g t - wL G N g * wU G N f t))) N ≤ sumZ (fun _ => 0) N := by
    refine sumZ_le (fun t ht => ?_)
    by_cases et : t = s
    · subst et; rw [h0, Int.mul_zero]; exact Int.le_refl _
    · exact Int.mul_nonpos_of_nonpos_of_nonneg ((hM s hs).1 t ht et) (hz t ht)
  rw [sumZ_0 (f := fun _ => 0) (fun _ _ => rfl)] at h3
  omega
def sgB (b : Int) : Int := if b = 0 then 1 else -1
/-- the side b likes y no less than x -/
def bq (b : Int) (x y : Rat) : Prop := if b = 0 then x ≤ y else y ≤ x
theorem bq_refl (b : Int) (x : Rat) : bq b x x := by unfold bq; split <;> exact Rat.le_refl
theorem bq_trans {b : Int} {x y z : Rat} (h1 : bq b x y) (h2 : bq b y z) : bq b x z := by
  unfold bq at *
  split
  · next e => rw [if_pos e] at h1 h2; exact Rat.le_trans h1 h2
  · next e => rw [if_neg e] at h1 h2; exact Rat.le_trans h2 h1
theorem bq_anti {b : Int} {x y : Rat} (h1 : bq b x y) (h2 : bq b y x) : x = y := by
  unfold bq at *
  by_cases e : b = 0
  · rw [if_pos e] at h1 h2; exact Rat.le_antisymm h1 h2
  · rw [if_neg e] at h1 h2; exact Rat.le_antisymm h2 h1
theorem cmpB {G : GT} {N : Nat} {f g : Nat → Nat} (hw : WW G N) (hf : ∀ r, r < N → f r ≤ 2) (hg : ∀ r, r < N → g r ≤ 2) {b : Int} (h : ∀ r, r < N → 0 ≤ sgB b * rs G N f r (g r)) : ∀ s, s < N → bq b (vq G N f s) (vq G N g s) ∧ (0 < sgB b * rs G N f s (g s) → vq G N f s ≠ vq G N g s) := by
  intro s hs
  have h1 := cmp_core hw hf hg (sgB b) h s hs
  have hLf := (w_in hw hf).1
  have hLg := (w_in hw hg).1
  have c1 : wL G N f * wU G N g s = wU G N g s * wL G N f := Int.mul_comm _ _
  have c2 : wL G N g * wU G N f s = wU G N f s * wL G N g := Int.mul_comm _ _
  rw [c1, c2] at h1
  unfold bq vq sgB at *
  by_cases e : b = 0
  · rw [if_pos e] at h1 ⊢
    rw [fr_le (by omega) (by omega)]
    refine ⟨by omega, fun hp => ?_⟩
    rw [if_pos e] at hp
    have h2 := h1.2 hp
    intro q
    rw [fr_eq (by omega) (by omega)] at q
    omega
  · rw [if_neg e] at h1 ⊢
    rw [fr_le (by omega) (by omega)]
    refine ⟨by omega, fun hp => ?_⟩
    rw [if_neg e] at hp
    have h2 := h1.2 hp
    intro q
    rw [fr_eq (by omega) (by omega)] at q
    omega
/-- equal worths in all states: nothing is left over -/
theorem rs_eq {G : GT} {N : Nat} {f g : Nat → Nat} (hw : WW G N) (hf : ∀ r, r < N → f r ≤ 2) (hg : ∀ r, r < N → g r ≤ 2) (h : ∀ s, s < N → vq G N f s = vq G N g s) {r : Nat} (hr : r < N) : rs G N f r (g r) = 0 := by
  have hN := hw.2.1
  have hLf := (w_in hw hf).1
  have hLg := (w_in hw hg).1
  have h1 : sumZ (fun t => plA G g t r * wU G N g t) N = wL G N g * plA G g 5 r := adjP hN ((plA_PM hw hg).pos hN N (Nat.le_refl _)) (plA G g 5) hr
  have h2 : rs G N f r (g r) = wL G N f * plA G g 5 r - sumZ (fun t => plA G g t r * wU G N f t) N := rfl
  have h3 : wL G N g * sumZ (fun t => plA G g t r * wU G N f t) N = wL G N f * sumZ (fun t => plA G g t r * wU G N g t) N := by
    rw [← sumZ_mul, ← sumZ_mul]
    refine sumZ_congr (fun t ht => ?_)
    have h4 : wU G N f t * wL G N g = wU G N g t * wL G N f := (fr_eq (by omega) (by omega)).1 (h t ht)
    grind
  have h5 : wL G N g * rs G N f r (g r) = 0 := by rw [h2, Int.mul_sub, h3, h1]; grind
  rcases Int.mul_eq_zero.1 h5 with h6 | h6
  · omega
  · exact h6
theorem rs_0 {G : GT} {N : Nat} {f g : Nat → Nat} (hw : WW G N) (hf : ∀ r, r < N → f r ≤ 2) (hg : ∀ r, r < N → g r ≤ 2) (h : ∀ r, r < N → rs G N f r (g r) = 0) : ∀ s, s < N → vq G N f s = vq G N g s := fun s hs =>
  bq_anti (b := 0) (cmpB (b := 0) hw hf hg (fun r hr => by rw [h r hr, Int.mul_zero]; exact Int.le_refl _) s hs).1 (by
    have := (cmpB (b := 1) hw hf hg (fun r hr => by rw [h r hr, Int.mul_zero]; exact Int.le_refl _) s hs).1
    unfold bq at *
    rw [if_neg (by decide)] at this
    rw [if_pos rfl]; exact this)
theorem plA_congr {G G' : GT} (e : ∀ b, 1 ≤ b ∧ b ≤ 21 → G' b = G b) {f g : Nat → Nat} {N : Nat} (hN : N ≤ 5) (hf : ∀ r, r < N → f r ≤ 2) (h : ∀ r, r < N → f r = g r) {t r : Nat} (hr : r < N) : plA G' f t r = plA G g t r := by
  have := hf r hr
  unfold plA scaleZ
  rw [h r hr, e 1 (by omega), e 5 (by omega), e 4 (by omega), e (7 + (r * 3 + g r)) (by have := h r hr; omega)]
theorem w_congr {G G' : GT} (e : ∀ b, 1 ≤ b ∧ b ≤ 21 → G' b = G b) {f g : Nat → Nat} {N : Nat} (hN : N ≤ 5) (hf : ∀ r, r < N → f r ≤ 2) (h : ∀ r, r < N → f r = g r) : wL G' N f = wL G N g ∧ ∀ s, wU G' N f s = wU G N g s :=
  ⟨det_congr hN (fun t ht r hr => plA_congr e hN hf h hr), fun s => det_congr hN (fun t ht r hr => by
    unfold ud
    split
    · exact plA_congr e hN hf h hr
    · exact plA_congr e hN hf h hr)⟩
theorem vq_congr {G : GT} {f g : Nat → Nat} {N : Nat} (hN : N ≤ 5) (hf : ∀ r, r < N → f r ≤ 2) (h : ∀ r, r < N → f r = g r) (s : Nat) : vq G N f s = vq G N g s := by
  have := w_congr (G := G) (G' := G) (fun _ _ => rfl) hN hf h
  unfold vq; rw [this.1, this.2]
theorem rs_congr {G G' : GT} (e : ∀ b, 1 ≤ b ∧ b ≤ 21 → G' b = G b) {f g : Nat → Nat} {N : Nat} (hN : N ≤ 5) (hf : ∀ r, r < N → f r ≤ 2) (h : ∀ r, r < N → f r = g r) {r a : Nat} (hr : r < N) (ha : a ≤ 2) : rs G' N f r a = rs G N g r a := by
  have h1 := w_congr e hN hf h
  unfold rs
  rw [h1.1, plA_congr e hN (f := fun _ => a) (g := fun _ => a) (fun _ _ => ha) (fun _ _ => rfl) hr]
  rw [sumZ_congr (fun t ht => by rw [h1.2, plA_congr e hN (f := fun _ => a) (g := fun _ => a) (fun _ _ => ha) (fun _ _ => rfl) hr])]
/-! ranks -/
noncomputable def cntP (p : Nat → Prop) : Nat → Nat
  | 0 => 0
  | n + 1 => cntP p n + @ite Nat (p n) (Classical.propDecidable _) 1 0
theorem cntP_le (p : Nat → Prop) : ∀ n, cntP p n ≤ n
  | 0 => Nat.le_refl _
  | n + 1 => by have := cntP_le p n; unfold cntP; split <;> omega
theorem cntP_mono {p q : Nat → Prop} : ∀ n, (∀ c, c < n → p c → q c) → cntP p n ≤ cntP q n
  | 0, _ => Nat.le_refl _
  | n + 1, h => by
    have ih := cntP_mono n (fun c hc => h c (by omega))
    unfold cntP
    by_cases hp : p n
    · rw [if_pos hp, if_pos (h n (by omega) hp)]; omega
    · rw [if_neg hp]; omega
theorem cntP_lt {p q : Nat → Prop} {c0 : Nat} : ∀ n, (∀ c, c < n → p c → q c) → c0 < n → q c0 → ¬ p c0 → cntP p n < cntP q n
  | 0, _, h, _, _ => by omega
  | n + 1, h, hc, hq, hp => by
    unfold cntP
    by_cases e : c0 = n
    · subst e
      have := cntP_mono c0 (fun c hc => h c (by omega))
      rw [if_neg hp, if_pos hq]; omega
    · have ih := cntP_lt n (fun c hc => h c (by omega)) (by omega) hq hp
      by_cases hp2 : p n
      · rw [if_pos hp2, if_pos (h n (by omega) hp2)]; omega
      · rw [if_neg hp2]; omega
def dg (c s : Nat) : Nat := c / 3 ^ s % 3
theorem dg_in (c s : Nat) : dg c s ≤ 2 := by unfold dg; omega
theorem dg5 {a b c d e : Nat} (ha : a ≤ 2) (hb : b ≤ 2) (hc : c ≤ 2) (hd : d ≤ 2) (he : e ≤ 2) : dg (a + 3 * b + 9 * c + 27 * d + 81 * e) 0 = a ∧ dg (a + 3 * b + 9 * c + 27 * d + 81 * e) 1 = b ∧ dg (a + 3 * b + 9 * c + 27 * d + 81 * e) 2 = c ∧ dg (a + 3 * b + 9 * c + 27 * d + 81 * e) 3 = d ∧ dg (a + 3 * b + 9 * c + 27 * d + 81 * e) 4 = e := by
  unfold dg
  rw [show 3 ^ 0 = 1 from rfl, show 3 ^ 1 = 3 from rfl, show 3 ^ 2 = 9 from rfl, show 3 ^ 3 = 27 from rfl, show 3 ^ 4 = 81 from rfl]
  omega
theorem dg_code {f : Nat → Nat} {N : Nat} (hN : N ≤ 5) (hf : ∀ r, r < N → f r ≤ 2) : ∃ c, c < 243 ∧ ∀ s, s < N → dg c s = f s := by
  have hg : ∀ s, (if s < N then f s else 0) ≤ 2 := fun s => by
    by_cases h : s < N
    · rw [if_pos h]; exact hf s h
    · rw [if_neg h]; omega
  have h0 := hg 0
  have h1 := hg 1
  have h2 := hg 2
  have h3 := hg 3
  have h4 := hg 4
  have h := dg5 h0 h1 h2 h3 h4
  refine ⟨(if 0 < N then f 0 else 0) + 3 * (if 1 < N then f 1 else 0) + 9 * (if 2 < N then f 2 else 0) + 27 * (if 3 < N then f 3 else 0) + 81 * (if 4 < N then f 4 else 0), ?_, fun s hs => ?_⟩
  · omega
  · rcases (by omega : s = 0 ∨ s = 1 ∨ s = 2 ∨ s = 3 ∨ s = 4) with rfl | rfl | rfl | rfl | rfl
    · exact h.1.trans (if_pos hs)
    · exact h.2.1.trans (if_pos hs)
    · exact h.2.2.1.trans (if_pos hs)
    · exact h.2.2.2.1.trans (if_pos hs)
    · exact h.2.2.2.2.trans (if_pos hs)
noncomputable def rank (G : GT) (N : Nat) (b : Int) (f : Nat → Nat) : Nat := cntP (fun c => ∀ s, s < N → bq b (vq G N (dg c) s) (vq G N f s)) 243
theorem rank_step {G : GT} {N : Nat} {b : Int} {f g : Nat → Nat} (hN : N ≤ 5) (hg : ∀ r, r < N → g r ≤ 2) (h : ∀ s, s < N → bq b (vq G N f s) (vq G N g s)) (hs : ∃ s, s < N ∧ vq G N f s ≠ vq G N g s) : rank G N b f < rank G N b g := by
  obtain ⟨c0, hc, hd⟩ := dg_code hN hg
  obtain ⟨s0, hs0, hne⟩ := hs
  have e := fun s => vq_congr (G := G) hN (fun r _ => dg_in c0 r) hd s
  refine cntP_lt 243 (fun c _ hp s hs => bq_trans (hp s hs) (h s hs)) hc (fun s hs => by rw [e s]; exact bq_refl _ _) (fun q => hne ?_)
  have h1 := q s0 hs0
  rw [e s0] at h1
  exact bq_anti (h s0 hs0) h1
theorem rank_pos {G : GT} {N : Nat} {b : Int} {f : Nat → Nat} (hN : N ≤ 5) (hf : ∀ r, r < N → f r ≤ 2) : 1 ≤ rank G N b f := by
  obtain ⟨c0, hc, hd⟩ := dg_code hN hf
  have e := fun s => vq_congr (G := G) hN (fun r _ => dg_in c0 r) hd s
  have h := cntP_lt (p := fun _ => False) (q := fun c => ∀ s, s < N → bq b (vq G N (dg c) s) (vq G N f s)) 243 (fun _ _ h => h.elim) hc (fun s _ => by rw [e s]; exact bq_refl _ _) (fun h => h)
  show 1 ≤ cntP _ 243
  omega
theorem rank_le {G : GT} {N : Nat} {b : Int} {f : Nat → Nat} : rank G N b f ≤ 243 := cntP_le _ _
