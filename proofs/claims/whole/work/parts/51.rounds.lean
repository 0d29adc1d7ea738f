/-! plans made better: the rounds come to their end -/
theorem lik_all {G : GT} {N s held u : Nat} : ∀ A, ∃ a : Nat, (likS G N s held u A).1 = (a : Int) ∧ (likS G N s held u A).2 = comesZ G N (s * 3 + a) u ∧ sgB (G 2 s) * comesZ G N (s * 3 + held) u ≤ sgB (G 2 s) * comesZ G N (s * 3 + a) u ∧ (∀ a', a' < A → sgB (G 2 s) * comesZ G N (s * 3 + a') u ≤ sgB (G 2 s) * comesZ G N (s * 3 + a) u) ∧ (a = held ∨ (a < A ∧ sgB (G 2 s) * comesZ G N (s * 3 + held) u < sgB (G 2 s) * comesZ G N (s * 3 + a) u))
  | 0 => ⟨held, rfl, rfl, Int.le_refl _, fun a' h => by omega, Or.inl rfl⟩
  | A + 1 => by
    obtain ⟨a, h1, h2, h3, h4, h5⟩ := lik_all (G := G) (N := N) (s := s) (held := held) (u := u) A
    have hk : (likesZ G s (comesZ G N (s * 3 + A) u) (likS G N s held u A).2 = 1) ↔ sgB (G 2 s) * comesZ G N (s * 3 + a) u < sgB (G 2 s) * comesZ G N (s * 3 + A) u := by
      rw [h2]; unfold likesZ sgB
      by_cases e : G 2 s = 0
      · rw [if_pos e, if_pos e]; split <;> omega
      · rw [if_neg e, if_neg e]; split <;> omega
    unfold likS
    by_cases c : likesZ G s (comesZ G N (s * 3 + A) u) (likS G N s held u A).2 = 1
    · rw [if_pos c]
      rw [hk] at c
      refine ⟨A, rfl, rfl, by omega, fun a' h => ?_, Or.inr ⟨by omega, by omega⟩⟩
      by_cases e : a' = A
      · rw [e]; exact Int.le_refl _
      · have := h4 a' (by omega); omega
    · rw [if_neg c]
      rw [hk] at c
      refine ⟨a, h1, h2, h3, fun a' h => ?_, h5.imp id (fun q => ⟨by omega, q.2⟩)⟩
      by_cases e : a' = A
      · rw [e]; omega
      · exact h4 a' (by omega)
theorem td60_k {T : Int} (h0 : 1 ≤ T) (h6 : T ≤ 6) : Int.tdiv 60 T * T = 60 ∧ 0 < Int.tdiv 60 T := by
  rcases (by omega : T = 1 ∨ T = 2 ∨ T = 3 ∨ T = 4 ∨ T = 5 ∨ T = 6) with rfl | rfl | rfl | rfl | rfl | rfl <;> exact ⟨by decide, by decide⟩
/-- the numbers of cells u, u + 1 are the worths of the plan f -/
def SolA (H : GT) (N u : Nat) (f : Nat → Nat) : Prop := H u 1 = wL H N f ∧ ∀ s, s < N → H (u + 1) s = wU H N f s
theorem com_rs {H : GT} {N u r a : Nat} {f : Nat → Nat} (hw : WW H N) (hs : SolA H N u f) (hr : r < N) (ha : a ≤ 2) : comesZ H N (r * 3 + a) u = stepZ H * wU H N f r + Int.tdiv 60 (maxZ 1 (H 5 (r * 3 + a))) * rs H N f r a := by
  have hN := hw.2.1
  have hq : r * 3 + a < 15 := by omega
  have h5 := hw.2.2.2.2.1 _ hq
  have e1 : sumZ (fun t => plA H (fun _ => a) t r * wU H N f t) N = scaleZ H (r * 3 + a) * wU H N f r - H 1 1 * sumZ (fun t => H (7 + (r * 3 + a)) t * wU H N f t) N := by
    rw [sumZ_congr (g := fun t => (if t = r then scaleZ H (r * 3 + a) * wU H N f r else 0) - H 1 1 * (H (7 + (r * 3 + a)) t * wU H N f t)) (fun t ht => ?_), sumZ_sub, sumZ_mul, sumZ_one hr (fun t _ hne => if_neg hne), if_pos rfl]
    unfold plA
    rw [if_neg (by omega)]
    by_cases e : t = r
    · subst e; rw [if_pos rfl, if_pos rfl, Int.sub_mul, Int.mul_assoc]
    · rw [if_neg e, if_neg e, Int.sub_mul, Int.zero_mul, Int.mul_assoc]
  have e2 : plA H (fun _ => a) 5 r = scaleZ H (r * 3 + a) * H 4 (r * 3 + a) := if_pos rfl
  unfold rs comesZ
  rw [e1, e2, hs.1, sumZ_congr (g := fun t => H (7 + (r * 3 + a)) t * wU H N f t) (fun t ht => by rw [hs.2 t ht])]
  by_cases h0 : H 5 (r * 3 + a) = 0
  · rw [if_pos h0]
    rw [sumZ_0 (f := fun t => H (7 + (r * 3 + a)) t * wU H N f t) (fun t ht => by rw [hw.none hq h0 (by omega), Int.zero_mul])]
    unfold scaleZ maxZ stepZ
    rw [h0, if_neg (by decide), show Int.tdiv 60 1 = 60 from rfl]
    grind
  · rw [if_neg h0]
    have hk := td60_k (T := H 5 (r * 3 + a)) (by omega) (by omega)
    unfold scaleZ maxZ stepZ
    rw [if_pos (by omega)]
    generalize Int.tdiv 60 (H 5 (r * 3 + a)) = k at *
    generalize sumZ (fun t => H (7 + (r * 3 + a)) t * wU H N f t) N = S at *
    generalize H 5 (r * 3 + a) = T at *
    generalize wL H N f = P at *
    generalize wU H N f r = x at *
    generalize H 4 (r * 3 + a) = y at *
    generalize H 1 1 = v at *
    generalize H 1 2 = d at *
    have e3 : k * (P * (d * T * y) - (d * T * x - v * S)) = (k * T) * (P * d * y) - (k * T) * (d * x) + v * k * S := by grind
    rw [e3, hk.1]
    grind
theorem kT_pos {H : GT} {N q : Nat} (hw : WW H N) (hq : q < 15) : 0 < Int.tdiv 60 (maxZ 1 (H 5 q)) := by
  have h5 := hw.2.2.2.2.1 _ hq
  refine (td60_k ?_ ?_).2 <;> (unfold maxZ; split <;> omega)
/-- an act of the state s, or its 0 where there is none -/
def vd (G : GT) (s a : Nat) : Prop := (a : Int) < G 3 s ∨ (a = 0 ∧ G 3 s = 0)
theorem vd_in {G : GT} {N s a : Nat} (hw : WW G N) (hs : s < 5) (h : vd G s a) : a ≤ 2 := by
  have := hw.2.2.2.1 s hs
  unfold vd at h; omega
/-- the side b has no act that it likes more -/
def Opt (G : GT) (N : Nat) (b : Int) (f : Nat → Nat) : Prop := ∀ s, s < N → G 2 s = b → ∀ a, vd G s a → sgB b * rs G N f s a ≤ 0
/-- H holds the walks of G, the plan f in cell pl, and its worths -/
def StP (G : GT) (pl N : Nat) (f : Nat → Nat) (H : GT) : Prop := (∀ b, 1 ≤ b ∧ b ≤ 21 → H b = G b) ∧ SolA H N 30 f ∧ (∀ s, s < N → H pl s = (f s : Int)) ∧ ∀ s, s < N → vd G s (f s)
theorem StP.le {G H : GT} {pl N : Nat} {f : Nat → Nat} (hw : WW G N) (h : StP G pl N f H) : ∀ r, r < N → f r ≤ 2 := fun r hr => vd_in hw (by have := hw.2.1; omega) (h.2.2.2 r hr)
theorem rs_mul {H : GT} {N u r a a' : Nat} {f : Nat → Nat} (hw : WW H N) (hs : SolA H N u f) (hf : ∀ r, r < N → f r ≤ 2) (hr : r < N) (ha : a ≤ 2) (c : Int) : (c * comesZ H N (r * 3 + f r) u ≤ c * comesZ H N (r * 3 + a) u ↔ 0 ≤ c * rs H N f r a) ∧ (c * comesZ H N (r * 3 + a) u ≤ c * comesZ H N (r * 3 + f r) u ↔ c * rs H N f r a ≤ 0) := by
  have hN := hw.2.1
  rw [com_rs hw hs hr ha, com_rs hw hs hr (hf r hr), rs_self hw hf hr, Int.mul_zero, Int.add_zero, Int.mul_add]
  have hk := kT_pos (q := r * 3 + a) hw (by omega)
  generalize Int.tdiv 60 (maxZ 1 (H 5 (r * 3 + a))) = k at *
  have e : c * (k * rs H N f r a) = k * (c * rs H N f r a) := Int.mul_left_comm _ _ _
  rw [e]
  generalize c * rs H N f r a = z
  generalize c * (stepZ H * wU H N f r) = w
  constructor
  · constructor
    · intro h
      by_cases l : 0 ≤ z
      · exact l
      · have := Int.mul_neg_of_pos_of_neg hk (show z < 0 by omega)
        omega
    · intro h
      have := Int.mul_nonneg (show 0 ≤ k by omega) h
      omega
  · constructor
    · intro h
      by_cases l : z ≤ 0
      · exact l
      · have := Int.mul_pos hk (show 0 < z by omega)
        omega
    · intro h
      have := Int.mul_nonpos_of_nonneg_of_nonpos (show 0 ≤ k by omega) h
      omega
/-- the plan made better by the side b -/
def impF (H : GT) (pl N : Nat) (b : Int) : Nat → Nat := fun s => (impP H pl N b N s).toNat
theorem imp_at {G H : GT} {pl N : Nat} {f : Nat → Nat} (hw : WW G N) (h : StP G pl N f H) {b : Int} {s : Nat} (hs : s < N) : (impP H pl N b N s = (impF H pl N b s : Int)) ∧ vd G s (impF H pl N b s) ∧ (G 2 s ≠ b → impF H pl N b s = f s) ∧ (G 2 s = b → 0 ≤ sgB b * rs G N f s (impF H pl N b s) ∧ (impF H pl N b s ≠ f s → 0 < sgB b * rs G N f s (impF H pl N b s)) ∧ (impF H pl N b s = f s → ∀ a, vd G s a → sgB b * rs G N f s a ≤ 0)) ∧ (likP H pl N s = H pl s ↔ (likP H pl N s).toNat = f s) := by
  have hf := h.le hw
  obtain ⟨he, hS, hp, hv⟩ := h
  have hN := hw.2.1
  have hwH : WW H N := hw.keep1 he
  have hps := hp s hs
  have e2 : H 2 = G 2 := he 2 (by omega)
  have e3 : H 3 = G 3 := he 3 (by omega)
  have hG3 := hw.2.2.2.1 s (by omega)
  obtain ⟨a, h1, h2, h3, h4, h5⟩ := lik_all (G := H) (N := N) (s := s) (held := f s) (u := 30) (H 3 s).toNat
  have hl : likP H pl N s = (a : Int) := by unfold likP; rw [hps, Int.toNat_natCast]; exact h1
  have hva : vd G s a := by
    rcases h5 with h5 | h5
    · rw [h5]; exact hv s hs
    · left; rw [e3] at h5; omega
  have ha2 := vd_in hw (by omega) hva
  have rc : ∀ a, a ≤ 2 → rs H N f s a = rs G N f s a := fun a ha => rs_congr he hN hf (fun _ _ => rfl) hs ha
  have hself := rs_self hw hf hs
  by_cases hb : G 2 s = b
  · have ei : impP H pl N b N s = (a : Int) := by unfold impP; rw [if_pos ⟨hs, by rw [e2]; exact hb⟩, hl]
    have ef : impF H pl N b s = a := by unfold impF; rw [ei, Int.toNat_natCast]
    rw [ei, ef, hl, hps, Int.toNat_natCast, ← hb]
    rw [e2] at h3 h4 h5
    have hm := fun a ha => rs_mul (u := 30) (a := a) (a' := 0) hwH hS hf hs ha (sgB (G 2 s))
    have p0 : 0 ≤ sgB (G 2 s) * rs G N f s a := by rw [← rc a ha2]; exact ((hm a ha2).1).1 h3
    refine ⟨rfl, hva, fun q => absurd rfl q, fun _ => ⟨p0, fun hne => ?_, fun hea a' hva' => ?_⟩, by omega⟩
    · rcases h5 with h5 | h5
      · exact absurd h5 hne
      · by_cases l : 0 < sgB (G 2 s) * rs G N f s a
        · exact l
        · have := ((hm a ha2).2).2 (by rw [rc a ha2]; omega)
          omega
    · rcases hva' with l | ⟨l, l2⟩
      · have ha' : a' ≤ 2 := by omega
        rw [← rc a' ha']
        refine ((hm a' ha').2).1 ?_
        rw [← hea]
        exact h4 a' (by rw [e3]; omega)
      · have : f s = 0 := by have := hv s hs; unfold vd at this; omega
        rw [l, ← this, hself, Int.mul_zero]; exact Int.le_refl _
  · have ei : impP H pl N b N s = (f s : Int) := by unfold impP; rw [if_neg (fun q => hb (by rw [← e2]; exact q.2)), hps]
    have ef : impF H pl N b s = f s := by unfold impF; rw [ei, Int.toNat_natCast]
    rw [ei, ef, hl, hps, Int.toNat_natCast]
    exact ⟨rfl, hv s hs, fun _ => rfl, fun q => absurd q hb, by omega⟩
theorem betS_0 {H : GT} {pl N : Nat} {b : Int} : ∀ {n : Nat}, (betS H pl N b n = 0 ↔ ∀ s, s < n → H 2 s = b → likP H pl N s = H pl s)
  | 0 => ⟨fun _ s h => by omega, fun _ => rfl⟩
  | n + 1 => by
    have ih := betS_0 (H := H) (pl := pl) (N := N) (b := b) (n := n)
    unfold betS
    by_cases c : H 2 n = b ∧ likP H pl N n ≠ H pl n
    · rw [if_pos c]
      exact ⟨fun q => absurd q (by decide), fun q => absurd (q n (by omega) c.1) c.2⟩
    · rw [if_neg c, ih]
      refine ⟨fun q s hs hb => ?_, fun q s hs hb => q s (by omega) hb⟩
      by_cases e : s = n
      · subst e
        by_cases e2 : likP H pl N s = H pl s
        · exact e2
        · exact absurd ⟨hb, e2⟩ c
      · exact q s (by omega) hb
theorem imp_same {H : GT} {pl N : Nat} {b : Int} (h : betS H pl N b N = 0) : impG H pl N b N = H := by
  rw [betS_0] at h
  unfold impG
  have : impP H pl N b N = H pl := by
    funext s; unfold impP
    split
    · next c => exact h s c.1 c.2
    · rfl
  rw [this, uG_self]
theorem SolA.congr {G H : GT} {N u : Nat} {f g : Nat → Nat} (hN : N ≤ 5) (hf : ∀ r, r < N → f r ≤ 2) (e : ∀ b, 1 ≤ b ∧ b ≤ 21 → G b = H b) (hfg : ∀ r, r < N → f r = g r) (h1 : H u 1 = wL G N f) (h2 : ∀ s, s < N → H (u + 1) s = wU G N f s) : SolA H N u g := by
  have := w_congr (G := H) (G' := G) e hN hf hfg
  exact ⟨h1.trans this.1, fun s hs => (h2 s hs).trans (this.2 s)⟩
theorem PlOk.of {G : GT} {pl N : Nat} {f : Nat → Nat} (hpl : pl = 47 ∨ pl = 48 ∨ pl = 49) (hf : ∀ r, r < N → f r ≤ 2) (h : ∀ s, s < N → G pl s = (f s : Int)) : PlOk G pl N := ⟨hpl, fun s hs => by have := hf s hs; rw [h s hs]; omega⟩
/-- behind a follow -/
theorem StP.fol {G H : GT} {pl N : Nat} {f : Nat → Nat} (hw : WW G N) (hpl : pl = 47 ∨ pl = 48 ∨ pl = 49) (he : ∀ b, 1 ≤ b ∧ b ≤ 21 → H b = G b) (hp : ∀ s, s < N → H pl s = (f s : Int)) (hv : ∀ s, s < N → vd G s (f s)) : StP G pl N f (folR H pl N) := by
  have hN := hw.2.1
  have hf : ∀ r, r < N → f r ≤ 2 := fun r hr => vd_in hw (by omega) (hv r hr)
  have hwH : WW H N := hw.keep1 he
  have hP : PlOk H pl N := PlOk.of hpl hf hp
  have hn := fol_num hwH hP
  have eo : ∀ b, 1 ≤ b ∧ b ≤ 21 → folR H pl N b = H b := fun b hb => folR_off hN (by omega)
  refine ⟨fun b hb => (eo b hb).trans (he b hb), SolA.congr hN hP.f (fun b hb => (eo b hb).symm) (fun r hr => ?_) hn.1 hn.2, fun s hs => ?_, hv⟩
  · unfold plN; rw [hp r hr, Int.toNat_natCast]
  · rw [folR_off hN (by omega)]; exact hp s hs
/-- a round: nothing changes and the side b is content, or the plan is better -/
theorem StP.step {G H : GT} {pl N : Nat} {f : Nat → Nat} {b : Int} (hw : WW G N) (hpl : pl = 47 ∨ pl = 48 ∨ pl = 49) (h : StP G pl N f H) : (betS H pl N b N = 0 → Opt G N b f) ∧ (betS H pl N b N ≠ 0 → ∃ g, StP G pl N g (folR (impG H pl N b N) pl N) ∧ (∀ s, s < N → impG H pl N b N pl s = (g s : Int)) ∧ (∀ s, s < N → vd G s (g s)) ∧ (∀ s, s < N → G 2 s ≠ b → g s = f s) ∧ (∀ s, s < N → 0 ≤ sgB b * rs G N f s (g s)) ∧ ∃ s, s < N ∧ G 2 s = b ∧ 0 < sgB b * rs G N f s (g s)) := by
  have hN := hw.2.1
  have hi := fun s hs => imp_at (s := s) (b := b) hw h hs
  have hf := h.le hw
  have e2 : H 2 = G 2 := h.1 2 (by omega)
  refine ⟨fun h0 s hs hb a hva => ?_, fun h1 => ?_⟩
  · rw [betS_0] at h0
    have h2 := h0 s hs (by rw [e2]; exact hb)
    have h3 := hi s hs
    have h4 : impF H pl N b s = f s := by
      have := h3.2.2.2.2.1 h2
      unfold impF impP
      rw [if_pos ⟨hs, by rw [e2]; exact hb⟩]; exact this
    exact (h3.2.2.2.1 hb).2.2 h4 a hva
  · have hip : ∀ s, s < N → impG H pl N b N pl s = (impF H pl N b s : Int) := fun s hs => by unfold impG; rw [uG_s]; exact (hi s hs).1
    refine ⟨impF H pl N b, StP.fol hw hpl (fun c hc => by rw [impG_off (by omega)]; exact h.1 c hc) hip (fun s hs => (hi s hs).2.1), hip, fun s hs => (hi s hs).2.1, fun s hs hb => (hi s hs).2.2.1 hb, fun s hs => ?_, ?_⟩
    · by_cases hb : G 2 s = b
      · exact ((hi s hs).2.2.2.1 hb).1
      · rw [(hi s hs).2.2.1 hb, rs_self hw hf hs, Int.mul_zero]; exact Int.le_refl _
    · by_cases q : ∃ s, s < N ∧ H 2 s = b ∧ likP H pl N s ≠ H pl s
      · obtain ⟨s, hs, hb, hne⟩ := q
        rw [e2] at hb
        refine ⟨s, hs, hb, ((hi s hs).2.2.2.1 hb).2.1 (fun q => hne ?_)⟩
        refine (hi s hs).2.2.2.2.2 ?_
        have : impF H pl N b s = (likP H pl N s).toNat := by unfold impF impP; rw [if_pos ⟨hs, by rw [e2]; exact hb⟩]
        rw [← this]; exact q
      · exfalso
        refine h1 (betS_0.2 (fun s hs hb => ?_))
        by_cases e : likP H pl N s = H pl s
        · exact e
        · exact absurd ⟨s, hs, hb, e⟩ q
set_option maxRecDepth 20000 in
theorem rep_end {G : GT} {pl N : Nat} {b : Int} (hw : WW G N) (hpl : pl = 47 ∨ pl = 48 ∨ pl = 49) : ∀ (k : Nat) (H : GT) (f : Nat → Nat), StP G pl N f H → 243 < rank G N b f + k → ∃ g, StP G pl N g (repL pl N b k H) ∧ Opt G N b g ∧ ∀ s, s < N → G 2 s ≠ b → g s = f s := by
  intro k
  induction k with
  | zero =>
    intro H f h hr
    have hle := rank_le (G := G) (N := N) (b := b) (f := f)
    exact absurd hr (Nat.not_lt.2 hle)
  | succ k ih =>
    intro H f h hr
    have hN := hw.2.1
    have hs := h.step (b := b) hw hpl
    unfold repL
    by_cases e : betS H pl N b N = 0
    · rw [if_pos e, imp_same e]
      exact ⟨f, h, hs.1 e, fun _ _ _ => rfl⟩
    · rw [if_neg e]
      obtain ⟨g, g1, _, _, g2, g3, s0, hs0, hb0, g4⟩ := hs.2 e
      have hc := cmpB hw (h.le hw) (g1.le hw) g3
      have hrk := rank_step hN (g1.le hw) (fun s hs => (hc s hs).1) ⟨s0, hs0, (hc s0 hs0).2 g4⟩
      obtain ⟨g', i1, i2, i3⟩ := ih _ g g1 (by omega)
      exact ⟨g', i1, i2, fun s hs hb => (i3 s hs hb).trans (g2 s hs hb)⟩
set_option maxRecDepth 20000 in
theorem fv_end {G : GT} {pl N : Nat} (hw : WW G N) (hpl : pl = 47 ∨ pl = 48 ∨ pl = 49) : ∀ (k : Nat) (H : GT) (f : Nat → Nat), StP G pl N f H → Opt G N 1 f → 243 < rank G N 0 f + k → ∃ g, StP G pl N g (fvL pl N k H) ∧ Opt G N 0 g ∧ Opt G N 1 g := by
  intro k
  induction k with
  | zero =>
    intro H f h ho hr
    have hle := rank_le (G := G) (N := N) (b := 0) (f := f)
    exact absurd hr (Nat.not_lt.2 hle)
  | succ k ih =>
    intro H f h ho hr
    have hN := hw.2.1
    have hs := h.step (b := 0) hw hpl
    unfold fvL
    by_cases e : betS H pl N 0 N = 0
    · rw [if_pos e, imp_same e]
      exact ⟨f, h, hs.1 e, ho⟩
    · rw [if_neg e]
      obtain ⟨g, g1, g5, g6, g2, g3, s0, hs0, hb0, g4⟩ := hs.2 e
      obtain ⟨g', i1, i2, i3⟩ := rep_end (b := 1) hw hpl 243 _ g g1 (by have := rank_pos (G := G) (b := 1) hN (g1.le hw); omega)
      have e3 : ∀ s, s < N → G 2 s = 0 → g' s = g s := fun s hs hb => i3 s hs (by rw [hb]; decide)
      have g3' : ∀ s, s < N → 0 ≤ sgB 0 * rs G N f s (g' s) := fun s hs => by
        by_cases hb : G 2 s = 0
        · rw [e3 s hs hb]; exact g3 s hs
        · have h01 := hw.2.2.2.2.2.2 s (by omega)
          have h1 := ho s hs (by omega) (g' s) (i1.2.2.2 s hs)
          unfold sgB at h1 ⊢
          rw [if_neg (by decide)] at h1
          rw [if_pos rfl]; omega
      have hc := cmpB hw (h.le hw) (i1.le hw) g3'
      have hrk := rank_step hN (i1.le hw) (fun s hs => (hc s hs).1) ⟨s0, hs0, (hc s0 hs0).2 (by rw [e3 s0 hs0 hb0]; exact g4)⟩
      exact ih _ g' i1 i2 (by omega)
/-- behind replyBy -/
theorem repG_end {G : GT} {pl N : Nat} {b : Int} {f : Nat → Nat} (hw : WW G N) (hpl : pl = 47 ∨ pl = 48 ∨ pl = 49) (hp : ∀ s, s < N → G pl s = (f s : Int)) (hv : ∀ s, s < N → vd G s (f s)) : ∃ g, StP G pl N g (repG G pl N b) ∧ Opt G N b g ∧ ∀ s, s < N → G 2 s ≠ b → g s = f s := by
  have h := StP.fol hw hpl (fun _ _ => rfl) hp hv
  exact rep_end hw hpl 243 _ f h (by have := rank_pos (G := G) (b := b) hw.2.1 (h.le hw); omega)
/-- behind findValues -/
theorem fvG_end {G : GT} {pl N : Nat} {f : Nat → Nat} (hw : WW G N) (hpl : pl = 47 ∨ pl = 48 ∨ pl = 49) (hp : ∀ s, s < N → G pl s = (f s : Int)) (hv : ∀ s, s < N → vd G s (f s)) : ∃ g, StP G pl N g (fvG G pl N) ∧ Opt G N 0 g ∧ Opt G N 1 g := by
  obtain ⟨g, h1, h2, _⟩ := repG_end (b := 1) hw hpl hp hv
  exact fv_end hw hpl 243 _ g h1 h2 (by have := rank_pos (G := G) (b := 0) hw.2.1 (h1.le hw); omega)
