/-! the reference's search through all plans -/
theorem agS_iff {G : GT} {p q : Nat} {b : Int} : ∀ {n : Nat}, agS G p q b n = true ↔ ∀ s, s < n → G 51 s = b → actZ G p s = actZ G q s
  | 0 => ⟨fun _ s h => by omega, fun _ => rfl⟩
  | n + 1 => by
    have ih := agS_iff (G := G) (p := p) (q := q) (b := b) (n := n)
    unfold agS
    rw [Bool.and_eq_true, ih, Bool.or_eq_true, decide_eq_true_eq, decide_eq_true_eq]
    refine ⟨fun ⟨h1, h2⟩ s hs hb => ?_, fun h => ⟨fun s hs hb => h s (by omega) hb, ?_⟩⟩
    · by_cases e : s = n
      · subst e; exact h2.resolve_left (fun q => q hb)
      · exact h1 s (by omega) hb
    · by_cases e : G 51 n = b
      · exact Or.inr (h n (by omega) e)
      · exact Or.inl e
theorem Rel.agr {G : GT} {N p q : Nat} {b : Int} (h : Rel G N) : agS (layP G N) p q b N = true ↔ ∀ s, s < N → G 2 s = b → fP G p s = fP G q s := by
  rw [agS_congr (layP_off (by omega)) (layP_off (by omega)), agS_iff]
  refine ⟨fun h1 s hs hb => ?_, fun h1 s hs hb => ?_⟩
  · unfold fP; rw [h1 s hs (by rw [(h.2.2.2.1 s hs).2]; exact hb)]
  · have h2 := h1 s hs (by rw [← (h.2.2.2.1 s hs).2]; exact hb)
    rcases h.act p hs with a1 | a1 <;> rcases h.act q hs with a2 | a2
    · rw [a1.2.1, a2.2.1]
    · omega
    · omega
    · rw [← a1.2.1, ← a2.2.1, h2]
theorem Rel.ut {G : GT} {N s p : Nat} {b g : Int} (h : Rel G N) (hs : s < N) (hp : p < nPl G N) : ∀ n, n ≤ nPl G N → utS (layP G N) N s p b g n < nPl G N ∧ agS (layP G N) p (utS (layP G N) N s p b g n) b N = true ∧ ∀ q, q < n → agS (layP G N) p q b N = true → (g = 0 → vq G N (fP G (utS (layP G N) N s p b g n)) s ≤ vq G N (fP G q) s) ∧ (g ≠ 0 → vq G N (fP G q) s ≤ vq G N (fP G (utS (layP G N) N s p b g n)) s)
  | 0, _ => ⟨hp, agS_iff.2 (fun _ _ _ => rfl), fun q hq => by omega⟩
  | n + 1, hn => by
    obtain ⟨i1, i2, i3⟩ := Rel.ut (b := b) (g := g) h hs hp n (by omega)
    have hc := h.cmp (p := n) (q := utS (layP G N) N s p b g n) (by omega) i1 hs
    unfold utS
    by_cases ha : agS (layP G N) p n b N = true
    · rw [if_pos ha]
      by_cases hg : g = 0
      · rw [if_pos hg]
        by_cases hl : cmU (layP G N) s n (utS (layP G N) N s p b g n) < 0
        · rw [if_pos hl]
          have hl2 := hc.1.1 hl
          refine ⟨by omega, ha, fun q hq hqa => ⟨fun _ => ?_, fun q => absurd hg q⟩⟩
          by_cases e : q = n
          · rw [e]; exact Rat.le_refl
          · exact Rat.le_trans (Rat.le_of_lt hl2) ((i3 q (by omega) hqa).1 hg)
        · rw [if_neg hl]
          rw [hc.1] at hl
          refine ⟨i1, i2, fun q hq hqa => ⟨fun _ => ?_, fun q => absurd hg q⟩⟩
          by_cases e : q = n
          · rw [e]; exact Rat.not_lt.1 hl
          · exact (i3 q (by omega) hqa).1 hg
      · rw [if_neg hg]
        by_cases hl : 0 < cmU (layP G N) s n (utS (layP G N) N s p b g n)
        · rw [if_pos hl]
          have hl2 := hc.2.1.1 hl
          refine ⟨by omega, ha, fun q hq hqa => ⟨fun q => absurd q hg, fun _ => ?_⟩⟩
          by_cases e : q = n
          · rw [e]; exact Rat.le_refl
          · exact Rat.le_trans ((i3 q (by omega) hqa).2 hg) (Rat.le_of_lt hl2)
        · rw [if_neg hl]
          rw [hc.2.1] at hl
          refine ⟨i1, i2, fun q hq hqa => ⟨fun q => absurd q hg, fun _ => ?_⟩⟩
          by_cases e : q = n
          · rw [e]; exact Rat.not_lt.1 hl
          · exact (i3 q (by omega) hqa).2 hg
    · rw [if_neg ha]
      refine ⟨i1, i2, fun q hq hqa => ?_⟩
      by_cases e : q = n
      · rw [e] at hqa; exact absurd hqa ha
      · exact i3 q (by omega) hqa
/-- the side b's best answer among all plans is worth what its last plan is -/
theorem Rel.rep {G : GT} {N s p : Nat} {b : Int} {f : Nat → Nat} (h : Rel G N) (hs : s < N) (hp : p < nPl G N) (hb : b = 0 ∨ b = 1) (hv : ∀ s, s < N → vd G s (f s)) (ho : Opt G N b f) (hof : ∀ s, s < N → G 2 s ≠ b → f s = fP G p s) {u : Nat} (hu : u = utS (layP G N) N s p (1 - b) (1 - b) (nPl G N)) : u < nPl G N ∧ vq G N (fP G u) s = vq G N f s := by
  have hw := h.1
  have hN := hw.2.1
  have hf : ∀ r, r < N → f r ≤ 2 := fun r hr => vd_in hw (by omega) (hv r hr)
  obtain ⟨i1, i2, i3⟩ := Rel.ut (b := 1 - b) (g := 1 - b) h hs hp (nPl G N) (Nat.le_refl _)
  rw [← hu] at i1 i2 i3
  refine ⟨i1, ?_⟩
  rw [h.agr] at i2
  have hc := h.code hv
  have h01 := fun r (hr : r < N) => hw.2.2.2.2.2.2 r (show r < 5 by omega)
  -- the last plan is among those that agree
  have ha : agS (layP G N) p (cdF G f N) (1 - b) N = true := by
    rw [h.agr]
    intro r hr hb2
    rw [hc.2 r hr, hof r hr (by omega)]
  have h2 := i3 (cdF G f N) hc.1 ha
  have ev : vq G N (fP G (cdF G f N)) s = vq G N f s := vq_congr hN (h.f _) hc.2 s
  rw [ev] at h2
  -- no answer is better
  have h3 := (cmpB (b := 1 - b) hw hf (h.f u) (fun r hr => by
    by_cases e : G 2 r = b
    · have := ho r hr e (fP G u r) (h.vdP hr)
      unfold sgB at this ⊢
      rcases hb with rfl | rfl
      · rw [if_pos rfl] at this; rw [if_neg (by decide)]; omega
      · rw [if_neg (by decide)] at this; rw [if_pos (by decide)]; omega
    · have e2 : G 2 r = 1 - b := by have := h01 r hr; omega
      rw [← i2 r hr e2, ← hof r hr e, rs_self hw hf hr, Int.mul_zero]; exact Int.le_refl _) s hs).1
  unfold bq at h3
  rcases hb with rfl | rfl
  · rw [if_neg (by decide)] at h3
    exact Rat.le_antisymm h3 (h2.2 (by decide))
  · rw [if_pos (by decide)] at h3
    exact Rat.le_antisymm (h2.1 (by decide)) h3
theorem hzS_iff {G : GT} {p : Nat} : ∀ {n : Nat}, hzS G p n = true ↔ ∀ s, s < n → G 51 s ≠ 0 → actZ G p s ≤ 0
  | 0 => ⟨fun _ s h => by omega, fun _ => rfl⟩
  | n + 1 => by
    have ih := hzS_iff (G := G) (p := p) (n := n)
    unfold hzS
    rw [Bool.and_eq_true, ih, Bool.or_eq_true, decide_eq_true_eq, decide_eq_true_eq]
    refine ⟨fun ⟨h1, h2⟩ s hs hb => ?_, fun h => ⟨fun s hs hb => h s (by omega) hb, ?_⟩⟩
    · by_cases e : s = n
      · subst e; exact h2.resolve_left hb
      · exact h1 s (by omega) hb
    · by_cases e : G 51 n = 0
      · exact Or.inl e
      · exact Or.inr (h n (by omega) e)
theorem Rel.va {G : GT} {N s : Nat} (h : Rel G N) (hs : s < N) : ∀ n, n ≤ nPl G N → (vaS (layP G N) N (nPl G N) s n = -1 ∧ ∀ p, p < n → ¬ hzS (layP G N) p N = true) ∨ ∃ p, p < n ∧ hzS (layP G N) p N = true ∧ vaS (layP G N) N (nPl G N) s n = ((utS (layP G N) N s p 0 0 (nPl G N) : Nat) : Int) ∧ ∀ q, q < n → hzS (layP G N) q N = true → vq G N (fP G (utS (layP G N) N s q 0 0 (nPl G N))) s ≤ vq G N (fP G (utS (layP G N) N s p 0 0 (nPl G N))) s
  | 0, _ => Or.inl ⟨rfl, fun p hp => by omega⟩
  | n + 1, hn => by
    have ih := Rel.va h hs n (by omega)
    unfold vaS
    by_cases hz : hzS (layP G N) n N = true
    · rw [if_pos hz]
      right
      rcases ih with ⟨i1, i2⟩ | ⟨p, p1, p2, p3, p4⟩
      · rw [if_pos (Or.inl i1)]
        refine ⟨n, by omega, hz, rfl, fun q hq hqz => ?_⟩
        by_cases e : q = n
        · rw [e]; exact Rat.le_refl
        · exact absurd hqz (i2 q (by omega))
      · have u1 := (Rel.ut (b := 0) (g := 0) h hs (show n < nPl G N by omega) (nPl G N) (Nat.le_refl _)).1
        have u2 := (Rel.ut (b := 0) (g := 0) h hs (show p < nPl G N by omega) (nPl G N) (Nat.le_refl _)).1
        have hc := (h.cmp u1 u2 hs).2.1
        rw [p3, Int.toNat_natCast]
        by_cases hl : 0 < cmU (layP G N) s (utS (layP G N) N s n 0 0 (nPl G N)) (utS (layP G N) N s p 0 0 (nPl G N))
        · rw [if_pos (Or.inr hl)]
          refine ⟨n, by omega, hz, rfl, fun q hq hqz => ?_⟩
          by_cases e : q = n
          · rw [e]; exact Rat.le_refl
          · exact Rat.le_trans (p4 q (by omega) hqz) (Rat.le_of_lt (hc.1 hl))
        · rw [if_neg (fun q => q.elim (fun q => by omega) hl)]
          rw [hc] at hl
          refine ⟨p, by omega, p2, rfl, fun q hq hqz => ?_⟩
          by_cases e : q = n
          · rw [e]; exact Rat.not_lt.1 hl
          · exact p4 q (by omega) hqz
    · rw [if_neg hz]
      rcases ih with ⟨i1, i2⟩ | ⟨p, p1, p2, p3, p4⟩
      · refine Or.inl ⟨i1, fun p hp => ?_⟩
        by_cases e : p = n
        · rw [e]; exact hz
        · exact i2 p (by omega)
      · refine Or.inr ⟨p, by omega, p2, p3, fun q hq hqz => ?_⟩
        by_cases e : q = n
        · rw [e] at hqz; exact absurd hqz hz
        · exact p4 q (by omega) hqz
/-- the values: most for ours of the least for theirs is what the plan is worth that leaves no side an act it likes more -/
theorem Rel.val {G : GT} {N s : Nat} {f : Nat → Nat} (h : Rel G N) (hs : s < N) (hv : ∀ s, s < N → vd G s (f s)) (o0 : Opt G N 0 f) (o1 : Opt G N 1 f) : ∃ p, p < nPl G N ∧ layV G N 61 s = (p : Int) ∧ vq G N (fP G p) s = vq G N f s := by
  have hw := h.1
  have hN := hw.2.1
  have hf : ∀ r, r < N → f r ≤ 2 := fun r hr => vd_in hw (by omega) (hv r hr)
  have h01 := fun r (hr : r < N) => hw.2.2.2.2.2.2 r (show r < 5 by omega)
  have ez : ∀ p, hzS (layP G N) p N = hzS G p N := fun p => hzS_congr (layP_off (by omega)) (layP_off (by omega)) p N
  -- ours as by f, theirs 0
  have v0 : ∀ r, r < N → vd G r (if G 2 r = 0 then f r else 0) := fun r hr => by
    have := hv r hr
    unfold vd at *
    have := hw.2.2.2.1 r (by omega)
    split <;> omega
  have c0 := h.code v0
  have z0 : hzS (layP G N) (cdF G (fun r => if G 2 r = 0 then f r else 0) N) N = true := by
    rw [ez, hzS_iff]
    intro r hr hb
    rw [(h.2.2.2.1 r hr).2] at hb
    have e := c0.2 r hr
    rw [if_neg hb] at e
    rcases h.act (cdF G (fun r => if G 2 r = 0 then f r else 0) N) hr with a | a <;> omega
  have e0 := h.rep (b := 1) hs c0.1 (Or.inr rfl) hv o1 (fun r hr hb => by
    rw [c0.2 r hr, if_pos (by have := h01 r hr; omega)]) rfl
  rw [layV_61]
  unfold vaF
  rw [if_pos hs]
  rcases h.va hs (nPl G N) (Nat.le_refl _) with ⟨i1, i2⟩ | ⟨p, p1, p2, p3, p4⟩
  · exact absurd z0 (i2 _ c0.1)
  · have hu := Rel.ut (b := 0) (g := 0) h hs p1 (nPl G N) (Nat.le_refl _)
    refine ⟨_, hu.1, p3, Rat.le_antisymm ?_ ?_⟩
    · -- theirs as by f against ours as by p
      have v1 : ∀ r, r < N → vd G r (if G 2 r = 0 then fP G p r else f r) := fun r hr => by
        have h1 := hv r hr
        have h2 := h.vdP (p := p) hr
        split
        · exact h2
        · exact h1
      have c1 := h.code v1
      have a1 : agS (layP G N) p (cdF G (fun r => if G 2 r = 0 then fP G p r else f r) N) 0 N = true := by
        rw [h.agr]
        intro r hr hb
        rw [c1.2 r hr, if_pos hb]
      refine Rat.le_trans ((hu.2.2 _ c1.1 a1).1 rfl) ?_
      have h3 := (cmpB (b := 1) hw hf (h.f (cdF G (fun r => if G 2 r = 0 then fP G p r else f r) N)) (fun r hr => by
        rw [c1.2 r hr]
        by_cases e : G 2 r = 0
        · rw [if_pos e]
          have := o0 r hr e (fP G p r) (h.vdP hr)
          unfold sgB at this ⊢
          rw [if_pos rfl] at this; rw [if_neg (by decide)]; omega
        · rw [if_neg e, rs_self hw hf hr, Int.mul_zero]; exact Int.le_refl _) s hs).1
      unfold bq at h3
      rw [if_neg (by decide)] at h3
      exact h3
    · rw [← e0.2]
      exact p4 _ c0.1 z0
theorem haS_iff {L : GT} {p : Nat} : ∀ {n : Nat}, haS L p n = true ↔ ∀ s, s < n → cmU L s p (L 61 s).toNat = 0
  | 0 => ⟨fun _ s h => by omega, fun _ => rfl⟩
  | n + 1 => by
    have ih := haS_iff (L := L) (p := p) (n := n)
    unfold haS
    rw [Bool.and_eq_true, ih, decide_eq_true_eq]
    refine ⟨fun ⟨h1, h2⟩ s hs => ?_, fun h => ⟨fun s hs => h s (by omega), h n (by omega)⟩⟩
    by_cases e : s = n
    · subst e; exact h2
    · exact h1 s (by omega)
/-- a plan has all values just if all its acts are best -/
theorem Rel.has {G : GT} {N p : Nat} {f : Nat → Nat} (h : Rel G N) (hv : ∀ s, s < N → vd G s (f s)) (o0 : Opt G N 0 f) (o1 : Opt G N 1 f) (hp : p < nPl G N) : haS (layV G N) p N = true ↔ ∀ s, s < N → rs G N f s (fP G p s) = 0 := by
  have hw := h.1
  have hN := hw.2.1
  have hf : ∀ r, r < N → f r ≤ 2 := fun r hr => vd_in hw (by omega) (hv r hr)
  have e : haS (layV G N) p N = true ↔ ∀ s, s < N → vq G N (fP G p) s = vq G N f s := by
    rw [haS_iff]
    refine ⟨fun q s hs => ?_, fun q s hs => ?_⟩
    · obtain ⟨v, v1, v2, v3⟩ := h.val hs hv o0 o1
      have h1 := q s hs
      rw [v2, Int.toNat_natCast, cmU_congr (layV_off (by decide) (by decide)) (layV_off (by decide) (by decide)), (h.cmp hp v1 hs).2.2] at h1
      rw [h1, v3]
    · obtain ⟨v, v1, v2, v3⟩ := h.val hs hv o0 o1
      rw [v2, Int.toNat_natCast, cmU_congr (layV_off (by decide) (by decide)) (layV_off (by decide) (by decide)), (h.cmp hp v1 hs).2.2, v3]
      exact q s hs
  rw [e]
  exact ⟨fun q s hs => rs_eq hw hf (h.f p) (fun s hs => (q s hs).symm) hs, fun q s hs => (rs_0 hw hf (h.f p) q s hs).symm⟩
theorem coS_2 {L : GT} {N : Nat} : ∀ n, (coS L N n).2 = ((cB (fun p => haS L p N) n : Nat) : Int)
  | 0 => rfl
  | n + 1 => by
    have ih := coS_2 (L := L) (N := N) n
    unfold coS cB
    by_cases e : haS L n N = true
    · rw [if_pos e, if_pos e]; show (coS L N n).2 + 1 = _; rw [ih]; rfl
    · rw [if_neg e, if_neg e, ih]; rfl
theorem coS_1 {L : GT} {N : Nat} : ∀ n, ((coS L N n).1 = -1 ∧ ∀ p, p < n → ¬ haS L p N = true) ∨ ∃ p, p < n ∧ (coS L N n).1 = (p : Int) ∧ haS L p N = true
  | 0 => Or.inl ⟨rfl, fun p hp => by omega⟩
  | n + 1 => by
    unfold coS
    by_cases e : haS L n N = true
    · rw [if_pos e]; exact Or.inr ⟨n, by omega, rfl, e⟩
    · rw [if_neg e]
      rcases coS_1 (L := L) (N := N) n with ⟨i1, i2⟩ | ⟨p, p1, p2, p3⟩
      · refine Or.inl ⟨i1, fun p hp => ?_⟩
        by_cases e2 : p = n
        · rw [e2]; exact e
        · exact i2 p (by omega)
      · exact Or.inr ⟨p, by omega, p2, p3⟩
