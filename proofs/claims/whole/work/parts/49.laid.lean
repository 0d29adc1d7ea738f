/-! the reference's plans, laid -/
theorem lyU_W {G : GT} {p N b : Nat} (h : b = 56 ∨ b = 57) : ∀ s, lyU G p N s b = lyW G p N N b
  | 0 => by show lyD G p N b = _; unfold lyD; rw [uG_n _ _ (by omega), alG_off (by omega)]
  | s + 1 => by show uG _ _ _ b = _; rw [uG_n _ _ (by omega), alG_off (by omega), lyU_W h s]
theorem mC_det {L G : GT} {p N : Nat} (hN : N ≤ 5) (h6 : ∀ r t, r < N → t < N → L 56 (5 * r + t) = mX G p r t) : det N (mC L (-1)) = det N (mM G p) :=
  det_congr hN (fun t ht r hr => by
    unfold mC mM
    rw [if_neg (by omega), if_neg (by omega), h6 r t hr ht])
theorem mC_det2 {L G : GT} {p N s : Nat} (hN : N ≤ 5) (h6 : ∀ r t, r < N → t < N → L 56 (5 * r + t) = mX G p r t) (h7 : ∀ r, r < N → L 57 r = mR G p r) : det N (mC L (s : Int)) = det N (ud (mM G p) s (mM G p 5)) := by
  rw [mC_ud]
  refine det_congr hN (fun t ht r hr => ?_)
  unfold ud
  split
  · rw [h7 r hr]; rfl
  · unfold mC mM
    rw [if_neg (by omega), if_neg (by omega), h6 r t hr ht]
theorem lyU_60 {G : GT} {p N : Nat} (hN : N ≤ 5) : ∀ s, lyU G p N s 60 = up (G 60) p (det N (mM G p))
  | 0 => by
    show lyD G p N 60 = _
    unfold lyD
    rw [uG_s, lyW_off (by decide) (by decide), allZ_det hN, mC_det hN (fun r t hr ht => (lyW_at hN N (Nat.le_refl _) r hr).1 t ht)]
  | s + 1 => by show uG _ _ _ 60 = _; rw [uG_n _ _ (by decide), alG_off (by decide), lyU_60 hN s]
theorem lyU_59 {G : GT} {p N : Nat} (hN : N ≤ 5) : ∀ s, s ≤ N → ∀ j, lyU G p N s 59 j = if 5 * p ≤ j ∧ j < 5 * p + s then det N (ud (mM G p) (j - 5 * p) (mM G p 5)) else G 59 j
  | 0, _, j => by
    show lyD G p N 59 j = _
    unfold lyD
    rw [uG_n _ _ (by decide), alG_off (by decide), lyW_off (by decide) (by decide), if_neg (by omega)]
  | s + 1, hs, j => by
    show uG (alG (lyU G p N s) (s : Int) N) 59 (up (lyU G p N s 59) (5 * p + s) (allZ (lyU G p N s) (s : Int) N)) 59 j = _
    rw [uG_s]
    by_cases e : j = 5 * p + s
    · subst e
      rw [up_s, if_pos (by omega), show 5 * p + s - 5 * p = s by omega, allZ_det hN]
      refine mC_det2 hN (fun r t hr ht => ?_) (fun r hr => ?_)
      · rw [lyU_W (Or.inl rfl)]; exact (lyW_at hN N (Nat.le_refl _) r hr).1 t ht
      · rw [lyU_W (Or.inr rfl)]; exact (lyW_at hN N (Nat.le_refl _) r hr).2
    · rw [up_n _ _ e, lyU_59 hN s (by omega) j]
      by_cases l : 5 * p ≤ j ∧ j < 5 * p + s
      · rw [if_pos l, if_pos (by omega)]
      · rw [if_neg l, if_neg (by omega)]
theorem mM_congr {G G' : GT} (h7 : G' 50 7 = G 50 7) (h8 : G' 50 8 = G 50 8) (h2 : G' 52 = G 52) (h3 : G' 53 = G 53) (h4 : G' 54 = G 54) (p : Nat) : mM G' p = mM G p := by
  funext t r
  have ea : actZ G' p r = actZ G p r := actZ_congr h2 _ _
  have ef : fP G' p r = fP G p r := by unfold fP; rw [ea]
  have et : ∀ a, totZ G' r a 5 = totZ G r a 5 := fun a => totZ_congr h4 _ _ _
  unfold mM mR mX lwX byZ
  rw [ea, ef, et, h7, h8, h3, h4]
theorem lyP_at {G : GT} {N : Nat} (hN : N ≤ 5) : ∀ p, ∀ p', p' < p → lyP G N p 60 p' = det N (mM G p') ∧ ∀ s, s < N → lyP G N p 59 (5 * p' + s) = det N (ud (mM G p') s (mM G p' 5))
  | 0, p', h => by omega
  | p + 1, p', h => by
    have ih := lyP_at (G := G) hN p
    have em : mM (lyP G N p) p = mM G p := mM_congr (by rw [lyP_off (by omega)]) (by rw [lyP_off (by omega)]) (lyP_off (by omega) p) (lyP_off (by omega) p) (lyP_off (by omega) p) p
    show lyU (lyP G N p) p N N 60 p' = _ ∧ ∀ s, s < N → lyU (lyP G N p) p N N 59 (5 * p' + s) = _
    rw [lyU_60 hN, em]
    by_cases e : p' = p
    · subst e
      refine ⟨up_s _ _ _, fun s hs => ?_⟩
      rw [lyU_59 hN N (Nat.le_refl _), if_pos (by omega), em, show 5 * p' + s - 5 * p' = s by omega]
    · refine ⟨?_, fun s hs => ?_⟩
      · rw [up_n _ _ e]; exact (ih p' (by omega)).1
      · rw [lyU_59 hN N (Nat.le_refl _), if_neg (by omega)]; exact (ih p' (by omega)).2 s hs
theorem lay_num {G : GT} {N p : Nat} (hN : N ≤ 5) (hp : p < nPl G N) : layP G N 60 p = det N (mM G p) ∧ ∀ s, s < N → layP G N 59 (5 * p + s) = det N (ud (mM G p) s (mM G p 5)) := by
  have em : mM (pl0 G N) p = mM G p := mM_congr (pl0_k (by decide)) (pl0_k (by decide)) (pl0_n (by decide)) (pl0_n (by decide)) (pl0_n (by decide)) p
  have h := lyP_at (G := pl0 G N) hN (plS G N).toNat p hp
  rw [em] at h
  exact h
theorem Rel.f {G : GT} {N : Nat} (h : Rel G N) (p : Nat) : ∀ r, r < N → fP G p r ≤ 2 := fun r hr => fP_in h.2.1 p (by have := h.1.2.1; omega)
theorem Rel.ref {G : GT} {N : Nat} (h : Rel G N) : RefOk G N := by
  have hN := h.1.2.1
  refine ⟨(nPl_in h.2.1).2.1, fun p hp => ?_⟩
  have hn := lay_num hN hp
  have hM := h.pm p
  have h1 := det_pos0 (hM.pos hN N (Nat.le_refl _))
  have h2 := hM.up hN N (Nat.le_refl _)
  have h3 := pow36' hN
  rw [hn.1]
  refine ⟨⟨by omega, by omega⟩, fun s hs => ?_⟩
  rw [hn.2 s hs]
  have := hM.bnd hN (Nat.le_refl _) (b := mM G p 5) (M := 300) (fun r hr => ⟨(hM r hr).2.2.2.1, (hM r hr).2.2.2.2⟩) hs
  omega
/-- what the plan f is worth in the state s -/
def vq (G : GT) (N : Nat) (f : Nat → Nat) (s : Nat) : Rat := fr (wU G N f s) (wL G N f)
theorem Rel.frE {G : GT} {N p s : Nat} (h : Rel G N) (hp : p < nPl G N) (hs : s < N) : fr (layP G N 59 (5 * p + s)) (layP G N 60 p) = vq G N (fP G p) s := by
  have hN := h.1.2.1
  have hn := lay_num hN hp
  have hM := h.pm p
  have hw := w_in h.1 (h.f p)
  have hr := (h.ref.2 p hp).1
  unfold vq
  rw [fr_eq (by omega) (by omega), hn.1, hn.2 s hs]
  have := prop_sol (A := plA G (fP G p)) (B := mM G p) (k := kR G p) hN (hM.pos hN N (Nat.le_refl _)) (fun t r ht hr => h.row p hr ht) hs
  unfold wL wU
  rw [Int.mul_comm (det N (ud (plA G (fP G p)) s (plA G (fP G p) 5)))]
  exact this.symm
/-- the reference compares worths -/
theorem Rel.cmp {G : GT} {N p q s : Nat} (h : Rel G N) (hp : p < nPl G N) (hq : q < nPl G N) (hs : s < N) : (cmU (layP G N) s p q < 0 ↔ vq G N (fP G p) s < vq G N (fP G q) s) ∧ (0 < cmU (layP G N) s p q ↔ vq G N (fP G q) s < vq G N (fP G p) s) ∧ (cmU (layP G N) s p q = 0 ↔ vq G N (fP G p) s = vq G N (fP G q) s) := by
  have h1 := (h.ref.2 p hp).1
  have h2 := (h.ref.2 q hq).1
  rw [← h.frE hp hs, ← h.frE hq hs, fr_lt (by omega) (by omega), fr_lt (by omega) (by omega), fr_eq (by omega) (by omega)]
  unfold cmU cmpZ
  refine ⟨?_, ?_, ?_⟩
  · split
    · omega
    · split <;> omega
  · split
    · omega
    · split <;> omega
  · split
    · omega
    · split <;> omega
