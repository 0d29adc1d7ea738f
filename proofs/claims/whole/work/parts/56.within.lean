/-! class and reference give the same: within -/
theorem wsum_bnd {w x : Nat → Int} {n : Nat} {M T : Int} (hM : 0 ≤ M) (hw : ∀ t, t < n → 0 ≤ w t) (hx : ∀ t, t < n → -M ≤ x t ∧ x t ≤ M) (hT : sumZ w n ≤ T) : -(T * M) ≤ sumZ (fun t => w t * x t) n ∧ sumZ (fun t => w t * x t) n ≤ T * M := by
  have h1 : sumZ (fun t => w t * x t) n ≤ sumZ (fun t => w t * M) n := sumZ_le (fun t ht => Int.mul_le_mul_of_nonneg_left (hx t ht).2 (hw t ht))
  have h2 : sumZ (fun t => w t * -M) n ≤ sumZ (fun t => w t * x t) n := sumZ_le (fun t ht => Int.mul_le_mul_of_nonneg_left (hx t ht).1 (hw t ht))
  rw [sumZ_mulR] at h1 h2
  have h3 : sumZ w n * M ≤ T * M := Int.mul_le_mul_of_nonneg_right hT hM
  rw [Int.mul_neg] at h2
  omega
theorem uk_bnd {u d k T S M : Int} (hu : 0 ≤ u) (hud : u ≤ d) (hk : k * T = 60) (hk0 : 0 < k) (hM : 0 ≤ M) (hS : -(T * M) ≤ S ∧ S ≤ T * M) : -(60 * d * M) ≤ u * k * S ∧ u * k * S ≤ 60 * d * M := by
  have h0 : 0 ≤ u * k := Int.mul_nonneg hu (by omega)
  have h1 : u * k * S ≤ u * k * (T * M) := Int.mul_le_mul_of_nonneg_left hS.2 h0
  have h2 : u * k * -(T * M) ≤ u * k * S := Int.mul_le_mul_of_nonneg_left hS.1 h0
  have h3 : u * k * (T * M) = 60 * u * M := by rw [← hk]; grind
  have h4 : u * (60 * M) ≤ d * (60 * M) := Int.mul_le_mul_of_nonneg_right hud (by omega)
  have h5 : 60 * u * M = u * (60 * M) := by grind
  have h6 : 60 * d * M = d * (60 * M) := by grind
  rw [Int.mul_neg] at h2
  omega
theorem pay_bnd {y B : Int} (hy : -50 ≤ y) (hy2 : y ≤ 50) (hB : 0 ≤ B) : -(50 * B) ≤ y * B ∧ y * B ≤ 50 * B := by
  have h1 : y * B ≤ 50 * B := Int.mul_le_mul_of_nonneg_right hy2 hB
  have h2 : -50 * B ≤ y * B := Int.mul_le_mul_of_nonneg_right hy hB
  rw [Int.neg_mul] at h2
  omega
theorem com_bnd {S : GT} {N q : Nat} {M : Int} (hw : WW S N) (hq : q < 15) (hM : 0 ≤ M) (hB : 0 ≤ S 44 1) (hx : ∀ t, t < N → -M ≤ S 45 t ∧ S 45 t ≤ M) : -(50 * (stepZ S * S 44 1) + stepZ S * M) ≤ comesZ S N q 44 ∧ comesZ S N q 44 ≤ 50 * (stepZ S * S 44 1) + stepZ S * M := by
  have hN := hw.2.1
  have h3 := hw.2.2.1
  have h5 := hw.2.2.2.2.1 _ hq
  have h6 := fun t (ht : t < 5) => hw.2.2.2.2.2.1 _ t hq ht
  have hd : 0 ≤ stepZ S := by unfold stepZ; omega
  have p := pay_bnd h5.1 h5.2.1 (Int.mul_nonneg hd hB)
  have e1 : S 4 q * stepZ S * S 44 1 = S 4 q * (stepZ S * S 44 1) := Int.mul_assoc _ _ _
  have hdM : 0 ≤ stepZ S * M := Int.mul_nonneg hd hM
  unfold comesZ
  split
  · rw [e1]; omega
  · next h0 =>
    have hk := td60_k (T := S 5 q) (by omega) (by omega)
    have hs := wsum_bnd (w := S (7 + q)) (x := S 45) (n := N) hM (fun t ht => (h6 t (by omega)).1) hx (show sumZ (S (7 + q)) N ≤ S 5 q by rw [(h3.2.2.2 q hq).1]; exact Int.le_refl _)
    have hu := uk_bnd (u := S 1 1) (d := S 1 2) h3.1 (by omega) hk.1 hk.2 hM hs
    have e2 : stepZ S * M = 60 * S 1 2 * M := rfl
    rw [e1, e2]
    show -(50 * (stepZ S * S 44 1) + 60 * S 1 2 * M) ≤ S 4 q * (stepZ S * S 44 1) + S 1 1 * Int.tdiv 60 (S 5 q) * sumZ (fun t => S (7 + q) t * S 45 t) N ∧ S 4 q * (stepZ S * S 44 1) + S 1 1 * Int.tdiv 60 (S 5 q) * sumZ (fun t => S (7 + q) t * S 45 t) N ≤ 50 * (stepZ S * S 44 1) + 60 * S 1 2 * M
    omega
theorem stS_WW {G : GT} {N : Nat} (hw : WW G N) (k : Nat) : WW (stS G N k) N := hw.keep (fun a ha => stS_off (by omega) k)
theorem stS_step {G : GT} {N : Nat} (hw : WW G N) (k : Nat) : stepZ (stS G N k) = 60 * G 1 2 := by unfold stepZ; rw [stS_off (by omega) k]
theorem stS_nx {G : GT} {N : Nat} (hw : WW G N) (k : Nat) {t : Nat} (ht : t < N) : stS G N (k + 1) 45 t = (likS (stS G N k) N t 0 44 (G 3 t).toNat).2 := by
  show stpG (stS G N k) N 45 t = _
  unfold stpG
  rw [uG_n _ _ (by decide), uG_s, cpy_lt ht]
  unfold nxF
  rw [if_pos ht]
  unfold nxtZ
  rw [stS_off (by omega : (3 : Nat) < 44 ∨ 47 ≤ 3) k]
  obtain ⟨a, h1, h2, _⟩ := lik_all (G := stS G N k) (N := N) (s := t) (held := 0) (u := 44) (G 3 t).toNat
  rw [h1, h2, Int.toNat_natCast]
theorem lik_in {S : GT} {N s u : Nat} {M : Int} (h : ∀ a, a < 3 → -M ≤ comesZ S N (s * 3 + a) u ∧ comesZ S N (s * 3 + a) u ≤ M) : ∀ A, A ≤ 3 → -M ≤ (likS S N s 0 u A).2 ∧ (likS S N s 0 u A).2 ≤ M
  | 0, _ => h 0 (by decide)
  | A + 1, hA => by
    unfold likS
    split
    · exact h A (by omega)
    · exact lik_in h A (by omega)
theorem st_bnd {G : GT} {N : Nat} (hw : WW G N) : ∀ k, (stS G N k 44 1 = (60 * G 1 2) ^ k) ∧ ∀ s, s < N → -(50 * (k : Int) * (60 * G 1 2) ^ k) ≤ stS G N k 45 s ∧ stS G N k 45 s ≤ 50 * (k : Int) * (60 * G 1 2) ^ k
  | 0 => by
    have hN := hw.2.1
    refine ⟨?_, fun s hs => ?_⟩
    · show uG (uG G 45 _) 44 _ 44 1 = _; rw [uG_s, up_s, Int.pow_zero]
    · have : stS G N 0 45 s = 0 := by show uG (uG G 45 _) 44 _ 45 s = _; rw [uG_n _ _ (by decide), uG_s]; exact if_pos (by omega)
      rw [this]; show -(50 * (0 : Int) * _) ≤ 0 ∧ 0 ≤ 50 * (0 : Int) * _; rw [Int.mul_zero, Int.zero_mul]; omega
  | k + 1 => by
    have hN := hw.2.1
    have h3 := hw.2.2.1
    obtain ⟨i1, i2⟩ := st_bnd hw k
    have hd : 0 < 60 * G 1 2 := by omega
    have hB : 0 < (60 * G 1 2) ^ k := Int.pow_pos hd
    have hM : 0 ≤ 50 * (k : Int) * (60 * G 1 2) ^ k := Int.mul_nonneg (by omega) (by omega)
    have hst := stS_step hw k
    have e1 : (60 * G 1 2) ^ (k + 1) = (60 * G 1 2) ^ k * (60 * G 1 2) := Int.pow_succ _ _
    refine ⟨?_, fun s hs => ?_⟩
    · show stpG (stS G N k) N 44 1 = _
      unfold stpG
      rw [uG_s, up_s, i1, hst, e1]
    · rw [stS_nx hw k hs]
      have hac := hw.2.2.2.1 s (by omega)
      have hl := lik_in (S := stS G N k) (N := N) (s := s) (u := 44) (fun a ha => com_bnd (q := s * 3 + a) (stS_WW hw k) (by omega) hM (by rw [i1]; omega) i2) (G 3 s).toNat (by omega)
      have e2 : 50 * (((k + 1 : Nat) : Int)) * (60 * G 1 2) ^ (k + 1) = 50 * (stepZ (stS G N k) * stS G N k 44 1) + stepZ (stS G N k) * (50 * (k : Int) * (60 * G 1 2) ^ k) := by
        rw [i1, hst, e1, Int.natCast_add]
        show 50 * ((k : Int) + 1) * _ = _
        generalize (60 * G 1 2) ^ k = B
        generalize 60 * G 1 2 = d
        grind
      rw [e2]; exact hl
theorem pow360 {d : Int} (h0 : 0 < d) (h : d ≤ 360) {k : Nat} : 0 < d ^ k ∧ d ^ k ≤ 360 ^ k := by
  induction k with
  | zero => exact ⟨by rw [Int.pow_zero]; decide, by rw [Int.pow_zero, Int.pow_zero]; decide⟩
  | succ k ih =>
    rw [Int.pow_succ, Int.pow_succ]
    exact ⟨Int.mul_pos ih.1 h0, Int.mul_le_mul ih.2 h (by omega) (by omega)⟩
theorem p360 {k : Nat} (h : k ≤ 5) : (360 : Int) ^ k ≤ 6046617600000 := by
  rcases (by omega : k = 0 ∨ k = 1 ∨ k = 2 ∨ k = 3 ∨ k = 4 ∨ k = 5) with rfl | rfl | rfl | rfl | rfl | rfl <;> decide
theorem stpOk {G : GT} {N : Nat} (hw : WW G N) : StpOk G N := by
  intro k hk
  have hN := hw.2.1
  have h3 := hw.2.2.1
  obtain ⟨i1, i2⟩ := st_bnd hw k
  have hd : 0 < 60 * G 1 2 := by omega
  have hB := pow360 (k := k) hd (show 60 * G 1 2 ≤ 360 by omega)
  have hB2 := p360 hk
  have hM : 0 ≤ 50 * (k : Int) * (60 * G 1 2) ^ k := Int.mul_nonneg (by omega) (by omega)
  have hM2 : 50 * (k : Int) * (60 * G 1 2) ^ k ≤ 250 * 6046617600000 := Int.mul_le_mul (by omega) (by omega) (by omega) (by decide)
  refine ⟨fun q hq => ?_, by rw [i1]; omega, fun s hs => by have := i2 s hs; omega⟩
  have hc := com_bnd (stS_WW hw k) hq hM (by rw [i1]; omega) i2
  have hst := stS_step hw k
  have b1 : stepZ (stS G N k) * stS G N k 44 1 ≤ 360 * 6046617600000 := by rw [i1, hst]; exact Int.mul_le_mul (by omega) (by omega) (by omega) (by decide)
  have b2 : stepZ (stS G N k) * (50 * (k : Int) * (60 * G 1 2) ^ k) ≤ 360 * (250 * 6046617600000) := by rw [hst]; exact Int.mul_le_mul (by omega) hM2 hM (by decide)
  exact ⟨by omega, by omega⟩
/-- what the reference's acts come to, by the class's numbers -/
theorem cn_com {S H : GT} {N t a : Nat} (h : Rel H N) (e : ∀ b, 1 ≤ b ∧ b ≤ 21 → H b = S b) {L : GT} (eL : ∀ b, b < 62 → L b = H b) (ex : ∀ z, z < N → L 62 z = S 45 z) (ht : t < N) (ha : (a : Int) < S 3 t) {B : Int} (hB : B = S 44 1) : cnZ L N t a (B * (60 * H 50 8)) = comesZ S N (t * 3 + a) 44 := by
  have hN := h.1.2.1
  have h3 := h.1.2.2.2.1 t (by omega)
  have e3 := e 3 (by omega)
  have haH : (a : Int) < H 3 t := by rw [e3]; exact ha
  have hq : t * 3 + a < 15 := by omega
  have etot : totZ L t a 5 = S 5 (t * 3 + a) := by rw [totZ_congr (eL 54 (by decide)), h.tot ht haH, e 5 (by omega)]
  have hh := h.2.2.2.2.1 t a ht haH
  have h5 := h.1.2.2.2.2.1 _ hq
  rw [e 5 (by omega)] at h5
  unfold cnZ cnS comesZ stepZ
  rw [etot, eL 53 (by decide), hh.1, e 4 (by omega), eL 50 (by decide), eL 54 (by decide), h.2.2.1.1, h.2.2.1.2, e 1 (by omega), hB]
  by_cases h0 : S 5 (t * 3 + a) = 0
  · rw [if_neg (by omega), if_pos h0]; grind
  · rw [if_pos (by omega), if_neg h0, ← sumZ_mul]
    rw [sumZ_congr (g := fun z => S 1 1 * Int.tdiv 60 (S 5 (t * 3 + a)) * (S (7 + (t * 3 + a)) z * S 45 z)) (fun z hz => by rw [ex z hz, hh.2 z (by omega), e (7 + (t * 3 + a)) (by omega)]; grind)]
    have : S 4 (t * 3 + a) * (S 44 1 * (60 * S 1 2)) = S 4 (t * 3 + a) * (60 * S 1 2) * S 44 1 := by grind
    rw [this]
theorem th_lik {S H L : GT} {N t : Nat} (h : Rel H N) (e : ∀ b, 1 ≤ b ∧ b ≤ 21 → H b = S b) (eL : ∀ b, b < 62 → L b = H b) (ex : ∀ z, z < N → L 62 z = S 45 z) (ht : t < N) {B : Int} (hB : B = S 44 1) : ∀ A : Nat, ((A + 1 : Nat) : Int) ≤ S 3 t → thA L N t (B * (60 * H 50 8)) (A + 1) = (likS S N t 0 44 (A + 1)).2
  | 0, hA => by
    have hc := cn_com (a := 0) h e eL ex ht (by omega) hB
    unfold thA
    rw [if_pos (Or.inl rfl), hc]
    unfold likS
    split
    · rfl
    · rfl
  | A + 1, hA => by
    have hN := h.1.2.1
    have ih := th_lik h e eL ex ht hB A (by omega)
    have hc := cn_com (a := A + 1) h e eL ex ht (by omega) hB
    have e2 : L 51 t = S 2 t := by rw [eL 51 (by decide), (h.2.2.2.1 t ht).2, e 2 (by omega)]
    unfold thA likS
    rw [ih, hc, e2]
    unfold likesZ
    by_cases hb : S 2 t = 0
    · by_cases hl : (likS S N t 0 44 (A + 1)).2 < comesZ S N (t * 3 + (A + 1)) 44
      · rw [if_pos (Or.inr (by rw [if_pos hb]; exact hl)), if_pos (by rw [if_pos hb, if_pos hl])]
      · rw [if_neg (fun q => q.elim (fun q => by omega) (fun q => by rw [if_pos hb] at q; exact hl q)), if_neg (by rw [if_pos hb, if_neg hl]; decide)]
    · by_cases hl : comesZ S N (t * 3 + (A + 1)) 44 < (likS S N t 0 44 (A + 1)).2
      · rw [if_pos (Or.inr (by rw [if_neg hb]; exact hl)), if_pos (by rw [if_neg hb, if_pos hl])]
      · rw [if_neg (fun q => q.elim (fun q => by omega) (fun q => by rw [if_neg hb] at q; exact hl q)), if_neg (by rw [if_neg hb, if_neg hl]; decide)]
theorem within_eq {G H : GT} {N : Nat} (h : Rel H N) (hw : WW G N) (e : ∀ b, 1 ≤ b ∧ b ≤ 21 → H b = G b) : ∀ k, (wnS H N k).2 = stS G N k 44 1 ∧ ∀ t, t < N → (wnS H N k).1 62 t = stS G N k 45 t
  | 0 => by
    have hN := hw.2.1
    have hs := st_bnd hw 0
    refine ⟨by rw [hs.1, Int.pow_zero]; rfl, fun t ht => ?_⟩
    have : stS G N 0 45 t = 0 := by show uG (uG G 45 _) 44 _ 45 t = _; rw [uG_n _ _ (by decide), uG_s]; exact if_pos (by omega)
    rw [this]
    show uG H 62 _ 62 t = 0
    rw [uG_s]; exact if_pos ht
  | k + 1 => by
    have hN := hw.2.1
    obtain ⟨i1, i2⟩ := within_eq h hw e k
    have eS : ∀ b, 1 ≤ b ∧ b ≤ 21 → H b = stS G N k b := fun b hb => (e b hb).trans (stS_off (by omega) k).symm
    have eL : ∀ b, b < 62 → (wnS H N k).1 b = H b := fun b hb => wnS_off hb k
    refine ⟨?_, fun t ht => ?_⟩
    · show (wnS H N k).2 * (60 * H 50 8) = stpG (stS G N k) N 44 1
      unfold stpG
      rw [uG_s, up_s, i1, stS_step hw k, h.2.2.1.2, e 1 (by omega)]
    · rw [stS_nx hw k ht]
      show wnN (wnS H N k).1 N ((wnS H N k).2 * (60 * H 50 8)) 62 t = _
      unfold wnN
      rw [uG_s, cpy_lt ht]
      unfold thF
      rw [if_pos ht, eL 52 (by decide), (h.2.2.2.1 t ht).1, e 3 (by omega)]
      have h3 := hw.2.2.2.1 t (by omega)
      by_cases h0 : (G 3 t).toNat = 0
      · rw [h0]
        have hz := h.2.2.2.2.2 t 0 (by omega) (by decide) (by rw [e 3 (by omega)]; omega)
        rw [e 4 (by omega), e 5 (by omega)] at hz
        show 0 = comesZ (stS G N k) N (t * 3 + 0) 44
        unfold comesZ
        rw [stS_off (by omega : (5 : Nat) < 44 ∨ 47 ≤ 5) k, stS_off (by omega : (4 : Nat) < 44 ∨ 47 ≤ 4) k, if_pos hz.2, hz.1, Int.zero_mul, Int.zero_mul]
      · obtain ⟨A, hA⟩ : ∃ A, (G 3 t).toNat = A + 1 := ⟨(G 3 t).toNat - 1, by omega⟩
        rw [hA]
        exact th_lik h eS eL i2 ht i1 A (by rw [stS_off (by omega : (3 : Nat) < 44 ∨ 47 ≤ 3) k]; omega)
theorem cn_bnd {L : GT} {N t a : Nat} {M B : Int} (hm : MM L N) (ht : t < 5) (ha : a < 3) (h6 : totZ L t a 5 ≤ 6) (hM : 0 ≤ M) (hB : 0 ≤ B) (hx : ∀ z, z < N → -M ≤ L 62 z ∧ L 62 z ≤ M) : -(50 * B + 360 * M) ≤ cnZ L N t a B ∧ cnZ L N t a B ≤ 50 * B + 360 * M := by
  have hN := hm.2.1
  have hp := hm.2.2.2.2.1 (3 * t + a) (by omega)
  have hw := fun z (hz : z < 5) => hm.2.2.2.2.2.1 (wIx t a z) (by unfold wIx; omega)
  have p := pay_bnd hp.1 hp.2 hB
  have h0 := (totZ_in hm ht ha 5 (Nat.le_refl _)).1
  unfold cnZ
  split
  · next hT =>
    have hk := td60_k (T := totZ L t a 5) (by omega) h6
    have hs := wsum_bnd (w := fun z => L 54 (wIx t a z)) (x := L 62) (n := N) (T := totZ L t a 5) hM (fun z hz => (hw z (by omega)).1) hx (by
      rw [totZ_sum]
      have := sumZ_le (f := fun z => if z < N then L 54 (wIx t a z) else 0) (g := fun z => L 54 (wIx t a z)) (n := 5) (fun z hz => by
        show (if z < N then L 54 (wIx t a z) else 0) ≤ _
        split
        · exact Int.le_refl _
        · exact (hw z hz).1)
      rw [sumZ_grow (n := N) hN (fun z h1 _ => if_neg (by omega)), sumZ_congr (g := fun z => L 54 (wIx t a z)) (fun z hz => if_pos hz)] at this
      exact this)
    have hu := uk_bnd (u := L 50 7) (d := L 50 8) hm.2.2.1.1 (by have := hm.2.2.1; omega) hk.1 hk.2 hM hs
    have h6d : 60 * L 50 8 * M ≤ 360 * M := Int.mul_le_mul_of_nonneg_right (by have := hm.2.2.1; omega) hM
    unfold cnS
    rw [sumZ_congr (g := fun z => L 50 7 * Int.tdiv 60 (totZ L t a 5) * (L 54 (wIx t a z) * L 62 z)) (fun z _ => by grind), sumZ_mul]
    omega
  · have : 0 ≤ 360 * M := by omega
    omega
theorem wnOk {G H : GT} {N : Nat} (h : Rel H N) (hw : WW G N) (e : ∀ b, 1 ≤ b ∧ b ≤ 21 → H b = G b) (h6 : ∀ s a, s < 5 → a < 3 → totZ H s a 5 ≤ 6) : WnOk H N := by
  refine ⟨h6, fun k hk => ?_⟩
  have hN := hw.2.1
  have h3 := hw.2.2.1
  obtain ⟨i1, i2⟩ := within_eq h hw e k
  obtain ⟨j1, j2⟩ := st_bnd hw k
  have hd : 0 < 60 * G 1 2 := by omega
  have hB := pow360 (k := k) hd (show 60 * G 1 2 ≤ 360 by omega)
  have hB2 := p360 hk
  have hM2 : 50 * (k : Int) * (60 * G 1 2) ^ k ≤ 250 * 6046617600000 := Int.mul_le_mul (by omega) (by omega) (by omega) (by decide)
  have hx : ∀ z, z < N → -(250 * 6046617600000) ≤ (wnS H N k).1 62 z ∧ (wnS H N k).1 62 z ≤ 250 * 6046617600000 := fun z hz => by
    have := j2 z hz
    rw [i2 z hz]; omega
  have hmL : MM (wnS H N k).1 N := h.2.1.keep (fun a ha => wnS_off (by omega) k) (fun a _ => by rw [wnS_off (by omega) k])
  have ed : H 50 8 = G 1 2 := by rw [h.2.2.1.2, e 1 (by omega)]
  have hb1 : (wnS H N k).2 * (60 * H 50 8) ≤ 6046617600000 * 360 := by rw [i1, j1, ed]; exact Int.mul_le_mul (by omega) (by omega) (by omega) (by decide)
  have hb0 : 0 ≤ (wnS H N k).2 * (60 * H 50 8) := by rw [i1, j1, ed]; exact Int.mul_nonneg (by omega) (by omega)
  refine ⟨fun t a ht ha => ?_, ⟨by rw [i1, j1]; omega, by rw [i1, j1]; exact ⟨by omega, by omega⟩⟩, fun t ht => ?_⟩
  · have := cn_bnd (t := t) (a := a) (M := 250 * 6046617600000) hmL (by omega) ha (by rw [totZ_congr (wnS_off (by decide) k)]; exact h6 t a (by omega) ha) (by decide) hb0 hx
    exact ⟨by omega, by omega⟩
  · exact abs_in (hx t ht) (by decide)
