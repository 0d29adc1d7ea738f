/-! the elimination gives Cramer's numbers -/
def colA (G : GT) (eo c r : Nat) : Int := G (eo + 2 + r) c
/-- the entry of row r, column c when p pivots are through -/
def entE (A : Nat → Nat → Int) (p r c : Nat) : Int := if r < p then det p (ud A r (A c)) else det p A * A c r - sumZ (fun t => A t r * det p (ud A t (A c))) p
theorem entE_lo {A : Nat → Nat → Int} {p r c : Nat} (h : r < p) : entE A p r c = det p (ud A r (A c)) := if_pos h
theorem entE_hi {A : Nat → Nat → Int} {p r c : Nat} (h : p ≤ r) : entE A p r c = det p A * A c r - sumZ (fun t => A t r * det p (ud A t (A c))) p := if_neg (by omega)
theorem entE_p {A : Nat → Nat → Int} {p c : Nat} (h : p ≤ 4) : entE A p p c = det (p + 1) (ud A p (A c)) := by
  rw [entE_hi (Nat.le_refl _), det_em h]
  congr 1
  exact sumZ_congr (fun t _ => Int.mul_comm _ _)
theorem entE_pp {A : Nat → Nat → Int} {p : Nat} (h : p ≤ 4) : entE A p p p = det (p + 1) A := by
  rw [entE_p h, ud_self]
theorem entE_0 (A : Nat → Nat → Int) (r c : Nat) : entE A 0 r c = A c r := by
  rw [entE_hi (Nat.zero_le _)]
  show 1 * A c r - 0 = _
  omega
/-- one round of the elimination -/
theorem entE_step {A : Nat → Nat → Int} {p r c : Nat} (hp : p + 1 ≤ 5) (hpos : ∀ j, 1 ≤ j → j ≤ p + 1 → 0 < det j A) (hr : r ≠ p) : entE A p p p * entE A p r c - entE A p r p * entE A p p c = det p A * entE A (p + 1) r c := by
  have h0 : 0 < det p A := by
    by_cases e : p = 0
    · subst e; show (0 : Int) < 1; decide
    · exact hpos p (by omega) (by omega)
  have h1 := hpos (p + 1) (by omega) (by omega)
  have hs := (cr_step (A := A) (k := p) hp (by omega) (by omega) (adj (by omega) (fun j a b => by have := hpos j a (by omega); omega)) (A c)).1
  rw [entE_pp (by omega), entE_p (by omega)]
  by_cases l : r < p
  · rw [entE_lo l, entE_lo l, entE_lo (by omega)]
    have h2 := hs r l
    grind
  · rw [entE_hi (by omega), entE_hi (by omega), entE_hi (by omega)]
    have h2 : det p A * sumZ (fun t => A t r * det (p + 1) (ud A t (A c))) p = det (p + 1) A * sumZ (fun t => A t r * det p (ud A t (A c))) p - det (p + 1) (ud A p (A c)) * sumZ (fun t => A t r * det p (ud A t (A p))) p := by
      rw [← sumZ_mul, ← sumZ_mul, ← sumZ_mul, ← sumZ_sub]
      refine sumZ_congr (fun t ht => ?_)
      have h3 := hs t ht
      grind
    have h4 : sumZ (fun t => A t r * det (p + 1) (ud A t (A c))) (p + 1) = sumZ (fun t => A t r * det (p + 1) (ud A t (A c))) p + A p r * det (p + 1) (ud A p (A c)) := rfl
    rw [h4]
    grind
theorem sol_inv {G : GT} {eo n : Nat} (hn : n ≤ 5) (hpos : ∀ j, 1 ≤ j → j ≤ n → 0 < det j (colA G eo)) : ∀ p, p ≤ n → (solS G eo n p).2 = det p (colA G eo) ∧ ∀ r c, r < n → p ≤ c → c ≤ 5 → (solS G eo n p).1 (eo + 2 + r) c = entE (colA G eo) p r c
  | 0, _ => ⟨rfl, fun r c _ _ _ => (entE_0 _ _ _).symm⟩
  | p + 1, hp => by
    obtain ⟨i1, i2⟩ := sol_inv hn hpos p (by omega)
    have h0 : 0 < det p (colA G eo) := by
      by_cases e : p = 0
      · subst e; show (0 : Int) < 1; decide
      · exact hpos p (by omega) (by omega)
    have h1 := hpos (p + 1) (by omega) hp
    have e1 : (solS G eo n p).1 (eo + 2 + p) p = det (p + 1) (colA G eo) := by rw [i2 p p (by omega) (Nat.le_refl _) (by omega), entE_pp (by omega)]
    refine ⟨?_, fun r c hr hc h5 => ?_⟩
    · show maxZ 1 ((solS G eo n p).1 (eo + 2 + p) p) = _
      rw [e1]; exact if_pos (by omega)
    · show elG (solS G eo n p).1 eo p (solS G eo n p).2 n (eo + 2 + r) c = _
      unfold elG
      by_cases e : r = p
      · subst e
        rw [if_neg (by omega), i2 r c hr (by omega) h5, entE_p (by omega), entE_lo (by omega)]
      · rw [if_pos (by omega)]
        unfold elimF
        rw [if_pos (by omega), i1, i2 r c hr (by omega) h5, i2 r p hr (Nat.le_refl _) (by omega), i2 p c (by omega) (by omega) h5, i2 p p (by omega) (Nat.le_refl _) (by omega), entE_step (by omega) (fun j a b => hpos j a (by omega)) e]
        exact Int.mul_tdiv_cancel_left _ (by omega)
theorem sol_up {G : GT} {eo u n : Nat} (hn : n ≤ 5) (hpos : ∀ j, 1 ≤ j → j ≤ n → 0 < det j (colA G eo)) : solG G eo u n u 1 = det n (colA G eo) ∧ (∀ s, s < n → solG G eo u n (u + 1) s = det n (ud (colA G eo) s (colA G eo 5))) := by
  obtain ⟨i1, i2⟩ := sol_inv hn hpos n (Nat.le_refl _)
  refine ⟨?_, fun s hs => ?_⟩
  · unfold solG; rw [uG_s, up_s]; exact i1
  · unfold solG
    rw [uG_n _ _ (by omega), uG_s]
    unfold cpF
    rw [if_pos hs, i2 s 5 hs hn (by omega), entE_lo hs]
theorem sol_ok {G : GT} {eo n : Nat} {K1 K2 : Int} (hn : n ≤ 5) (hpos : ∀ j, 1 ≤ j → j ≤ n → 0 < det j (colA G eo)) (hP : ∀ p, p ≤ n → det p (colA G eo) ≤ K1) (hE : ∀ p r c, p ≤ n → r < n → p ≤ c → c ≤ 5 → -K2 ≤ entE (colA G eo) p r c ∧ entE (colA G eo) p r c ≤ K2) (hK : K1 * K2 ≤ 9000000000000000000) (hK1 : K1 ≤ 9000000000000000000) : SolOk G eo n := by
  intro p hp
  obtain ⟨i1, i2⟩ := sol_inv hn hpos p (by omega)
  have h0 : 0 < det p (colA G eo) := by
    by_cases e : p = 0
    · subst e; show (0 : Int) < 1; decide
    · exact hpos p (by omega) (by omega)
  have h1 := hpos (p + 1) (by omega) (by omega)
  have hp1 := hP p (by omega)
  have hp2 := hP (p + 1) (by omega)
  refine ⟨?_, ?_, fun r c hr hne hc h5 => ?_⟩
  · rw [i1]; exact ⟨by omega, by omega⟩
  · rw [i2 p p hp (Nat.le_refl _) (by omega), entE_pp (by omega)]; exact ⟨by omega, by omega⟩
  · rw [i2 r c hr (by omega) h5, i2 r p hr (Nat.le_refl _) (by omega), i2 p c hp (by omega) h5, i2 p p hp (Nat.le_refl _) (by omega), entE_step (by omega) (fun j a b => hpos j a (by omega)) hne]
    have hb := hE (p + 1) r c (by omega) hr (by omega) h5
    have hK2 : 0 ≤ K2 := by omega
    have m1 : det p (colA G eo) * entE (colA G eo) (p + 1) r c ≤ K1 * K2 := by
      have a1 : det p (colA G eo) * entE (colA G eo) (p + 1) r c ≤ det p (colA G eo) * K2 := Int.mul_le_mul_of_nonneg_left hb.2 (by omega)
      have a2 : det p (colA G eo) * K2 ≤ K1 * K2 := Int.mul_le_mul_of_nonneg_right hp1 hK2
      omega
    have m2 : -(K1 * K2) ≤ det p (colA G eo) * entE (colA G eo) (p + 1) r c := by
      have a1 : det p (colA G eo) * (-K2) ≤ det p (colA G eo) * entE (colA G eo) (p + 1) r c := Int.mul_le_mul_of_nonneg_left hb.1 (by omega)
      have a2 : det p (colA G eo) * K2 ≤ K1 * K2 := Int.mul_le_mul_of_nonneg_right hp1 hK2
      rw [Int.mul_neg] at a1
      omega
    exact ⟨by omega, by omega⟩
