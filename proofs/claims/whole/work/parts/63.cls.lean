/-! the long run: the class -/
def lw (G : GT) (pl : Nat) : Nat → Nat → Int := fun s t => G (7 + slotN G pl s) t
def lT (G : GT) (pl : Nat) : Nat → Int := fun s => G 5 (slotN G pl s)
def ly (G : GT) (pl : Nat) : Nat → Int := fun s => G 4 (slotN G pl s)
def lb (G : GT) (pl N : Nat) : Nat → Nat → Bool := fun s t => tb (reaG G pl N) s t
def lC (G : GT) (pl N : Nat) : Nat → Bool := fun s => inCir (reaG G pl N) s N
def lh (G : GT) (pl N : Nat) : Nat → Nat := fun s => (homZ (reaG G pl N) N s).toNat
theorem hoS_no {X : GT} {N s : Nat} (h : inCir X s N = false) : ∀ j, hoS X N s j = (s : Int)
  | 0 => rfl
  | j + 1 => by unfold hoS; rw [if_neg (fun q => by rw [h] at q; cases q.1), hoS_no h j]
theorem hoS_max {X : GT} {N s : Nat} (hs : tb X s s = true) (h : inCir X s N = true) : ∀ j, ∃ v : Nat, hoS X N s j = (v : Int) ∧ v < s + 1 + j ∧ tb X s v = true ∧ ∀ t, t < s + 1 + j → tb X s t = true → t ≤ v
  | 0 => ⟨s, rfl, by omega, hs, fun t ht _ => by omega⟩
  | j + 1 => by
    obtain ⟨v, h1, h2, h3, h4⟩ := hoS_max hs h j
    unfold hoS
    by_cases c : tb X s (s + 1 + j) = true
    · rw [if_pos ⟨h, c⟩]; exact ⟨s + 1 + j, rfl, by omega, c, fun t ht _ => by omega⟩
    · rw [if_neg (fun q => c q.2)]
      refine ⟨v, h1, by omega, h3, fun t ht hb => ?_⟩
      by_cases e : t = s + 1 + j
      · rw [e] at hb; exact absurd hb c
      · exact h4 t (by omega) hb
theorem slot_in {G : GT} {pl N s : Nat} (hw : WW G N) (hp : PlOk G pl N) (hs : s < N) : slotN G pl s < 15 := by
  have := hp.2 s hs
  have := hw.2.1
  unfold slotN; omega
theorem lr_LR {G : GT} {pl N : Nat} (hw : WW G N) (hp : PlOk G pl N) : LR N (lw G pl) (lT G pl) (lb G pl N) (lC G pl N) (lh G pl N) := by
  have hN := hw.2.1
  have hR : Reach N (lw G pl) (lT G pl) (lb G pl N) := reach_cls hN
  refine ⟨hN, hR, fun s hs => inCir_iff, fun s hs hc => ?_, fun s hs hc => ?_, fun s t hs ht => ?_, fun s hs => ?_⟩
  · unfold lh homZ; rw [hoS_no hc, Int.toNat_natCast]
  · obtain ⟨v, h1, h2, h3, h4⟩ := hoS_max (hR.1 s hs) hc (N - (s + 1))
    have e : lh G pl N s = v := by unfold lh homZ; rw [h1, Int.toNat_natCast]
    rw [e]
    exact ⟨by omega, h3, fun t ht hb => h4 t (by omega) hb⟩
  · exact (hw.2.2.2.2.2.1 _ t (slot_in hw hp hs) (by omega)).1
  · exact (hw.2.2.1.2.2.2 _ (slot_in hw hp hs)).1
theorem wpS_at {X : GT} {q : Nat} {r0 : Nat → Int} (c : Nat) : ∀ n, wpS X q r0 n c = r0 c - sumZ (fun z => if (X 43 z).toNat = c then X (7 + q) z else 0) n
  | 0 => by show r0 c = r0 c - 0; omega
  | n + 1 => by
    rw [wpS_s]
    show _ = r0 c - (sumZ _ n + (if (X 43 n).toNat = c then X (7 + q) n else 0))
    by_cases e : c = (X 43 n).toNat
    · rw [if_pos e.symm, e, up_s, ← e, wpS_at c n]; omega
    · rw [if_neg (fun q => e q.symm), up_n _ _ e, wpS_at c n]; omega
theorem lr_row {G : GT} {pl N c r : Nat} (hw : WW G N) (hp : PlOk G pl N) (hr : r < N) (hc : c ≤ 5) : colA (lrG (lrH G pl N) pl N N) 33 c r = lA N (lw G pl) (lT G pl) (ly G pl) (lC G pl N) (lh G pl N) c r := by
  have hN := hw.2.1
  have hpl := hp.1
  have hq := slot_in hw hp hr
  have hLR := lr_LR hw hp
  have eX : ∀ b, b ≠ 42 → b ≠ 43 → lrH G pl N b = G b := fun b h1 h2 => by unfold lrH homG reaG; rw [uG_n _ _ h2, uG_n _ _ h1]
  have e42 : lrH G pl N 42 = reaG G pl N 42 := by unfold lrH homG; rw [uG_n _ _ (by decide)]
  have e43 : ∀ z, z < N → (lrH G pl N 43 z).toNat = lh G pl N z := fun z hz => by
    unfold lrH homG; rw [uG_s]; unfold homF; rw [if_pos hz]; rfl
  have eS : slotN (lrH G pl N) pl r = slotN G pl r := by unfold slotN; rw [eX pl (by omega) (by omega)]
  have z0 : ∀ c, c < 6 → clrG (lrH G pl N) 35 5 6 (35 + r) c = 0 := fun c hc => by
    unfold clrG; rw [if_pos (by omega)]; exact if_pos hc
  have e7 : lrH G pl N (7 + slotN G pl r) = G (7 + slotN G pl r) := eX _ (by omega) (by omega)
  have e5 : lrH G pl N 5 = G 5 := eX 5 (by decide) (by decide)
  have e4 : lrH G pl N 4 = G 4 := eX 4 (by decide) (by decide)
  have wz : ∀ t, N ≤ t → t < 5 → G (7 + slotN G pl r) t = 0 := fun t h1 h2 => (hw.2.2.1.2.2.2 _ hq).2 t h1 h2
  show lrG (lrH G pl N) pl N N (35 + r) c = _
  unfold lrG
  rw [if_pos (by omega), show 35 + r - 35 = r by omega]
  unfold rowL
  rw [inCir_congr e42, eS]
  have hh := (hLR.hom hr).1
  by_cases hci : inCir (reaG G pl N) r N = true
  · rw [if_pos hci, e43 r hr]
    have hC : lC G pl N r = true := hci
    unfold wcR
    by_cases c5 : c = 5
    · subst c5; rw [up_s, e5, e4]; unfold lA; rw [if_pos hC, if_pos rfl]; rfl
    · rw [up_n _ _ c5]
      have hF : ∀ c, c ≤ 5 → c ≠ 5 → wcF (lrH G pl N) (slotN G pl r) (lh G pl N r) N (clrG (lrH G pl N) 35 5 6 (35 + r)) c = if c = lh G pl N r then 0 else -(lw G pl r c) := fun c hc c5 => by
        unfold wcF
        rw [z0 c (by omega), e7]
        by_cases l : c < N ∧ c ≠ lh G pl N r
        · rw [if_pos l, if_neg l.2]; show 0 - lw G pl r c = _; omega
        · rw [if_neg l]
          by_cases e : c = lh G pl N r
          · rw [if_pos e]
          · rw [if_neg e]
            have : lw G pl r c = 0 := wz c (by omega) (by omega)
            rw [this]; rfl
      have hH : ∀ c, c ≤ 5 → c ≠ 5 → wcH (lrH G pl N) N (slotN G pl r) (lh G pl N r) (clrG (lrH G pl N) 35 5 6 (35 + r)) c = if c = lh G pl N r then lT G pl r else -(lw G pl r c) := fun c hc c5 => by
        unfold wcH
        by_cases e : c = lh G pl N r
        · rw [if_pos e, ← e, up_s, e, hF (lh G pl N r) (by omega) (by omega), if_pos rfl, e5]; show 0 + lT G pl r = _; omega
        · rw [if_neg e, up_n _ _ e, hF c hc c5, if_neg e]
      by_cases hs : r = lh G pl N r
      · rw [if_pos hs, hH c hc c5]
        by_cases e : c = lh G pl N r
        · rw [if_pos e, lA_h hC c5 e]
        · rw [if_neg e, lA_c hC c5 e, if_neg (fun q => e (q.trans hs))]; omega
      · rw [if_neg hs]
        by_cases er : c = r
        · rw [er, up_s, hH r (by omega) (by omega), if_neg hs, e5, lA_c hC (by omega) hs, if_pos rfl]; show -(lw G pl r r) + lT G pl r = _; omega
        · rw [up_n _ _ er, hH c hc c5]
          by_cases e : c = lh G pl N r
          · rw [if_pos e, lA_h hC c5 e]
          · rw [if_neg e, lA_c hC c5 e, if_neg er]; omega
  · rw [if_neg hci]
    have hC : ¬ lC G pl N r = true := hci
    have hS : ∀ c, c < 6 → wpS (lrH G pl N) (slotN G pl r) (clrG (lrH G pl N) 35 5 6 (35 + r)) N c = -(sumZ (fun z => if lh G pl N z = c then lw G pl r z else 0) N) := fun c hc => by
      rw [wpS_at, z0 c hc, e7, sumZ_congr (g := fun z => if lh G pl N z = c then lw G pl r z else 0) (fun z hz => by rw [e43 z hz]; rfl)]; omega
    unfold wpR lA
    rw [if_neg hC]
    by_cases c5 : c = 5
    · subst c5
      rw [up_n _ _ (by omega), hS 5 (by omega), if_pos rfl, sumZ_0 (fun z hz => if_neg (by have := (hLR.hom hz).1; omega))]; rfl
    · rw [if_neg c5]
      by_cases er : c = r
      · rw [if_pos er, er, up_s, hS r (by omega), e5]
        show -(sumZ (fun z => if lh G pl N z = r then lw G pl r z else 0) N) + maxZ 1 (lT G pl r) = _
        omega
      · rw [if_neg er, up_n _ _ er, hS c (by omega)]; omega
theorem lA_bnd {N : Nat} {w : Nat → Nat → Int} {T y : Nat → Int} {b : Nat → Nat → Bool} {C : Nat → Bool} {hm : Nat → Nat} (h : LR N w T b C hm) (h6 : ∀ s, s < N → T s ≤ 6) (hy : ∀ s, s < N → -50 ≤ y s ∧ y s ≤ 50) (hw5 : ∀ s t, s < N → N ≤ t → t < 5 → w s t = 0) {t r : Nat} (hr : r < N) (ht : t ≤ 5) : (t ≠ 5 → -6 ≤ lA N w T y C hm t r ∧ lA N w T y C hm t r ≤ 6) ∧ -300 ≤ lA N w T y C hm t r ∧ lA N w T y C hm t r ≤ 300 := by
  have hN := h.1
  have hT := (h.tot hr).1
  have hT6 := h6 r hr
  have w1 : ∀ t, t < 5 → 0 ≤ w r t ∧ w r t ≤ T r := fun t ht => by
    by_cases l : t < N
    · refine ⟨h.2.2.2.2.2.1 r t hr l, ?_⟩
      rw [← h.2.2.2.2.2.2 r hr, sumZ_pick l]
      have : 0 ≤ sumZ (fun z => if z = t then 0 else w r z) N := sumZ_nonneg (fun z hz => by
        show 0 ≤ (if z = t then 0 else w r z)
        split
        · exact Int.le_refl _
        · exact h.2.2.2.2.2.1 r z hr hz)
      omega
    · rw [hw5 r t hr (by omega) ht]; omega
  have s1 : 0 ≤ sumZ (fun z => if hm z = t then w r z else 0) N ∧ sumZ (fun z => if hm z = t then w r z else 0) N ≤ T r := by
    constructor
    · exact sumZ_nonneg (fun z hz => by
        show 0 ≤ (if hm z = t then w r z else 0)
        split
        · exact h.2.2.2.2.2.1 r z hr hz
        · exact Int.le_refl _)
    · rw [← h.2.2.2.2.2.2 r hr]
      exact sumZ_le (fun z hz => by
        show (if hm z = t then w r z else 0) ≤ w r z
        split
        · exact Int.le_refl _
        · exact h.2.2.2.2.2.1 r z hr hz)
  have mx : 1 ≤ maxZ 1 (T r) ∧ maxZ 1 (T r) ≤ 6 := by unfold maxZ; split <;> omega
  have small : t ≠ 5 → -6 ≤ lA N w T y C hm t r ∧ lA N w T y C hm t r ≤ 6 := fun h5 => by
    have := w1 t (by omega)
    unfold lA
    rw [if_neg h5, if_neg h5]
    split
    · split
      · omega
      · split <;> omega
    · split <;> omega
  refine ⟨small, ?_⟩
  by_cases h5 : t = 5
  · subst h5
    unfold lA
    rw [if_pos rfl, if_pos rfl]
    split
    · have := pay_bnd (hy r hr).1 (hy r hr).2 hT
      rw [Int.mul_comm (T r)]
      omega
    · omega
  · have := small h5; omega
theorem p6_in {p : Nat} (h : p ≤ 5) : fac p * prodZ (fun _ => 6) p ≤ 933120 ∧ (p ≤ 4 → fac p * prodZ (fun _ => 6) p ≤ 31104) := by
  rcases (by omega : p = 0 ∨ p = 1 ∨ p = 2 ∨ p = 3 ∨ p = 4 ∨ p = 5) with rfl | rfl | rfl | rfl | rfl | rfl <;> exact ⟨by decide, by decide⟩
theorem lr_dets {N : Nat} {w : Nat → Nat → Int} {T y : Nat → Int} {b : Nat → Nat → Bool} {C : Nat → Bool} {hm : Nat → Nat} (h : LR N w T b C hm) (h6 : ∀ s, s < N → T s ≤ 6) (hy : ∀ s, s < N → -50 ≤ y s ∧ y s ≤ 50) (hw5 : ∀ s t, s < N → N ≤ t → t < 5 → w s t = 0) {p : Nat} (hp : p ≤ N) : (det p (lA N w T y C hm) ≤ 933120 ∧ (p ≤ 4 → det p (lA N w T y C hm) ≤ 31104)) ∧ ∀ t c, t < p → c ≤ 5 → -(50 * (fac p * prodZ (fun _ => 6) p)) ≤ det p (ud (lA N w T y C hm) t (lA N w T y C hm c)) ∧ det p (ud (lA N w T y C hm) t (lA N w T y C hm c)) ≤ 50 * (fac p * prodZ (fun _ => 6) p) := by
  have hN := h.1
  have hb := p6_in (p := p) (by omega)
  have h1 := det_bnd (n := p) (by omega) (c := lA N w T y C hm) (m := fun _ => 6) (fun _ _ => by decide) (fun t ht r hr => (lA_bnd h h6 hy hw5 (show r < N by omega) (show t ≤ 5 by omega)).1 (by omega))
  refine ⟨⟨by omega, fun h4 => by have := hb.2 h4; omega⟩, fun t c ht hc => ?_⟩
  have h2 := det_bnd (n := p) (by omega) (c := ud (lA N w T y C hm) t (lA N w T y C hm c)) (m := fun z => if z = t then 300 else 6) (fun z _ => by show (0 : Int) ≤ (if z = t then 300 else 6); split <;> decide) (fun z hz r hr => by
    unfold ud
    show -(if z = t then 300 else 6) ≤ (if z = t then lA N w T y C hm c else lA N w T y C hm z) r ∧ (if z = t then lA N w T y C hm c else lA N w T y C hm z) r ≤ (if z = t then 300 else 6)
    by_cases e : z = t
    · rw [if_pos e, if_pos e]; exact (lA_bnd h h6 hy hw5 (show r < N by omega) hc).2
    · rw [if_neg e, if_neg e]; exact (lA_bnd h h6 hy hw5 (show r < N by omega) (show z ≤ 5 by omega)).1 (by omega))
  have h3 := prodZ_ud (m := fun _ => 6) (x := 300) (t := t) (n := p) ht
  have h4 : prodZ (fun z => if z = t then 300 else 6) p = 50 * prodZ (fun _ => 6) p := by
    have : prodZ (fun z => if z = t then 300 else 6) p * 6 = prodZ (fun _ => 6) p * 300 := h3
    omega
  rw [h4] at h2
  have h5 : fac p * (50 * prodZ (fun _ => 6) p) = 50 * (fac p * prodZ (fun _ => 6) p) := Int.mul_left_comm _ _ _
  rw [h5] at h2
  exact h2
theorem runOk {G : GT} {N : Nat} (hw : WW G N) (hp : PlOk G 47 N) : RunOk G N ∧ lrR G 47 N 40 1 = det N (lA N (lw G 47) (lT G 47) (ly G 47) (lC G 47 N) (lh G 47 N)) ∧ ∀ h, h < N → lrR G 47 N 41 h = det N (ud (lA N (lw G 47) (lT G 47) (ly G 47) (lC G 47 N) (lh G 47 N)) h (lA N (lw G 47) (lT G 47) (ly G 47) (lC G 47 N) (lh G 47 N) 5)) := by
  have hN := hw.2.1
  have hLR := lr_LR hw hp
  have h6 : ∀ s, s < N → lT G 47 s ≤ 6 := fun s hs => (hw.2.2.2.2.1 _ (slot_in hw hp hs)).2.2.2
  have hy : ∀ s, s < N → -50 ≤ ly G 47 s ∧ ly G 47 s ≤ 50 := fun s hs => ⟨(hw.2.2.2.2.1 _ (slot_in hw hp hs)).1, (hw.2.2.2.2.1 _ (slot_in hw hp hs)).2.1⟩
  have hw5 : ∀ s t, s < N → N ≤ t → t < 5 → lw G 47 s t = 0 := fun s t hs h1 h2 => (hw.2.2.1.2.2.2 _ (slot_in hw hp hs)).2 t h1 h2
  have er := fun c r (hc : c ≤ 5) (hr : r < N) => lr_row (c := c) hw hp hr hc
  have hpos0 := hLR.pos (y := ly G 47) N (Nat.le_refl _)
  have dj : ∀ j, j ≤ N → det j (colA (lrG (lrH G 47 N) 47 N N) 33) = det j (lA N (lw G 47) (lT G 47) (ly G 47) (lC G 47 N) (lh G 47 N)) := fun j hj => det_congr (by omega) (fun t ht r hr => er t r (by omega) (by omega))
  have dj2 : ∀ j t c, j ≤ N → c ≤ 5 → det j (ud (colA (lrG (lrH G 47 N) 47 N N) 33) t (colA (lrG (lrH G 47 N) 47 N N) 33 c)) = det j (ud (lA N (lw G 47) (lT G 47) (ly G 47) (lC G 47 N) (lh G 47 N)) t (lA N (lw G 47) (lT G 47) (ly G 47) (lC G 47 N) (lh G 47 N) c)) := fun j t c hj hc => det_congr (by omega) (fun z hz r hr => by
    unfold ud
    split
    · exact er c r hc (by omega)
    · exact er z r (by omega) (by omega))
  have hpos : ∀ j, 1 ≤ j → j ≤ N → 0 < det j (colA (lrG (lrH G 47 N) 47 N N) 33) := fun j h1 h2 => by rw [dj j h2]; exact hpos0 j h1 h2
  have hd := fun p (hp : p ≤ N) => lr_dets (p := p) hLR h6 hy hw5 hp
  have hu := sol_up (u := 40) hN hpos
  have e1 : lrR G 47 N 40 1 = det N (lA N (lw G 47) (lT G 47) (ly G 47) (lC G 47 N) (lh G 47 N)) := hu.1.trans (dj N (Nat.le_refl _))
  have e2 : ∀ h, h < N → lrR G 47 N 41 h = det N (ud (lA N (lw G 47) (lT G 47) (ly G 47) (lC G 47 N) (lh G 47 N)) h (lA N (lw G 47) (lT G 47) (ly G 47) (lC G 47 N) (lh G 47 N) 5)) := fun h hh => (hu.2 h hh).trans (dj2 N h 5 (Nat.le_refl _) (by decide))
  refine ⟨⟨?_, ?_, ?_, fun h hh => ?_⟩, e1, e2⟩
  · refine sol_ok (K1 := 933120) (K2 := 46656000) hN hpos (fun p hp => by rw [dj p hp]; exact (hd p hp).1.1) (fun p r c hp hr hc h5 => ?_) (by decide) (by decide)
    have b0 := p6_in (p := p) (by omega)
    by_cases l : r < p
    · rw [entE_lo l, dj2 p r c hp h5]
      have := (hd p hp).2 r c l h5
      omega
    · rw [entE_hi (by omega), dj p hp, sumZ_congr (g := fun t => lA N (lw G 47) (lT G 47) (ly G 47) (lC G 47 N) (lh G 47 N) t r * det p (ud (lA N (lw G 47) (lT G 47) (ly G 47) (lC G 47 N) (lh G 47 N)) t (lA N (lw G 47) (lT G 47) (ly G 47) (lC G 47 N) (lh G 47 N) c))) (fun t ht => by rw [dj2 p t c hp h5, er t r (by omega) hr]), er c r h5 hr]
      have b1 := (hd p hp).1.2 (by omega)
      have b2 := b0.2 (by omega)
      have b3 := (lA_bnd (y := ly G 47) hLR h6 hy hw5 hr h5).2
      have hP := det_pos0 (hLR.pos (y := ly G 47) p hp)
      have a1 := mul_inA (x := det p (lA N (lw G 47) (lT G 47) (ly G 47) (lC G 47 N) (lh G 47 N))) (y := lA N (lw G 47) (lT G 47) (ly G 47) (lC G 47 N) (lh G 47 N) c r) (a := 31104) (b := 300) (by decide) (by omega) b1 b3.1 b3.2
      have a2 := sumZ_abs (f := fun t => lA N (lw G 47) (lT G 47) (ly G 47) (lC G 47 N) (lh G 47 N) t r * det p (ud (lA N (lw G 47) (lT G 47) (ly G 47) (lC G 47 N) (lh G 47 N)) t (lA N (lw G 47) (lT G 47) (ly G 47) (lC G 47 N) (lh G 47 N) c))) (M := 6 * 1555200) (n := p) (fun t ht => by
        have c1 := (lA_bnd (y := ly G 47) (t := t) hLR h6 hy hw5 hr (by omega)).1 (by omega)
        have c2 := (hd p hp).2 t c ht h5
        exact mul_inA (by decide) c1.1 c1.2 (by omega) (by omega))
      have a3 : (p : Int) * (6 * 1555200) ≤ 4 * (6 * 1555200) := by omega
      omega
  · rw [e1]; have := det_pos0 hpos0; omega
  · rw [e1]; have := (hd N (Nat.le_refl _)).1.1; omega
  · rw [e2 h hh]
    have := (hd N (Nat.le_refl _)).2 h 5 hh (by decide)
    have b0 := (p6_in hN).1
    omega
