/-! class and reference give the same: comes, best, settled, told -/
/-- the common plan has all values -/
theorem common {H : GT} {N : Nat} {f : Nat → Nat} (h : Rel H N) (hv : ∀ s, s < N → vd H s (f s)) (o0 : Opt H N 0 f) (o1 : Opt H N 1 f) : ∃ c, c < nPl H N ∧ layV H N 50 18 = (c : Int) ∧ ∀ s, s < N → vq H N (fP H c) s = vq H N f s := by
  have hw := h.1
  have hN := hw.2.1
  have hf : ∀ r, r < N → f r ≤ 2 := fun r hr => vd_in hw (by omega) (hv r hr)
  have hc := h.code hv
  have eh : ∀ p, haS (vaG H N) p N = haS (layV H N) p N := fun p => (haS_congr (G := vaG H N) (G' := layV H N) (coG_n (by decide)) (coG_n (by decide)) (coG_n (by decide)) p N).symm
  have h1 : layV H N 50 18 = (coS (vaG H N) N (nPl H N)).1 := coG_18 _ _ _
  rcases coS_1 (L := vaG H N) (N := N) (nPl H N) with ⟨_, i2⟩ | ⟨p, p1, p2, p3⟩
  · exfalso
    refine i2 _ hc.1 ?_
    rw [eh, h.has hv o0 o1 hc.1]
    intro s hs
    rw [hc.2 s hs]; exact rs_self hw hf hs
  · refine ⟨p, p1, h1.trans p2, fun s hs => ?_⟩
    rw [eh, h.has hv o0 o1 p1] at p3
    exact (rs_0 hw hf (h.f p) p3 s hs).symm
theorem comes_fr {G H F : GT} {N s a c : Nat} {f : Nat → Nat} (h : Rel H N) (hw : WW G N) (e : ∀ b, 1 ≤ b ∧ b ≤ 21 → H b = G b) (h1 : StP G 48 N f F) (hf : ∀ s, s < N → f s ≤ 2) (hc : c < nPl H N) (hcv : ∀ s, s < N → vq H N (fP H c) s = vq H N f s) (hs : s < N) (ha : (a : Int) < G 3 s) : 1 ≤ F 30 1 * stepZ F ∧ F 30 1 * stepZ F ≤ 60466176 * 360 ∧ 1 ≤ lcD (layV H N) s a c ∧ fr (comesZ F N (s * 3 + a) 30) (F 30 1 * stepZ F) = fr (lcN (layV H N) N s a c) (lcD (layV H N) s a c) := by
  have hN := hw.2.1
  have h3 := hw.2.2.2.1 s (by omega)
  have hq : s * 3 + a < 15 := by omega
  have hsh := hw.2.2.1
  have h5 := hw.2.2.2.2.1 _ hq
  have hn := h1.num hw
  have hwi := w_in hw hf
  have haH : (a : Int) < H 3 s := by rw [e 3 (by omega)]; exact ha
  have hF : ∀ b, 1 ≤ b ∧ b ≤ 21 → F b = G b := h1.1
  have eL : ∀ b, b < 56 → b ≠ 50 → layV H N b = H b := fun b hb hb2 => by rw [layV_off hb2 (by omega), layP_off ⟨by omega, hb2⟩]
  have etot : totZ (layV H N) s a 5 = G 5 (s * 3 + a) := by
    rw [totZ_congr (eL 54 (by decide) (by decide)), h.tot hs haH, e 5 (by omega)]
  have epay : layV H N 53 (3 * s + a) = G 4 (s * 3 + a) := by rw [eL 53 (by decide) (by decide), (h.2.2.2.2.1 s a hs haH).1, e 4 (by omega)]
  have ewei : ∀ t, t < 5 → layV H N 54 (wIx s a t) = G (7 + (s * 3 + a)) t := fun t ht => by rw [eL 54 (by decide) (by decide), (h.2.2.2.2.1 s a hs haH).2 t ht, e (7 + (s * 3 + a)) (by omega)]
  have eu : layV H N 50 7 = G 1 1 := by rw [layV_k (by decide) (by decide) (by decide), h.2.2.1.1, e 1 (by omega)]
  have ed : layV H N 50 8 = G 1 2 := by rw [layV_k (by decide) (by decide) (by decide), h.2.2.1.2, e 1 (by omega)]
  have e59 : layV H N 59 = layP H N 59 := layV_off (by decide) (by decide)
  have e60 : layV H N 60 = layP H N 60 := layV_off (by decide) (by decide)
  have hlow := (h.ref.2 c hc).1
  have hst : stepZ F = 60 * G 1 2 := by unfold stepZ; rw [hF 1 (by omega)]
  have hx : ∀ t, t < N → wU G N f t * layP H N 60 c = layP H N 59 (5 * c + t) * wL G N f := fun t ht => by
    have h6 : fr (layP H N 59 (5 * c + t)) (layP H N 60 c) = fr (wU G N f t) (wL G N f) := by
      rw [h.frE hc ht, hcv t ht]; exact vqG e hN hf t
    rw [fr_eq (by omega) (by omega)] at h6
    exact h6.symm
  have hby : byZ (layV H N) s a = G 1 2 * G 5 (s * 3 + a) := by unfold byZ; rw [ed, etot]
  have hpos1 : 1 ≤ F 30 1 * stepZ F := by
    rw [hn.1, hst]
    have : 0 < wL G N f * (60 * G 1 2) := Int.mul_pos (by omega) (by omega)
    omega
  have hle : F 30 1 * stepZ F ≤ 60466176 * 360 := by
    rw [hn.1, hst]
    exact Int.mul_le_mul hwi.2.1 (by omega) (by omega) (by decide)
  by_cases h0 : G 5 (s * 3 + a) = 0
  · have eN : lcN (layV H N) N s a c = G 4 (s * 3 + a) := by unfold lcN; rw [etot, if_pos h0, epay]
    have eD : lcD (layV H N) s a c = 1 := by unfold lcD; rw [etot, if_pos h0]
    rw [eN, eD]
    refine ⟨hpos1, hle, by decide, ?_⟩
    rw [fr_eq (by omega) (by decide)]
    unfold comesZ
    rw [hF 5 (by omega), hF 4 (by omega), if_pos h0]
    grind
  · have hD : lcD (layV H N) s a c = G 1 2 * G 5 (s * 3 + a) * layP H N 60 c := by unfold lcD lcA; rw [etot, if_neg h0, hby, e60]
    have hNn : lcN (layV H N) N s a c = G 4 (s * 3 + a) * (G 1 2 * G 5 (s * 3 + a) * layP H N 60 c) + G 1 1 * sumZ (fun t => G (7 + (s * 3 + a)) t * layP H N 59 (5 * c + t)) N := by
      unfold lcN lcU lcA
      rw [etot, if_neg h0, hby, e60, epay, ← sumZ_mul]
      congr 1
      refine sumZ_congr (fun t ht => ?_)
      show layV H N 50 7 * layV H N 54 (wIx s a t) * layV H N 59 (5 * c + t) = _
      rw [eu, ewei t (by omega), e59, Int.mul_assoc]
    have hDpos : 1 ≤ lcD (layV H N) s a c := by
      rw [hD]
      have := Int.mul_pos (Int.mul_pos (show 0 < G 1 2 by omega) (show 0 < G 5 (s * 3 + a) by omega)) (show 0 < layP H N 60 c by omega)
      omega
    refine ⟨hpos1, hle, hDpos, ?_⟩
    rw [fr_eq (by omega) (by omega), hD, hNn, hn.1, hst]
    unfold comesZ
    rw [hF 5 (by omega), hF 4 (by omega), hF 1 (by omega), hF (7 + (s * 3 + a)) (by omega), if_neg h0, hst, hn.1, sumZ_congr (g := fun t => G (7 + (s * 3 + a)) t * wU G N f t) (fun t ht => by rw [hn.2 t ht])]
    have hk := (td60_k (T := G 5 (s * 3 + a)) (by omega) (by omega)).1
    have hsum : wL G N f * sumZ (fun t => G (7 + (s * 3 + a)) t * layP H N 59 (5 * c + t)) N = layP H N 60 c * sumZ (fun t => G (7 + (s * 3 + a)) t * wU G N f t) N := by
      rw [← sumZ_mul, ← sumZ_mul]
      refine sumZ_congr (fun t ht => ?_)
      have := hx t ht
      grind
    generalize sumZ (fun t => G (7 + (s * 3 + a)) t * layP H N 59 (5 * c + t)) N = S1 at *
    generalize sumZ (fun t => G (7 + (s * 3 + a)) t * wU G N f t) N = S2 at *
    generalize Int.tdiv 60 (G 5 (s * 3 + a)) = k at *
    generalize wL G N f = P at *
    generalize layP H N 60 c = Q at *
    generalize G 5 (s * 3 + a) = T at *
    generalize G 4 (s * 3 + a) = y at *
    generalize G 1 1 = u at *
    generalize G 1 2 = d at *
    have a1 : (y * (60 * d) * P + u * k * S2) * (d * T * Q) = y * (60 * d) * P * (d * T * Q) + (k * T) * (u * d * (Q * S2)) := by grind
    have a2 : (y * (d * T * Q) + u * S1) * (P * (60 * d)) = y * (d * T * Q) * (P * (60 * d)) + 60 * (u * d * (P * S1)) := by grind
    rw [a1, a2, hk, hsum]
    grind
theorem isb_rs {G F : GT} {pl N s a : Nat} {f : Nat → Nat} (hw : WW G N) (h1 : StP G pl N f F) (hs : s < N) (ha : a ≤ 2) : isbZ F N s a = 1 ↔ rs G N f s a = 0 := by
  have hN := hw.2.1
  have hf := h1.le hw
  have hwF : WW F N := hw.keep1 h1.1
  have hk := kT_pos (q := s * 3 + a) hwF (by omega)
  have hn := h1.2.1.2 s hs
  unfold isbZ
  rw [com_rs hwF h1.2.1 hs ha, hn, rs_congr h1.1 hN hf (fun _ _ => rfl) hs ha, Int.mul_comm (stepZ F)]
  generalize Int.tdiv 60 (maxZ 1 (F 5 (s * 3 + a))) = k at *
  by_cases h0 : rs G N f s a = 0
  · rw [h0, Int.mul_zero, Int.add_zero, if_pos rfl]
    exact ⟨fun _ => rfl, fun _ => rfl⟩
  · rw [if_neg (fun q => ?_)]
    · exact ⟨fun q => absurd q (by decide), fun q => absurd q h0⟩
    · have h2 : k * rs G N f s a = 0 := by omega
      rcases Int.mul_eq_zero.1 h2 with h3 | h3
      · omega
      · exact h0 h3
/-- comes -/
theorem comes_eq {G H : GT} {N s a : Nat} (h : Rel H N) (hw : WW G N) (e : ∀ b, 1 ≤ b ∧ b ≤ 21 → H b = G b) (ht : TOk G 48 N) (hs : s < N) (ha : (a : Int) < G 3 s) : ∃ c, c < nPl H N ∧ layV H N 50 18 = (c : Int) ∧ 1 ≤ (fvG G 48 N) 30 1 * stepZ (fvG G 48 N) ∧ (fvG G 48 N) 30 1 * stepZ (fvG G 48 N) ≤ 60466176 * 360 ∧ 1 ≤ lcD (layV H N) s a c ∧ fr (comesZ (fvG G 48 N) N (s * 3 + a) 30) ((fvG G 48 N) 30 1 * stepZ (fvG G 48 N)) = fr (lcN (layV H N) N s a c) (lcD (layV H N) s a c) := by
  obtain ⟨f, h1, o0, o1, hv, hf⟩ := fv_plan hw e ht
  obtain ⟨c, c1, c2, c3⟩ := common h hv o0 o1
  exact ⟨c, c1, c2, comes_fr h hw e h1 hf c1 c3 hs ha⟩
/-- best -/
theorem best_eq {G H : GT} {N s A : Nat} (h : Rel H N) (hw : WW G N) (e : ∀ b, 1 ≤ b ∧ b ≤ 21 → H b = G b) (ht : TOk G 48 N) (hs : s < N) (hA : G 3 s = (A : Int)) : ∃ c, c < nPl H N ∧ layV H N 50 18 = (c : Int) ∧ bbS (fvG G 48 N) N s A = mbB (layV H N) N s c A := by
  obtain ⟨f, h1, o0, o1, hv, hf⟩ := fv_plan hw e ht
  obtain ⟨c, c1, c2, c3⟩ := common h hv o0 o1
  refine ⟨c, c1, c2, ?_⟩
  have hN := hw.2.1
  have h3 := hw.2.2.2.1 s (by omega)
  have hlow := (h.ref.2 c c1).1
  have hn := h1.num hw
  have hwi := w_in hw hf
  have hst : stepZ (fvG G 48 N) = 60 * G 1 2 := by unfold stepZ; rw [h1.1 1 (by omega)]
  have hsh := hw.2.2.1
  have key : ∀ a : Nat, a < A → (isbZ (fvG G 48 N) N s a = 1 ↔ mbT (layV H N) N s c a = true) := by
    intro a ha
    have hc := comes_fr h hw e h1 hf c1 c3 hs (show (a : Int) < G 3 s by omega)
    have e59 : layV H N 59 = layP H N 59 := layV_off (by decide) (by decide)
    have e60 : layV H N 60 = layP H N 60 := layV_off (by decide) (by decide)
    have hv : fr (layP H N 59 (5 * c + s)) (layP H N 60 c) = fr (wU G N f s) (wL G N f) := by
      rw [h.frE c1 hs, c3 s hs]; exact vqG e hN hf s
    unfold mbT
    rw [Bool.and_eq_true, decide_eq_true_eq, decide_eq_true_eq, e59, e60, low_iff hc.2.2.1 (by omega), ← hc.2.2.2, hv, fr_eq (by omega) (by omega), hn.1]
    unfold isbZ
    rw [hn.2 s hs]
    generalize comesZ (fvG G 48 N) N (s * 3 + a) 30 = z
    generalize wU G N f s = x
    have hP := hwi.1
    generalize wL G N f = P at *
    generalize stepZ (fvG G 48 N) = d at *
    by_cases q : z = x * d
    · rw [if_pos q, q]
      exact ⟨fun _ => by grind, fun _ => rfl⟩
    · rw [if_neg q]
      refine ⟨fun q => absurd q (by decide), fun q2 => absurd ?_ q⟩
      refine Int.eq_of_mul_eq_mul_right (a := P) (by omega) ?_
      rw [q2]; grind
  have all : ∀ a, a ≤ A → bbS (fvG G 48 N) N s a = mbB (layV H N) N s c a := by
    intro a
    induction a with
    | zero => intro _; rfl
    | succ a ih =>
      intro ha
      have ih := ih (by omega)
      unfold bbS mbB
      by_cases q : mbT (layV H N) N s c a = true
      · rw [if_pos q, if_pos ((key a (by omega)).2 q), ih]
      · rw [if_neg q, if_neg (fun w => q ((key a (by omega)).1 w)), ih]
  exact all A (Nat.le_refl _)
theorem setS_iff {F G : GT} {N : Nat} : ∀ {n : Nat}, setS F G N n = true ↔ ∀ s, s < n → isbZ F N s (G 47 s).toNat = 1
  | 0 => ⟨fun _ s h => by omega, fun _ => rfl⟩
  | n + 1 => by
    have ih := setS_iff (F := F) (G := G) (N := N) (n := n)
    unfold setS
    rw [Bool.and_eq_true, ih, decide_eq_true_eq]
    refine ⟨fun ⟨h1, h2⟩ s hs => ?_, fun h => ⟨fun s hs => h s (by omega), h n (by omega)⟩⟩
    by_cases e : s = n
    · subst e; exact h2
    · exact h1 s (by omega)
/-- settled -/
theorem settled_eq {G H : GT} {N : Nat} (h : Rel H N) (hw : WW G N) (e : ∀ b, 1 ≤ b ∧ b ≤ 21 → H b = G b) (ht : TOk G 48 N) (ht7 : TOk G 47 N) (h5 : ∀ s, s < N → H 55 s = G 47 s) : setS (fvG G 48 N) G N N = haS (layV H N) (tpN H N (-1) 0) N := by
  obtain ⟨f, h1, o0, o1, hv, hf⟩ := fv_plan hw e ht
  have hN := hw.2.1
  have hvH : ∀ s, s < N → vd H s (plN G 47 s) := fun s hs => (vdG e).2 (ht7.vdP s hs)
  have ec : tpN H N (-1) 0 = cdF H (plN G 47) N := tpN_cd h.2.1 (fun t hl _ => by rw [if_neg (by omega), h5 t hl, ht7.eqN hl])
  have hc := h.code hvH
  rw [Bool.eq_iff_iff, setS_iff, ec, h.has hv o0 o1 hc.1]
  refine ⟨fun q s hs => ?_, fun q s hs => ?_⟩
  · have h2 := (isb_rs hw h1 hs (ht7.le hw s hs)).1 (q s hs)
    rw [hc.2 s hs, rs_congr e hN hf (fun _ _ => rfl) hs (ht7.le hw s hs)]; exact h2
  · have h2 := q s hs
    rw [hc.2 s hs, rs_congr e hN hf (fun _ _ => rfl) hs (ht7.le hw s hs)] at h2
    exact (isb_rs hw h1 hs (ht7.le hw s hs)).2 h2
theorem bc_cnt {F : GT} {N s : Nat} {q : Nat → Bool} : ∀ A, A ≤ 3 → (∀ a, a < A → (isbZ F N s a = 1 ↔ q a = true)) → bcZ (bbS F N s A).toNat = ((cB q A : Nat) : Int) := by
  intro A hA hq
  have hb : ∀ a, a < A → bbS F N s (a + 1) = if q a = true then orZ (bbS F N s a) ((pw a : Nat) : Int) else bbS F N s a := fun a ha => by
    show (if isbZ F N s a = 1 then _ else _) = _
    by_cases e : q a = true
    · rw [if_pos e, if_pos ((hq a ha).2 e)]
    · rw [if_neg e, if_neg (fun w => e ((hq a ha).1 w))]
  have b0 : bbS F N s 0 = 0 := rfl
  rcases (by omega : A = 0 ∨ A = 1 ∨ A = 2 ∨ A = 3) with rfl | rfl | rfl | rfl
  · rw [b0]; show bcZ 0 = 0; decide
  · rw [hb 0 (by omega), b0]
    unfold cB cB
    cases q 0 <;> decide
  · rw [hb 1 (by omega), hb 0 (by omega), b0]
    unfold cB cB cB
    cases q 0 <;> cases q 1 <;> decide
  · rw [hb 2 (by omega), hb 1 (by omega), hb 0 (by omega), b0]
    unfold cB cB cB cB
    cases q 0 <;> cases q 1 <;> cases q 2 <;> decide
theorem cB_pos {q : Nat → Bool} {c : Nat} : ∀ {n : Nat}, c < n → q c = true → 1 ≤ cB q n
  | 0, h, _ => by omega
  | n + 1, h, hq => by
    unfold cB
    by_cases e : c = n
    · subst e; rw [if_pos hq]; omega
    · have := cB_pos (q := q) (n := n) (by omega) hq
      omega
theorem okB_iff {G : GT} {B : Nat → Nat → Bool} {p : Nat} : ∀ {n : Nat}, okB G B p n = true ↔ ∀ s, s < n → ac G s ≠ 0 → B s (p / pn G s % ac G s) = true
  | 0 => ⟨fun _ s h => by omega, fun _ => rfl⟩
  | n + 1 => by
    have ih := okB_iff (G := G) (B := B) (p := p) (n := n)
    unfold okB
    rw [Bool.and_eq_true, ih, Bool.or_eq_true, decide_eq_true_eq]
    refine ⟨fun ⟨h1, h2⟩ s hs h0 => ?_, fun h => ⟨fun s hs h0 => h s (by omega) h0, ?_⟩⟩
    · by_cases e : s = n
      · subst e; exact h2.resolve_left h0
      · exact h1 s (by omega) h0
    · by_cases e : ac G n = 0
      · exact Or.inl e
      · exact Or.inr (h n (by omega) e)
/-- told 3 -/
theorem shared_eq {G H : GT} {N : Nat} (h : Rel H N) (hw : WW G N) (e : ∀ b, 1 ≤ b ∧ b ≤ 21 → H b = G b) (ht : TOk G 48 N) : bpS (fvG G 48 N) N N = (coS (vaG H N) N (nPl H N)).2 := by
  obtain ⟨f, h1, o0, o1, hv, hf⟩ := fv_plan hw e ht
  have hN := hw.2.1
  have eh : ∀ p, haS (vaG H N) p N = haS (layV H N) p N := fun p => (haS_congr (G := vaG H N) (G' := layV H N) (coG_n (by decide)) (coG_n (by decide)) (coG_n (by decide)) p N).symm
  have eB : ∀ p, p < pn H N → haS (vaG H N) p N = okB H (fun s x => decide (rs H N f s x = 0)) p N := fun p hp => by
    rw [eh, Bool.eq_iff_iff, h.has hv o0 o1 (by rw [nPl_pn h.2.1]; exact hp), okB_iff]
    refine ⟨fun q s hs h0 => ?_, fun q s hs => ?_⟩
    · have := q s hs
      rw [((fP_pn h.2.1 (show s < 5 by omega)).2 h0).2] at this
      exact decide_eq_true this
    · by_cases h0 : ac H s = 0
      · rw [((fP_pn h.2.1 (show s < 5 by omega)).1 h0).2]
        have h2 := h.acP hs
        have h3 := hv s hs
        have h4 : f s = 0 := by unfold vd at h3; omega
        have h5 := rs_self h.1 hf hs
        rw [h4] at h5; exact h5
      · rw [((fP_pn h.2.1 (show s < 5 by omega)).2 h0).2]
        exact of_decide_eq_true (q s hs h0)
  rw [coS_2, nPl_pn h.2.1, cB_congr eB, cnt_pr]
  have all : ∀ n, n ≤ N → bpS (fvG G 48 N) N n = ((prB H (fun s x => decide (rs H N f s x = 0)) n : Nat) : Int) := by
    intro n
    induction n with
    | zero => intro _; rfl
    | succ s ih =>
      intro hs
      have ih := ih (by omega)
      have h2 := h.acP (show s < N by omega)
      have h3 := hw.2.2.2.1 s (by omega)
      have e3 : H 3 s = G 3 s := by rw [e 3 (by omega)]
      have eF : (fvG G 48 N) 3 s = G 3 s := by rw [h1.1 3 (by omega)]
      have hbc := bc_cnt (F := fvG G 48 N) (N := N) (s := s) (q := fun x => decide (rs H N f s x = 0)) (ac H s) (by omega) (fun a ha => by
        rw [isb_rs hw h1 (show s < N by omega) (by omega), decide_eq_true_eq, rs_congr e hN hf (fun _ _ => rfl) (show s < N by omega) (by omega)])
      unfold bpS prB
      rw [ih, eF, show (G 3 s).toNat = ac H s by omega, hbc]
      by_cases h0 : ac H s = 0
      · rw [if_pos h0, h0]
        show _ * maxZ 1 0 = _
        unfold maxZ
        rw [if_neg (by decide), Int.mul_one]
      · rw [if_neg h0]
        have h5 := hv s (show s < N by omega)
        have h6 : 1 ≤ cB (fun x => decide (rs H N f s x = 0)) (ac H s) := cB_pos (c := f s) (by unfold vd at h5; omega) (decide_eq_true (rs_self h.1 hf (by omega)))
        unfold maxZ
        rw [if_pos (by omega), Int.natCast_mul]
  exact all N (Nat.le_refl _)
theorem told1_eq {G H : GT} {N : Nat} (h : Rel H N) (e : ∀ b, 1 ≤ b ∧ b ≤ 21 → H b = G b) : ∀ n, n ≤ N → sumA G n = sumM H n ∧ sumT G n = sumMT H n ∧ prodA G n = plS H n
  | 0, _ => ⟨rfl, rfl, rfl⟩
  | s + 1, hs => by
    obtain ⟨i1, i2, i3⟩ := told1_eq h e s (by omega)
    have h1 := h.2.2.2.1 s (by omega)
    have h3 := h.1.2.2.2.1 s (by have := h.1.2.1; omega)
    rw [e 3 (by omega), e 2 (by omega)] at h1
    rw [e 3 (by omega)] at h3
    unfold sumA sumM sumT sumMT prodA plS
    rw [i1, i2, i3, h1.1, h1.2]
    refine ⟨rfl, ?_, ?_⟩
    · split <;> omega
    · unfold maxZ
      by_cases e0 : G 3 s = 0
      · rw [if_pos e0, e0, if_neg (by decide), Int.mul_one]
      · rw [if_neg e0, if_pos (by omega)]
