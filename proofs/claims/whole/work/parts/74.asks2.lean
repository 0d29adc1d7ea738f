/-! settled, told, upper, lower -/
section OPS
variable {l : Launch} {D : va_G} {K : K5} {G : GT} {N : Nat}
theorem fv_m {N : Nat} (h : Inv G N) : Rel (m0 (fvG G 48 N)) N ∧ (∀ b, 1 ≤ b ∧ b ≤ 21 → m0 (fvG G 48 N) b = G b) ∧ (∀ b, 51 ≤ b ∧ b ≤ 55 → m0 (fvG G 48 N) b = G b) ∧ (∀ k, k ≠ 0 → m0 (fvG G 48 N) 50 k = G 50 k) ∧ IMod (fvG G 48 N) N := by
  have hN := h.1.1.2.1
  have e1 : ∀ b, 1 ≤ b ∧ b ≤ 21 → m0 (fvG G 48 N) b = G b := fun b hb => by rw [m0_n (by omega)]; exact fvG_off hN (by omega)
  have e5 : ∀ b, 51 ≤ b ∧ b ≤ 55 → m0 (fvG G 48 N) b = G b := fun b hb => by rw [m0_n (by omega)]; exact fvG_off hN (by omega)
  have e50 : ∀ k, k ≠ 0 → m0 (fvG G 48 N) 50 k = G 50 k := fun k hk => by rw [m0_k hk, fvG_off hN (by decide)]
  exact ⟨h.relK e1 e5 (fun k hk => e50 k (by omega)), e1, e5, e50, h.2.1.keep (fun b hb => fvG_off hN (by omega)) (fun k _ => by rw [fvG_off hN (by decide)])⟩
theorem fv_inv (h : Inv G N) : Inv (layV (m0 (fvG G 48 N)) N) N := by
  have hN := h.1.1.2.1
  obtain ⟨hR, e1, e5, e50, iM⟩ := fv_m h
  refine h.qkeep (fun b hb => ?_) ?_ (fun s hs => ?_) (fun b hb => ?_) (fun k hk => ?_) ?_
  · rw [layV_off (by omega) (by omega), layP_off (by omega)]; exact e1 b hb
  · rw [layV_off (by decide) (by decide), layP_off (by omega), m0_n (by decide), fvG_off hN (by decide)]
  · rw [layV_off (by decide) (by decide), layP_off (by omega), m0_n (by decide), layV_off (by decide) (by decide), layP_off (by omega), m0_n (by decide)]; exact fv_T5 h s hs
  · rw [layV_off (by omega) (by omega), layP_off (by omega)]; exact e5 b hb
  · rw [layV_k (by omega) (by omega) (by omega), e50 k (by omega)]
  · rw [layV_off (by decide) (by decide), layP_off (by omega), m0_n (by decide), fvG_off hN (by decide), layV_k (by decide) (by decide) (by decide), e50 9 (by decide), layV_k (by decide) (by decide) (by decide), e50 10 (by decide)]
    exact h.2.2.2.2.2
/-- settled -/
theorem op_settled (h : Inv G N) : ∃ v G1 G2, Ct l D K y_V_settled c_V_settled 2 (some .int) 6 150 [.ref 0] G (some (vi v)) G1 ∧ Ct l D K y_M_settled c_M_settled 1 (some .int) 5 117 [.ref 50] G1 (some (vi v)) G2 ∧ Inv G2 N ∧ inI v := by
  have hw := h.1.1
  obtain ⟨hR, e1, e5, e50, iM⟩ := fv_m h
  have hse := settled_eq hR hw e1 (T5.ok hw h.1.2.2.1) (T5.ok hw h.1.2.1) (fun s hs => by rw [e5 55 (by omega)]; exact (h.2.2.2.1 s hs).2.2)
  have hM := ct_M_settled l D K (fvG G 48 N) N iM.1 iM.2.1 hR.ref
  rw [tpN_m0, ← hse] at hM
  have h01 := bZ_01 (setS (fvG G 48 N) G N N)
  exact ⟨_, _, _, ct_V_settled l D K G N mathOk h.1.vv, hM, fv_inv h, by unfold inI; omega⟩
theorem lay_inv (h : Inv G N) : Inv (layP (m0 G) N) N := by
  have i := h.m0
  refine i.qkeep (fun b hb => layP_off (by omega)) (layP_off (by omega)) (fun s hs => ?_) (fun b hb => layP_off (by omega)) (fun k hk => by rw [layP_50, pl0_k (by omega)]) ?_
  · rw [layP_off (by omega), layP_off (by omega)]; exact i.1.2.2.1 s hs
  · rw [layP_off (by omega), layP_50, pl0_k (by decide), pl0_k (by decide)]; exact i.2.2.2.2.2
theorem sum_in {G : GT} {N : Nat} (h : WW G N) : ∀ n, n ≤ 5 → (0 ≤ sumA G n ∧ sumA G n ≤ 3 * (n : Int)) ∧ (0 ≤ sumT G n ∧ sumT G n ≤ (n : Int))
  | 0, _ => by unfold sumA sumT; decide
  | n + 1, hn => by
    have ih := sum_in h n (by omega)
    have h3 := h.2.2.2.1 n (by omega)
    unfold sumA sumT
    refine ⟨by omega, ?_⟩
    split <;> omega
/-- told -/
theorem op_told (h : Inv G N) {x : Int} (hx : inI x) : ∃ v G1 G2, Ct l D K y_V_told c_V_told 2 (some .int) 7 172 [.ref 0, vi x] G (some (vi v)) G1 ∧ Ct l D K y_M_told c_M_told 4 (some .int) 5 117 [.ref 50, vi x] G1 (some (vi v)) G2 ∧ Inv G2 N ∧ inI v := by
  have hw := h.1.1
  have hN := hw.2.1
  have hro := h.m0.rel.ref
  have ht := told1_eq h.rel (fun _ _ => rfl) N (Nat.le_refl _)
  have hb := sum_in hw N hN
  by_cases c : x < 0 ∨ 4 < x
  · exact ⟨-2, G, m0 G, ct_V_told_bad l D K G N x hx c h.1.vv, ct_M_told_bad l D K G N x hx c, h.m0, by unfold inI; omega⟩
  rcases (by omega : x = 0 ∨ x = 1 ∨ x = 2 ∨ x = 3 ∨ x = 4) with rfl | rfl | rfl | rfl | rfl
  · exact ⟨(N : Int), G, m0 G, ct_V_told_0 l D K G N mathOk h.1.vv, ct_M_told_0 l D K G N h.2.1.1 hro, h.m0, by unfold inI; omega⟩
  · have hM := ct_M_told_1 l D K G N h.2.1.1 hro
    rw [← ht.1] at hM
    exact ⟨_, G, _, ct_V_told_1 l D K G N mathOk h.1.vv, hM, h.m0, by unfold inI; omega⟩
  · have hM := ct_M_told_2 l D K G N h.2.1.1 hro
    have hp := plS_243 h.2.1.1.2.2.2.1 hN
    rw [← ht.2.2] at hM hp
    exact ⟨_, G, _, ct_V_told_2 l D K G N mathOk h.1.vv, hM, lay_inv h, by unfold inI; omega⟩
  · obtain ⟨hR, e1, e5, e50, iM⟩ := fv_m h
    have hM := ct_M_told_3 l D K (fvG G 48 N) N iM.1 hR.ref
    have hs := shared_eq hR hw e1 (T5.ok hw h.1.2.2.1)
    have hc := coS_2 (L := vaG (m0 (fvG G 48 N)) N) (N := N) (nPl (m0 (fvG G 48 N)) N)
    have hle : ∀ (q : Nat → Bool) n, cB q n ≤ n := fun q n => by
      induction n with
      | zero => exact Nat.le_refl _
      | succ n ih => unfold cB; split <;> omega
    have h243 := (nPl_in hR.2.1).2.1
    have hl := hle (fun p => haS (vaG (m0 (fvG G 48 N)) N) p N) (nPl (m0 (fvG G 48 N)) N)
    rw [← hs] at hM hc
    exact ⟨_, _, _, ct_V_told_3 l D K G N mathOk h.1.vv, hM, fv_inv h, by rw [hc]; unfold inI; omega⟩
  · have hM := ct_M_told_4 l D K G N h.2.1.1 hro
    rw [← ht.2.1] at hM
    exact ⟨_, G, _, ct_V_told_4 l D K G N mathOk h.1.vv, hM, h.m0, by unfold inI; omega⟩
/-- upper -/
theorem op_upper (h : Inv G N) : Ct l D K y_V_upper c_V_upper 1 (some .long) 0 0 [.ref 0] G (some (vl (G 0 8))) G ∧ Ct l D K y_M_upper c_M_upper 1 (some .long) 0 0 [.ref 50] G (some (vl (G 0 8))) (m0 G) ∧ Inv (m0 G) N := by
  have hM := ct_M_upper l D K G
  rw [← h.2.2.2.2.2.1] at hM
  exact ⟨ct_V_upper l D K G, hM, h.m0⟩
/-- lower -/
theorem op_lower (h : Inv G N) : Ct l D K y_V_lower c_V_lower 1 (some .long) 0 0 [.ref 0] G (some (vl (G 0 9))) G ∧ Ct l D K y_M_lower c_M_lower 1 (some .long) 0 0 [.ref 50] G (some (vl (G 0 9))) (m0 G) ∧ Inv (m0 G) N := by
  have hM := ct_M_lower l D K G
  rw [← h.2.2.2.2.2.2] at hM
  exact ⟨ct_V_lower l D K G, hM, h.m0⟩
/-- clear -/
theorem op_clear (h : Inv G N) : Ct l D K y_V_clear c_V_clear 1 none 2 44 [.ref 0] G none (clrV G) ∧ Ct l D K y_M_clear c_M_clear 1 none 0 0 [.ref 50] (clrV G) none (mclr (clrV G)) ∧ Inv (mclr (clrV G)) 0 :=
  ⟨ct_V_clear l D K G, ct_M_clear l D K (clrV G), inv_clear h⟩
end OPS
