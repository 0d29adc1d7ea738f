/-! the calls that calculate -/
theorem Inv.qkeep {G G2 : GT} {N : Nat} (h : Inv G N) (e1 : ∀ b, 1 ≤ b ∧ b ≤ 21 → G2 b = G b) (e47 : G2 47 = G 47) (e48 : T5 G2 48) (e5 : ∀ b, 51 ≤ b ∧ b ≤ 55 → G2 b = G b) (e50 : ∀ k, k = 1 ∨ k = 7 ∨ k = 8 → G2 50 k = G 50 k) (ans : G2 0 8 = G2 50 9 ∧ G2 0 9 = G2 50 10) : Inv G2 N := by
  obtain ⟨c1, c2, c3, c4, c5⟩ := h.1
  obtain ⟨r1, r2, r3, r4, r5⟩ := h.2.2
  refine ⟨⟨c1.keep1 e1, fun s hs => by rw [e47, e1 3 (by omega)]; exact c2 s hs, e48, fun s a hs ha hl => ?_, fun s hs q => by rw [e1 3 (by omega)]; exact c5 s hs q⟩, h.2.1.keep e5 e50, ⟨by rw [e50 7 (by omega), e50 8 (by omega), e1 1 (by omega)]; exact r1, fun s hs => by rw [e5 52 (by omega), e1 3 (by omega), e5 51 (by omega), e1 2 (by omega), e5 55 (by omega), e47]; exact r2 s hs, fun s a hs ha => ?_, ans⟩⟩
  · rw [e1 3 (by omega)] at hl
    rw [e1 4 (by omega), e1 5 (by omega)]; exact c4 s a hs ha hl
  · rw [e1 3 (by omega)] at ha
    have hN := c1.2.1
    have h3s := c1.2.2.2.1 s (by omega)
    rw [e5 53 (by omega), e1 4 (by omega), e5 54 (by omega), e1 (7 + (s * 3 + a)) (by omega)]
    exact r3 s a hs ha
theorem Inv.relK {G H : GT} {N : Nat} (h : Inv G N) (e1 : ∀ b, 1 ≤ b ∧ b ≤ 21 → H b = G b) (e5 : ∀ b, 51 ≤ b ∧ b ≤ 55 → H b = G b) (e50 : ∀ k, k = 1 ∨ k = 7 ∨ k = 8 → H 50 k = G 50 k) : Rel H N := by
  obtain ⟨c1, c2, c3, c4, c5⟩ := h.1
  obtain ⟨r1, r2, r3, r4, r5⟩ := h.2.2
  refine ⟨c1.keep1 e1, h.2.1.1.keep e5 e50, by rw [e50 7 (by omega), e50 8 (by omega), e1 1 (by omega)]; exact r1, fun s hs => by rw [e5 52 (by omega), e1 3 (by omega), e5 51 (by omega), e1 2 (by omega)]; exact ⟨(r2 s hs).1, (r2 s hs).2.1⟩, fun s a hs ha => ?_, fun s a hs ha hl => ?_⟩
  · rw [e1 3 (by omega)] at ha
    have hN := c1.2.1
    have h3s := c1.2.2.2.1 s (by omega)
    rw [e5 53 (by omega), e1 4 (by omega), e5 54 (by omega), e1 (7 + (s * 3 + a)) (by omega)]
    exact r3 s a hs ha
  · rw [e1 3 (by omega)] at hl
    rw [e1 4 (by omega), e1 5 (by omega)]; exact c4 s a hs ha hl
theorem ansG_n {F : GT} {x y : Int} {b : Nat} (h : b ≠ 0) : ansG F x y b = F b := uG_n _ _ h
theorem ansG_8 (F : GT) (x y : Int) : ansG F x y 0 8 = Int.tdiv x (gdZ x y) ∧ ansG F x y 0 9 = Int.tdiv y (gdZ x y) := by
  unfold ansG; rw [uG_s]; exact ⟨by rw [up_n _ _ (by decide), up_s], up_s _ _ _⟩
theorem mans_n {L : GT} {x y : Int} {b : Nat} (h : b ≠ 50) : mansG L x y b = L b := uG_n _ _ h
theorem mans_k {L : GT} {x y : Int} {k : Nat} (h : k ≠ 9) (h2 : k ≠ 10) : mansG L x y 50 k = L 50 k := by unfold mansG; rw [uG_s, up_n _ _ h2, up_n _ _ h]
theorem mans_9 (L : GT) (x y : Int) : mansG L x y 50 9 = Int.tdiv x (gcZ x y) ∧ mansG L x y 50 10 = Int.tdiv y (gcZ x y) := by
  unfold mansG; rw [uG_s]; exact ⟨by rw [up_n _ _ (by decide), up_s], up_s _ _ _⟩
/-- both give the same fraction -/
theorem q_ans {G F L : GT} {N : Nat} {x y U W : Int} (h : Inv G N) (e1 : ∀ b, 1 ≤ b ∧ b ≤ 21 → F b = G b) (e47 : F 47 = G 47) (e48 : T5 F 48) (e5 : ∀ b, 50 ≤ b ∧ b ≤ 55 → F b = G b) (eL : ∀ b, b < 50 ∨ (51 ≤ b ∧ b ≤ 55) → L b = ansG F x y b) (eL0 : ∀ k, k = 1 ∨ k = 7 ∨ k = 8 → L 50 k = ansG F x y 50 k) (hy : 1 ≤ y) (hy2 : y < 281474976710656) (hW : 1 ≤ W) (hf : fr x y = fr U W) : Inv (mansG L U W) N := by
  refine h.qkeep (fun b hb => ?_) ?_ (fun s hs => ?_) (fun b hb => ?_) (fun k hk => ?_) ?_
  · rw [mans_n (by omega), eL b (by omega), ansG_n (by omega)]; exact e1 b hb
  · rw [mans_n (by decide), eL 47 (by omega), ansG_n (by decide)]; exact e47
  · rw [mans_n (by decide), eL 48 (by omega), ansG_n (by decide), mans_n (by decide), eL 3 (by omega), ansG_n (by decide)]; exact e48 s hs
  · rw [mans_n (by omega), eL b (by omega), ansG_n (by omega)]; exact e5 b (by omega)
  · rw [mans_k (by omega) (by omega), eL0 k hk, ansG_n (by decide), e5 50 (by omega)]
  · rw [mans_n (by decide), eL 0 (by omega), (ansG_8 F x y).1, (ansG_8 F x y).2, (mans_9 L U W).1, (mans_9 L U W).2]
    exact ans_eq hy hy2 hW hf
/-- the state at which the reference is asked -/
theorem q_rel {G F : GT} {N : Nat} {x y : Int} (h : Inv G N) (e1 : ∀ b, 1 ≤ b ∧ b ≤ 21 → F b = G b) (e5 : ∀ b, 50 ≤ b ∧ b ≤ 55 → F b = G b) : Rel (m0 (ansG F x y)) N ∧ (∀ b, 1 ≤ b ∧ b ≤ 21 → m0 (ansG F x y) b = G b) ∧ MM (ansG F x y) N ∧ ChOk (ansG F x y) ∧ (∀ b, 51 ≤ b ∧ b ≤ 55 → m0 (ansG F x y) b = G b) := by
  have a1 : ∀ b, 1 ≤ b ∧ b ≤ 21 → m0 (ansG F x y) b = G b := fun b hb => by rw [m0_n (by omega), ansG_n (by omega)]; exact e1 b hb
  have a5 : ∀ b, 51 ≤ b ∧ b ≤ 55 → m0 (ansG F x y) b = G b := fun b hb => by rw [m0_n (by omega), ansG_n (by omega)]; exact e5 b (by omega)
  have i := h.2.1.keep (G' := ansG F x y) (fun b hb => by rw [ansG_n (by omega)]; exact e5 b (by omega)) (fun k _ => by rw [ansG_n (by decide), e5 50 (by omega)])
  exact ⟨h.relK a1 a5 (fun k hk => by rw [m0_k (by omega), ansG_n (by decide), e5 50 (by omega)]), a1, i.1, i.2.1, a5⟩
theorem rep_hi {pl N : Nat} {b : Int} (hN : N ≤ 5) (hpl : 32 ≤ pl) {s : Nat} (hs : N ≤ s) : ∀ (k : Nat) (G : GT), repL pl N b k G pl s = G pl s
  | 0, _ => rfl
  | k + 1, G => by
    unfold repL
    split
    · exact impG_at _ _ _ _ _ _ hs
    · rw [rep_hi hN hpl hs k, folR_off hN (by omega), impG_at _ _ _ _ _ _ hs]
theorem fv_hi {pl N : Nat} (hN : N ≤ 5) (hpl : 32 ≤ pl) {s : Nat} (hs : N ≤ s) : ∀ (k : Nat) (G : GT), fvL pl N k G pl s = G pl s
  | 0, _ => rfl
  | k + 1, G => by
    unfold fvL
    split
    · exact impG_at _ _ _ _ _ _ hs
    · rw [fv_hi hN hpl hs k]
      unfold repG
      rw [rep_hi hN hpl hs, folR_off hN (by omega), impG_at _ _ _ _ _ _ hs]
theorem fv_T5 {G : GT} {N : Nat} (h : Inv G N) : T5 (fvG G 48 N) 48 := by
  have hw := h.1.1
  have hN := hw.2.1
  obtain ⟨f, h1, -⟩ := fv_plan (H := G) hw (fun _ _ => rfl) (T5.ok hw h.1.2.2.1)
  intro s hs
  rw [h1.1 3 (by omega)]
  by_cases c : s < N
  · rw [h1.2.2.1 s c]
    have := h1.2.2.2 s c
    unfold vd at this
    omega
  · have e : fvG G 48 N 48 s = G 48 s := by
      unfold fvG repG
      rw [fv_hi hN (by decide) (by omega), rep_hi hN (by decide) (by omega), folR_off hN (by omega)]
    rw [e]; exact h.1.2.2.1 s hs
theorem tpN_m0 {G : GT} {N : Nat} {s a : Int} : tpN G N s a = tpN (m0 G) N s a := by unfold tpN; rw [tpS_congr (G := G) (G' := m0 G) (m0_n (by decide)) (m0_n (by decide))]
section OPS
variable {l : Launch} {D : va_G} {K : K5} {G : GT} {N : Nat}
/-- value -/
theorem op_value (h : Inv G N) {s : Int} (hs : inI s) : ∃ v G1 G2, Ct l D K y_V_value c_V_value 2 (some .int) 6 150 [.ref 0, vi s] G (some (vi v)) G1 ∧ Ct l D K y_M_value c_M_value 2 (some .int) 5 117 [.ref 50, vi s] G1 (some (vi v)) G2 ∧ Inv G2 N ∧ inI v := by
  have hS := has_m h.1.1.1 h.2.1.1.1 s
  by_cases c : hasS G s = 0
  · exact ⟨-1, G, m0 G, ct_V_value_no l D K G N s hs h.1.vv c, ct_M_value_no l D K G N s hs h.2.1.1 (hS.1.1 c), h.m0, by unfold inI; omega⟩
  obtain ⟨s0, s1⟩ := hS.2 c
  obtain ⟨s', rfl⟩ : ∃ s' : Nat, s = (s' : Int) := ⟨s.toNat, by omega⟩
  have hsN : s' < N := by omega
  have hw := h.1.1
  have hN := hw.2.1
  have e1 : ∀ b, 1 ≤ b ∧ b ≤ 21 → fvG G 48 N b = G b := fun b hb => fvG_off hN (by omega)
  have e5 : ∀ b, 50 ≤ b ∧ b ≤ 55 → fvG G 48 N b = G b := fun b hb => fvG_off hN (by omega)
  have hf := FolSt.fvG mathOk hw h.1.vv.2.2
  obtain ⟨hR, a1, hmm, hch, a5⟩ := q_rel (x := fvG G 48 N 31 s') (y := fvG G 48 N 30 1) h e1 e5
  obtain ⟨p, p1, p2, p3⟩ := value_eq hR hw a1 (T5.ok hw h.1.2.2.1) hsN
  have hr := (hR.ref.2 p p1).1
  have hM := ct_M_value l D K _ N s' hsN hmm hR.ref
  rw [p2, Int.toNat_natCast] at hM
  refine ⟨1, _, _, ct_V_value l D K G N s' hsN mathOk h.1.vv, hM, q_ans h e1 (fvG_off hN (by decide)) (fv_T5 h) e5 (fun b hb => ?_) (fun k hk => ?_) hf.2.2.2.1 (by have := hf.2.2.2.2.1; omega) (by rw [layV_off (by decide) (by decide)]; exact hr.1) p3, by unfold inI; omega⟩
  · rw [layV_off (by omega) (by omega), layP_off (by omega), m0_n (by omega)]
  · rw [layV_k (by omega) (by omega) (by omega), m0_k (by omega)]
/-- comes -/
theorem op_comes (h : Inv G N) {s a : Int} (hs : inI s) (ha : inI a) : ∃ v G1 G2, Ct l D K y_V_comes c_V_comes 5 (some .int) 6 150 [.ref 0, vi s, vi a] G (some (vi v)) G1 ∧ Ct l D K y_M_comes c_M_comes 3 (some .int) 5 117 [.ref 50, vi s, vi a] G1 (some (vi v)) G2 ∧ Inv G2 N ∧ inI v := by
  have hA := hasA_m h s a
  by_cases c : hasA G s a = 0
  · exact ⟨-1, G, m0 G, ct_V_comes_no l D K G N s a hs ha h.1.vv c, ct_M_comes_no l D K G N s a hs ha h.2.1.1 (hA.1.1 c), h.m0, by unfold inI; omega⟩
  obtain ⟨⟨s0, s1⟩, a0, a1⟩ := hA.2 c
  obtain ⟨s', rfl⟩ : ∃ s' : Nat, s = (s' : Int) := ⟨s.toNat, by omega⟩
  obtain ⟨a', rfl⟩ : ∃ a' : Nat, a = (a' : Int) := ⟨a.toNat, by omega⟩
  rw [Int.toNat_natCast] at a1
  have hsN : s' < N := by omega
  have hw := h.1.1
  have hN := hw.2.1
  have e1 : ∀ b, 1 ≤ b ∧ b ≤ 21 → fvG G 48 N b = G b := fun b hb => fvG_off hN (by omega)
  have e5 : ∀ b, 50 ≤ b ∧ b ≤ 55 → fvG G 48 N b = G b := fun b hb => fvG_off hN (by omega)
  obtain ⟨hR, r1, hmm, hch, r5⟩ := q_rel (x := comesZ (fvG G 48 N) N (s' * 3 + a') 30) (y := (fvG G 48 N 30 1) * (stepZ (fvG G 48 N))) h e1 e5
  obtain ⟨c, c1, c2, c3, c4, c5, c6⟩ := comes_eq hR hw r1 (T5.ok hw h.1.2.2.1) hsN a1
  have e52 := (h.2.2.2.1 s' hsN).1
  refine ⟨1, _, _, ct_V_comes l D K G N s' a' hsN a1 mathOk h.1.vv, ct_M_comes l D K _ N s' a' c hsN (by rw [ansG_n (by decide), e5 52 (by omega), e52]; exact a1) hmm hR.ref c2 c1, q_ans h e1 (fvG_off hN (by decide)) (fv_T5 h) e5 (fun b hb => ?_) (fun k hk => ?_) c3 (by omega) c5 c6, by unfold inI; omega⟩
  · unfold lcG; rw [uG_n _ _ (by omega), layV_off (by omega) (by omega), layP_off (by omega), m0_n (by omega)]
  · unfold lcG; rw [uG_s, up_n _ _ (by omega), up_n _ _ (by omega), layV_k (by omega) (by omega) (by omega), m0_k (by omega)]
/-- best -/
theorem op_best (h : Inv G N) {s : Int} (hs : inI s) : ∃ v G1 G2, Ct l D K y_V_best c_V_best 2 (some .int) 6 150 [.ref 0, vi s] G (some (vi v)) G1 ∧ Ct l D K y_M_best c_M_best 11 (some .int) 5 117 [.ref 50, vi s] G1 (some (vi v)) G2 ∧ Inv G2 N ∧ inI v := by
  have hS := has_m h.1.1.1 h.2.1.1.1 s
  by_cases c : hasS G s = 0
  · exact ⟨-1, G, m0 G, ct_V_best_no l D K G N s hs h.1.vv c, ct_M_best_no l D K G N s hs h.2.1.1 (hS.1.1 c), h.m0, by unfold inI; omega⟩
  obtain ⟨s0, s1⟩ := hS.2 c
  obtain ⟨s', rfl⟩ : ∃ s' : Nat, s = (s' : Int) := ⟨s.toNat, by omega⟩
  have hsN : s' < N := by omega
  have hw := h.1.1
  have hN := hw.2.1
  have h3 := hw.2.2.2.1 s' (by omega)
  obtain ⟨A, hA⟩ : ∃ A : Nat, G 3 s' = (A : Int) := ⟨(G 3 s').toNat, by omega⟩
  have e1 : ∀ b, 1 ≤ b ∧ b ≤ 21 → m0 (fvG G 48 N) b = G b := fun b hb => by rw [m0_n (by omega)]; exact fvG_off hN (by omega)
  have e5 : ∀ b, 51 ≤ b ∧ b ≤ 55 → m0 (fvG G 48 N) b = G b := fun b hb => by rw [m0_n (by omega)]; exact fvG_off hN (by omega)
  have e50 : ∀ k, k ≠ 0 → m0 (fvG G 48 N) 50 k = G 50 k := fun k hk => by rw [m0_k hk, fvG_off hN (by decide)]
  have hR := h.relK e1 e5 (fun k hk => e50 k (by omega))
  have iM := h.2.1.keep (G' := fvG G 48 N) (fun b hb => fvG_off hN (by omega)) (fun k _ => by rw [fvG_off hN (by decide)])
  obtain ⟨c, c1, c2, c3⟩ := best_eq hR hw e1 (T5.ok hw h.1.2.2.1) hsN hA
  have hM := ct_M_best l D K (fvG G 48 N) N s' A c hsN (by rw [fvG_off hN (by decide), (h.2.2.2.1 s' hsN).1]; exact hA) iM.1 hR.ref c2 c1
  rw [← c3] at hM
  have hb := bbS_in (fvG G 48 N) N s' A (by omega)
  refine ⟨_, _, _, ct_V_best l D K G N s' A hsN hA mathOk h.1.vv, hM, h.qkeep (fun b hb => ?_) ?_ (fun s hs => ?_) (fun b hb => ?_) (fun k hk => ?_) ?_, by unfold inI; omega⟩
  · rw [mbG_n (by omega), layV_off (by omega) (by omega), layP_off (by omega)]; exact e1 b hb
  · rw [mbG_n (by decide), layV_off (by decide) (by decide), layP_off (by omega), m0_n (by decide), fvG_off hN (by decide)]
  · rw [mbG_n (by decide), layV_off (by decide) (by decide), layP_off (by omega), m0_n (by decide), mbG_n (by decide), layV_off (by decide) (by decide), layP_off (by omega), m0_n (by decide)]; exact fv_T5 h s hs
  · rw [mbG_n (by omega), layV_off (by omega) (by omega), layP_off (by omega)]; exact e5 b hb
  · rw [mbG_k (by omega) (by omega), layV_k (by omega) (by omega) (by omega), e50 k (by omega)]
  · rw [mbG_n (by decide), layV_off (by decide) (by decide), layP_off (by omega), m0_n (by decide), fvG_off hN (by decide), mbG_k (by decide) (by decide), layV_k (by decide) (by decide) (by decide), e50 9 (by decide), mbG_k (by decide) (by decide), layV_k (by decide) (by decide) (by decide), e50 10 (by decide)]
    exact h.2.2.2.2.2
/-- worth -/
theorem op_worth (h : Inv G N) {s : Int} (hs : inI s) : ∃ v G1 G2, Ct l D K y_V_worth c_V_worth 2 (some .int) 3 84 [.ref 0, vi s] G (some (vi v)) G1 ∧ Ct l D K y_M_worth c_M_worth 2 (some .int) 4 93 [.ref 50, vi s] G1 (some (vi v)) G2 ∧ Inv G2 N ∧ inI v := by
  have hS := has_m h.1.1.1 h.2.1.1.1 s
  by_cases c : hasS G s = 0
  · exact ⟨-1, G, m0 G, ct_V_worth_no l D K G N s hs h.1.vv c, ct_M_worth_no l D K G N s hs h.2.1.1 (hS.1.1 c), h.m0, by unfold inI; omega⟩
  obtain ⟨s0, s1⟩ := hS.2 c
  obtain ⟨s', rfl⟩ : ∃ s' : Nat, s = (s' : Int) := ⟨s.toNat, by omega⟩
  have hsN : s' < N := by omega
  have hw := h.1.1
  have hN := hw.2.1
  have e1 : ∀ b, 1 ≤ b ∧ b ≤ 21 → folR G 47 N b = G b := fun b hb => folR_off hN (by omega)
  have e5 : ∀ b, 50 ≤ b ∧ b ≤ 55 → folR G 47 N b = G b := fun b hb => folR_off hN (by omega)
  have hf := (mathOk G 47 N hw h.1.vv.2.1).2.2
  obtain ⟨hR, a1, hmm, hch, a5⟩ := q_rel (x := folR G 47 N 31 s') (y := folR G 47 N 30 1) h e1 e5
  obtain ⟨p1, p2⟩ := worth_eq hR hw a1 (T5.ok hw h.1.2.1) (fun s hs => by rw [a5 55 (by omega)]; exact (h.2.2.2.1 s hs).2.2) hsN
  have hr := (hR.ref.2 _ p1).1
  have hM := ct_M_worth l D K _ N s' hsN hmm hch hR.ref
  rw [tpN_m0] at hM
  refine ⟨1, _, _, ct_V_worth l D K G N s' hsN mathOk h.1.vv, hM, q_ans h e1 (folR_off hN (by decide)) (fun s hs => by rw [folR_off hN (by decide), folR_off hN (by decide)]; exact h.1.2.2.1 s hs) e5 (fun b hb => ?_) (fun k hk => ?_) hf.1 (by have := hf.2.1; omega) hr.1 p2, by unfold inI; omega⟩
  · rw [layP_off (by omega), m0_n (by omega)]
  · rw [layP_50, pl0_k (by omega), m0_k (by omega)]
/-- reply -/
theorem op_reply (h : Inv G N) {s z : Int} (hs : inI s) (hz : inI z) : ∃ v G1 G2, Ct l D K y_V_reply c_V_reply 3 (some .int) 5 127 [.ref 0, vi s, vi z] G (some (vi v)) G1 ∧ Ct l D K y_M_reply c_M_reply 3 (some .int) 4 93 [.ref 50, vi s, vi z] G1 (some (vi v)) G2 ∧ Inv G2 N ∧ inI v := by
  have hS := has_m h.1.1.1 h.2.1.1.1 s
  by_cases c : hasS G s = 0
  · exact ⟨-1, G, m0 G, ct_V_reply_no l D K G N s z hs h.1.vv c, ct_M_reply_no l D K G N s z hs h.2.1.1 (hS.1.1 c), h.m0, by unfold inI; omega⟩
  obtain ⟨s0, s1⟩ := hS.2 c
  obtain ⟨s', rfl⟩ : ∃ s' : Nat, s = (s' : Int) := ⟨s.toNat, by omega⟩
  have hsN : s' < N := by omega
  have hw := h.1.1
  have hN := hw.2.1
  by_cases cz : ¬ (z = 0 ∨ z = 1)
  · exact ⟨-2, G, m0 G, ct_V_reply_bad l D K G N s' z hsN hz h.1.vv cz, ct_M_reply_bad l D K G N s' z hsN hz h.2.1.1 cz, h.m0, by unfold inI; omega⟩
  have cz2 : z = 0 ∨ z = 1 := by omega
  have off : ∀ (b : Int) c, (c < 25 ∨ 32 ≤ c) → c ≠ 49 → repG (trG G) 49 N b c = G c := fun b c h1 h2 => by rw [repG_off hN h1 h2]; exact uG_n _ _ h2
  have key : ∀ b : Int, (b = 0 ∨ b = 1) → FolSt (repG (trG G) 49 N b) 49 N := fun b _ => FolSt.repG (b := b) mathOk hw.tr (h.1.vv.2.1.tr hN)
  have e1 : ∀ b : Int, ∀ c, 1 ≤ c ∧ c ≤ 21 → repG (trG G) 49 N b c = G c := fun b c hc => off b c (by omega) (by omega)
  have e5 : ∀ b : Int, ∀ c, 50 ≤ c ∧ c ≤ 55 → repG (trG G) 49 N b c = G c := fun b c hc => off b c (by omega) (by omega)
  rcases cz2 with rfl | rfl
  · obtain ⟨hR, a1, hmm, hch, a5⟩ := q_rel (x := repG (trG G) 49 N 1 31 s') (y := repG (trG G) 49 N 1 30 1) h (e1 1) (e5 1)
    have hf := key 1 (Or.inr rfl)
    obtain ⟨p1, p2⟩ := reply_eq (b := 1) hR hw a1 (T5.ok hw h.1.2.1) (fun s hs => by rw [a5 55 (by omega)]; exact (h.2.2.2.1 s hs).2.2) hsN (Or.inr rfl) rfl
    have hr := (hR.ref.2 _ p1).1
    have hM := ct_M_reply l D K _ N s' hsN hmm hch hR.ref
    rw [tpN_m0] at hM
    refine ⟨1, _, _, ct_V_reply l D K G N s' hsN mathOk h.1.vv, hM, q_ans h (e1 1) (off 1 47 (by omega) (by decide)) (fun s hs => by rw [off 1 48 (by omega) (by decide), off 1 3 (by omega) (by decide)]; exact h.1.2.2.1 s hs) (e5 1) (fun b hb => ?_) (fun k hk => ?_) hf.2.2.2.1 (by have := hf.2.2.2.2.1; omega) hr.1 p2, by unfold inI; omega⟩
    · rw [layP_off (by omega), m0_n (by omega)]
    · rw [layP_50, pl0_k (by omega), m0_k (by omega)]
  · obtain ⟨hR, a1, hmm, hch, a5⟩ := q_rel (x := repG (trG G) 49 N 0 31 s') (y := repG (trG G) 49 N 0 30 1) h (e1 0) (e5 0)
    have hf := key 0 (Or.inl rfl)
    obtain ⟨p1, p2⟩ := reply_eq (b := 0) hR hw a1 (T5.ok hw h.1.2.1) (fun s hs => by rw [a5 55 (by omega)]; exact (h.2.2.2.1 s hs).2.2) hsN (Or.inl rfl) rfl
    have hr := (hR.ref.2 _ p1).1
    have hM := ct_M_reply_1 l D K _ N s' hsN hmm hch hR.ref
    rw [tpN_m0] at hM
    refine ⟨1, _, _, ct_V_reply_1 l D K G N s' hsN mathOk h.1.vv, hM, q_ans h (e1 0) (off 0 47 (by omega) (by decide)) (fun s hs => by rw [off 0 48 (by omega) (by decide), off 0 3 (by omega) (by decide)]; exact h.1.2.2.1 s hs) (e5 0) (fun b hb => ?_) (fun k hk => ?_) hf.2.2.2.1 (by have := hf.2.2.2.2.1; omega) hr.1 p2, by unfold inI; omega⟩
    · rw [layP_off (by omega), m0_n (by omega)]
    · rw [layP_50, pl0_k (by omega), m0_k (by omega)]
/-- change -/
theorem op_change (h : Inv G N) {s : Int} (hs : inI s) : ∃ v G1 G2, Ct l D K y_V_change c_V_change 12 (some .int) 3 84 [.ref 0, vi s] G (some (vi v)) G1 ∧ Ct l D K y_M_change c_M_change 5 (some .int) 4 93 [.ref 50, vi s] G1 (some (vi v)) G2 ∧ Inv G2 N ∧ inI v := by
  have hS := has_m h.1.1.1 h.2.1.1.1 s
  by_cases c : hasS G s = 0
  · exact ⟨-1, G, m0 G, ct_V_change_no l D K G N s hs h.1.vv c, ct_M_change_no l D K G N s hs h.2.1.1 (hS.1.1 c), h.m0, by unfold inI; omega⟩
  obtain ⟨s0, s1⟩ := hS.2 c
  obtain ⟨s', rfl⟩ : ∃ s' : Nat, s = (s' : Int) := ⟨s.toNat, by omega⟩
  have hsN : s' < N := by omega
  have hw := h.1.1
  have hN := hw.2.1
  have h3 := hw.2.2.2.1 s' (by omega)
  have e52 := (h.2.2.2.1 s' hsN).1
  by_cases c0 : G 3 s' = 0
  · exact ⟨-3, G, m0 G, ct_V_change_none l D K G N s' hsN h.1.vv c0, ct_M_change_none l D K G N s' hsN h.2.1.1 (by rw [e52]; exact c0), h.m0, by unfold inI; omega⟩
  obtain ⟨A, hA⟩ : ∃ A : Nat, G 3 s' = ((A + 1 : Nat) : Int) := ⟨(G 3 s').toNat - 1, by omega⟩
  have off : ∀ c, (c < 25 ∨ 32 ≤ c) → c ≠ 49 → chH G N s' (A + 1) c = G c := fun c h1 h2 => chH_off hN h1 h2 (A + 1)
  have a1 : ∀ b, 1 ≤ b ∧ b ≤ 21 → m0 (chH G N s' (A + 1)) b = G b := fun b hb => by rw [m0_n (by omega)]; exact off b (by omega) (by omega)
  have a5 : ∀ b, 51 ≤ b ∧ b ≤ 55 → m0 (chH G N s' (A + 1)) b = G b := fun b hb => by rw [m0_n (by omega)]; exact off b (by omega) (by omega)
  have e50 : ∀ k, k ≠ 0 → m0 (chH G N s' (A + 1)) 50 k = G 50 k := fun k hk => by rw [m0_k hk, off 50 (by omega) (by decide)]
  have hR := h.relK a1 a5 (fun k hk => e50 k (by omega))
  have iM := h.2.1.keep (G' := chH G N s' (A + 1)) (fun b hb => off b (by omega) (by omega)) (fun k _ => by rw [off 50 (by omega) (by decide)])
  have hch := change_eq (H' := chH G N s' (A + 1)) hR hw a1 (T5.ok hw h.1.2.1) (fun s hs => by rw [a5 55 (by omega)]; exact (h.2.2.2.1 s hs).2.2) hsN hA (m0_n (by decide)).symm (m0_n (by decide)).symm (m0_n (by decide)).symm A (Nat.le_refl _)
  have hM := ct_M_change l D K (chH G N s' (A + 1)) N s' (A + 1) hsN (by rw [off 52 (by omega) (by decide), e52]; exact hA) (by omega) iM.1 iM.2.1 hR.ref
  rw [show A + 1 - 1 = A by omega, ← hch.1] at hM
  have hle := chP_in mathOk hw h.1.vv.2.1 hsN (A + 1) (by omega)
  refine ⟨_, _, _, ct_V_change l D K G N s' (A + 1) hsN hA (by omega) mathOk h.1.vv, hM, h.qkeep (fun b hb => ?_) ?_ (fun s hs => ?_) (fun b hb => ?_) (fun k hk => ?_) ?_, by unfold inI; omega⟩
  · rw [layP_off (by omega)]; exact a1 b hb
  · rw [layP_off (by omega), m0_n (by decide), off 47 (by omega) (by decide)]
  · rw [layP_off (by omega), m0_n (by decide), off 48 (by omega) (by decide), layP_off (by omega), a1 3 (by omega)]; exact h.1.2.2.1 s hs
  · rw [layP_off (by omega)]; exact a5 b hb
  · rw [layP_50, pl0_k (by omega), e50 k (by omega)]
  · rw [layP_off (by omega), m0_n (by decide), off 0 (by omega) (by decide), layP_50, pl0_k (by decide), pl0_k (by decide), e50 9 (by decide), e50 10 (by decide)]
    exact h.2.2.2.2.2
/-- within -/
theorem op_within (h : Inv G N) {s z : Int} (hs : inI s) (hz : inI z) : ∃ v G1 G2, Ct l D K y_V_within c_V_within 4 (some .int) 4 99 [.ref 0, vi s, vi z] G (some (vi v)) G1 ∧ Ct l D K y_M_within c_M_within 10 (some .int) 3 75 [.ref 50, vi s, vi z] G1 (some (vi v)) G2 ∧ Inv G2 N ∧ inI v := by
  have hS := has_m h.1.1.1 h.2.1.1.1 s
  by_cases c : hasS G s = 0
  · exact ⟨-1, G, m0 G, ct_V_within_no l D K G N s z hs h.1.vv c, ct_M_within_no l D K G N s z hs h.2.1.1 (hS.1.1 c), h.m0, by unfold inI; omega⟩
  obtain ⟨s0, s1⟩ := hS.2 c
  obtain ⟨s', rfl⟩ : ∃ s' : Nat, s = (s' : Int) := ⟨s.toNat, by omega⟩
  have hsN : s' < N := by omega
  have hw := h.1.1
  have hN := hw.2.1
  by_cases cz : z < 0 ∨ 5 < z
  · exact ⟨-2, G, m0 G, ct_V_within_bad l D K G N s' z hsN hz h.1.vv cz, ct_M_within_bad l D K G N s' z hsN hz h.2.1.1 cz, h.m0, by unfold inI; omega⟩
  obtain ⟨n, rfl⟩ : ∃ n : Nat, z = (n : Int) := ⟨z.toNat, by omega⟩
  have hn5 : n ≤ 5 := by omega
  have e1 : ∀ b, 1 ≤ b ∧ b ≤ 21 → stS G N n b = G b := fun b hb => stS_off (by omega) n
  have e5 : ∀ b, 50 ≤ b ∧ b ≤ 55 → stS G N n b = G b := fun b hb => stS_off (by omega) n
  have hso := stpOk hw
  obtain ⟨hR, a1, hmm, hch, a5⟩ := q_rel (x := stS G N n 45 s') (y := stS G N n 44 1) h e1 e5
  have hwo : WnOk (m0 (ansG (stS G N n) (stS G N n 45 s') (stS G N n 44 1))) N := wnOk hR hw a1 (fun s a hs ha => by rw [totZ_congr (a5 54 (by omega))]; exact h.2.1.2.2 s a hs ha)
  have hwe := within_eq hR hw a1 n
  refine ⟨1, _, _, ct_V_within l D K G N s' n hsN hn5 h.1.vv hso, ct_M_within l D K _ N s' n hsN hn5 hmm hwo, q_ans h e1 (stS_off (by decide) n) (fun s hs => by rw [stS_off (by decide) n, stS_off (by decide) n]; exact h.1.2.2.1 s hs) e5 (fun b hb => ?_) (fun k hk => ?_) (hso n hn5).2.1.1 (by have := (hso n hn5).2.1.2; omega) (hwo.2 n hn5).2.1.1 (by rw [hwe.1, hwe.2 s' hsN]), by unfold inI; omega⟩
  · rw [wnS_off (by omega) n, m0_n (by omega)]
  · rw [wnS_off (by omega) n, m0_k (by omega)]
theorem lrR_off {G : GT} {N b : Nat} (hN : N ≤ 5) (h : b < 32 ∨ 44 ≤ b) : lrR G 47 N b = G b := by
  unfold lrR
  rw [solG_off (by omega) (by omega) (by omega), lrG_off hN (by omega)]
  unfold lrH homG reaG
  rw [uG_n _ _ (by omega), uG_n _ _ (by omega)]
/-- run -/
theorem op_run (h : Inv G N) {s : Int} (hs : inI s) : ∃ v G1 G2, Ct l D K y_V_run c_V_run 2 (some .int) 4 93 [.ref 0, vi s] G (some (vi v)) G1 ∧ Ct l D K y_M_run c_M_run 25 (some .int) 5 115 [.ref 50, vi s] G1 (some (vi v)) G2 ∧ Inv G2 N ∧ inI v := by
  have hS := has_m h.1.1.1 h.2.1.1.1 s
  by_cases c : hasS G s = 0
  · exact ⟨-1, G, m0 G, ct_V_run_no l D K G N s hs h.1.vv c, ct_M_run_no l D K G N s hs h.2.1.1 (hS.1.1 c), h.m0, by unfold inI; omega⟩
  obtain ⟨s0, s1⟩ := hS.2 c
  obtain ⟨s', rfl⟩ : ∃ s' : Nat, s = (s' : Int) := ⟨s.toNat, by omega⟩
  have hsN : s' < N := by omega
  have hw := h.1.1
  have hN := hw.2.1
  have e1 : ∀ b, 1 ≤ b ∧ b ≤ 21 → lrR G 47 N b = G b := fun b hb => lrR_off hN (by omega)
  have e5 : ∀ b, 50 ≤ b ∧ b ≤ 55 → lrR G 47 N b = G b := fun b hb => lrR_off hN (by omega)
  have hro := (runOk hw h.1.vv.2.1).1
  obtain ⟨hR, a1, hmm, hch, a5⟩ := q_rel (x := lrR G 47 N 41 (homZ (reaG G 47 N) N s').toNat) (y := lrR G 47 N 40 1) h e1 e5
  obtain ⟨p1, p2, p3⟩ := run_eq hR hw a1 (T5.ok hw h.1.2.1) (fun s hs => by rw [a5 55 (by omega)]; exact (h.2.2.2.1 s hs).2.2) hsN
  refine ⟨1, _, _, ct_V_run l D K G N s' hsN hro h.1.vv, ct_M_run l D K _ N s' hsN hmm p1, q_ans h e1 (lrR_off hN (by omega)) (fun s hs => by rw [lrR_off hN (by omega), lrR_off hN (by omega)]; exact h.1.2.2.1 s hs) e5 (fun b hb => ?_) (fun k hk => ?_) hro.2.1 (by have := hro.2.2.1; omega) p2 p3, by unfold inI; omega⟩
  · rw [ruS_n (by omega) (by omega) (by omega) (by omega), m0_n (by omega)]
  · rw [ruS_k (by omega) (by omega), m0_k (by omega)]
end OPS
