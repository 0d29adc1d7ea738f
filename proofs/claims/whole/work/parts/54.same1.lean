/-! class and reference give the same: worth, value, reply, change -/
theorem vqG {G H : GT} {N : Nat} {f : Nat → Nat} (e : ∀ b, 1 ≤ b ∧ b ≤ 21 → H b = G b) (hN : N ≤ 5) (hf : ∀ r, r < N → f r ≤ 2) (s : Nat) : vq H N f s = vq G N f s := by
  have := w_congr e hN hf (fun _ _ => rfl)
  unfold vq; rw [this.1, this.2]
theorem vdG {G H : GT} (e : ∀ b, 1 ≤ b ∧ b ≤ 21 → H b = G b) {s a : Nat} : vd H s a ↔ vd G s a := by
  unfold vd; rw [e 3 (by omega)]
theorem Opt.congr {G H : GT} {N : Nat} {b : Int} {f : Nat → Nat} (hw : WW G N) (e : ∀ b, 1 ≤ b ∧ b ≤ 21 → H b = G b) (hf : ∀ r, r < N → f r ≤ 2) (h : Opt G N b f) : Opt H N b f := by
  have hN := hw.2.1
  intro s hs hb a hva
  rw [vdG e] at hva
  rw [rs_congr e hN hf (fun _ _ => rfl) hs (vd_in hw (by omega) hva)]
  exact h s hs (by rw [← e 2 (by omega)]; exact hb) a hva
/-- the plan in cell pl, by acts that are there -/
def TOk (G : GT) (pl N : Nat) : Prop := ∀ s, s < N → 0 ≤ G pl s ∧ vd G s (G pl s).toNat
theorem TOk.eqN {G : GT} {pl N s : Nat} (h : TOk G pl N) (hs : s < N) : G pl s = ((plN G pl s : Nat) : Int) := by
  have := h s hs; unfold plN; omega
theorem TOk.vdP {G : GT} {pl N : Nat} (h : TOk G pl N) : ∀ s, s < N → vd G s (plN G pl s) := fun s hs => (h s hs).2
theorem TOk.le {G : GT} {pl N : Nat} (hw : WW G N) (h : TOk G pl N) : ∀ s, s < N → plN G pl s ≤ 2 := fun s hs => vd_in hw (by have := hw.2.1; omega) (h.vdP s hs)
theorem Rel.num {G : GT} {N s : Nat} {g : Nat → Nat} (h : Rel G N) (hv : ∀ s, s < N → vd G s (g s)) (hs : s < N) : fr (layP G N 59 (5 * cdF G g N + s)) (layP G N 60 (cdF G g N)) = vq G N g s := by
  have hc := h.code hv
  rw [h.frE hc.1 hs]
  exact vq_congr h.1.2.1 (h.f _) hc.2 s
/-- worth -/
theorem worth_eq {G H : GT} {N s : Nat} (h : Rel H N) (hw : WW G N) (e : ∀ b, 1 ≤ b ∧ b ≤ 21 → H b = G b) (ht : TOk G 47 N) (h5 : ∀ s, s < N → H 55 s = G 47 s) (hs : s < N) : tpN H N (-1) 0 < nPl H N ∧ fr (folR G 47 N 31 s) (folR G 47 N 30 1) = fr (layP H N 59 (5 * tpN H N (-1) 0 + s)) (layP H N 60 (tpN H N (-1) 0)) := by
  have hN := hw.2.1
  have hf := ht.le hw
  have hvH : ∀ s, s < N → vd H s (plN G 47 s) := fun s hs => (vdG e).2 (ht.vdP s hs)
  have hp : PlOk G 47 N := PlOk.of (Or.inl rfl) hf (fun s hs => ht.eqN hs)
  have hn := fol_num hw hp
  have ec : tpN H N (-1) 0 = cdF H (plN G 47) N := tpN_cd h.2.1 (fun t hl _ => by rw [if_neg (by omega), h5 t hl, ht.eqN hl])
  rw [ec, h.num hvH hs, hn.1, hn.2 s hs]
  exact ⟨(h.code hvH).1, (vqG e hN hf s).symm⟩
/-- the plan of findValues -/
theorem fv_plan {G H : GT} {N : Nat} (hw : WW G N) (e : ∀ b, 1 ≤ b ∧ b ≤ 21 → H b = G b) (ht : TOk G 48 N) : ∃ f, StP G 48 N f (fvG G 48 N) ∧ Opt H N 0 f ∧ Opt H N 1 f ∧ (∀ s, s < N → vd H s (f s)) ∧ (∀ s, s < N → f s ≤ 2) := by
  obtain ⟨f, h1, h2, h3⟩ := fvG_end hw (Or.inr (Or.inl rfl)) (fun s hs => ht.eqN hs) ht.vdP
  have hf := h1.le hw
  exact ⟨f, h1, h2.congr hw e hf, h3.congr hw e hf, fun s hs => (vdG e).2 (h1.2.2.2 s hs), hf⟩
theorem StP.num {G X : GT} {pl N : Nat} {f : Nat → Nat} (hw : WW G N) (h : StP G pl N f X) : X 30 1 = wL G N f ∧ ∀ s, s < N → X 31 s = wU G N f s := by
  have hN := hw.2.1
  have := w_congr h.1 hN (h.le hw) (fun _ _ => rfl)
  exact ⟨h.2.1.1.trans this.1, fun s hs => (h.2.1.2 s hs).trans (this.2 s)⟩
/-- value -/
theorem value_eq {G H : GT} {N s : Nat} (h : Rel H N) (hw : WW G N) (e : ∀ b, 1 ≤ b ∧ b ≤ 21 → H b = G b) (ht : TOk G 48 N) (hs : s < N) : ∃ p, p < nPl H N ∧ layV H N 61 s = (p : Int) ∧ fr (fvG G 48 N 31 s) (fvG G 48 N 30 1) = fr (layV H N 59 (5 * p + s)) (layV H N 60 p) := by
  obtain ⟨f, h1, o0, o1, hv, hf⟩ := fv_plan hw e ht
  have hn := h1.num hw
  obtain ⟨p, p1, p2, p3⟩ := h.val hs hv o0 o1
  refine ⟨p, p1, p2, ?_⟩
  rw [layV_off (by decide) (by decide), layV_off (by decide) (by decide), h.frE p1 hs, p3, hn.1, hn.2 s hs]
  exact (vqG e hw.2.1 hf s).symm
theorem cpy_lt {f g : Nat → Int} {M j : Nat} (h : j < M) : cpy f g M j = f j := if_pos h
/-- reply -/
theorem reply_eq {G H : GT} {N s : Nat} {b : Int} (h : Rel H N) (hw : WW G N) (e : ∀ b, 1 ≤ b ∧ b ≤ 21 → H b = G b) (ht : TOk G 47 N) (h5 : ∀ s, s < N → H 55 s = G 47 s) (hs : s < N) (hb : b = 0 ∨ b = 1) {u : Nat} (hu : u = utS (layP H N) N s (tpN H N (-1) 0) (1 - b) (1 - b) (nPl H N)) : u < nPl H N ∧ fr (repG (trG G) 49 N b 31 s) (repG (trG G) 49 N b 30 1) = fr (layP H N 59 (5 * u + s)) (layP H N 60 u) := by
  have hN := hw.2.1
  have hf0 := ht.le hw
  have eT : ∀ b, 1 ≤ b ∧ b ≤ 21 → trG G b = G b := fun b hb => uG_n _ _ (by omega)
  have hwT : WW (trG G) N := hw.keep1 eT
  have hpT : ∀ s, s < N → trG G 49 s = ((plN G 47 s : Nat) : Int) := fun s hs => by
    unfold trG; rw [uG_s, cpy_lt (by omega)]; exact ht.eqN hs
  obtain ⟨f, f1, f2, f3⟩ := repG_end (b := b) hwT (Or.inr (Or.inr rfl)) hpT (fun s hs => (vdG eT).2 (ht.vdP s hs))
  have hf := f1.le hwT
  have eH : ∀ b, 1 ≤ b ∧ b ≤ 21 → H b = trG G b := fun b hb => (e b hb).trans (eT b hb).symm
  have hvH0 : ∀ s, s < N → vd H s (plN G 47 s) := fun s hs => (vdG e).2 (ht.vdP s hs)
  have ec : tpN H N (-1) 0 = cdF H (plN G 47) N := tpN_cd h.2.1 (fun t hl _ => by rw [if_neg (by omega), h5 t hl, ht.eqN hl])
  have hc := h.code hvH0
  have hn := f1.num hwT
  rw [ec] at hu
  have hr := h.rep hs hc.1 hb (fun s hs => (vdG eH).2 (f1.2.2.2 s hs)) (f2.congr hwT eH hf) (fun r hr hbr => by
    rw [hc.2 r hr]
    exact f3 r hr (by rw [← eH 2 (by omega)]; exact hbr)) hu
  refine ⟨hr.1, ?_⟩
  rw [h.frE hr.1 hs, hr.2, hn.1, hn.2 s hs]
  exact (vqG eH hN hf s).symm
/-- the told plan, the act a in the state s -/
def gA (G : GT) (s a : Nat) : Nat → Nat := fun t => if t = s then a else plN G 47 t
theorem ch_num {G : GT} {N s : Nat} (hw : WW G N) (ht : TOk G 47 N) (hs : s < N) : ∀ a, a < 3 → chH G N s (a + 1) 30 1 = wL G N (gA G s a) ∧ chH G N s (a + 1) 31 s = wU G N (gA G s a) s := by
  intro a ha
  have hN := hw.2.1
  have hf0 := ht.le hw
  have hp : PlOk G 47 N := PlOk.of (Or.inl rfl) hf0 (fun s hs => ht.eqN hs)
  have h2 := chH_st2 (a := a) hw hp hs ha
  have hn := fol_num h2.1 h2.2
  have e1 : ∀ b, 1 ≤ b ∧ b ≤ 21 → uG (chH G N s a) 49 (up (chH G N s a 49) s (a : Int)) b = G b := fun b hb => by rw [uG_n _ _ (by omega), chH_off hN (by omega) (by omega)]
  have e49 : ∀ a t, t < N → t ≠ s → chH G N s a 49 t = G 47 t := by
    intro a t htN hne
    induction a with
    | zero => show trG G 49 t = _; unfold trG; rw [uG_s, cpy_lt (by omega)]
    | succ a ih => show folR _ 49 N 49 t = _; rw [folR_off hN (by omega), uG_s, up_n _ _ hne]; exact ih
  have ep : ∀ r, r < N → plN (uG (chH G N s a) 49 (up (chH G N s a 49) s (a : Int))) 49 r = gA G s a r := fun r hr => by
    unfold plN gA; rw [uG_s]
    by_cases er : r = s
    · rw [if_pos er, er, up_s, Int.toNat_natCast]
    · rw [if_neg er, up_n _ _ er, e49 a r hr er]; rfl
  have hc := w_congr e1 hN h2.2.f ep
  exact ⟨hn.1.trans hc.1, (hn.2 s hs).trans (hc.2 s)⟩
theorem gA_vd {G : GT} {N s a : Nat} (ht : TOk G 47 N) (ha : (a : Int) < G 3 s) : ∀ r, r < N → vd G r (gA G s a r) := fun r hr => by
  unfold gA
  by_cases e : r = s
  · rw [if_pos e, e]; exact Or.inl ha
  · rw [if_neg e]; exact ht.vdP r hr
theorem change_eq {G H H' : GT} {N s A : Nat} (h : Rel H N) (hw : WW G N) (e : ∀ b, 1 ≤ b ∧ b ≤ 21 → H b = G b) (ht : TOk G 47 N) (h5 : ∀ s, s < N → H 55 s = G 47 s) (hs : s < N) (hA : G 3 s = (A : Int)) (e51 : H' 51 = H 51) (e52 : H' 52 = H 52) (e55 : H' 55 = H 55) : ∀ j, j + 1 ≤ A → (chP G N s (j + 1)).1 = ((mcS (layP H N) H' N s j : Nat) : Int) ∧ (chP G N s (j + 1)).2.1 = wU G N (gA G s (mcS (layP H N) H' N s j)) s ∧ (chP G N s (j + 1)).2.2 = wL G N (gA G s (mcS (layP H N) H' N s j))
  | 0, hj => by
    have hn := ch_num hw ht hs 0 (by omega)
    unfold chP
    rw [if_pos (Or.inl rfl)]
    exact ⟨rfl, hn.2, hn.1⟩
  | j + 1, hj => by
    have hN := hw.2.1
    have h3 := hw.2.2.2.1 s (by omega)
    obtain ⟨i1, i2, i3⟩ := change_eq h hw e ht h5 hs hA e51 e52 e55 j (by omega)
    have hn := ch_num hw ht hs (j + 1) (by omega)
    have hle := mcS_le (layP H N) H' N s j
    have hcode : ∀ a : Nat, a < A → tpN H' N (s : Int) (a : Int) = cdF H (gA G s a) N := fun a ha => by
      have : tpN H' N (s : Int) (a : Int) = tpN H N (s : Int) (a : Int) := by unfold tpN; rw [tpS_congr e52 e55]
      rw [this]
      refine tpN_cd h.2.1 (fun t hl _ => ?_)
      unfold gA
      by_cases et : t = s
      · rw [if_pos (by omega), if_pos et]
      · rw [if_neg (by omega), if_neg et, h5 t hl, ht.eqN hl]
    have hvd : ∀ a : Nat, a < A → ∀ r, r < N → vd G r (gA G s a r) := fun a ha => gA_vd ht (by omega)
    have hvH : ∀ a : Nat, a < A → ∀ r, r < N → vd H r (gA G s a r) := fun a ha r hr => (vdG e).2 (hvd a ha r hr)
    have hgf : ∀ a : Nat, a < A → ∀ r, r < N → gA G s a r ≤ 2 := fun a ha r hr => vd_in hw (by omega) (hvd a ha r hr)
    have hcm := h.cmp (h.code (hvH (j + 1) (by omega))).1 (h.code (hvH (mcS (layP H N) H' N s j) (by omega))).1 hs
    have ev : ∀ a : Nat, a < A → vq H N (fP H (cdF H (gA G s a) N)) s = fr (wU G N (gA G s a) s) (wL G N (gA G s a)) := fun a ha => by
      rw [vq_congr hN (h.f _) (h.code (hvH a ha)).2 s]
      exact vqG e hN (hgf a ha) s
    rw [ev (j + 1) (by omega), ev _ (by omega)] at hcm
    have l1 := (w_in hw (hgf (j + 1) (by omega))).1
    have l2 := (w_in hw (hgf (mcS (layP H N) H' N s j) (by omega))).1
    rw [fr_lt (by omega) (by omega), fr_lt (by omega) (by omega)] at hcm
    have e2 : H' 51 s = G 2 s := by rw [e51, (h.2.2.2.1 s hs).2, e 2 (by omega)]
    have key : likesZ G s ((chH G N s (j + 1 + 1) 31 s) * (chP G N s (j + 1)).2.2) ((chP G N s (j + 1)).2.1 * (chH G N s (j + 1 + 1) 30 1)) = 1 ↔ mcS (layP H N) H' N s (j + 1) = j + 1 := by
      have hmc : mcS (layP H N) H' N s (j + 1) = (if H' 51 s = 0 then (if 0 < cmU (layP H N) s (tpN H' N (s : Int) ((j + 1 : Nat) : Int)) (tpN H' N (s : Int) ((mcS (layP H N) H' N s j : Nat) : Int)) then j + 1 else mcS (layP H N) H' N s j) else (if cmU (layP H N) s (tpN H' N (s : Int) ((j + 1 : Nat) : Int)) (tpN H' N (s : Int) ((mcS (layP H N) H' N s j : Nat) : Int)) < 0 then j + 1 else mcS (layP H N) H' N s j)) := rfl
      rw [hn.1, hn.2, i2, i3, hmc, e2, hcode (j + 1) (by omega), hcode _ (by omega)]
      unfold likesZ
      by_cases hb : G 2 s = 0
      · rw [if_pos hb, if_pos hb]
        by_cases hc : 0 < cmU (layP H N) s (cdF H (gA G s (j + 1)) N) (cdF H (gA G s (mcS (layP H N) H' N s j)) N)
        · rw [if_pos hc, if_pos (hcm.2.1.1 hc)]
          exact ⟨fun _ => rfl, fun _ => rfl⟩
        · rw [if_neg hc, if_neg (fun q => hc (hcm.2.1.2 q))]
          exact ⟨fun q => absurd q (by decide), fun q => by omega⟩
      · rw [if_neg hb, if_neg hb]
        by_cases hc : cmU (layP H N) s (cdF H (gA G s (j + 1)) N) (cdF H (gA G s (mcS (layP H N) H' N s j)) N) < 0
        · rw [if_pos hc, if_pos (hcm.1.1 hc)]
          exact ⟨fun _ => rfl, fun _ => rfl⟩
        · rw [if_neg hc, if_neg (fun q => hc (hcm.1.2 q))]
          exact ⟨fun q => absurd q (by decide), fun q => by omega⟩
    have hms : mcS (layP H N) H' N s (j + 1) = j + 1 ∨ mcS (layP H N) H' N s (j + 1) = mcS (layP H N) H' N s j := by
      show (if H' 51 s = 0 then (if _ then _ else _) else (if _ then _ else _)) = _ ∨ (if H' 51 s = 0 then (if _ then _ else _) else (if _ then _ else _)) = _
      split
      · split
        · exact Or.inl rfl
        · exact Or.inr rfl
      · split
        · exact Or.inl rfl
        · exact Or.inr rfl
    unfold chP
    by_cases hk : mcS (layP H N) H' N s (j + 1) = j + 1
    · rw [if_pos (Or.inr (key.2 hk)), hk]
      exact ⟨rfl, hn.2, hn.1⟩
    · rw [if_neg (fun q => q.elim (fun q => by omega) (fun q => hk (key.1 q))), hms.resolve_left hk]
      exact ⟨i1, i2, i3⟩
