/-! what is reached: class and reference -/
theorem orZ_bit (x y : Int) (t : Nat) : (orZ x y).toNat.testBit t = (x.toNat.testBit t || y.toNat.testBit t) := by
  unfold orZ; rw [Int.toNat_natCast, Nat.testBit_or]
theorem orZ_self {x : Int} (h : 0 ≤ x) : orZ x x = x := by
  unfold orZ; rw [Nat.or_self]; omega
theorem wS_at {f : Nat → Int} {N b : Nat} (hb : b < N) (h : ∀ s, s < N → 0 ≤ f s ∧ f s ≤ 63) : ∀ i, i ≤ N → ∀ s, s < N → wS f b i s = if s < i ∧ (f s).toNat.testBit b = true then orZ (f s) (f b) else f s
  | 0, _, s, hs => by rw [if_neg (by omega)]; rfl
  | i + 1, hi, s, hs => by
    have ih := wS_at hb h i (by omega)
    have ei : wS f b i i = f i := by rw [ih i (by omega), if_neg (by omega)]
    have eb : wS f b i b = f b := by
      rw [ih b hb]
      split
      · exact orZ_self (h b hb).1
      · rfl
    unfold wS
    rw [ei, eb]
    by_cases hbit : (f i).toNat.testBit b = true
    · rw [if_pos hbit]
      by_cases e : s = i
      · subst e; rw [up_s, if_pos ⟨by omega, hbit⟩]
      · rw [up_n _ _ e, ih s hs]
        by_cases l : s < i ∧ (f s).toNat.testBit b = true
        · rw [if_pos l, if_pos ⟨by omega, l.2⟩]
        · rw [if_neg l, if_neg (fun q => l ⟨by omega, q.2⟩)]
    · rw [if_neg hbit, ih s hs]
      by_cases l : s < i ∧ (f s).toNat.testBit b = true
      · rw [if_pos l, if_pos ⟨by omega, l.2⟩]
      · rw [if_neg l, if_neg (fun q => l ⟨?_, q.2⟩)]
        have : s ≠ i := fun e => hbit (by rw [← e]; exact q.2)
        omega
def Wb (f : Nat → Int) (N b s t : Nat) : Bool := (wB f N b s).toNat.testBit t
theorem Wb_s {f : Nat → Int} {N b s t : Nat} (hb : b < N) (h : ∀ s, s < N → 0 ≤ f s ∧ f s ≤ 63) (hs : s < N) : Wb f N (b + 1) s t = (Wb f N b s t || (Wb f N b s b && Wb f N b b t)) := by
  show (wS (wB f N b) b N s).toNat.testBit t = _
  rw [wS_at hb (fun s hs => wB_in h b (by omega) s hs) N (Nat.le_refl _) s hs]
  by_cases e : (wB f N b s).toNat.testBit b = true
  · rw [if_pos ⟨hs, e⟩, orZ_bit]
    unfold Wb; rw [e, Bool.true_and]
  · rw [if_neg (fun q => e q.2)]
    unfold Wb; rw [Bool.eq_false_iff.2 e, Bool.false_and, Bool.or_false]
theorem Wb_mono {f : Nat → Int} {N s t : Nat} (h : ∀ s, s < N → 0 ≤ f s ∧ f s ≤ 63) (hs : s < N) : ∀ b, b ≤ N → Wb f N 0 s t = true → Wb f N b s t = true
  | 0, _, h0 => h0
  | b + 1, hb, h0 => by rw [Wb_s (by omega) h hs, Wb_mono h hs b (by omega) h0, Bool.true_or]
theorem Wb_thru {f : Nat → Int} {N : Nat} (h : ∀ s, s < N → 0 ≤ f s ∧ f s ≤ 63) : ∀ b, b ≤ N → ∀ x s t, x < b → s < N → Wb f N b s x = true → Wb f N b x t = true → Wb f N b s t = true
  | 0, _, x, s, t, hx, _, _, _ => by omega
  | b + 1, hb, x, s, t, hx, hs, h1, h2 => by
    have ih := Wb_thru h b (by omega)
    rw [Wb_s (by omega) h hs, Bool.or_eq_true, Bool.and_eq_true] at h1
    rw [Wb_s (by omega) h (by omega), Bool.or_eq_true, Bool.and_eq_true] at h2
    rw [Wb_s (by omega) h hs, Bool.or_eq_true, Bool.and_eq_true]
    by_cases e : x = b
    · subst e
      have a1 : Wb f N x s x = true := h1.elim id (fun q => q.1)
      have a2 : Wb f N x x t = true := h2.elim id (fun q => q.2)
      exact Or.inr ⟨a1, a2⟩
    · have hx2 : x < b := by omega
      rcases h1 with h1 | ⟨h1, h1'⟩ <;> rcases h2 with h2 | ⟨h2, h2'⟩
      · exact Or.inl (ih x s t hx2 hs h1 h2)
      · exact Or.inr ⟨ih x s b hx2 hs h1 h2, h2'⟩
      · exact Or.inr ⟨h1, ih x b t hx2 (by omega) h1' h2⟩
      · exact Or.inr ⟨h1, h2'⟩
theorem Wb_sound {f : Nat → Int} {N : Nat} {Q : Nat → Nat → Prop} (h : ∀ s, s < N → 0 ≤ f s ∧ f s ≤ 63) (h0 : ∀ s t, s < N → t ≤ 5 → Wb f N 0 s t = true → Q s t) (hQ : ∀ s x t, s < N → x < N → t ≤ 5 → Q s x → Q x t → Q s t) (hN : N ≤ 5) : ∀ b, b ≤ N → ∀ s t, s < N → t ≤ 5 → Wb f N b s t = true → Q s t
  | 0, _, s, t, hs, ht, hw => h0 s t hs ht hw
  | b + 1, hb, s, t, hs, ht, hw => by
    have ih := Wb_sound h h0 hQ hN b (by omega)
    rw [Wb_s (by omega) h hs, Bool.or_eq_true, Bool.and_eq_true] at hw
    rcases hw with hw | ⟨h1, h2⟩
    · exact ih s t hs ht hw
    · exact hQ s b t hs (by omega) ht (ih s b hs (by omega) h1) (ih b t (by omega) ht h2)
theorem pw_bit (k t : Nat) : (((pw k : Nat) : Int)).toNat.testBit t = decide (k = t) := by
  rw [Int.toNat_natCast]; exact Nat.testBit_two_pow
theorem mkB_bit {G : GT} {q t : Nat} (ht : t ≤ 5) : ∀ n, n ≤ 5 → (mkB G q n).toNat.testBit t = (decide (t < n ∧ 0 < G (7 + q) t) || decide (t = 5 ∧ G 5 q = 0))
  | 0, _ => by
    unfold mkB
    by_cases h : G 5 q = 0
    · rw [if_pos h, show (32 : Int) = ((pw 5 : Nat) : Int) from rfl, pw_bit]
      simp [h, eq_comm]
    · rw [if_neg h]; simp [h]
  | n + 1, hn => by
    have ih := mkB_bit (G := G) (q := q) ht n (by omega)
    unfold mkB
    by_cases h : 0 < G (7 + q) n
    · rw [if_pos h, orZ_bit, ih, pw_bit, Bool.eq_iff_iff]
      simp only [Bool.or_eq_true, decide_eq_true_eq]
      constructor
      · rintro ((⟨a, b⟩ | b) | b)
        · exact Or.inl ⟨by omega, b⟩
        · exact Or.inr b
        · subst b; exact Or.inl ⟨by omega, h⟩
      · rintro (⟨a, b⟩ | b)
        · by_cases e : n = t
          · exact Or.inr e
          · exact Or.inl (Or.inl ⟨by omega, b⟩)
        · exact Or.inl (Or.inr b)
    · rw [if_neg h, ih, Bool.eq_iff_iff]
      simp only [Bool.or_eq_true, decide_eq_true_eq]
      constructor
      · rintro (⟨a, b⟩ | b)
        · exact Or.inl ⟨by omega, b⟩
        · exact Or.inr b
      · rintro (⟨a, b⟩ | b)
        · by_cases e : t = n
          · rw [e] at b; exact absurd b h
          · exact Or.inl ⟨by omega, b⟩
        · exact Or.inr b
theorem W0 {G : GT} {pl N s t : Nat} (hN : N ≤ 5) (hs : s < N) (ht : t ≤ 5) : Wb (rc1F G pl N N) N 0 s t = true ↔ ((t < N ∧ 0 < G (7 + slotN G pl s) t) ∨ (t = 5 ∧ G 5 (slotN G pl s) = 0)) ∨ t = s := by
  show (rc1F G pl N N s).toNat.testBit t = true ↔ _
  unfold rc1F rc1
  rw [if_pos hs, orZ_bit, mkB_bit ht N hN, pw_bit]
  simp only [Bool.or_eq_true, decide_eq_true_eq]
  constructor
  · rintro (h | h)
    · exact Or.inl h
    · exact Or.inr h.symm
  · rintro (h | h)
    · exact Or.inl h
    · exact Or.inr h.symm
/-- reaching: w weights, T totals, b the bits -/
def Reach (N : Nat) (w : Nat → Nat → Int) (T : Nat → Int) (b : Nat → Nat → Bool) : Prop :=
  (∀ s, s < N → b s s = true) ∧ (∀ s x t, s < N → x < N → t ≤ 5 → b s x = true → b x t = true → b s t = true) ∧ (∀ s t, s < N → t < N → 0 < w s t → b s t = true) ∧ (∀ s, s < N → T s = 0 → b s 5 = true) ∧ (∀ S : Nat → Prop, (∀ x y, x < N → y < N → S x → 0 < w x y → S y) → ∀ s t, s < N → t < N → b s t = true → S s → S t) ∧ ∀ s, s < N → b s 5 = true → ∃ t, t < N ∧ b s t = true ∧ T t = 0
theorem reach_cls {G : GT} {pl N : Nat} (hN : N ≤ 5) : Reach N (fun s t => G (7 + slotN G pl s) t) (fun s => G 5 (slotN G pl s)) (fun s t => tb (reaG G pl N) s t) := by
  have hin := rc1F_in (G := G) (pl := pl) hN
  have e : ∀ s t, tb (reaG G pl N) s t = Wb (rc1F G pl N N) N N s t := fun s t => by unfold tb reaG; rw [uG_s]; rfl
  have r1 : ∀ s, s < N → tb (reaG G pl N) s s = true := fun s hs => by
    rw [e]; exact Wb_mono hin hs N (Nat.le_refl _) ((W0 hN hs (by omega)).2 (Or.inr rfl))
  have r2 : ∀ s x t, s < N → x < N → t ≤ 5 → tb (reaG G pl N) s x = true → tb (reaG G pl N) x t = true → tb (reaG G pl N) s t = true := fun s x t hs hx _ h1 h2 => by
    rw [e] at *; exact Wb_thru hin N (Nat.le_refl _) x s t hx hs h1 h2
  have r4 : ∀ s, s < N → G 5 (slotN G pl s) = 0 → tb (reaG G pl N) s 5 = true := fun s hs h0 => by
    rw [e]; exact Wb_mono hin hs N (Nat.le_refl _) ((W0 hN hs (by omega)).2 (Or.inl (Or.inr ⟨rfl, h0⟩)))
  refine ⟨r1, r2, fun s t hs ht hw => ?_, r4, fun S hS s t hs ht hb hSs => ?_, fun s hs hb => ?_⟩
  · show tb (reaG G pl N) s t = true
    rw [e]; exact Wb_mono hin hs N (Nat.le_refl _) ((W0 hN hs (by omega)).2 (Or.inl (Or.inl ⟨ht, hw⟩)))
  · have hb2 : tb (reaG G pl N) s t = true := hb
    rw [e] at hb2
    have := Wb_sound (Q := fun x y => y < N → S x → S y) hin (fun x y hx hy h0 hyN hSx => by
      rcases (W0 hN hx hy).1 h0 with (h1 | h1) | h1
      · exact hS x y hx hyN hSx h1.2
      · omega
      · rw [h1]; exact hSx) (fun a x b ha hx hb q1 q2 hbN hSa => q2 hbN (q1 hx hSa)) hN N (Nat.le_refl _) s t hs (by omega) hb2
    exact this ht hSs
  · have hb2 : tb (reaG G pl N) s 5 = true := hb
    rw [e] at hb2
    have := Wb_sound (Q := fun x y => if y = 5 then ∃ t, t < N ∧ tb (reaG G pl N) x t = true ∧ G 5 (slotN G pl t) = 0 else y < N → tb (reaG G pl N) x y = true) hin (fun x y hx hy h0 => by
      by_cases e5 : y = 5
      · rw [if_pos e5]
        rcases (W0 hN hx hy).1 h0 with (h1 | h1) | h1
        · omega
        · exact ⟨x, hx, r1 x hx, h1.2⟩
        · omega
      · rw [if_neg e5]
        intro _
        rw [e]; exact Wb_mono hin hx N (Nat.le_refl _) h0) (fun a x b ha hx hb q1 q2 => by
      rw [if_neg (by omega)] at q1
      have q1 := q1 hx
      by_cases e5 : b = 5
      · rw [if_pos e5] at q2 ⊢
        obtain ⟨t, t1, t2, t3⟩ := q2
        exact ⟨t, t1, r2 a x t ha hx (by omega) q1 t2, t3⟩
      · rw [if_neg e5] at q2 ⊢
        intro hbN
        exact r2 a x b ha hx hb q1 (q2 hbN)) hN N (Nat.le_refl _) s 5 hs (by omega) hb2
    rw [if_pos rfl] at this
    exact this
/-! the reference's -/
theorem bt_tb : ∀ m, m < 64 → ∀ t, t < 6 → (bt2 m t = 1 ↔ m.testBit t = true) := by decide +kernel
theorem orN_bit : ∀ m, m < 32 → ∀ t, t < 5 → ∀ z, z < 5 → (bt2 (orN m t) z = 1 ↔ bt2 m z = 1 ∨ z = t) := by decide +kernel
theorem rnT_bit {G : GT} {s nx z : Nat} (h : nx < 32) (hz : z < 5) : ∀ n, n ≤ 5 → (bt2 (rnT G s nx n) z = 1 ↔ bt2 nx z = 1 ∨ (z < n ∧ 0 < tWei G s z))
  | 0, _ => ⟨fun q => Or.inl q, fun q => q.elim id (fun q => by omega)⟩
  | n + 1, hn => by
    have ih := rnT_bit (G := G) (s := s) h hz n (by omega)
    unfold rnT
    by_cases hw : 0 < tWei G s n
    · rw [if_pos hw, orN_bit _ (rnT_in h n (by omega)).2 n (by omega) z hz, ih]
      constructor
      · rintro ((a | a) | a)
        · exact Or.inl a
        · exact Or.inr ⟨by omega, a.2⟩
        · subst a; exact Or.inr ⟨by omega, hw⟩
      · rintro (a | a)
        · exact Or.inl (Or.inl a)
        · by_cases e : z = n
          · exact Or.inr e
          · exact Or.inl (Or.inr ⟨by omega, a.2⟩)
    · rw [if_neg hw, ih]
      constructor
      · rintro (a | a)
        · exact Or.inl a
        · exact Or.inr ⟨by omega, a.2⟩
      · rintro (a | a)
        · exact Or.inl a
        · by_cases e : z = n
          · rw [e] at a; exact absurd a.2 hw
          · exact Or.inr ⟨by omega, a.2⟩
theorem rnS_bit {G : GT} {N seen z : Nat} (hN : N ≤ 5) (h : seen < 32) (hz : z < 5) : ∀ n, (bt2 (rnS G N seen n) z = 1 ↔ bt2 seen z = 1 ∨ ∃ s, s < n ∧ bt2 seen s = 1 ∧ z < N ∧ 0 < tWei G s z)
  | 0 => ⟨fun q => Or.inl q, fun q => q.elim id (fun ⟨s, hs, _⟩ => by omega)⟩
  | n + 1 => by
    have ih := rnS_bit (G := G) (N := N) hN h hz n
    unfold rnS
    by_cases hb : bt2 seen n = 1
    · rw [if_pos hb, rnT_bit (rnS_in hN h n).2 hz N hN, ih]
      constructor
      · rintro ((a | ⟨s, a, b⟩) | a)
        · exact Or.inl a
        · exact Or.inr ⟨s, by omega, b⟩
        · exact Or.inr ⟨n, by omega, hb, a⟩
      · rintro (a | ⟨s, a, b, c⟩)
        · exact Or.inl (Or.inl a)
        · by_cases e : s = n
          · rw [e] at c; exact Or.inr c
          · exact Or.inl (Or.inr ⟨s, by omega, b, c⟩)
    · rw [if_neg hb, ih]
      constructor
      · rintro (a | ⟨s, a, b⟩)
        · exact Or.inl a
        · exact Or.inr ⟨s, by omega, b⟩
      · rintro (a | ⟨s, a, b, c⟩)
        · exact Or.inl a
        · by_cases e : s = n
          · rw [e] at b; exact absurd b hb
          · exact Or.inr ⟨s, by omega, b, c⟩
theorem rchL_fix {G : GT} {N : Nat} (hN : N ≤ 5) : ∀ (k m : Nat), m < 32 → 32 - m ≤ k → rnS G N (rchL G N k m) N = rchL G N k m
  | 0, m, hm, h => by omega
  | k + 1, m, hm, h => by
    have h1 := rnS_in (G := G) (N := N) hN hm N
    unfold rchL
    by_cases e : rnS G N m N = m
    · rw [if_pos e]; exact e
    · rw [if_neg e]; exact rchL_fix hN k _ h1.2 (by omega)
theorem rchL_ge {G : GT} {N z : Nat} (hN : N ≤ 5) (hz : z < 5) : ∀ (k m : Nat), m < 32 → bt2 m z = 1 → bt2 (rchL G N k m) z = 1
  | 0, m, _, h => h
  | k + 1, m, hm, h => by
    have h1 := rnS_in (G := G) (N := N) hN hm N
    unfold rchL
    split
    · exact h
    · exact rchL_ge hN hz k _ h1.2 ((rnS_bit hN hm hz N).2 (Or.inl h))
theorem rchL_min {G : GT} {N : Nat} {S : Nat → Prop} (hN : N ≤ 5) (hS : ∀ x y, x < N → y < N → S x → 0 < tWei G x y → S y) : ∀ (k m : Nat), m < 32 → (∀ z, z < 5 → bt2 m z = 1 → S z) → ∀ z, z < 5 → bt2 (rchL G N k m) z = 1 → S z
  | 0, m, _, h => h
  | k + 1, m, hm, h => by
    have h1 := rnS_in (G := G) (N := N) hN hm N
    unfold rchL
    split
    · exact h
    · refine rchL_min hN hS k _ h1.2 (fun z hz hb => ?_)
      rcases (rnS_bit hN hm hz N).1 hb with a | ⟨s, s1, s2, s3, s4⟩
      · exact h z hz a
      · exact hS s z s1 s3 (h s (by omega) s2) s4
theorem pw_bt : ∀ f, f < 5 → ∀ z, z < 5 → (bt2 (pw f) z = 1 ↔ z = f) := by decide +kernel
/-- the reference reaches what the class reaches -/
theorem rch_iff {H : GT} {N : Nat} {w : Nat → Nat → Int} {T : Nat → Int} {b : Nat → Nat → Bool} (hN : N ≤ 5) (hR : Reach N w T b) (hw : ∀ s t, s < N → t < N → tWei H s t = w s t) {s t : Nat} (hs : s < N) (ht : t < N) : bt2 (rch H N s) t = 1 ↔ b s t = true := by
  obtain ⟨r1, r2, r3, r4, r5, r6⟩ := hR
  have hp := pw_lt (show s < 5 by omega)
  constructor
  · intro h
    have := rchL_min (G := H) (S := fun z => z < N → b s z = true) hN (fun x y hx hy hSx he _ => r2 s x y hs hx (by omega) (hSx hx) (r3 x y hx hy (by rw [← hw x y hx hy]; exact he))) 32 (pw s) hp (fun z hz hb _ => by
      rw [(pw_bt s (by omega) z hz).1 hb]; exact r1 s hs) t (by omega) h
    exact this ht
  · intro h
    refine r5 (fun z => bt2 (rch H N s) z = 1) (fun x y hx hy hSx he => ?_) s t hs ht h (rchL_ge hN (by omega) 32 (pw s) hp ((pw_bt s (by omega) s (by omega)).2 rfl))
    have hfix := rchL_fix (G := H) hN 32 (pw s) hp (by have : 0 < pw s := Nat.two_pow_pos s; omega)
    show bt2 (rchL H N 32 (pw s)) y = 1
    rw [← hfix, rnS_bit hN (rchL_in hN 32 _ hp) (by omega) N]
    exact Or.inr ⟨x, hx, hSx, hy, by rw [hw x y hx hy]; exact he⟩
theorem rch_hi {H : GT} {N s z : Nat} (hN : N ≤ 5) (hs : s < N) (hz : z < 5) (h : bt2 (rch H N s) z = 1) : z < N :=
  rchL_min (G := H) (S := fun z => z < N) hN (fun x y _ hy _ _ => hy) 32 (pw s) (pw_lt (by omega)) (fun z hz hb => by rw [(pw_bt s (by omega) z hz).1 hb]; exact hs) z hz h
/-- a state in a circle -/
def inC (N : Nat) (b : Nat → Nat → Bool) (s : Nat) : Prop := b s 5 = false ∧ ∀ t, t < N → b s t = true → b t s = true
theorem cirL_iff {X : GT} {s : Nat} : ∀ {n : Nat}, cirL X s n = true ↔ ∀ t, t < n → tb X s t = true → tb X t s = true
  | 0 => ⟨fun _ t h => by omega, fun _ => rfl⟩
  | n + 1 => by
    have ih := cirL_iff (X := X) (s := s) (n := n)
    unfold cirL
    rw [Bool.and_eq_true, ih, Bool.or_eq_true, Bool.not_eq_true']
    refine ⟨fun ⟨h1, h2⟩ t ht hb => ?_, fun h => ⟨fun t ht hb => h t (by omega) hb, ?_⟩⟩
    · by_cases e : t = n
      · subst e
        rcases h2 with h2 | h2
        · rw [h2] at hb; cases hb
        · exact h2
      · exact h1 t (by omega) hb
    · by_cases e : tb X s n = true
      · exact Or.inr (h n (by omega) e)
      · exact Or.inl (by simpa using e)
theorem inCir_iff {X : GT} {s n : Nat} : inCir X s n = true ↔ inC n (fun s t => tb X s t) s := by
  unfold inCir inC
  rw [Bool.and_eq_true, Bool.not_eq_true', cirL_iff]
theorem rgL_iff {G : GT} {N s m : Nat} : ∀ {n : Nat}, rgL G N s m n = true ↔ ∀ t, t < n → bt2 m t = 1 → tTot G t ≠ 0 ∧ bt2 (rch G N t) s = 1
  | 0 => ⟨fun _ t h => by omega, fun _ => rfl⟩
  | n + 1 => by
    have ih := rgL_iff (G := G) (N := N) (s := s) (m := m) (n := n)
    have h01 := bt2_in (rch G N n) s
    unfold rgL
    rw [Bool.and_eq_true, ih, Bool.or_eq_true, Bool.and_eq_true, decide_eq_true_eq, decide_eq_true_eq, decide_eq_true_eq]
    refine ⟨fun ⟨h1, h2⟩ t ht hb => ?_, fun h => ⟨fun t ht hb => h t (by omega) hb, ?_⟩⟩
    · by_cases e : t = n
      · subst e
        rcases h2 with h2 | h2
        · exact absurd hb h2
        · exact ⟨h2.1, by omega⟩
      · exact h1 t (by omega) hb
    · by_cases e : bt2 m n = 1
      · have := h n (by omega) e
        exact Or.inr ⟨this.1, by omega⟩
      · exact Or.inl e
/-- the reference's rings are the class's circles -/
theorem rng_iff {H : GT} {N : Nat} {w : Nat → Nat → Int} {T : Nat → Int} {b : Nat → Nat → Bool} (hN : N ≤ 5) (hR : Reach N w T b) (hw : ∀ s t, s < N → t < N → tWei H s t = w s t) (hT : ∀ s, s < N → tTot H s = T s) {s : Nat} (hs : s < N) : (inC N b s → ∀ z, z < 5 → (bt2 (rng H N s) z = 1 ↔ z < N ∧ b s z = true)) ∧ (¬ inC N b s → rng H N s = 0) ∧ (inC N b s → rng H N s ≠ 0) := by
  have hrc := fun s t hs ht => rch_iff (H := H) (s := s) (t := t) hN hR hw hs ht
  have key : rgL H N s (rch H N s) N = true ↔ inC N b s := by
    rw [rgL_iff]
    obtain ⟨r1, r2, r3, r4, r5, r6⟩ := hR
    constructor
    · intro q
      refine ⟨?_, fun t ht hb => ?_⟩
      · by_cases e : b s 5 = true
        · obtain ⟨t, t1, t2, t3⟩ := r6 s hs e
          exact absurd ((hT t t1).trans t3) (q t t1 ((hrc s t hs t1).2 t2)).1
        · simpa using e
      · exact (hrc t s ht hs).1 (q t ht ((hrc s t hs ht).2 hb)).2
    · intro q t ht hb
      have h1 := (hrc s t hs ht).1 hb
      refine ⟨fun h0 => ?_, (hrc t s ht hs).2 (q.2 t ht h1)⟩
      rw [hT t ht] at h0
      have := r2 s t 5 hs ht (by omega) h1 (r4 t ht h0)
      rw [q.1] at this; cases this
  unfold rng
  refine ⟨fun q z hz => ?_, fun q => if_neg (fun k => q (key.1 k)), fun q => ?_⟩
  · rw [if_pos (key.2 q)]
    exact ⟨fun h => ⟨rch_hi hN hs hz h, (hrc s z hs (rch_hi hN hs hz h)).1 h⟩, fun h => (hrc s z hs h.1).2 h.2⟩
  · rw [if_pos (key.2 q)]
    intro h0
    have := (hrc s s hs hs).2 (hR.1 s hs)
    rw [h0] at this
    have e : bt2 0 s = 0 := by unfold bt2 sr; rw [Nat.zero_div]
    omega
