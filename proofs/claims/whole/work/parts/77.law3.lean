/-! the law: its loop -/
section LAW
variable {X : Xt} {K : K5} {L k n : Nat} {xs : Nat → Int32}
theorem iZ_ti (x : Int32) : iZ x.toInt = x := Int32.ofInt_toInt _
set_option maxRecDepth 100000 in
set_option maxHeartbeats 4000000 in
theorem lw_loop (hW : Lw X K L xs) (hk : k ≤ 600000 ∧ n ≤ 7302250) (hend : ∀ (lv : List (Nat × Value)) (G : GT), AW X 4 k n 654 lv [vi 1] (hp K G)) : ∀ (fuel i : Nat) (G : GT) (N : Nat), L + 5 - i < fuel → i ≤ L + 5 → Inv G N → AW X 4 k n 18 (LV i) [] (hp K G) := by
  intro fuel
  induction fuel with
  | zero => intro i G N h; exact absurd h (Nat.not_lt_zero _)
  | succ fuel ih =>
    intro i G N hm hi h
    obtain ⟨hC, hro, hty, hX, hb, hb0, hL⟩ := id hW
    refine a_iload_n (pc := 18) (q := 3) (i := 3) (x := (i : Int)) hC (by decide +kernel) rfl 0 rfl ?_
    refine a_sload_n (pc := 19) (q := 0) (i := 0) hC (by decide +kernel) rfl 3 rfl ?_
    refine a_slen (pc := 20) hC hX hb hb0 (by decide +kernel) ?_
    refine a_iconst (pc := 21) (c := 5) hC (by decide +kernel) ?_
    refine a_isub (pc := 22) hC (by decide +kernel) ?_
    refine a_icmp_gt (pc := 23) (off := 630) hC 653 (by decide +kernel) (by decide) (by unfold inI; omega) (by unfold inI; omega) (fun _ => ?_) (fun c => ?_)
    · refine a_iconst (pc := 653) (c := 1) hC (by decide +kernel) ?_
      exact hend _ G
    have hi5 : i + 5 ≤ L := by omega
    have next : ∀ G2 N2, Inv G2 N2 → AW X 4 k n 647 (LV i) [] (hp K G2) := fun G2 N2 h2 => by
      refine a_iinc (pc := 647) (i := 3) (c := 5) (x := (i : Int)) (lv' := [(3, vi ((i : Int) + 5)), (2, .ref 50), (1, .ref 0), (0, .float 0)]) hC (by decide +kernel) 0 rfl (by decide) rfl ?_
      refine a_goto (pc := 650) (off := -632) hC 18 (by decide +kernel) (by decide) ?_
      have key := ih (i + 5) G2 N2 (by omega) (by omega) h2
      have e : ((i + 5 : Nat) : Int) = (i : Int) + 5 := by omega
      unfold LV at key
      rw [e] at key
      exact key
    refine a_sload_n (pc := 26) (q := 0) (i := 0) hC (by decide +kernel) rfl 3 rfl ?_
    refine a_iload_n (pc := 27) (q := 3) (i := 3) (x := (i : Int)) hC (by decide +kernel) rfl 0 rfl ?_
    refine a_sald (pc := 28) (j := i) hC hX hb hb0 (by decide +kernel) (by omega) (by omega) ?_
    refine a_bipush (pc := 29) (c := 31) hC (by decide +kernel) (by decide +kernel) ?_
    refine a_iand (pc := 31) (z := (xs i &&& 31).toInt) hC (by decide +kernel) (by rw [iZ_ti, iZ_ti]; rfl) ?_
    have d32 : decode code 32 = .ok (.tableswitch 615 0 18 #[92, 103, 142, 175, 228, 271, 304, 337, 360, 393, 416, 439, 472, 495, 528, 551, 564, 578, 592], 92) := by decide +kernel
    have hz := i32_in (xs i &&& 31)
    generalize (xs i &&& 31).toInt = z at hz ⊢
    by_cases cz : z < 0 ∨ 18 < z
    · exact a_tabOut (pc := 32) hC 647 hz d32 cz (by decide) (next G N h)
    rcases (by omega : z = 0 ∨ z = 1 ∨ z = 2 ∨ z = 3 ∨ z = 4 ∨ z = 5 ∨ z = 6 ∨ z = 7 ∨ z = 8 ∨ z = 9 ∨ z = 10 ∨ z = 11 ∨ z = 12 ∨ z = 13 ∨ z = 14 ∨ z = 15 ∨ z = 16 ∨ z = 17 ∨ z = 18) with rfl | rfl | rfl | rfl | rfl | rfl | rfl | rfl | rfl | rfl | rfl | rfl | rfl | rfl | rfl | rfl | rfl | rfl | rfl
    · exact a_tabIn (pc := 32) (off := 92) hC 124 hz d32 (by decide) (by decide) rfl (by decide) (lc_clear hW hk h hi5 next)
    · exact a_tabIn (pc := 32) (off := 103) hC 135 hz d32 (by decide) (by decide) rfl (by decide) (lc_state hW hk h hi5 next)
    · exact a_tabIn (pc := 32) (off := 142) hC 174 hz d32 (by decide) (by decide) rfl (by decide) (lc_act hW hk h hi5 next)
    · exact a_tabIn (pc := 32) (off := 175) hC 207 hz d32 (by decide) (by decide) rfl (by decide) (lc_weight hW hk h hi5 next)
    · exact a_tabIn (pc := 32) (off := 228) hC 260 hz d32 (by decide) (by decide) rfl (by decide) (lc_pay hW hk h hi5 next)
    · exact a_tabIn (pc := 32) (off := 271) hC 303 hz d32 (by decide) (by decide) rfl (by decide) (lc_share hW hk h hi5 next)
    · exact a_tabIn (pc := 32) (off := 304) hC 336 hz d32 (by decide) (by decide) rfl (by decide) (lc_tell hW hk h hi5 next)
    · exact a_tabIn (pc := 32) (off := 337) hC 369 hz d32 (by decide) (by decide) rfl (by decide) (lc_value hW hk h hi5 next)
    · exact a_tabIn (pc := 32) (off := 360) hC 392 hz d32 (by decide) (by decide) rfl (by decide) (lc_comes hW hk h hi5 next)
    · exact a_tabIn (pc := 32) (off := 393) hC 425 hz d32 (by decide) (by decide) rfl (by decide) (lc_best hW hk h hi5 next)
    · exact a_tabIn (pc := 32) (off := 416) hC 448 hz d32 (by decide) (by decide) rfl (by decide) (lc_worth hW hk h hi5 next)
    · exact a_tabIn (pc := 32) (off := 439) hC 471 hz d32 (by decide) (by decide) rfl (by decide) (lc_reply hW hk h hi5 next)
    · exact a_tabIn (pc := 32) (off := 472) hC 504 hz d32 (by decide) (by decide) rfl (by decide) (lc_change hW hk h hi5 next)
    · exact a_tabIn (pc := 32) (off := 495) hC 527 hz d32 (by decide) (by decide) rfl (by decide) (lc_within hW hk h hi5 next)
    · exact a_tabIn (pc := 32) (off := 528) hC 560 hz d32 (by decide) (by decide) rfl (by decide) (lc_run hW hk h hi5 next)
    · exact a_tabIn (pc := 32) (off := 551) hC 583 hz d32 (by decide) (by decide) rfl (by decide) (lc_settled hW hk h hi5 next)
    · exact a_tabIn (pc := 32) (off := 564) hC 596 hz d32 (by decide) (by decide) rfl (by decide) (lc_upper hW hk h hi5 next)
    · exact a_tabIn (pc := 32) (off := 578) hC 610 hz d32 (by decide) (by decide) rfl (by decide) (lc_lower hW hk h hi5 next)
    · exact a_tabIn (pc := 32) (off := 592) hC 624 hz d32 (by decide) (by decide) rfl (by decide) (lc_told hW hk h hi5 next)
end LAW
