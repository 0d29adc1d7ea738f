/-! THE CLAIM OUT OF ONE WALK OF THE LAW'S BODY. Your part is whole_start (and what it stands on); all else here is the same for every law, but numbers. -/
def R_law : String := "PlanValuesLaw"
def lw_P (b : Addr) (xs : List Int32) (args : Array Value) (s : State) : Prop := args = #[.ref b] ∧ s.IntsAt b xs ∧ xs.length ≤ 2560 ∧ (Jvm.Cond.and given_1 narrow_1).before args s = true
def lw_Q (_ : Array Value) (s : State) (o : Outcome) (t : State) : Prop := o = .returned (some (.int 1)) ∧ Framed s o t [] 600000 7302250
def lw_Z (below : List Frame) (a : Array Value) (s : State) : State → Prop := fun t => ∃ o, t.status = .running ∧ Ended t below o ∧ lw_Q a s o t
/-- the law's own end, with 1 on the stack, nothing written that was there before, its room as the claim has it -/
theorem lw_ret {p : Program} {l : Launch} {e : Env} {s : State} {m : MethodId} {below : List Frame} {meth : Method} {c : Code} {b : Nat} (hx : p.tables.exec = Jvm.exec) (hb : c.code = code) (hr : meth.sig.returnType = ret) (hlocks : meth.locks = false) {pc : Nat} {H : Heap} {ls : Array Slot} (hdg : decode code pc = .ok (.ireturn, 1)) : W p l e room_1 s m #[Value.ref b] below meth c H [] 600000 7302250 (lw_Z below #[Value.ref b] s) (F0 m pc ls [.int 1]) := by
  intro T hT X
  obtain ⟨fs, hret, hrun, hended, hW, hframe⟩ := X.leave (v := some (.int 1)) (hlocks := hlocks) (fun h => by rw [hr] at h; cases h)
  have hmeth' : T.vm.method? m = some meth := X.method'
  refine ⟨T.setFrames fs, ?_, .returned (some (.int 1)), hrun, hended, rfl, ⟨_, rfl⟩, hW, hframe⟩
  jvm_step X.here [X.here.top, hx, hb, hdg, hmeth', hr, ret, narrow_b1]
  (try refine ⟨rfl, ?_⟩); (try refine ⟨rfl, ?_⟩)
  first | (intro acts; rw [hret _ acts rfl rfl rfl]) | rw [hret _ _ rfl rfl rfl]
  exact Steps.refl _
/-- what holds at the law's entry: the machine, the code, the tables' words (any of lw_tbl by 'hts w (by decide +kernel)'), the script of L ints xs at the cell b, what the Statement gives of the start (any of its parts by flat_of_before) -/
def lw_At (p : Program) (s : State) (m : MethodId) (meth : Method) (c : Code) (b L : Nat) (xs : Nat → Int32) : Prop :=
  p.tables.exec = Jvm.exec ∧ c.code = code ∧ meth.sig.returnType = ret ∧ c.maxLocals = 4 ∧ s.vm.findClass R_law = some m.cls ∧ (∀ w ∈ lw_tbl, w.before #[Value.ref b] s = true) ∧ va_X b L xs s s.heap ∧ b < s.heap.size ∧ meth.locks = false ∧ (Jvm.Cond.and given_1 narrow_1).before #[Value.ref b] s = true
theorem lw_end {X : Xt} {k n : Nat} {b : Nat} (hC : Cx X code 4 "PlanValuesLaw" ret) (hro : X.ro = room_1) (har : X.ar = #[Value.ref b]) (hqq : X.qq = lw_Z X.be #[Value.ref b] X.s0) (hba : X.s0.heap.size ≤ X.ba) (hk : k ≤ 600000 ∧ n ≤ 7302250) (lv : List (Nat × Value)) (ah : Hp) : AW X 4 k n 654 lv [vi 1] ah := by
  intro H locs ls hR hS hl
  refine W.widen hk.1 hk.2 ?_
  refine va_forget (fun q hq => Nat.le_trans hba (hS.2.2 q hq)) ?_
  rw [hro, har, hqq]
  exact lw_ret (b := b) hC.1 hC.2.1 hC.2.2.2.2.2.2.2.1 hC.2.2.2.2.2.2.2.2 (by decide +kernel)
set_option maxRecDepth 100000 in
set_option maxHeartbeats 4000000 in
theorem lw_begin {X : Xt} {K : K5} {L : Nat} {xs : Nat → Int32} (hW : Lw X K L xs) (hend : ∀ (lv : List (Nat × Value)) (ah : Hp), AW X 4 64 1943 654 lv [vi 1] ah) : AW X 4 0 0 0 [(0, .float 0)] [] [] := by
  obtain ⟨hC, hro, hty, hX, hb, hb0, hL⟩ := id hW
  refine a_new (pc := 0) (idx := 7) (ci := 5) (a := 0) (fs := [.null, .null, .null, .null, .null, .null, .null, .null, vl 0, vl 0]) (ah' := [] ++ [.inr (5, [.null, .null, .null, .null, .null, .null, .null, .null, vl 0, vl 0])]) hC (by decide +kernel) rfl wrV (by decide +kernel) (by decide +kernel) (by decide +kernel) (by decide +kernel) (fun _ _ => rfl) (by rw [hro]; decide) (by rw [hro]; decide) rfl rfl ?_
  refine a_dup (pc := 3) hC (by decide +kernel) rfl ?_
  refine a_callI (pc := 4) (idx := 9) (y := y_V_init) (code := c_V_init) (maxL := 1) (na := 0) (rm := (rmn 3 60 49 267)) (av := []) (rest := [.ref 0]) (i := 0) hC (by decide +kernel) k_V_init (by decide +kernel) rfl (by decide +kernel) (by rw [hty]; exact cn_V_init X.la X.dd K [] 0 rfl) rfl (by rw [hro]; exact ⟨⟨by decide, by decide⟩, by decide, by decide⟩) (by decide) (ct_go (v := none) (a := [] ++ hp_V K 0) (P := fun r ah' => AW X 4 _ _ (4 + 3) _ (r.toList ++ [.ref 0]) ah') ?_)
  refine a_astore_n (pc := 7) (q := 1) (i := 1) (x := 0) (lv' := [(1, .ref 0), (0, .float 0)]) hC (by decide +kernel) rfl (by decide) rfl ?_
  refine a_new (pc := 8) (idx := 10) (ci := 6) (a := 50) (fs := [vi 0, vi 0, .null, .null, .null, .null, .null, vi 0, vi 0, vl 0, vl 0, .null, .null, .null, vi 0, .null, .null, .null, vi 0, vi 0, vl 0, vl 0, .null, .null, vl 0, vl 0]) (ah' := hp_V K 0 ++ [.inr (6, [vi 0, vi 0, .null, .null, .null, .null, .null, vi 0, vi 0, vl 0, vl 0, .null, .null, .null, vi 0, .null, .null, .null, vi 0, vi 0, vl 0, vl 0, .null, .null, vl 0, vl 0])]) hC (by decide +kernel) rfl wrM (by decide +kernel) (by decide +kernel) (by decide +kernel) (by decide +kernel) (fun _ _ => rfl) (by rw [hro]; decide) (by rw [hro]; decide) rfl rfl ?_
  refine a_dup (pc := 11) hC (by decide +kernel) rfl ?_
  refine a_callI (pc := 12) (idx := 12) (y := y_M_init) (code := c_M_init) (maxL := 1) (na := 0) (rm := (rmn 1 20 13 1640)) (av := []) (rest := [.ref 50]) (i := 50) hC (by decide +kernel) k_M_init (by decide +kernel) rfl (by decide +kernel) (by rw [hty]; exact cn_M_init X.la X.dd K (hp_V K 0) 50 rfl) rfl (by rw [hro]; exact ⟨⟨by decide, by decide⟩, by decide, by decide⟩) (by decide) (ct_go (v := none) (a := hp_V K 0 ++ hp_M K 50) (P := fun r ah' => AW X 4 _ _ (12 + 3) _ (r.toList ++ [.ref 50]) ah') ?_)
  refine a_astore_n (pc := 15) (q := 2) (i := 2) (x := 50) (lv' := [(2, .ref 50), (1, .ref 0), (0, .float 0)]) hC (by decide +kernel) rfl (by decide) rfl ?_
  refine a_hp (hp_start K) ?_
  refine a_iconst (pc := 16) (c := 0) hC (by decide +kernel) ?_
  refine a_istore_n (pc := 17) (q := 3) (i := 3) (x := 0) (lv' := [(3, vi 0), (2, .ref 50), (1, .ref 0), (0, .float 0)]) hC (by decide +kernel) rfl (by decide) rfl ?_
  exact lw_loop (k := 64) (n := 1943) hW ⟨by decide, by decide⟩ (fun lv G => hend lv (hp K G)) (L + 6) 0 G0 0 (by omega) (by omega) G0_inv
theorem whole_start {p : Program} {e : Env} {s : State} {m : MethodId} {below : List Frame} {meth : Method} {c : Code} (l : Launch) {b L : Nat} {xs : Nat → Int32} (hL : L ≤ 2560) (C0 : lw_At p s m meth c b L xs) : W p l e room_1 s m #[Value.ref b] below meth c s.heap [] 0 0 (lw_Z below #[Value.ref b] s) (entryFrame m ([Value.ref b] : List Value).toArray 4) := by
  obtain ⟨hx, hb, hr, hml, hown, hts, hX, hbl, hlocks, hgv⟩ := id C0
  obtain ⟨D, K, hK, hN⟩ := K_start hts
  have hC : Cx (p, l, e, room_1, s, m, #[Value.ref b], below, meth, c, lw_Z below #[Value.ref b] s, D, tyK K, s.heap.size, b) code 4 "PlanValuesLaw" ret := ⟨hx, hb, hml, hown, fun w hw => hts w (List.mem_filter.mp hw).1, hN, hK, hr, hlocks⟩
  have key := lw_begin (K := K) (L := L) (xs := xs) ⟨hC, rfl, rfl, hX, hbl, Nat.le_refl _, hL⟩ (fun lv ah => lw_end (b := b) hC rfl rfl rfl (Nat.le_refl _) ⟨by decide, by decide⟩ lv ah)
  have hl := lv_entry ([Value.ref b]) (n := 4) (Nat.le_of_ble_eq_true rfl)
  rw [lg_entry_eq]
  exact key s.heap [] _ ⟨rfl, fun i e h => by cases h⟩ va_S.rf hl
set_option maxHeartbeats 4000000 in
theorem lw_walk (l : Launch) (b : Addr) (xs : List Int32) : MetFree l x (headSpec (Jvm.Cond.code x code maxLocals ret :: tables_1) room_1) (lw_P b xs) (fun _ _ _ _ _ => True) lw_Q := by
  refine MetFree.of_bodyS (code := code) (maxLocals := maxLocals) (ret := ret) (by decide) ?_ ?_
  · intro args s m h hn
    obtain ⟨meth, c, h1, h2, h3, h4, h5, h6, -, -⟩ := Cond.code_spec hn (atoms_spec (ws := Jvm.Cond.code x code maxLocals ret :: tables_1) h _ List.mem_cons_self)
    exact ⟨meth, c, h1, h2, h3, h4, h5, h6⟩
  · intro p e s m args below meth c s₁ B hml0 hP _
    obtain ⟨rfl, hx, hbd, hgv⟩ := hP
    obtain ⟨scr, harrAt, hlist, hof, hsmall⟩ := hx
    obtain ⟨hcb, hkn, -, -⟩ := State.arrayAt?_spec harrAt
    have hown : s.vm.findClass R_law = some m.cls := findClass_of_methodNamed B.named
    have hts0 : ∀ c ∈ (Jvm.Cond.code x code maxLocals ret :: tables_1), c.before #[Value.ref b] s = true := atoms_spec (ws := Jvm.Cond.code x code maxLocals ret :: tables_1) B.pre
    have hts : ∀ w ∈ lw_tbl, w.before #[Value.ref b] s = true := k2_hts_sels lw_privs (fun w hw => hts0 w (List.mem_cons_of_mem _ hw)) lw_privs_ok
    have hml : c.maxLocals = 4 := B.maxLocals_eq (hts0 _ List.mem_cons_self)
    have X₀ : Stand p l e room_1 s m #[Value.ref b] below meth c s₁ [] 0 0 := Stand.of_body B
    have hh0 : s₁.heap = s.heap := by rw [B.state]; rfl
    have hsz : scr.slots.size = xs.length := by rw [← Array.length_toList, hlist, List.length_map]
    have hval : ∀ j : Nat, j < xs.length → scr.slots[j]? = some (.int (xs.getD j 0)) := fun j hj => by
      rw [← Array.getElem?_toList, hlist]
      simp [hj]
    have hbl : b < s.heap.size := (Array.getElem?_eq_some_iff.mp hcb).1
    have hX : va_X b xs.length (fun j => xs.getD j 0) s s.heap := ⟨scr, hcb, hof, hkn, hsz, hval⟩
    have K : W p l e room_1 s m #[Value.ref b] below meth c s₁.heap [] 0 0 (lw_Z below #[Value.ref b] s) (entryFrame m ([Value.ref b] : List Value).toArray 4) := by
      rw [hh0]
      exact whole_start l hbd ⟨B.exec, B.bytes, B.returns, hml, hown, hts, hX, hbl, B.notSynchronized, hgv⟩
    obtain ⟨t, a1, o, b1, b2, b3⟩ := K s₁ rfl X₀
    exact ⟨t, o, a1, b1, b2, b3⟩
theorem lw_pre_spec {args : Array Value} {s : State} (h : (Jvm.Cond.and given_1 narrow_1).before args s = true) (hr : rest_1_c.before args s = true) : ∃ (b : Addr) (xs : List Int32), lw_P b xs args s := by
  have hs := flat_of_before _ h
  have hq := flat_of_before _ hr
  have hc : (Cond.count 1).before args s = true := hs _ (by decide +kernel)
  have harr : (Cond.arrayOf (.arg 0) .int).before args s = true := hs _ (by decide +kernel)
  have hle : (Cond.le (.length (.arg 0)) (.int 2560)).before args s = true := hs _ (by decide +kernel)
  have hlen : (Cond.isInt (.length (.arg 0))).before args s = true := hq _ (by decide +kernel)
  have hall : (Cond.all (.arg 0) (.isInt (.elem (.arg 0) (.index 0)))).before args s = true := hq _ (by decide +kernel)
  obtain ⟨b, xs, hb, hx⟩ := State.ints_of_pre rfl harr hlen hall
  have hsm : xs.length < 2 ^ 31 := hx.choose_spec.2.2.2
  have hev : (Term.length (.arg 0)).eval args s none [] s = some (.int xs.length.toInt32) := hx.length_eval hb
  have hv := Cond.le_ints hev (show (Term.int 2560).eval args s none [] s = some (.int 2560) from rfl)
  have hd : xs.length.toInt32 ≤ 2560 := by
    simpa [Cond.before, Cond.holds, hv] using hle
  have hN : xs.length ≤ 2560 := (Int32.ofNat_le_ofNat hsm (by decide)).mp (show Int32.ofNat xs.length ≤ Int32.ofNat 2560 from hd)
  exact ⟨b, xs, Cond.one_arg hc (show args[0]? = some (.ref b) from hb), hx, hN, h⟩
theorem lw_comes (l : Launch) : Comes l x (Jvm.Cond.code x code maxLocals ret :: tables_1) room_1 (fun tb e args s => Calls_1 tb e args s ∧ rest_1 tb e args s ∧ Pre_1 tb e args s)
    (fun _ _ args s o t => lw_Q args s o t) := by
  intro p e ha hc hk s m args below hf hfit hheap happ hpre
  obtain ⟨b, xs, hP⟩ := lw_pre_spec hpre.2.2 hpre.2.1
  obtain ⟨k, o, h1, h2, h3, hQ⟩ := lw_walk l b xs p e ha hc hk s m args below hf ((Spec.applies_iff_loose hf).mp happ).1 hP trivial
  exact ⟨k, o, h1, h2, h3, hQ⟩
theorem lw_frame {s t : State} {o : Outcome} {args : Array Value} (h : Framed s o t [] 600000 7302250) :
    Framed s o t (fieldLocs frame_1_writes args s ++ arrayLocs frame_1_arrays args s ++ staticLocs frame_1_statics s) 600000 7302250 := h
theorem lw_limb (L : Cond) (hL : ∀ (args : Array Value) (s t : State), L.after args s (.returned (some (.int 1))) t = true) :
    ArmFor flags0 classFile x code maxLocals ret World_1 tables_1 room_1 Calls_1 rest_1 Pre_1
      (fun tb e a s o t => postC L tb e a s o t ∧ Framed s o t (fieldLocs frame_1_writes a s ++ arrayLocs frame_1_arrays a s ++ staticLocs frame_1_statics s) 600000 7302250) := by
  intro l _ _ _ p e ha hc hk s m args below hf hfit hheap happ hpre
  obtain ⟨k, o, h1, h2, h3, rfl, hF⟩ := lw_comes l p e ha hc hk s m args below hf hfit hheap happ hpre
  exact ⟨k, _, h1, h2, h3, hL args s _, lw_frame hF⟩
theorem i_vc : Claimed_1_1 ∧ Claimed_1_2 := ⟨lw_limb limb_1_1 (fun args s t => by simp [limb_1_1, Cond.after, Cond.holds, Cond.value]), lw_limb limb_1_2 (fun args s t => Cond.after_iff.mpr (by
  first | (rw [show limb_1_2 = Cond.eq .result (.int 1) from rfl, Cond.eq_ints (x := 1) (y := 1) rfl rfl]; simp; done) | (simp [limb_1_2, Cond.value, Term.eval]; done)))⟩
