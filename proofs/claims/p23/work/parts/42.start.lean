/-! THE CLAIM OUT OF ONE WALK OF THE LAW'S BODY. Your part is whole_start (and what it stands on); all else here is the same for every law, but numbers. -/
def R_law : String := "TillOptimistsLaw"
def lw_P (b : Addr) (xs : List Int32) (args : Array Value) (s : State) : Prop := args = #[.ref b] ∧ s.IntsAt b xs ∧ xs.length ≤ 260 ∧ (Jvm.Cond.and given_1 narrow_1).before args s = true
/-- what a walk over the start with the record d0 says of its end, said of the start itself -/
theorem lw_closed {s t : State} {o : Outcome} {d0 : Drawn} {L : List Loc} {k n : Nat} (hd0 : s.drawn.sameBut d0 lw_cs) (hv : ∃ v, o = .returned v) (hW : (s.setDrawn d0).WarmedH t.vm) (hs : (s.setDrawn d0).sameButNew ({ t with vm := s.vm } : State) L k n) : State.butDraws s t lw_cs (fun t1 => Framed s o t1 L k n) := by
  have h2 : t.drawn = d0 := congrArg State.drawn hs.1
  refine ⟨⟨hv, hW, State.sameButNew.setDrawn hs s.drawn⟩, ?_, by decide⟩
  rw [h2]
  exact hd0
def lw_Q (_ : Array Value) (s : State) (o : Outcome) (t : State) : Prop := o = .returned (some (.int 1)) ∧ State.butDraws s t lw_cs (fun t1 => Framed s o t1 [] 1200086 5501442)
def lw_Z (below : List Frame) (a : Array Value) (s : State) : State → Prop := fun t => ∃ o, t.status = .running ∧ Ended t below o ∧ lw_Q a s o t
/-- the law's own end, with 1 on the stack, nothing written that was there before, its room as the claim has it; d0: the record of draws at this point (at the entry s.drawn: begin with 'refine W.base ?_' and 'have hd0 := Drawn.sameBut.refl s.drawn lw_cs') -/
theorem lw_ret {p : Program} {l : Launch} {e : Env} {s : State} {m : MethodId} {below : List Frame} {meth : Method} {c : Code} {b : Nat} {d0 : Drawn} (hd0 : s.drawn.sameBut d0 lw_cs) (hx : p.tables.exec = Jvm.exec) (hb : c.code = code) (hr : meth.sig.returnType = ret) (hlocks : meth.locks = false) {pc : Nat} {H : Heap} {ls : Array Slot} (hdg : decode code pc = .ok (.ireturn, 1)) : W p l e room_1 (s.setDrawn d0) m #[Value.ref b] below meth c H [] 1200086 5501442 (lw_Z below #[Value.ref b] s) (F0 m pc ls [.int 1]) := by
  intro T hT X
  obtain ⟨fs, hret, hrun, hended, hW, hframe⟩ := X.leave (v := some (.int 1)) (hlocks := hlocks) (fun h => by rw [hr] at h; cases h)
  have hmeth' : T.vm.method? m = some meth := X.method'
  refine ⟨T.setFrames fs, ?_, .returned (some (.int 1)), hrun, hended, rfl, lw_closed hd0 ⟨_, rfl⟩ hW hframe⟩
  jvm_step X.here [X.here.top, hx, hb, hdg, hmeth', hr, ret, narrow_b1]
  (try refine ⟨rfl, ?_⟩); (try refine ⟨rfl, ?_⟩)
  first | (intro acts; rw [hret _ acts rfl rfl rfl]) | rw [hret _ _ rfl rfl rfl]
  exact Steps.refl _
/-- what holds at the law's entry: the machine, the code, the tables' words (any of lw_tbl by 'hts w (by decide +kernel)'), the script of L ints xs at the cell b, what the Statement gives of the start (any of its parts by flat_of_before) -/
def lw_At (p : Program) (s : State) (m : MethodId) (meth : Method) (c : Code) (b L : Nat) (xs : Nat → Int32) : Prop :=
  p.tables.exec = Jvm.exec ∧ c.code = code ∧ meth.sig.returnType = ret ∧ c.maxLocals = 24 ∧ s.vm.findClass R_law = some m.cls ∧ (∀ w ∈ lw_tbl, w.before #[Value.ref b] s = true) ∧ va_X b L xs s s.heap ∧ b < s.heap.size ∧ meth.locks = false ∧ (Jvm.Cond.and given_1 narrow_1).before #[Value.ref b] s = true
-- ===== YOUR PART BEGINS =====
theorem tx_of {s : State} {b : Nat} (hts0 : ∀ w ∈ lw_tbl, w.before #[Value.ref b] s = true) (hgv : (Jvm.Cond.and given_1 narrow_1).before #[Value.ref b] s = true) : TX9 (fun q : Nat => s.heap.size ≤ q) s s.heap := by
  have hs := flat_of_before _ hgv
  have hA : ∀ a : Nat, a < s.heap.size → ¬ (fun q : Nat => s.heap.size ≤ q) a := fun a h => Nat.not_le.mpr h
  have hini : (Cond.initialized Bundle.tN).before #[Value.ref b] s = true := (hts0 _ (List.mem_of_getElem? (i := 50) (by decide +kernel)))
  refine ⟨vx_Zqof (hts0 _ (List.mem_of_getElem? (i := 206) (by decide +kernel))) hini (hs _ (by decide +kernel)) hA, vx_Zqof (hts0 _ (List.mem_of_getElem? (i := 208) (by decide +kernel))) hini (hs _ (by decide +kernel)) hA, fun q hq => ?_⟩
  unfold xstrs at hq
  simp only [List.mem_cons, List.not_mem_nil, or_false] at hq
  rcases hq with rfl | rfl | rfl | rfl | rfl | rfl | rfl | rfl | rfl | rfl | rfl | rfl
  · obtain ⟨a, c, cell, k, q1, -⟩ := Cond.exactly_spec (hs (Cond.exactly (.string RX2 181) "java/lang/String") (by decide +kernel))
    exact ⟨a, vk_R.of (hts0 _ (List.mem_of_getElem? (i := 220) (by decide +kernel))) q1⟩
  · obtain ⟨a, c, cell, k, q1, -⟩ := Cond.exactly_spec (hs (Cond.exactly (.string RX2 98) "java/lang/String") (by decide +kernel))
    exact ⟨a, vk_R.of (hts0 _ (List.mem_of_getElem? (i := 260) (by decide +kernel))) q1⟩
  · obtain ⟨a, c, cell, k, q1, -⟩ := Cond.exactly_spec (hs (Cond.exactly (.string RX2 179) "java/lang/String") (by decide +kernel))
    exact ⟨a, vk_R.of (hts0 _ (List.mem_of_getElem? (i := 327) (by decide +kernel))) q1⟩
  · obtain ⟨a, c, cell, k, q1, -⟩ := Cond.exactly_spec (hs (Cond.exactly (.string RX2 183) "java/lang/String") (by decide +kernel))
    exact ⟨a, vk_R.of (hts0 _ (List.mem_of_getElem? (i := 331) (by decide +kernel))) q1⟩
  · obtain ⟨a, c, cell, k, q1, -⟩ := Cond.exactly_spec (hs (Cond.exactly (.string RX2 134) "java/lang/String") (by decide +kernel))
    exact ⟨a, vk_R.of (hts0 _ (List.mem_of_getElem? (i := 377) (by decide +kernel))) q1⟩
  · obtain ⟨a, c, cell, k, q1, -⟩ := Cond.exactly_spec (hs (Cond.exactly (.string RX2 185) "java/lang/String") (by decide +kernel))
    exact ⟨a, vk_R.of (hts0 _ (List.mem_of_getElem? (i := 456) (by decide +kernel))) q1⟩
  · obtain ⟨a, c, cell, k, q1, -⟩ := Cond.exactly_spec (hs (Cond.exactly (.string RX2 125) "java/lang/String") (by decide +kernel))
    exact ⟨a, vk_R.of (hts0 _ (List.mem_of_getElem? (i := 544) (by decide +kernel))) q1⟩
  · obtain ⟨a, c, cell, k, q1, -⟩ := Cond.exactly_spec (hs (Cond.exactly (.string RX2 21) "java/lang/String") (by decide +kernel))
    exact ⟨a, vk_R.of (hts0 _ (List.mem_of_getElem? (i := 601) (by decide +kernel))) q1⟩
  · obtain ⟨a, c, cell, k, q1, -⟩ := Cond.exactly_spec (hs (Cond.exactly (.string RX2 37) "java/lang/String") (by decide +kernel))
    exact ⟨a, vk_R.of (hts0 _ (List.mem_of_getElem? (i := 610) (by decide +kernel))) q1⟩
  · obtain ⟨a, c, cell, k, q1, -⟩ := Cond.exactly_spec (hs (Cond.exactly (.string RX2 52) "java/lang/String") (by decide +kernel))
    exact ⟨a, vk_R.of (hts0 _ (List.mem_of_getElem? (i := 621) (by decide +kernel))) q1⟩
  · obtain ⟨a, c, cell, k, q1, -⟩ := Cond.exactly_spec (hs (Cond.exactly (.string RX2 70) "java/lang/String") (by decide +kernel))
    exact ⟨a, vk_R.of (hts0 _ (List.mem_of_getElem? (i := 677) (by decide +kernel))) q1⟩
  · obtain ⟨a, c, cell, k, q1, -⟩ := Cond.exactly_spec (hs (Cond.exactly (.string RX2 88) "java/lang/String") (by decide +kernel))
    exact ⟨a, vk_R.of (hts0 _ (List.mem_of_getElem? (i := 678) (by decide +kernel))) q1⟩
theorem k_of {s : State} {b : Nat} (hT : TB s) : ∃ g : GT, va_K g.1 vwCl (tyl g) s := by
  have hts := hT #[Value.ref b]
  obtain ⟨c0, i0, h0⟩ := u_known (C := RX0) (T := TX0) (N := 11) (n := 11) hts inT0 (hts _ q29)
  obtain ⟨c1, i1, h1⟩ := u_known (C := RX1) (T := TX1) (N := 9) (n := 9) hts inT1 (hts _ q22)
  obtain ⟨c2, i2, h2⟩ := u_known (C := RX2) (T := TX2) (N := 2) (n := 2) hts inT2 (hts _ q14)
  obtain ⟨c3, i3, h3⟩ := u_known (C := RX3) (T := TX3) (N := 6) (n := 6) hts inT3 (hts _ q589)
  obtain ⟨c4, i4, h4⟩ := u_known (C := RX4) (T := TX4) (N := 4) (n := 4) hts inT4 (hts _ q527)
  obtain ⟨cI, kI, mI, f1, f2, f3⟩ := Cond.arrayClass_spec (hts _ q86)
  obtain ⟨cZ, kZ, mZ, z1, z2, z3⟩ := Cond.arrayClass_spec (hts _ q662)
  obtain ⟨mO, cO, kO, f7, f8, f9, f10, f11⟩ := Cond.arrayOver_spec (hts _ q28)
  obtain ⟨mA, cA, kA, a7, a8, a9, a10, a11⟩ := arrayOverA_spec (hts _ q460)
  obtain ⟨mL, cL, kL, l7, l8, l9, l10, l11⟩ := Cond.arrayOver_spec (hts _ q533)
  refine ⟨((fun k => match k with | 0 => c0 | 1 => c1 | 2 => c2 | 3 => c3 | _ => c4, fun k => match k with | 0 => i0 | 1 => i1 | 2 => i2 | 3 => i3 | _ => i4), cI, cO, cA, cL, cZ), fun k q hq => ?_, fun k q hq => ?_⟩
  · match k, hq with
    | 0, hq => cases hq; exact h0
    | 1, hq => cases hq; exact h1
    | 2, hq => cases hq; exact h2
    | 3, hq => cases hq; exact h3
    | 4, hq => cases hq; exact h4
    | k + 5, hq => simp [vwCl] at hq
  · match k, hq with
    | 0, hq => cases hq; exact ⟨fun n z => ⟨fun k h => (by cases h), kI, f2, mI, f3⟩, f1⟩
    | 1, hq => cases hq; exact ⟨fun n z => ⟨fun k h => (by cases h), kO, f9, mO, f10⟩, kO, mO, f9, f10, f7, f11⟩
    | 2, hq => cases hq; exact ⟨fun n z => ⟨fun k h => (by cases h), kA, a9, mA, a10⟩, a11⟩
    | 3, hq => cases hq; exact ⟨fun n z => ⟨fun k h => (by cases h), kL, l9, mL, l10⟩, kL, mL, l9, l10, l7, l11⟩
    | 4, hq => cases hq; exact ⟨fun n z => ⟨fun k h => (by cases h), kZ, z2, mZ, z3⟩, z1⟩
    | k + 5, hq => simp [tyl] at hq
theorem ci_L_100 : CIP RL 100 yX2_init cX2_init 1 0 := ⟨q15, q16, rfl, q17, q1, ⟨by decide +kernel, by decide +kernel⟩, by decide +kernel⟩
set_option maxHeartbeats 4000000 in
set_option maxRecDepth 100000 in
/-- the law, from its entry -/
theorem whole_start {p : Program} {e : Env} {s : State} {m : MethodId} {below : List Frame} {meth : Method} {c : Code} (l : Launch) (hflags : l.flags = flags0) {b L : Nat} {xs : Nat → Int32} (hL : L ≤ 260) (C0 : lw_At p s m meth c b L xs) : W p l e room_1 s m #[Value.ref b] below meth c s.heap [] 0 0 (lw_Z below #[Value.ref b] s) (entryFrame m ([Value.ref b] : List Value).toArray 24) := by
  obtain ⟨hx, hb, hr, hml, hown, hts0, hX, hbl, hlocks, hgv⟩ := id C0
  have hst : l.stackTraces = false := by unfold Launch.stackTraces; rw [hflags]; decide
  have hT : TB s := TB.of hts0
  obtain ⟨g, hK⟩ := k_of (b := b) hT
  have hTX := tx_of hts0 hgv
  have hNC : NCS s := trivial
  have hd0 := Drawn.sameBut.refl s.drawn lw_cs
  refine W.base ?_
  have hl := lv_entry ([.ref b]) (n := 24) (Nat.le_of_ble_eq_true rfl)
  rw [lg_entry_eq]
  obtain ⟨x0, hx0⟩ : ∃ x0 : CT, x0 = (p, l, e, room_1, s, m, #[Value.ref b], below, meth, c, g, 24, (fun q : Nat => s.heap.size ≤ q), s.heap, lw_Z below #[Value.ref b] s) := ⟨_, rfl⟩
  have hXX : ∀ d, FX (XD x0 d) l room_1 g 24 cL_law RL := fun d => by
    rw [hx0]
    exact ⟨rfl, rfl, rfl, rfl, hx, hb, hml, hown, TB.same (s := s) rfl hT, va_K.moved (u := s) (U := s.setDrawn d) (Vm.Alike.refl s.vm) hK, hlocks, fun q h => h⟩
  have hZZ : ∀ d, TXF (XD x0 d) := fun d => by
    rw [hx0]
    exact ⟨hTX.go (U := s.setDrawn d) (fun _ _ _ => rfl) (State.WarmedH.refl s) (fun _ h => h), NCS.moved (u := s) (U := s.setDrawn d) (Vm.Alike.refl s.vm) hNC⟩
  have hSS : ∀ d, FSC (XD x0 d) b L xs := fun d => by
    rw [hx0]
    exact ⟨hX, hbl, Nat.not_le.mpr hbl⟩
  have hDD : DRN x0 s.drawn := by rw [hx0]; exact hd0
  have hE : ∀ (d : Drawn) (k n : Nat) (lv : List (Nat × Value)) (ws : va_W), DRN x0 d → k ≤ 1200086 → n ≤ 5501442 → V (XD x0 d) k n ws 857 lv [.int (iZ 1)] := by
    intro d k n lv ws hd hk hn
    subst hx0
    intro H locs ls hP hD hS h
    refine W.widen hk hn ?_
    refine va_forget (fun q hq => hS.2.2 q hq) ?_
    exact lw_ret hd hx hb hr hlocks dL_law_857
  have K : V (XD x0 s.drawn) 0 0 [] 0 [(0, .ref b)] [] := by
    have hx := hXX s.drawn
    have hz := hZZ s.drawn
    have hs := hSS s.drawn
    refine V_new hx (C := RX2) (T := TX2) (N := 2) (ci := 2) rfl inT2 tyX2 tyX2_ok q13 q14 q1 [.null, .null] (fun j hj => by rcases (show j = 0 ∨ j = 1 by omega) with h | h <;> subst h <;> rfl) (Nat.le_of_ble_eq_true rfl) (Nat.le_of_ble_eq_true rfl) dL_law_0 (fun q1 => ?_)
    refine V_dup hx dL_law_3 rfl ?_
    refine V_callI hx (n_till l [] q1) ci_L_100 (RMa (Nat.le_of_ble_eq_true rfl) (Nat.le_of_ble_eq_true rfl) (Nat.le_of_ble_eq_true rfl) (Nat.le_of_ble_eq_true rfl)) rfl rfl (Nat.le_of_ble_eq_true rfl) dL_law_4 111 928 rfl rfl (fun ws1 e1 => ?_)
    obtain ⟨ad, rfl, rfl⟩ := e1
    rw [List.nil_append]
    refine V_nd (fun hnd => ?_)
    have hA : AI ad := ai_nd hnd
    obtain ⟨M, hM, hC⟩ := hm_cw (g := g) (P := fun _ => T0i) (T := T0i) hA
    refine V_astore_n hx dL_law_7 [(1, .ref (ad 0)), (0, .ref b)] (by decide) rfl ?_
    refine V_aload_n hx dL_law_8 0 rfl ?_
    refine V_aload_n hx dL_law_9 1 rfl ?_
    refine V_callQS hx hz hs (z_build l hst hM hA hC wf_0.1 hL) cw_L_101 (RMa (by dsimp only [rmA, room_1]; omega) (by dsimp only [rmA, room_1]; omega) (by dsimp only [rmA, room_1]; omega) (by dsimp only [rmA, room_1]; omega)) rfl rfl (Nat.le_of_ble_eq_true rfl) dL_law_10 _ _ rfl rfl (fun r w2 e2 => ?_)
    obtain ⟨sp, cl, M9, T9, rfl, hM9, hSt, h1c, -⟩ := e2
    obtain ⟨hC9, hS9, hw, hI, hP1⟩ := id hSt
    obtain ⟨⟨am, sl, ck, co, h0⟩, hCK⟩ := id hS9
    obtain ⟨hsp, ⟨va, ham, hva⟩, ⟨vs, hsv, hvs⟩, ⟨fk, hck, hfk⟩, hcl⟩ := id h0
    have hnd9 : ((nd T9 : Nat) : Int) = T9 0 0 := Int.toNat_of_nonneg (by have := hw.2.1.1; omega)
    have hni := nc_i hw
    refine V_astore_n hx dL_law_13 [(2, .ref sp), (1, .ref (ad 0)), (0, .ref b)] (by decide) rfl ?_
    refine V_aload_n hx dL_law_14 0 rfl ?_
    refine V_ifnonnull hx dL_law_15 20 (by decide) ?_
    refine V_aload_n hx dL_law_20 0 rfl ?_
    obtain ⟨i9, hi9⟩ := hM9.at hsp
    refine gf_L_9 hx i9 hi9 rfl dL_law_21 ?_
    obtain ⟨j9, hj9⟩ := hM9.at ham
    refine V_alenK hx (t0 := 0) j9 hj9 rfl (v := T9 0 0) hnd9 dL_law_24 ?_
    refine V_istore_n hx dL_law_25 [(3, .int (iZ (T9 0 0))), (2, .ref sp), (1, .ref (ad 0)), (0, .ref b)] (by decide) rfl ?_
    refine V_aload_n hx dL_law_26 1 rfl ?_
    refine gf_L_21 hx i9 hi9 rfl dL_law_27 ?_
    obtain ⟨k9, hk9⟩ := hM9.at hck
    refine V_alenK hx (t0 := 3) k9 hk9 rfl (v := T9 0 1) hni dL_law_30 ?_
    refine V_istore hx dL_law_31 [(4, .int (iZ (T9 0 1))), (3, .int (iZ (T9 0 0))), (2, .ref sp), (1, .ref (ad 0)), (0, .ref b)] (by decide) rfl ?_
    refine V_iconst hx dL_law_33 ?_
    refine V_istore hx dL_law_34 [(5, .int (iZ ((0 : Nat) : Int))), (4, .int (iZ (T9 0 1))), (3, .int (iZ (T9 0 0))), (2, .ref sp), (1, .ref (ad 0)), (0, .ref b)] (by decide) rfl ?_
    refine V_widen (k' := 1000 + 8000 * 0) (n' := 30000 + 369400 * 0) (by dsimp only [rmA]; omega) (by dsimp only [rmA]; omega) ?_
    refine z_lawM l hst hx hz hs hL hA h1c (fun T8 w8 N8 P8 hN8 hSt8 hm8 => ?_) 15 0 w2 M9 _ T9 (by omega) (by omega) hM9 ⟨hC9, hS9, wf_mono hw (by omega), hI, hP1⟩ rfl rfl
    obtain ⟨⟨am8, sl8, ck8, co8, h08⟩, -⟩ := id hSt8.2.1
    obtain ⟨i8, hi8⟩ := hN8.at h08.1
    refine V_aload_n hx dL_law_852 0 rfl ?_
    refine V_aload_n hx dL_law_853 1 rfl ?_
    refine V_callZD hx hz hDD (z_isSame l hst hN8 hA hSt8 (by omega) (by omega)) cw_L_142 (RMa (by dsimp only [rmA, room_1]; omega) (by dsimp only [rmA, room_1]; omega) (by dsimp only [rmA, room_1]; omega) (by dsimp only [rmA, room_1]; omega)) rfl i8 hi8 rfl rfl (Nat.le_of_ble_eq_true rfl) dL_law_854 _ _ rfl rfl (fun z w7 d7 hd7 e7 => ?_)
    subst e7
    exact hE d7 _ _ _ _ hd7 (by dsimp only [rmA]; omega) (by dsimp only [rmA]; omega)
  subst hx0
  exact K s.heap [] _ (fun k q h => by simp at h) ⟨fun i j p q h => by simp at h, fun k q h => by simp at h⟩ va_S.rf hl
-- ===== YOUR PART ENDS =====
set_option maxHeartbeats 4000000 in
theorem lw_walk (l : Launch) (hflags : l.flags = flags0) (b : Addr) (xs : List Int32) : MetFree l x (headSpec (Jvm.Cond.code x code maxLocals ret :: tables_1) room_1) (lw_P b xs) (fun _ _ _ _ _ => True) lw_Q := by
  refine MetFree.of_bodyS (code := code) (maxLocals := maxLocals) (ret := ret) (by decide) ?_ ?_
  · intro args s m h hn
    obtain ⟨meth, c, h1, h2, h3, h4, h5, h6, -, -⟩ := Cond.code_spec hn (atoms_spec (ws := Jvm.Cond.code x code maxLocals ret :: tables_1) h _ List.mem_cons_self)
    exact ⟨meth, c, h1, h2, h3, h4, h5, h6⟩
  · intro p e s m args below meth c s₁ B hml0 hP _
    obtain ⟨rfl, hx, hbd, hgv⟩ := hP
    obtain ⟨scr, harrAt, hlist, hof, hsmall⟩ := hx
    obtain ⟨hcb, hkn, -, -⟩ := State.arrayAt?_spec harrAt
    have hown : s.vm.findClass R_law = some m.cls := findClass_of_methodNamed B.named
    have hts0 : ∀ c ∈ (Jvm.Cond.code x code maxLocals ret :: tables_1), c.before #[Value.ref b] s = true := atoms_spec (ws := Jvm.Cond.code x code maxLocals ret :: tables_1) B.pre
    have hts : ∀ w ∈ lw_tbl, w.before #[Value.ref b] s = true := k2_hts_sels lw_privs (fun w hw => hts0 w (List.mem_cons_of_mem _ hw)) lw_privs_ok
    have hml : c.maxLocals = 24 := B.maxLocals_eq (hts0 _ List.mem_cons_self)
    have X₀ : Stand p l e room_1 s m #[Value.ref b] below meth c s₁ [] 0 0 := Stand.of_body B
    have hh0 : s₁.heap = s.heap := by rw [B.state]; rfl
    have hsz : scr.slots.size = xs.length := by rw [← Array.length_toList, hlist, List.length_map]
    have hval : ∀ j : Nat, j < xs.length → scr.slots[j]? = some (.int (xs.getD j 0)) := fun j hj => by
      rw [← Array.getElem?_toList, hlist]
      simp [hj]
    have hbl : b < s.heap.size := (Array.getElem?_eq_some_iff.mp hcb).1
    have hX : va_X b xs.length (fun j => xs.getD j 0) s s.heap := ⟨scr, hcb, hof, hkn, hsz, hval⟩
    have K : W p l e room_1 s m #[Value.ref b] below meth c s₁.heap [] 0 0 (lw_Z below #[Value.ref b] s) (entryFrame m ([Value.ref b] : List Value).toArray 24) := by
      rw [hh0]
      exact whole_start l hflags hbd ⟨B.exec, B.bytes, B.returns, hml, hown, hts, hX, hbl, B.notSynchronized, hgv⟩
    obtain ⟨t, a1, o, b1, b2, b3⟩ := K s₁ rfl X₀
    exact ⟨t, o, a1, b1, b2, b3⟩
theorem lw_pre_spec {args : Array Value} {s : State} (h : (Jvm.Cond.and given_1 narrow_1).before args s = true) (hr : rest_1_c.before args s = true) : ∃ (b : Addr) (xs : List Int32), lw_P b xs args s := by
  have hs := flat_of_before _ h
  have hq := flat_of_before _ hr
  have hc : (Cond.count 1).before args s = true := hs _ (by decide +kernel)
  have harr : (Cond.arrayOf (.arg 0) .int).before args s = true := hs _ (by decide +kernel)
  have hle : (Cond.le (.length (.arg 0)) (.int 260)).before args s = true := hs _ (by decide +kernel)
  have hlen : (Cond.isInt (.length (.arg 0))).before args s = true := hq _ (by decide +kernel)
  have hall : (Cond.all (.arg 0) (.isInt (.elem (.arg 0) (.index 0)))).before args s = true := hq _ (by decide +kernel)
  obtain ⟨b, xs, hb, hx⟩ := State.ints_of_pre rfl harr hlen hall
  have hsm : xs.length < 2 ^ 31 := hx.choose_spec.2.2.2
  have hev : (Term.length (.arg 0)).eval args s none [] s = some (.int xs.length.toInt32) := hx.length_eval hb
  have hv := Cond.le_ints hev (show (Term.int 260).eval args s none [] s = some (.int 260) from rfl)
  have hd : xs.length.toInt32 ≤ 260 := by
    simpa [Cond.before, Cond.holds, hv] using hle
  have hN : xs.length ≤ 260 := (Int32.ofNat_le_ofNat hsm (by decide)).mp (show Int32.ofNat xs.length ≤ Int32.ofNat 260 from hd)
  exact ⟨b, xs, Cond.one_arg hc (show args[0]? = some (.ref b) from hb), hx, hN, h⟩
theorem lw_comes (l : Launch) (hflags : l.flags = flags0) : Comes l x (Jvm.Cond.code x code maxLocals ret :: tables_1) room_1 (fun tb e args s => Calls_1 tb e args s ∧ rest_1 tb e args s ∧ Pre_1 tb e args s)
    (fun _ _ args s o t => lw_Q args s o t) := by
  intro p e ha hc hk s m args below hf hfit hheap happ hpre
  obtain ⟨b, xs, hP⟩ := lw_pre_spec hpre.2.2 hpre.2.1
  obtain ⟨k, o, h1, h2, h3, hQ⟩ := lw_walk l hflags b xs p e ha hc hk s m args below hf ((Spec.applies_iff_loose hf).mp happ).1 hP trivial
  exact ⟨k, o, h1, h2, h3, hQ⟩
theorem lw_frame {s t : State} {o : Outcome} {args : Array Value} (h : State.butDraws s t lw_cs (fun t1 => Framed s o t1 [] 1200086 5501442)) :
    State.butDraws s t [Jvm.Choice.named "NaN.bits"] (fun t1 => Framed s o t1 (fieldLocs frame_1_writes args s ++ arrayLocs frame_1_arrays args s ++ staticLocs frame_1_statics s) 1200086 5501442) := h
theorem lw_limb (L : Cond) (hL : ∀ (args : Array Value) (s t : State), L.after args s (.returned (some (.int 1))) t = true) :
    ArmFor flags0 classFile x code maxLocals ret World_1 tables_1 room_1 Calls_1 rest_1 Pre_1
      (fun tb e a s o t => postC L tb e a s o t ∧ State.butDraws s t [Jvm.Choice.named "NaN.bits"] (fun t1 => Framed s o t1 (fieldLocs frame_1_writes a s ++ arrayLocs frame_1_arrays a s ++ staticLocs frame_1_statics s) 1200086 5501442)) := by
  intro l hflags _ _ p e ha hc hk s m args below hf hfit hheap happ hpre
  obtain ⟨k, o, h1, h2, h3, rfl, hF⟩ := lw_comes l hflags p e ha hc hk s m args below hf hfit hheap happ hpre
  exact ⟨k, _, h1, h2, h3, hL args s _, lw_frame hF⟩
theorem i_vc : Claimed_1_1 ∧ Claimed_1_2 := ⟨lw_limb limb_1_1 (fun args s t => by simp [limb_1_1, Cond.after, Cond.holds, Cond.value]), lw_limb limb_1_2 (fun args s t => Cond.after_iff.mpr (by
  first | (rw [show limb_1_2 = Cond.eq .result (.int 1) from rfl, Cond.eq_ints (x := 1) (y := 1) rfl rfl]; simp; done) | (simp [limb_1_2, Cond.value, Term.eval]; done)))⟩
