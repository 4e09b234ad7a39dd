/-! THE CLAIM OUT OF ONE WALK OF THE LAW'S BODY. Your part is whole_start (and what it stands on); all else here is the same for every law, but numbers. -/
def R_law : String := "TillOptimistsLaw"
def lw_P (b : Addr) (xs : List Int32) (args : Array Value) (s : State) : Prop := args = #[.ref b] ∧ s.IntsAt b xs ∧ xs.length ≤ 3072 ∧ (Jvm.Cond.and given_1 narrow_1).before args s = true
/-- what a walk over the start with the record d0 says of its end, said of the start itself -/
theorem lw_closed {s t : State} {o : Outcome} {d0 : Drawn} {L : List Loc} {k n : Nat} (hd0 : s.drawn.sameBut d0 lw_cs) (hv : ∃ v, o = .returned v) (hW : (s.setDrawn d0).WarmedH t.vm) (hs : (s.setDrawn d0).sameButNew ({ t with vm := s.vm } : State) L k n) : State.butDraws s t lw_cs (fun t1 => Framed s o t1 L k n) := by
  have h2 : t.drawn = d0 := congrArg State.drawn hs.1
  refine ⟨⟨hv, hW, State.sameButNew.setDrawn hs s.drawn⟩, ?_, by decide⟩
  rw [h2]
  exact hd0
def lw_Q (_ : Array Value) (s : State) (o : Outcome) (t : State) : Prop := o = .returned (some (.int 1)) ∧ State.butDraws s t lw_cs (fun t1 => Framed s o t1 [] 612619 7258246)
def lw_Z (below : List Frame) (a : Array Value) (s : State) : State → Prop := fun t => ∃ o, t.status = .running ∧ Ended t below o ∧ lw_Q a s o t
/-- the law's own end, with 1 on the stack, nothing written that was there before, its room as the claim has it; d0: the record of draws at this point (at the entry s.drawn: begin with 'refine W.base ?_' and 'have hd0 := Drawn.sameBut.refl s.drawn lw_cs') -/
theorem lw_ret {p : Program} {l : Launch} {e : Env} {s : State} {m : MethodId} {below : List Frame} {meth : Method} {c : Code} {b : Nat} {d0 : Drawn} (hd0 : s.drawn.sameBut d0 lw_cs) (hx : p.tables.exec = Jvm.exec) (hb : c.code = code) (hr : meth.sig.returnType = ret) (hlocks : meth.locks = false) {pc : Nat} {H : Heap} {ls : Array Slot} (hdg : decode code pc = .ok (.ireturn, 1)) : W p l e room_1 (s.setDrawn d0) m #[Value.ref b] below meth c H [] 612619 7258246 (lw_Z below #[Value.ref b] s) (F0 m pc ls [.int 1]) := by
  intro T hT X
  obtain ⟨fs, hret, hrun, hended, hW, hframe⟩ := X.leave (v := some (.int 1)) (hlocks := hlocks) (fun h => by rw [hr] at h; cases h)
  have hmeth' : T.vm.method? m = some meth := X.method'
  refine ⟨T.setFrames fs, ?_, .returned (some (.int 1)), hrun, hended, rfl, lw_closed hd0 ⟨_, rfl⟩ hW hframe⟩
  jvm_step X.here [X.here.top, hx, hb, hdg, hmeth', hr, ret, narrow_b1]
  (try refine ⟨rfl, ?_⟩); (try refine ⟨rfl, ?_⟩)
  first | (intro acts; rw [hret _ acts rfl rfl rfl]) | rw [hret _ _ rfl rfl rfl]
  exact Steps.refl _
/-- what holds at the law's entry: the machine, the code, the tables' words (any of lw_tbl by 'hts w (by decide +kernel)'), the script of L ints xs at the cell b, what the Statement gives of the start (any of its parts by flat_of_before) -/
def lw_At (p : Program) (s : State) (m : MethodId) (meth : Method) (c : Code) (b L : Nat) (xs : Nat → Int32) : Prop :=
  p.tables.exec = Jvm.exec ∧ c.code = code ∧ meth.sig.returnType = ret ∧ c.maxLocals = 9 ∧ s.vm.findClass R_law = some m.cls ∧ (∀ w ∈ lw_tbl, w.before #[Value.ref b] s = true) ∧ va_X b L xs s s.heap ∧ b < s.heap.size ∧ meth.locks = false ∧ (Jvm.Cond.and given_1 narrow_1).before #[Value.ref b] s = true
-- ===== YOUR PART BEGINS =====
theorem tx_of {s : State} {b : Nat} (hts0 : ∀ w ∈ lw_tbl, w.before #[Value.ref b] s = true) (hgv : (Jvm.Cond.and given_1 narrow_1).before #[Value.ref b] s = true) : TX9 (fun q : Nat => s.heap.size ≤ q) s s.heap := by
  have hs := flat_of_before _ hgv
  have hA : ∀ a : Nat, a < s.heap.size → ¬ (fun q : Nat => s.heap.size ≤ q) a := fun a h => Nat.not_le.mpr h
  have hini : (Cond.initialized Bundle.tN).before #[Value.ref b] s = true := hts0 _ (List.mem_of_getElem? (i := 67) (by decide +kernel))
  refine ⟨vx_Zqof (hts0 _ (List.mem_of_getElem? (i := 388) (by decide +kernel))) hini (hs _ (by decide +kernel)) hA, vx_Zqof (hts0 _ (List.mem_of_getElem? (i := 390) (by decide +kernel))) hini (hs _ (by decide +kernel)) hA, fun q hq => ?_⟩
  unfold xstrs at hq
  simp only [List.mem_cons, List.not_mem_nil, or_false] at hq
  rcases hq with rfl | rfl | rfl | rfl | rfl | rfl | rfl | rfl | rfl | rfl | rfl | rfl
  · obtain ⟨a, c, cell, k, q1, -⟩ := Cond.exactly_spec (hs (Cond.exactly (.string RX2 21) "java/lang/String") (by decide +kernel))
    exact ⟨a, vk_R.of (hts0 _ (List.mem_of_getElem? (i := 402) (by decide +kernel))) q1⟩
  · obtain ⟨a, c, cell, k, q1, -⟩ := Cond.exactly_spec (hs (Cond.exactly (.string RX2 179) "java/lang/String") (by decide +kernel))
    exact ⟨a, vk_R.of (hts0 _ (List.mem_of_getElem? (i := 454) (by decide +kernel))) q1⟩
  · obtain ⟨a, c, cell, k, q1, -⟩ := Cond.exactly_spec (hs (Cond.exactly (.string RX2 37) "java/lang/String") (by decide +kernel))
    exact ⟨a, vk_R.of (hts0 _ (List.mem_of_getElem? (i := 461) (by decide +kernel))) q1⟩
  · obtain ⟨a, c, cell, k, q1, -⟩ := Cond.exactly_spec (hs (Cond.exactly (.string RX2 52) "java/lang/String") (by decide +kernel))
    exact ⟨a, vk_R.of (hts0 _ (List.mem_of_getElem? (i := 483) (by decide +kernel))) q1⟩
  · obtain ⟨a, c, cell, k, q1, -⟩ := Cond.exactly_spec (hs (Cond.exactly (.string RX2 181) "java/lang/String") (by decide +kernel))
    exact ⟨a, vk_R.of (hts0 _ (List.mem_of_getElem? (i := 509) (by decide +kernel))) q1⟩
  · obtain ⟨a, c, cell, k, q1, -⟩ := Cond.exactly_spec (hs (Cond.exactly (.string RX2 183) "java/lang/String") (by decide +kernel))
    exact ⟨a, vk_R.of (hts0 _ (List.mem_of_getElem? (i := 513) (by decide +kernel))) q1⟩
  · obtain ⟨a, c, cell, k, q1, -⟩ := Cond.exactly_spec (hs (Cond.exactly (.string RX2 70) "java/lang/String") (by decide +kernel))
    exact ⟨a, vk_R.of (hts0 _ (List.mem_of_getElem? (i := 517) (by decide +kernel))) q1⟩
  · obtain ⟨a, c, cell, k, q1, -⟩ := Cond.exactly_spec (hs (Cond.exactly (.string RX2 88) "java/lang/String") (by decide +kernel))
    exact ⟨a, vk_R.of (hts0 _ (List.mem_of_getElem? (i := 518) (by decide +kernel))) q1⟩
  · obtain ⟨a, c, cell, k, q1, -⟩ := Cond.exactly_spec (hs (Cond.exactly (.string RX2 98) "java/lang/String") (by decide +kernel))
    exact ⟨a, vk_R.of (hts0 _ (List.mem_of_getElem? (i := 530) (by decide +kernel))) q1⟩
  · obtain ⟨a, c, cell, k, q1, -⟩ := Cond.exactly_spec (hs (Cond.exactly (.string RX2 185) "java/lang/String") (by decide +kernel))
    exact ⟨a, vk_R.of (hts0 _ (List.mem_of_getElem? (i := 550) (by decide +kernel))) q1⟩
  · obtain ⟨a, c, cell, k, q1, -⟩ := Cond.exactly_spec (hs (Cond.exactly (.string RX2 125) "java/lang/String") (by decide +kernel))
    exact ⟨a, vk_R.of (hts0 _ (List.mem_of_getElem? (i := 584) (by decide +kernel))) q1⟩
  · obtain ⟨a, c, cell, k, q1, -⟩ := Cond.exactly_spec (hs (Cond.exactly (.string RX2 134) "java/lang/String") (by decide +kernel))
    exact ⟨a, vk_R.of (hts0 _ (List.mem_of_getElem? (i := 596) (by decide +kernel))) q1⟩
theorem ncs_of {s : State} {b : Nat} (hgv : (Jvm.Cond.and given_1 narrow_1).before #[Value.ref b] s = true) : NCS s := by
  have hs := flat_of_before _ hgv
  exact ⟨va_Nc.of (hs (Cond.not (.castable eIA eIO)) (by decide +kernel)), va_Nc.of (hs (Cond.not (.castable eIS eIO)) (by decide +kernel)), va_Nc.of (hs (Cond.not (.castable eIS eIA)) (by decide +kernel)), va_Nc.of (hs (Cond.not (.castable eIO eIA)) (by decide +kernel))⟩
theorem kj_of {s : State} {b : Nat} (hT : TB s) : ∃ (g : GT) (cJ : ClassId), KJ g cJ s := by
  have hts := hT #[Value.ref b]
  obtain ⟨c0, i0, h0⟩ := u_known (C := RX0) (T := TX0) (N := 11) (n := 11) hts inT0 (hts _ q30)
  obtain ⟨c1, i1, h1⟩ := u_known (C := RX1) (T := TX1) (N := 9) (n := 9) hts inT1 (hts _ q23)
  obtain ⟨c2, i2, h2⟩ := u_known (C := RX2) (T := TX2) (N := 2) (n := 2) hts inT2 (hts _ q15)
  obtain ⟨c3, i3, h3⟩ := u_known (C := RX3) (T := TX3) (N := 16) (n := 16) hts inT3 (hts _ q576)
  obtain ⟨c4, i4, h4⟩ := u_known (C := RX4) (T := TX4) (N := 3) (n := 3) hts inT4 (hts _ q570)
  obtain ⟨cI, kI, mI, f1, f2, f3⟩ := Cond.arrayClass_spec (hts _ q87)
  obtain ⟨cL, kL, mL, f4, f5, f6⟩ := Cond.arrayClass_spec (hts _ q874)
  obtain ⟨mO, cO, kO, f7, f8, f9, f10, f11⟩ := Cond.arrayOver_spec (hts _ q29)
  refine ⟨((fun k => match k with | 0 => c0 | 1 => c1 | 2 => c2 | 3 => c3 | _ => c4, fun k => match k with | 0 => i0 | 1 => i1 | 2 => i2 | 3 => i3 | _ => i4), cI, cO), cL, fun k q hq => ?_, fun k q hq => ?_⟩
  · match k, hq with
    | 0, hq => cases hq; exact h0
    | 1, hq => cases hq; exact h1
    | 2, hq => cases hq; exact h2
    | 3, hq => cases hq; exact h3
    | 4, hq => cases hq; exact h4
    | k + 5, hq => simp [vwCl] at hq
  · match k, hq with
    | 0, hq => cases hq; exact ⟨fun n z => ⟨fun k h => (by cases h), kI, f2, mI, f3⟩, f1⟩
    | 1, hq => cases hq; exact ⟨fun n z => ⟨fun k h => (by cases h), kO, f9, mO, f10⟩, kO, mO, f9, f10, f7, f11⟩
    | 2, hq => cases hq; exact ⟨fun n z => ⟨fun k h => (by cases h), kL, f5, mL, f6⟩, f4⟩
    | k + 3, hq => simp [tyl] at hq
set_option maxHeartbeats 4000000 in
set_option maxRecDepth 100000 in
/-- the law, from its entry -/
theorem whole_start {p : Program} {e : Env} {s : State} {m : MethodId} {below : List Frame} {meth : Method} {c : Code} (l : Launch) (hflags : l.flags = flags0) {b L : Nat} {xs : Nat → Int32} (hL : L ≤ 3072) (C0 : lw_At p s m meth c b L xs) : W p l e room_1 s m #[Value.ref b] below meth c s.heap [] 0 0 (lw_Z below #[Value.ref b] s) (entryFrame m ([Value.ref b] : List Value).toArray 9) := by
  obtain ⟨hx, hb, hr, hml, hown, hts0, hX, hbl, hlocks, hgv⟩ := id C0
  have hst : l.stackTraces = false := by unfold Launch.stackTraces; rw [hflags]; decide
  have hT : TB s := TB.of hts0
  obtain ⟨g, cJ, hKJ⟩ := kj_of (b := b) hT
  have hTX := tx_of hts0 hgv
  have hNC := ncs_of hgv
  have hd0 := Drawn.sameBut.refl s.drawn lw_cs
  refine W.base ?_
  have hl := lv_entry ([.ref b]) (n := 9) (Nat.le_of_ble_eq_true rfl)
  rw [lg_entry_eq]
  obtain ⟨x0, hx0⟩ : ∃ x0 : CT, x0 = (p, l, e, room_1, s, m, #[Value.ref b], below, meth, c, g, 9, (fun q : Nat => s.heap.size ≤ q), s.heap, lw_Z below #[Value.ref b] s) := ⟨_, rfl⟩
  have hXX : ∀ d, FX (XD x0 d) l room_1 g 9 cL_law RL := fun d => by
    rw [hx0]
    exact ⟨rfl, rfl, rfl, rfl, hx, hb, hml, hown, TB.same (s := s) rfl hT, va_K.moved (u := s) (U := s.setDrawn d) (Vm.Alike.refl s.vm) (va_K.sub hKJ [0, 1] rfl), hlocks, fun q h => h⟩
  have hZZ : ∀ d, FL2 (XD x0 d) cJ b L xs := fun d => by
    rw [hx0]
    exact ⟨rfl, hTX.go (U := s.setDrawn d) (fun _ _ _ => rfl) (State.WarmedH.refl s) (fun _ h => h), va_K.moved (u := s) (U := s.setDrawn d) (Vm.Alike.refl s.vm) hKJ, NCS.moved (u := s) (U := s.setDrawn d) (Vm.Alike.refl s.vm) hNC, hX, hbl, Nat.not_le.mpr hbl⟩
  have hDD : DRN x0 s.drawn := by rw [hx0]; exact hd0
  have hE : ∀ (d : Drawn) (k n : Nat) (lv : List (Nat × Value)) (ws : va_W), DRN x0 d → k ≤ 612619 → n ≤ 7258246 → V (XD x0 d) k n ws 1294 lv [] := by
    intro d k n lv ws hd hk hn
    refine V_iconst (hXX d) dL_law_1294 ?_
    subst hx0
    intro H locs ls hP hD hS h
    refine W.widen hk hn ?_
    refine va_forget (fun q hq => hS.2.2 q hq) ?_
    exact lw_ret hd hx hb hr hlocks dL_law_1295
  have K : V (XD x0 s.drawn) 0 0 [] 0 [(0, .ref b)] [] := by
    have hx := hXX s.drawn
    have hz := hZZ s.drawn
    refine V_new hx (C := RX2) (T := TX2) (N := 2) (ci := 2) rfl inT2 tyX2 tyX2_ok q14 q15 q1 [.null, .null] (fun j hj => by rcases (show j = 0 ∨ j = 1 by omega) with h | h <;> subst h <;> rfl) (Nat.le_of_ble_eq_true rfl) (Nat.le_of_ble_eq_true rfl) dL_law_0 (fun q1 => ?_)
    refine V_dup hx dL_law_3 rfl ?_
    refine V_callI hx (n_till l [] q1) ci_L_69 (RML (by decide) (by decide) (Nat.le_of_ble_eq_true rfl) (Nat.le_of_ble_eq_true rfl)) rfl rfl (Nat.le_of_ble_eq_true rfl) dL_law_4 111 928 rfl rfl (fun ws1 e1 => ?_)
    obtain ⟨ad, rfl, rfl⟩ := e1
    rw [List.nil_append]
    refine V_astore_n hx dL_law_7 [(1, .ref (ad 0)), (0, .ref b)] (by decide) rfl ?_
    refine V_new hx (C := RX4) (T := TX4) (N := 3) (ci := 4) rfl inT4 tyX4 tyX4_ok q569 q570 q4 [.int (iZ 0), .null, .null] (fun j hj => by rcases (show j = 0 ∨ j = 1 ∨ j = 2 by omega) with h | h | h <;> subst h <;> rfl) (Nat.le_of_ble_eq_true rfl) (Nat.le_of_ble_eq_true rfl) dL_law_8 (fun q2 => ?_)
    refine V_dup hx dL_law_11 rfl ?_
    refine V_callI hx (n_model l _ q2) ci_L_72 (RML (by decide) (by decide) (Nat.le_of_ble_eq_true rfl) (Nat.le_of_ble_eq_true rfl)) rfl rfl (Nat.le_of_ble_eq_true rfl) dL_law_12 140 1775 rfl rfl (fun ws2 e2 => ?_)
    obtain ⟨md, rfl, rfl⟩ := e2
    refine V_astore_n hx dL_law_15 [(2, .ref (md 0)), (1, .ref (ad 0)), (0, .ref b)] (by decide) rfl ?_
    refine V_iconst hx dL_law_16 ?_
    refine V_newl hx hz (Nat.le_of_ble_eq_true rfl) (Nat.le_of_ble_eq_true rfl) dL_law_17 (fun o => ?_)
    refine V_astore_n hx dL_law_19 [(3, .ref o), (2, .ref (md 0)), (1, .ref (ad 0)), (0, .ref b)] (by decide) rfl ?_
    refine V_iconst hx dL_law_20 ?_
    refine V_istore hx dL_law_21 [(4, .int (iZ 0)), (3, .ref o), (2, .ref (md 0)), (1, .ref (ad 0)), (0, .ref b)] (by decide) rfl ?_
    refine V_perm (ws' := SW g ad (fun _ => T0i) 0 T0i ++ ([(o, LJ cJ (fun _ => 0))] ++ RW g md 0 (fun _ => R0i) 0 R0i)) [] pm5 ?_
    refine V_widen (k' := 200 + 2 * 0) (n' := 2000 + 10 * 0) (Nat.le_of_ble_eq_true rfl) (Nat.le_of_ble_eq_true rfl) ?_
    exact law_loop hXX hZZ hst hL hE (L + 7) 0 s.drawn _ (by omega) (by omega) hDD ⟨fun _ => T0i, fun _ => R0i, T0i, R0i, 0, fun _ => 0, wf_0, rel_0, wf_0.1, rg_R0, rfl⟩
  subst hx0
  exact K s.heap [] _ (fun k q h => by simp at h) ⟨fun i j p q h => by simp at h, fun k q h => by simp at h⟩ va_S.rf hl
-- ===== YOUR PART ENDS =====
set_option maxHeartbeats 4000000 in
theorem lw_walk (l : Launch) (hflags : l.flags = flags0) (b : Addr) (xs : List Int32) : MetFree l x (headSpec (Jvm.Cond.code x code maxLocals ret :: tables_1) room_1) (lw_P b xs) (fun _ _ _ _ _ => True) lw_Q := by
  refine MetFree.of_bodyS (code := code) (maxLocals := maxLocals) (ret := ret) (by decide) ?_ ?_
  · intro args s m h hn
    obtain ⟨meth, c, h1, h2, h3, h4, h5, h6, -, -⟩ := Cond.code_spec hn (atoms_spec (ws := Jvm.Cond.code x code maxLocals ret :: tables_1) h _ List.mem_cons_self)
    exact ⟨meth, c, h1, h2, h3, h4, h5, h6⟩
  · intro p e s m args below meth c s₁ B hml0 hP _
    obtain ⟨rfl, hx, hbd, hgv⟩ := hP
    obtain ⟨scr, harrAt, hlist, hof, hsmall⟩ := hx
    obtain ⟨hcb, hkn, -, -⟩ := State.arrayAt?_spec harrAt
    have hown : s.vm.findClass R_law = some m.cls := findClass_of_methodNamed B.named
    have hts0 : ∀ c ∈ (Jvm.Cond.code x code maxLocals ret :: tables_1), c.before #[Value.ref b] s = true := atoms_spec (ws := Jvm.Cond.code x code maxLocals ret :: tables_1) B.pre
    have hts : ∀ w ∈ lw_tbl, w.before #[Value.ref b] s = true := k2_hts_sels lw_privs (fun w hw => hts0 w (List.mem_cons_of_mem _ hw)) lw_privs_ok
    have hml : c.maxLocals = 9 := B.maxLocals_eq (hts0 _ List.mem_cons_self)
    have X₀ : Stand p l e room_1 s m #[Value.ref b] below meth c s₁ [] 0 0 := Stand.of_body B
    have hh0 : s₁.heap = s.heap := by rw [B.state]; rfl
    have hsz : scr.slots.size = xs.length := by rw [← Array.length_toList, hlist, List.length_map]
    have hval : ∀ j : Nat, j < xs.length → scr.slots[j]? = some (.int (xs.getD j 0)) := fun j hj => by
      rw [← Array.getElem?_toList, hlist]
      simp [hj]
    have hbl : b < s.heap.size := (Array.getElem?_eq_some_iff.mp hcb).1
    have hX : va_X b xs.length (fun j => xs.getD j 0) s s.heap := ⟨scr, hcb, hof, hkn, hsz, hval⟩
    have K : W p l e room_1 s m #[Value.ref b] below meth c s₁.heap [] 0 0 (lw_Z below #[Value.ref b] s) (entryFrame m ([Value.ref b] : List Value).toArray 9) := by
      rw [hh0]
      exact whole_start l hflags hbd ⟨B.exec, B.bytes, B.returns, hml, hown, hts, hX, hbl, B.notSynchronized, hgv⟩
    obtain ⟨t, a1, o, b1, b2, b3⟩ := K s₁ rfl X₀
    exact ⟨t, o, a1, b1, b2, b3⟩
theorem lw_pre_spec {args : Array Value} {s : State} (h : (Jvm.Cond.and given_1 narrow_1).before args s = true) (hr : rest_1_c.before args s = true) : ∃ (b : Addr) (xs : List Int32), lw_P b xs args s := by
  have hs := flat_of_before _ h
  have hq := flat_of_before _ hr
  have hc : (Cond.count 1).before args s = true := hs _ (by decide +kernel)
  have harr : (Cond.arrayOf (.arg 0) .int).before args s = true := hs _ (by decide +kernel)
  have hle : (Cond.le (.length (.arg 0)) (.int 3072)).before args s = true := hs _ (by decide +kernel)
  have hlen : (Cond.isInt (.length (.arg 0))).before args s = true := hq _ (by decide +kernel)
  have hall : (Cond.all (.arg 0) (.isInt (.elem (.arg 0) (.index 0)))).before args s = true := hq _ (by decide +kernel)
  obtain ⟨b, xs, hb, hx⟩ := State.ints_of_pre rfl harr hlen hall
  have hsm : xs.length < 2 ^ 31 := hx.choose_spec.2.2.2
  have hev : (Term.length (.arg 0)).eval args s none [] s = some (.int xs.length.toInt32) := hx.length_eval hb
  have hv := Cond.le_ints hev (show (Term.int 3072).eval args s none [] s = some (.int 3072) from rfl)
  have hd : xs.length.toInt32 ≤ 3072 := by
    simpa [Cond.before, Cond.holds, hv] using hle
  have hN : xs.length ≤ 3072 := (Int32.ofNat_le_ofNat hsm (by decide)).mp (show Int32.ofNat xs.length ≤ Int32.ofNat 3072 from hd)
  exact ⟨b, xs, Cond.one_arg hc (show args[0]? = some (.ref b) from hb), hx, hN, h⟩
theorem lw_comes (l : Launch) (hflags : l.flags = flags0) : Comes l x (Jvm.Cond.code x code maxLocals ret :: tables_1) room_1 (fun tb e args s => Calls_1 tb e args s ∧ rest_1 tb e args s ∧ Pre_1 tb e args s)
    (fun _ _ args s o t => lw_Q args s o t) := by
  intro p e ha hc hk s m args below hf hfit hheap happ hpre
  obtain ⟨b, xs, hP⟩ := lw_pre_spec hpre.2.2 hpre.2.1
  obtain ⟨k, o, h1, h2, h3, hQ⟩ := lw_walk l hflags b xs p e ha hc hk s m args below hf ((Spec.applies_iff_loose hf).mp happ).1 hP trivial
  exact ⟨k, o, h1, h2, h3, hQ⟩
theorem lw_frame {s t : State} {o : Outcome} {args : Array Value} (h : State.butDraws s t lw_cs (fun t1 => Framed s o t1 [] 612619 7258246)) :
    State.butDraws s t [Jvm.Choice.named "NaN.bits"] (fun t1 => Framed s o t1 (fieldLocs frame_1_writes args s ++ arrayLocs frame_1_arrays args s ++ staticLocs frame_1_statics s) 612619 7258246) := h
theorem lw_limb (L : Cond) (hL : ∀ (args : Array Value) (s t : State), L.after args s (.returned (some (.int 1))) t = true) :
    ArmFor flags0 classFile x code maxLocals ret World_1 tables_1 room_1 Calls_1 rest_1 Pre_1
      (fun tb e a s o t => postC L tb e a s o t ∧ State.butDraws s t [Jvm.Choice.named "NaN.bits"] (fun t1 => Framed s o t1 (fieldLocs frame_1_writes a s ++ arrayLocs frame_1_arrays a s ++ staticLocs frame_1_statics s) 612619 7258246)) := by
  intro l hflags _ _ p e ha hc hk s m args below hf hfit hheap happ hpre
  obtain ⟨k, o, h1, h2, h3, rfl, hF⟩ := lw_comes l hflags p e ha hc hk s m args below hf hfit hheap happ hpre
  exact ⟨k, _, h1, h2, h3, hL args s _, lw_frame hF⟩
theorem i_vc : Claimed_1_1 ∧ Claimed_1_2 := ⟨lw_limb limb_1_1 (fun args s t => by simp [limb_1_1, Cond.after, Cond.holds, Cond.value]), lw_limb limb_1_2 (fun args s t => Cond.after_iff.mpr (by
  first | (rw [show limb_1_2 = Cond.eq .result (.int 1) from rfl, Cond.eq_ints (x := 1) (y := 1) rfl rfl]; simp; done) | (simp [limb_1_2, Cond.value, Term.eval]; done)))⟩
