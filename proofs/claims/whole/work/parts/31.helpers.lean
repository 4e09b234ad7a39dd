/-! the law's helpers: a call that may throw, caught -/
theorem fr_join {A : Nat → Prop} {D : va_G} {cl : List vw_C} {W1 wr ws' : va_W} {H H1 : Heap} (hP : va_P D cl (W1 ++ wr) H) (hD : va_D A (W1 ++ wr)) (hk : ∀ q : Nat, q < H.size → ¬ va_A W1 H.size q → H1[q]? = H[q]?) (hF : ∀ q, va_A W1 H.size q → A q) (hP1 : va_P D cl ws' H1) (hD1 : va_D (va_A W1 H.size) ws') : va_P D cl (ws' ++ wr) H1 ∧ va_D A (ws' ++ wr) := by
  have hPr : va_P D cl wr H := P_sub (ws := W1 ++ wr) (r := W1) List.perm_append_comm hP
  have hnd := D_nd hD
  rw [List.map_append] at hnd
  obtain ⟨n1, n2, n3⟩ := List.nodup_append.mp hnd
  have hout : ∀ (k : Nat) (q : Nat × va_E), wr[k]? = some q → q.1 < H.size ∧ ¬ va_A W1 H.size q.1 := by
    intro k q hq
    have hlt := (hPr k q hq).lt
    refine ⟨hlt, fun h => ?_⟩
    rcases h with ⟨j, e, hj⟩ | h
    · exact n3 q.1 (List.mem_map.mpr ⟨_, List.mem_of_getElem? hj, rfl⟩) q.1 (List.mem_map.mpr ⟨_, List.mem_of_getElem? hq, rfl⟩) rfl
    · omega
  refine ⟨hP1.app (hPr.kept (fun k q hq => hk q.1 (hout k q hq).1 (hout k q hq).2)), nd_D ?_ (fun q hq => ?_)⟩
  · rw [List.map_append]
    refine List.nodup_append.mpr ⟨D_nd hD1, n2, fun a ha b hb hab => ?_⟩
    subst hab
    obtain ⟨qa, ha1, ha2⟩ := List.mem_map.mp ha
    obtain ⟨qb, hb1, hb2⟩ := List.mem_map.mp hb
    obtain ⟨i, hi⟩ := List.mem_iff_getElem?.mp ha1
    obtain ⟨j, hj⟩ := List.mem_iff_getElem?.mp hb1
    exact (hout j qb hj).2 (by rw [hb2, ← ha2]; exact hD1.2 i qa hi)
  · rcases List.mem_append.mp hq with h | h
    · obtain ⟨i, hi⟩ := List.mem_iff_getElem?.mp h
      exact hF _ (hD1.2 i q hi)
    · obtain ⟨i, hi⟩ := List.mem_iff_getElem?.mp h
      have hm : q ∈ W1 ++ wr := List.mem_append_right _ h
      obtain ⟨j, hj⟩ := List.mem_iff_getElem?.mp hm
      exact hD.2 j q hj
def KJ (g : GT) (cJ : ClassId) (U : State) : Prop := va_K g.1 vwCl (tyl g ++ [(cJ, .long)]) U
def NCS (U : State) : Prop := va_Nc eIA eIO U ∧ va_Nc eIS eIO U ∧ va_Nc eIS eIA U ∧ va_Nc eIO eIA U
def NCP (E nm : String) : Prop := (E = eIA ∧ nm = eIO) ∨ (E = eIS ∧ nm = eIO) ∨ (E = eIS ∧ nm = eIA) ∨ (E = eIO ∧ nm = eIA)
theorem NCS.get {U : State} (h : NCS U) {E nm : String} (hp : NCP E nm) : va_Nc E nm U := by
  obtain ⟨h1, h2, h3, h4⟩ := h
  rcases hp with ⟨rfl, rfl⟩ | ⟨rfl, rfl⟩ | ⟨rfl, rfl⟩ | ⟨rfl, rfl⟩
  · exact h1
  · exact h2
  · exact h3
  · exact h4
theorem NCS.moved {u U : State} (hvm : u.vm.Alike U.vm) (h : NCS u) : NCS U := ⟨h.1.moved hvm, h.2.1.moved hvm, h.2.2.1.moved hvm, h.2.2.2.moved hvm⟩
def K0L (g : GT) (cJ : ClassId) (as : List Value) (sz : Nat) (ws : va_W) : Array Value → State → Prop := va_Pc as (fun U => U.heap.size = sz ∧ TB U ∧ va_P g.1 vwCl ws U.heap ∧ KJ g cJ U ∧ va_D (fun _ => True) ws ∧ TX9 (va_A ws sz) U U.heap ∧ NCS U)
theorem K0L_blind {g : GT} {cJ : ClassId} {as : List Value} {sz : Nat} {ws : va_W} : FrameBlind (K0L g cJ as sz ws) := by
  intro a U gg mk h
  obtain ⟨h1, h2, h3, h4, h5, h6, h7, h8⟩ := h
  refine ⟨h1, h2, TB.same (s := U) (U := U.calling gg mk a) rfl h3, h4, va_K.moved (u := U) (U := U.calling gg mk a) (Vm.Alike.refl U.vm) h5, h6, ?_, NCS.moved (u := U) (U := U.calling gg mk a) (Vm.Alike.refl U.vm) h8⟩
  exact h7.go (U := U.calling gg mk a) (fun _ _ _ => rfl) (State.WarmedH.refl U) (fun _ h => h)
def MH (l : Launch) (y : MethodName) (cc : ByteArray) (maxL : Nat) (hh : List (Nat × Nat × Nat × Nat)) (rm : Room) (g : GT) (cJ : ClassId) (as : List Value) (ws : va_W) (post : Int → va_W → Prop) : Prop :=
  ∀ sz, Met l y [.codeWith y cc maxL (some .int) hh] rm (K0L g cJ as sz ws) (va_Qi (fun r ws' => ∃ z, r = iZ z ∧ post z ws') (KB g ws sz) (va_A ws sz)) rm.cells rm.slots (va_A ws sz)
/-- a frame of the law's: its heap's start, the throw's words, the row of longs, its table -/
def FL (x : CT) (cJ : ClassId) (hh : List (Nat × Nat × Nat × Nat)) : Prop := match x with
  | (_, _, _, _, s, _, _, _, _, c, g, _, A, H0, _) => H0 = s.heap ∧ TX9 A s H0 ∧ KJ g cJ s ∧ NCS s ∧ c.exceptionTable.toList = tableOf hh
abbrev LJ (cJ : ClassId) (f : Nat → Int64) : va_E := .inl (cJ, 1, .inr (.inl f))
theorem MH.of {l : Launch} {y : MethodName} {cc : ByteArray} {maxL : Nat} {hh : List (Nat × Nat × Nat × Nat)} {rm : Room} {g : GT} {cJ : ClassId} {as : List Value} {ws : va_W} {post : Int → va_W → Prop} (hy : plainName y.cls = true) (ho : y.cls = RL) (hL : (lg_sl as).length ≤ maxL)
    (body : ∀ x : CT, FX x l rm g maxL cc RL → FL x cJ hh → (∀ (pc k n : Nat) (lv : List (Nat × Value)) (z : Int) (ws' : va_W), decode cc pc = .ok (.ireturn, 1) → k ≤ rm.cells → n ≤ rm.slots → post z ws' → V x k n ws' pc lv [.int (iZ z)]) → V x 0 0 ws 0 (lv_args 0 as) []) : MH l y cc maxL hh rm g cJ as ws post := by
  intro sz
  refine va_MetW (cc := cc) (maxL := maxL) (ret := some .int) (hh := hh) hy rfl ?_
  intro p e s m args below meth c s₁ B hml hv
  obtain ⟨rfl, hsz, hT, hP, hKJ, hD0, hZ, hN⟩ := hv
  subst hsz
  have hx := B.exec
  have hb := B.bytes
  have hr := B.returns
  have hown : s.vm.findClass y.cls = some m.cls := findClass_of_methodNamed B.named
  rw [ho] at hown
  have hlocks := B.notSynchronized
  have htab : c.exceptionTable.toList = tableOf hh := vx_table (x := y) B (atoms_spec (ws := [Cond.codeWith y cc maxL (some .int) hh]) B.pre _ List.mem_cons_self)
  have hD := hD0.self (sz := s.heap.size)
  have hS : va_S (va_A ws s.heap.size) s.heap s.heap [] := va_S.rf
  have hl := lv_entry as (n := maxL) hL
  rw [lg_entry_eq]
  refine body (p, l, e, (headSpec [.codeWith y cc maxL (some .int) hh] rm).room, s, m, as.toArray, below, meth, c, g, maxL, va_A ws s.heap.size, s.heap, _) ⟨rfl, rfl, rfl, rfl, hx, hb, hml, hown, hT, va_K.sub hKJ [0, 1] rfl, hlocks, fun q h => Or.inr h⟩ ⟨rfl, hZ, hKJ, hN, htab⟩ ?_ s.heap [] _ hP hD hS hl
  intro pc k n lv z ws' hd hk hn hp H locs ls hP hD hS h
  exact W.widen hk hn (W.zret hx hb hr rfl (fun t ht hW => ⟨⟨iZ z, ws', rfl, ⟨z, rfl, hp⟩, by rw [ht]; exact hP, hD⟩, hS.F ht⟩) hS.2.2 hd hlocks)
section VLW
variable {x : CT} {l : Launch} {R : Room} {g : GT} {nL : Nat} {cc : ByteArray} {k n : Nat} {W1 wr : va_W} {pc : Nat} {lv : List (Nat × Value)} {st0 st : List Value} {cJ : ClassId} {hh : List (Nat × Nat × Nat × Nat)}
variable {y : MethodName} {bytes : ByteArray} {maxL index np : Nat} {ty : FieldType} {rm : Room} {as : List Value} {b : Nat} {pE : String → Prop}
theorem V_callXF {post : Int → va_W → Prop} (hx : FX x l R g nL cc RL) (hz : FL x cJ hh) (hM : MXI l y bytes maxL ty rm g (.ref b :: as) W1 post pE) (cw : CWD RL index y bytes maxL (some ty) np) (hR : RM R rm maxL k n) {ci N : Nat} {T : u_T} {fs : List Value} (hc : vwCl[ci]? = some (y.cls, T, N)) (i : Nat) (he : W1[i]? = some (b, .inr (ci, fs)))
    (hst : st0 = as.reverse ++ .ref b :: st) (hn : as.length = np) (hcat : (st.map fun v => v.category).sum ≤ 8) (hd : decode cc pc = .ok (.invokevirtual index, 3)) (k' n' : Nat) (hk' : k + rm.cells = k') (hn' : n + rm.slots = n')
    (kx : ∀ E, pE E → VX x k' n' (W1 ++ wr) pc lv st E) (kk : ∀ (z : Int) (ws' : va_W), post z ws' → V x k' n' (ws' ++ wr) (pc + 3) lv (.int (iZ z) :: st)) : V x k n (W1 ++ wr) pc lv st0 := by
  subst hk' hn'
  obtain ⟨p, l', e, R', s, m, args, below, meth, c, g', nL', A, H0, Q⟩ := x
  obtain ⟨rfl, rfl, rfl, rfl, hx, hb, hml, hown, hts, hK, hlk, hA⟩ := hx
  obtain ⟨-, hZ, -, -, -⟩ := hz
  intro H locs ls hP hD hS h
  have hPc : va_P g'.1 vwCl W1 H := P_sub (r := wr) (List.Perm.refl _) hP
  have hDc : va_D A W1 := D_sub (r := wr) (List.Perm.refl _) hD
  have hF := va_A_of hDc hS hA
  refine vx_calli (vx_runV (As := as) (rest := st) (Ts := []) ⟨hx, hb, hml, hown, fun _ h => by cases h⟩ (hM H.size) (cwd_of hts cw hR) ⟨K0X_blind, V_recv hK hPc hc i he, K0X_at hts hK hPc hDc hS hZ hF⟩ rfl hn h.1 hst (lv_room hcat) hd hR.2.2) hS (fun q _ h => hF q h) hF (fun q _ h => hF q h) (fun E ce q9 u t H1 locs1 ht hvm hw hB hz1 hk1 hS1 g1 g2 g3 => ?_) (fun r ws' t H1 locs1 ht hvm hw hB hz1 hk1 hS1 => ?_)
  · obtain ⟨j1, j2⟩ := fr_join hP hD hk1 hF (ht ▸ hB.2.1) hB.2.2
    exact kx E hB.1 H1 locs1 ls q9 ce j1 j2 hS1 h g1 g2 g3
  · obtain ⟨z, rfl, hw⟩ := hw
    obtain ⟨j1, j2⟩ := fr_join hP hD hk1 hF (ht ▸ hB.1) hB.2
    exact kk z ws' hw H1 locs1 ls j1 j2 hS1 h
theorem V_catch {ws : va_W} {E name : String} (hx : FX x l R g nL cc RL) (hz : FL x cJ hh) (pre : List ExceptionTableEntry) (x0 : ExceptionTableEntry) (suf : List ExceptionTableEntry) (hsplit : tableOf hh = pre ++ x0 :: suf) (hpass : ∀ z ∈ pre, z.catchType ≠ 0 ∧ ∃ nm : String, Cond.classLink RL z.catchType nm ∈ tbl ∧ NCP E nm) (hcov : covers x0 pc = true) (h0 : x0.catchType ≠ 0) (hlk : Cond.classLink RL x0.catchType name ∈ tbl) (hcast : Cond.castable E name ∈ tbl)
    (kk : ∀ q : Nat, V x k n ws x0.handlerPc lv [.ref q]) : VX x k n ws pc lv st E := by
  obtain ⟨p, l', e, R', s, m, args, below, meth, c, g', nL', A, H0, Q⟩ := x
  obtain ⟨rfl, rfl, rfl, rfl, hx, hb, hml, hown, hts, hK, hlk9, hA⟩ := hx
  obtain ⟨-, hZ, -, hN, htab⟩ := hz
  intro H locs ls q ce hP hD hS h hce hcv hcl
  refine vx_catch hown pre x0 suf (htab.trans hsplit) (fun z hz => Or.inr ?_) hcov h0 (hts _ _ hlk) (hts _ _ hcast) hce hcv hcl (kk q H locs ls hP hD hS h)
  obtain ⟨a1, nm, a2, a3⟩ := hpass z hz
  exact ⟨a1, nm, hts _ _ a2, hN.get a3⟩
theorem V_last {o : Nat} {f : Nat → Int64} {v : Int64} (hx : FX x l R g nL cc RL) (hz : FL x cJ hh) (hd : decode cc pc = .ok (.lastore, 1)) (kk : ∀ f' : Nat → Int64, f' 0 = v → V x k n (W1 ++ [(o, LJ cJ f')]) (pc + 1) lv st) : V x k n (W1 ++ [(o, LJ cJ f)]) pc lv (.long v :: .int (iZ 0) :: .ref o :: st) := by
  obtain ⟨p, l', e, R', s, m, args, below, meth, c, g', nL', A, H0, Q⟩ := x
  obtain ⟨rfl, rfl, rfl, rfl, hx, hb, hml, hown, hts, hK, hlk9, hA⟩ := hx
  obtain ⟨-, hZ, hKJ, hN, htab⟩ := hz
  intro H locs ls hP hD hS h
  refine va_last (D := g'.1) hx hb hKJ hP hD hS (W1.length + 0) 2 (apx 0 rfl) rfl (iZ_in (a := 0) (by decide) (by decide) (by decide)) hd (fun H1 locs1 hP1 hD1 hS1 => ?_)
  rw [aps 0] at hP1 hD1
  exact kk _ (by show vp_updL f (iZ 0).toNatClampNeg v 0 = v; rw [iZ_clamp rg_0]; simp [vp_updL]) H1 locs1 ls hP1 hD1 hS1 h
theorem V_lald {o : Nat} {f : Nat → Int64} (hx : FX x l R g nL cc RL) (hz : FL x cJ hh) (hd : decode cc pc = .ok (.laload, 1)) (kk : V x k n (W1 ++ [(o, LJ cJ f)]) (pc + 1) lv (.long (f 0) :: st)) : V x k n (W1 ++ [(o, LJ cJ f)]) pc lv (.int (iZ 0) :: .ref o :: st) := by
  obtain ⟨p, l', e, R', s, m, args, below, meth, c, g', nL', A, H0, Q⟩ := x
  obtain ⟨rfl, rfl, rfl, rfl, hx, hb, hml, hown, hts, hK, hlk9, hA⟩ := hx
  obtain ⟨-, hZ, hKJ, hN, htab⟩ := hz
  intro H locs ls hP hD hS h
  refine va_lald (D := g'.1) hx hb hKJ hP (W1.length + 0) 2 (apx 0 rfl) rfl (iZ_in (a := 0) (by decide) (by decide) (by decide)) hd ?_
  rw [iZ_clamp rg_0]
  exact kk H locs ls hP hD hS h
end VLW
set_option maxHeartbeats 4000000 in
set_option maxRecDepth 100000 in
theorem h_till (l : Launch) {g : GT} {cJ : ClassId} {W1 : va_W} {b o : Nat} {f0 : Nat → Int64} {fs : List Value} {a1 : Int} {post : Int → va_W → Prop} {pE : String → Prop} (he : W1[0]? = some (b, .inr (2, fs))) (hM : MXI l yX2_till cX2_till 3 .int (rmX 8 1) g [.ref b, .int (iZ a1)] W1 post pE) (hpE : ∀ E, pE E → E = eIA) : MH l yL_till cL_till 4 [(0, 9, 12, 13)] (rmX 9 1) g cJ [.ref b, .int (iZ a1), .ref o] (W1 ++ [(o, LJ cJ f0)]) (fun z ws9 => (∃ y ws', post y ws' ∧ z = 0 ∧ ∃ f : Nat → Int64, f 0 = (iZ y).toInt64 ∧ ws9 = ws' ++ [(o, LJ cJ f)]) ∨ (pE eIA ∧ z = 1 ∧ ws9 = W1 ++ [(o, LJ cJ f0)])) := by
  refine MH.of (by decide) rfl (Nat.le_of_ble_eq_true rfl) (fun x hx hz hE => ?_)
  refine V_lv (lv' := [(0, .ref b), (1, .int (iZ a1)), (2, .ref o)]) rfl ?_
  refine V_aload_n hx dL_till_0 2 rfl ?_
  refine V_iconst hx dL_till_1 ?_
  refine V_aload_n hx dL_till_2 0 rfl ?_
  refine V_iload_n hx dL_till_3 1 rfl ?_
  refine V_callXF hx hz hM cw_L_7 ⟨Nat.le_of_ble_eq_true rfl, Nat.le_of_ble_eq_true rfl, Nat.le_of_ble_eq_true rfl, Nat.le_of_ble_eq_true rfl⟩ rfl 0 he rfl rfl (Nat.le_of_ble_eq_true rfl) dL_till_4 1 6 rfl rfl (fun E hE9 => ?_) (fun y ws' hp => ?_)
  · rcases hpE E hE9 with rfl
    · refine V_catch hx hz (tableOf []) ⟨0, 9, 12, 13⟩ (tableOf []) rfl (fun z hz => nomatch hz) rfl (by decide) q295 q302 (fun q => ?_)
      refine V_astore_n hx dL_till_12 [(3, .ref q), (0, .ref b), (1, .int (iZ a1)), (2, .ref o)] (by decide) rfl ?_
      refine V_iconst hx dL_till_13 ?_
      exact hE _ _ _ _ _ _ dL_till_14 (Nat.le_refl _) (Nat.le_refl _) (Or.inr ⟨hE9, rfl, rfl⟩)
  · refine V_i2l hx dL_till_7 ?_
    refine V_last hx hz dL_till_8 (fun f hf => ?_)
    refine V_goto hx dL_till_9 15 (by decide) ?_
    refine V_iconst hx dL_till_15 ?_
    exact hE _ _ _ _ _ _ dL_till_16 (Nat.le_refl _) (Nat.le_refl _) (Or.inl ⟨y, ws', hp, rfl, f, hf, rfl⟩)
set_option maxHeartbeats 4000000 in
set_option maxRecDepth 100000 in
theorem h_pay (l : Launch) {g : GT} {cJ : ClassId} {W1 : va_W} {b o : Nat} {f0 : Nat → Int64} {fs : List Value} {a1 a2 : Int} {post : Int → va_W → Prop} {pE : String → Prop} (he : W1[0]? = some (b, .inr (2, fs))) (hM : MXI l yX2_pay cX2_pay 4 .int (rmX 8 2) g [.ref b, .int (iZ a1), .int (iZ a2)] W1 post pE) (hpE : ∀ E, pE E → E = eIO ∨ E = eIA) : MH l yL_pay cL_pay 5 [(0, 10, 13, 19), (0, 10, 17, 13)] (rmX 9 2) g cJ [.ref b, .int (iZ a1), .int (iZ a2), .ref o] (W1 ++ [(o, LJ cJ f0)]) (fun z ws9 => (∃ y ws', post y ws' ∧ z = 0 ∧ ∃ f : Nat → Int64, f 0 = (iZ y).toInt64 ∧ ws9 = ws' ++ [(o, LJ cJ f)]) ∨ (pE eIO ∧ z = 1 ∧ ws9 = W1 ++ [(o, LJ cJ f0)]) ∨ (pE eIA ∧ z = 2 ∧ ws9 = W1 ++ [(o, LJ cJ f0)])) := by
  refine MH.of (by decide) rfl (Nat.le_of_ble_eq_true rfl) (fun x hx hz hE => ?_)
  refine V_lv (lv' := [(0, .ref b), (1, .int (iZ a1)), (2, .int (iZ a2)), (3, .ref o)]) rfl ?_
  refine V_aload_n hx dL_pay_0 3 rfl ?_
  refine V_iconst hx dL_pay_1 ?_
  refine V_aload_n hx dL_pay_2 0 rfl ?_
  refine V_iload_n hx dL_pay_3 1 rfl ?_
  refine V_iload_n hx dL_pay_4 2 rfl ?_
  refine V_callXF hx hz hM cw_L_15 ⟨Nat.le_of_ble_eq_true rfl, Nat.le_of_ble_eq_true rfl, Nat.le_of_ble_eq_true rfl, Nat.le_of_ble_eq_true rfl⟩ rfl 0 he rfl rfl (Nat.le_of_ble_eq_true rfl) dL_pay_5 2 12 rfl rfl (fun E hE9 => ?_) (fun y ws' hp => ?_)
  · rcases hpE E hE9 with rfl | rfl
    · refine V_catch hx hz (tableOf []) ⟨0, 10, 13, 19⟩ (tableOf [(0, 10, 17, 13)]) rfl (fun z hz => nomatch hz) rfl (by decide) q375 q386 (fun q => ?_)
      refine V_astore hx dL_pay_13 [(4, .ref q), (0, .ref b), (1, .int (iZ a1)), (2, .int (iZ a2)), (3, .ref o)] (by decide) rfl ?_
      refine V_iconst hx dL_pay_15 ?_
      exact hE _ _ _ _ _ _ dL_pay_16 (Nat.le_refl _) (Nat.le_refl _) (Or.inr (Or.inl ⟨hE9, rfl, rfl⟩))
    · refine V_catch hx hz (tableOf [(0, 10, 13, 19)]) ⟨0, 10, 17, 13⟩ (tableOf []) rfl (List.forall_mem_cons.mpr ⟨⟨by decide, _, q375, by first | exact Or.inl ⟨rfl, rfl⟩ | exact Or.inr (Or.inl ⟨rfl, rfl⟩) | exact Or.inr (Or.inr (Or.inl ⟨rfl, rfl⟩)) | exact Or.inr (Or.inr (Or.inr ⟨rfl, rfl⟩))⟩, fun z hz => nomatch hz⟩) rfl (by decide) q295 q302 (fun q => ?_)
      refine V_astore hx dL_pay_17 [(4, .ref q), (0, .ref b), (1, .int (iZ a1)), (2, .int (iZ a2)), (3, .ref o)] (by decide) rfl ?_
      refine V_iconst hx dL_pay_19 ?_
      exact hE _ _ _ _ _ _ dL_pay_20 (Nat.le_refl _) (Nat.le_refl _) (Or.inr (Or.inr ⟨hE9, rfl, rfl⟩))
  · refine V_i2l hx dL_pay_8 ?_
    refine V_last hx hz dL_pay_9 (fun f hf => ?_)
    refine V_goto hx dL_pay_10 21 (by decide) ?_
    refine V_iconst hx dL_pay_21 ?_
    exact hE _ _ _ _ _ _ dL_pay_22 (Nat.le_refl _) (Nat.le_refl _) (Or.inl ⟨y, ws', hp, rfl, f, hf, rfl⟩)
set_option maxHeartbeats 4000000 in
set_option maxRecDepth 100000 in
theorem h_clerk (l : Launch) {g : GT} {cJ : ClassId} {W1 : va_W} {b o : Nat} {f0 : Nat → Int64} {fs : List Value} {post : Int → va_W → Prop} {pE : String → Prop} (he : W1[0]? = some (b, .inr (2, fs))) (hM : MXI l yX2_clerk cX2_clerk 1 .int (rmX 8 1) g [.ref b] W1 post pE) (hpE : ∀ E, pE E → E = eIS) : MH l yL_clerk cL_clerk 3 [(0, 8, 11, 25)] (rmX 9 1) g cJ [.ref b, .ref o] (W1 ++ [(o, LJ cJ f0)]) (fun z ws9 => (∃ y ws', post y ws' ∧ z = 0 ∧ ∃ f : Nat → Int64, f 0 = (iZ y).toInt64 ∧ ws9 = ws' ++ [(o, LJ cJ f)]) ∨ (pE eIS ∧ z = 1 ∧ ws9 = W1 ++ [(o, LJ cJ f0)])) := by
  refine MH.of (by decide) rfl (Nat.le_of_ble_eq_true rfl) (fun x hx hz hE => ?_)
  refine V_lv (lv' := [(0, .ref b), (1, .ref o)]) rfl ?_
  refine V_aload_n hx dL_clerk_0 1 rfl ?_
  refine V_iconst hx dL_clerk_1 ?_
  refine V_aload_n hx dL_clerk_2 0 rfl ?_
  refine V_callXF hx hz hM cw_L_21 ⟨Nat.le_of_ble_eq_true rfl, Nat.le_of_ble_eq_true rfl, Nat.le_of_ble_eq_true rfl, Nat.le_of_ble_eq_true rfl⟩ rfl 0 he rfl rfl (Nat.le_of_ble_eq_true rfl) dL_clerk_3 1 6 rfl rfl (fun E hE9 => ?_) (fun y ws' hp => ?_)
  · rcases hpE E hE9 with rfl
    · refine V_catch hx hz (tableOf []) ⟨0, 8, 11, 25⟩ (tableOf []) rfl (fun z hz => nomatch hz) rfl (by decide) q408 q415 (fun q => ?_)
      refine V_astore_n hx dL_clerk_11 [(2, .ref q), (0, .ref b), (1, .ref o)] (by decide) rfl ?_
      refine V_iconst hx dL_clerk_12 ?_
      exact hE _ _ _ _ _ _ dL_clerk_13 (Nat.le_refl _) (Nat.le_refl _) (Or.inr ⟨hE9, rfl, rfl⟩)
  · refine V_i2l hx dL_clerk_6 ?_
    refine V_last hx hz dL_clerk_7 (fun f hf => ?_)
    refine V_goto hx dL_clerk_8 14 (by decide) ?_
    refine V_iconst hx dL_clerk_14 ?_
    exact hE _ _ _ _ _ _ dL_clerk_15 (Nat.le_refl _) (Nat.le_refl _) (Or.inl ⟨y, ws', hp, rfl, f, hf, rfl⟩)
set_option maxHeartbeats 4000000 in
set_option maxRecDepth 100000 in
theorem h_say (l : Launch) {g : GT} {cJ : ClassId} {W1 : va_W} {b o : Nat} {f0 : Nat → Int64} {fs : List Value} {a1 a2 a3 a4 a5 : Int} {post : Int → va_W → Prop} {pE : String → Prop} (he : W1[0]? = some (b, .inr (2, fs))) (hM : MXI l yX2_say cX2_say 7 .int (rmX 8 6) g [.ref b, .int (iZ a1), .int (iZ a2), .int (iZ a3), .int (iZ a4), .int (iZ a5)] W1 post pE) (hpE : ∀ E, pE E → E = eIO ∨ E = eIA ∨ E = eIS) : MH l yL_say cL_say 8 [(0, 16, 19, 19), (0, 16, 23, 13), (0, 16, 27, 25)] (rmX 9 6) g cJ [.ref b, .int (iZ a1), .int (iZ a2), .int (iZ a3), .int (iZ a4), .int (iZ a5), .ref o] (W1 ++ [(o, LJ cJ f0)]) (fun z ws9 => (∃ y ws', post y ws' ∧ z = 0 ∧ ∃ f : Nat → Int64, f 0 = (iZ y).toInt64 ∧ ws9 = ws' ++ [(o, LJ cJ f)]) ∨ (pE eIO ∧ z = 1 ∧ ws9 = W1 ++ [(o, LJ cJ f0)]) ∨ (pE eIA ∧ z = 2 ∧ ws9 = W1 ++ [(o, LJ cJ f0)]) ∨ (pE eIS ∧ z = 3 ∧ ws9 = W1 ++ [(o, LJ cJ f0)])) := by
  refine MH.of (by decide) rfl (Nat.le_of_ble_eq_true rfl) (fun x hx hz hE => ?_)
  refine V_lv (lv' := [(0, .ref b), (1, .int (iZ a1)), (2, .int (iZ a2)), (3, .int (iZ a3)), (4, .int (iZ a4)), (5, .int (iZ a5)), (6, .ref o)]) rfl ?_
  refine V_aload hx dL_say_0 6 rfl ?_
  refine V_iconst hx dL_say_2 ?_
  refine V_aload_n hx dL_say_3 0 rfl ?_
  refine V_iload_n hx dL_say_4 1 rfl ?_
  refine V_iload_n hx dL_say_5 2 rfl ?_
  refine V_iload_n hx dL_say_6 3 rfl ?_
  refine V_iload hx dL_say_7 4 rfl ?_
  refine V_iload hx dL_say_9 5 rfl ?_
  refine V_callXF hx hz hM cw_L_27 ⟨Nat.le_of_ble_eq_true rfl, Nat.le_of_ble_eq_true rfl, Nat.le_of_ble_eq_true rfl, Nat.le_of_ble_eq_true rfl⟩ rfl 0 he rfl rfl (Nat.le_of_ble_eq_true rfl) dL_say_11 6 36 rfl rfl (fun E hE9 => ?_) (fun y ws' hp => ?_)
  · rcases hpE E hE9 with rfl | rfl | rfl
    · refine V_catch hx hz (tableOf []) ⟨0, 16, 19, 19⟩ (tableOf [(0, 16, 23, 13), (0, 16, 27, 25)]) rfl (fun z hz => nomatch hz) rfl (by decide) q375 q386 (fun q => ?_)
      refine V_astore hx dL_say_19 [(7, .ref q), (0, .ref b), (1, .int (iZ a1)), (2, .int (iZ a2)), (3, .int (iZ a3)), (4, .int (iZ a4)), (5, .int (iZ a5)), (6, .ref o)] (by decide) rfl ?_
      refine V_iconst hx dL_say_21 ?_
      exact hE _ _ _ _ _ _ dL_say_22 (Nat.le_refl _) (Nat.le_refl _) (Or.inr (Or.inl ⟨hE9, rfl, rfl⟩))
    · refine V_catch hx hz (tableOf [(0, 16, 19, 19)]) ⟨0, 16, 23, 13⟩ (tableOf [(0, 16, 27, 25)]) rfl (List.forall_mem_cons.mpr ⟨⟨by decide, _, q375, by first | exact Or.inl ⟨rfl, rfl⟩ | exact Or.inr (Or.inl ⟨rfl, rfl⟩) | exact Or.inr (Or.inr (Or.inl ⟨rfl, rfl⟩)) | exact Or.inr (Or.inr (Or.inr ⟨rfl, rfl⟩))⟩, fun z hz => nomatch hz⟩) rfl (by decide) q295 q302 (fun q => ?_)
      refine V_astore hx dL_say_23 [(7, .ref q), (0, .ref b), (1, .int (iZ a1)), (2, .int (iZ a2)), (3, .int (iZ a3)), (4, .int (iZ a4)), (5, .int (iZ a5)), (6, .ref o)] (by decide) rfl ?_
      refine V_iconst hx dL_say_25 ?_
      exact hE _ _ _ _ _ _ dL_say_26 (Nat.le_refl _) (Nat.le_refl _) (Or.inr (Or.inr (Or.inl ⟨hE9, rfl, rfl⟩)))
    · refine V_catch hx hz (tableOf [(0, 16, 19, 19), (0, 16, 23, 13)]) ⟨0, 16, 27, 25⟩ (tableOf []) rfl (List.forall_mem_cons.mpr ⟨⟨by decide, _, q375, by first | exact Or.inl ⟨rfl, rfl⟩ | exact Or.inr (Or.inl ⟨rfl, rfl⟩) | exact Or.inr (Or.inr (Or.inl ⟨rfl, rfl⟩)) | exact Or.inr (Or.inr (Or.inr ⟨rfl, rfl⟩))⟩, List.forall_mem_cons.mpr ⟨⟨by decide, _, q295, by first | exact Or.inl ⟨rfl, rfl⟩ | exact Or.inr (Or.inl ⟨rfl, rfl⟩) | exact Or.inr (Or.inr (Or.inl ⟨rfl, rfl⟩)) | exact Or.inr (Or.inr (Or.inr ⟨rfl, rfl⟩))⟩, fun z hz => nomatch hz⟩⟩) rfl (by decide) q408 q415 (fun q => ?_)
      refine V_astore hx dL_say_27 [(7, .ref q), (0, .ref b), (1, .int (iZ a1)), (2, .int (iZ a2)), (3, .int (iZ a3)), (4, .int (iZ a4)), (5, .int (iZ a5)), (6, .ref o)] (by decide) rfl ?_
      refine V_iconst hx dL_say_29 ?_
      exact hE _ _ _ _ _ _ dL_say_30 (Nat.le_refl _) (Nat.le_refl _) (Or.inr (Or.inr (Or.inr ⟨hE9, rfl, rfl⟩)))
  · refine V_i2l hx dL_say_14 ?_
    refine V_last hx hz dL_say_15 (fun f hf => ?_)
    refine V_goto hx dL_say_16 31 (by decide) ?_
    refine V_iconst hx dL_say_31 ?_
    exact hE _ _ _ _ _ _ dL_say_32 (Nat.le_refl _) (Nat.le_refl _) (Or.inl ⟨y, ws', hp, rfl, f, hf, rfl⟩)
set_option maxHeartbeats 4000000 in
set_option maxRecDepth 100000 in
theorem h_turn (l : Launch) {g : GT} {cJ : ClassId} {W1 : va_W} {b o : Nat} {f0 : Nat → Int64} {fs : List Value} {a1 : Int} {post : Int → va_W → Prop} {pE : String → Prop} (he : W1[0]? = some (b, .inr (2, fs))) (hM : MXI l yX2_turn cX2_turn 2 .int (rmX 8 2) g [.ref b, .int (iZ a1)] W1 post pE) (hpE : ∀ E, pE E → E = eIO ∨ E = eIS) : MH l yL_turn cL_turn 4 [(0, 9, 12, 19), (0, 9, 15, 25)] (rmX 9 2) g cJ [.ref b, .int (iZ a1), .ref o] (W1 ++ [(o, LJ cJ f0)]) (fun z ws9 => (∃ y ws', post y ws' ∧ z = 0 ∧ ∃ f : Nat → Int64, f 0 = (iZ y).toInt64 ∧ ws9 = ws' ++ [(o, LJ cJ f)]) ∨ (pE eIO ∧ z = 1 ∧ ws9 = W1 ++ [(o, LJ cJ f0)]) ∨ (pE eIS ∧ z = 2 ∧ ws9 = W1 ++ [(o, LJ cJ f0)])) := by
  refine MH.of (by decide) rfl (Nat.le_of_ble_eq_true rfl) (fun x hx hz hE => ?_)
  refine V_lv (lv' := [(0, .ref b), (1, .int (iZ a1)), (2, .ref o)]) rfl ?_
  refine V_aload_n hx dL_turn_0 2 rfl ?_
  refine V_iconst hx dL_turn_1 ?_
  refine V_aload_n hx dL_turn_2 0 rfl ?_
  refine V_iload_n hx dL_turn_3 1 rfl ?_
  refine V_callXF hx hz hM cw_L_31 ⟨Nat.le_of_ble_eq_true rfl, Nat.le_of_ble_eq_true rfl, Nat.le_of_ble_eq_true rfl, Nat.le_of_ble_eq_true rfl⟩ rfl 0 he rfl rfl (Nat.le_of_ble_eq_true rfl) dL_turn_4 2 12 rfl rfl (fun E hE9 => ?_) (fun y ws' hp => ?_)
  · rcases hpE E hE9 with rfl | rfl
    · refine V_catch hx hz (tableOf []) ⟨0, 9, 12, 19⟩ (tableOf [(0, 9, 15, 25)]) rfl (fun z hz => nomatch hz) rfl (by decide) q375 q386 (fun q => ?_)
      refine V_astore_n hx dL_turn_12 [(3, .ref q), (0, .ref b), (1, .int (iZ a1)), (2, .ref o)] (by decide) rfl ?_
      refine V_iconst hx dL_turn_13 ?_
      exact hE _ _ _ _ _ _ dL_turn_14 (Nat.le_refl _) (Nat.le_refl _) (Or.inr (Or.inl ⟨hE9, rfl, rfl⟩))
    · refine V_catch hx hz (tableOf [(0, 9, 12, 19)]) ⟨0, 9, 15, 25⟩ (tableOf []) rfl (List.forall_mem_cons.mpr ⟨⟨by decide, _, q375, by first | exact Or.inl ⟨rfl, rfl⟩ | exact Or.inr (Or.inl ⟨rfl, rfl⟩) | exact Or.inr (Or.inr (Or.inl ⟨rfl, rfl⟩)) | exact Or.inr (Or.inr (Or.inr ⟨rfl, rfl⟩))⟩, fun z hz => nomatch hz⟩) rfl (by decide) q408 q415 (fun q => ?_)
      refine V_astore_n hx dL_turn_15 [(3, .ref q), (0, .ref b), (1, .int (iZ a1)), (2, .ref o)] (by decide) rfl ?_
      refine V_iconst hx dL_turn_16 ?_
      exact hE _ _ _ _ _ _ dL_turn_17 (Nat.le_refl _) (Nat.le_refl _) (Or.inr (Or.inr ⟨hE9, rfl, rfl⟩))
  · refine V_i2l hx dL_turn_7 ?_
    refine V_last hx hz dL_turn_8 (fun f hf => ?_)
    refine V_goto hx dL_turn_9 18 (by decide) ?_
    refine V_iconst hx dL_turn_18 ?_
    exact hE _ _ _ _ _ _ dL_turn_19 (Nat.le_refl _) (Nat.le_refl _) (Or.inl ⟨y, ws', hp, rfl, f, hf, rfl⟩)
set_option maxHeartbeats 4000000 in
set_option maxRecDepth 100000 in
theorem h_drop (l : Launch) {g : GT} {cJ : ClassId} {W1 : va_W} {b o : Nat} {f0 : Nat → Int64} {fs : List Value} {a1 : Int} {post : Int → va_W → Prop} {pE : String → Prop} (he : W1[0]? = some (b, .inr (2, fs))) (hM : MXI l yX2_drop cX2_drop 4 .int (rmX 8 1) g [.ref b, .int (iZ a1)] W1 post pE) (hpE : ∀ E, pE E → E = eIO) : MH l yL_drop cL_drop 4 [(0, 9, 12, 19)] (rmX 9 1) g cJ [.ref b, .int (iZ a1), .ref o] (W1 ++ [(o, LJ cJ f0)]) (fun z ws9 => (∃ y ws', post y ws' ∧ z = 0 ∧ ∃ f : Nat → Int64, f 0 = (iZ y).toInt64 ∧ ws9 = ws' ++ [(o, LJ cJ f)]) ∨ (pE eIO ∧ z = 1 ∧ ws9 = W1 ++ [(o, LJ cJ f0)])) := by
  refine MH.of (by decide) rfl (Nat.le_of_ble_eq_true rfl) (fun x hx hz hE => ?_)
  refine V_lv (lv' := [(0, .ref b), (1, .int (iZ a1)), (2, .ref o)]) rfl ?_
  refine V_aload_n hx dL_drop_0 2 rfl ?_
  refine V_iconst hx dL_drop_1 ?_
  refine V_aload_n hx dL_drop_2 0 rfl ?_
  refine V_iload_n hx dL_drop_3 1 rfl ?_
  refine V_callXF hx hz hM cw_L_34 ⟨Nat.le_of_ble_eq_true rfl, Nat.le_of_ble_eq_true rfl, Nat.le_of_ble_eq_true rfl, Nat.le_of_ble_eq_true rfl⟩ rfl 0 he rfl rfl (Nat.le_of_ble_eq_true rfl) dL_drop_4 1 6 rfl rfl (fun E hE9 => ?_) (fun y ws' hp => ?_)
  · rcases hpE E hE9 with rfl
    · refine V_catch hx hz (tableOf []) ⟨0, 9, 12, 19⟩ (tableOf []) rfl (fun z hz => nomatch hz) rfl (by decide) q375 q386 (fun q => ?_)
      refine V_astore_n hx dL_drop_12 [(3, .ref q), (0, .ref b), (1, .int (iZ a1)), (2, .ref o)] (by decide) rfl ?_
      refine V_iconst hx dL_drop_13 ?_
      exact hE _ _ _ _ _ _ dL_drop_14 (Nat.le_refl _) (Nat.le_refl _) (Or.inr ⟨hE9, rfl, rfl⟩)
  · refine V_i2l hx dL_drop_7 ?_
    refine V_last hx hz dL_drop_8 (fun f hf => ?_)
    refine V_goto hx dL_drop_9 15 (by decide) ?_
    refine V_iconst hx dL_drop_15 ?_
    exact hE _ _ _ _ _ _ dL_drop_16 (Nat.le_refl _) (Nat.le_refl _) (Or.inl ⟨y, ws', hp, rfl, f, hf, rfl⟩)
set_option maxHeartbeats 4000000 in
set_option maxRecDepth 100000 in
theorem h_pass (l : Launch) {g : GT} {cJ : ClassId} {W1 : va_W} {b o : Nat} {f0 : Nat → Int64} {fs : List Value} {a1 : Int} {post : Int → va_W → Prop} {pE : String → Prop} (he : W1[0]? = some (b, .inr (2, fs))) (hM : MXI l yX2_pass cX2_pass 2 .int (rmX 8 1) g [.ref b, .int (iZ a1)] W1 post pE) (hpE : ∀ E, pE E → E = eIA) : MH l yL_pass cL_pass 4 [(0, 9, 12, 13)] (rmX 9 1) g cJ [.ref b, .int (iZ a1), .ref o] (W1 ++ [(o, LJ cJ f0)]) (fun z ws9 => (∃ y ws', post y ws' ∧ z = 0 ∧ ∃ f : Nat → Int64, f 0 = (iZ y).toInt64 ∧ ws9 = ws' ++ [(o, LJ cJ f)]) ∨ (pE eIA ∧ z = 1 ∧ ws9 = W1 ++ [(o, LJ cJ f0)])) := by
  refine MH.of (by decide) rfl (Nat.le_of_ble_eq_true rfl) (fun x hx hz hE => ?_)
  refine V_lv (lv' := [(0, .ref b), (1, .int (iZ a1)), (2, .ref o)]) rfl ?_
  refine V_aload_n hx dL_pass_0 2 rfl ?_
  refine V_iconst hx dL_pass_1 ?_
  refine V_aload_n hx dL_pass_2 0 rfl ?_
  refine V_iload_n hx dL_pass_3 1 rfl ?_
  refine V_callXF hx hz hM cw_L_37 ⟨Nat.le_of_ble_eq_true rfl, Nat.le_of_ble_eq_true rfl, Nat.le_of_ble_eq_true rfl, Nat.le_of_ble_eq_true rfl⟩ rfl 0 he rfl rfl (Nat.le_of_ble_eq_true rfl) dL_pass_4 1 6 rfl rfl (fun E hE9 => ?_) (fun y ws' hp => ?_)
  · rcases hpE E hE9 with rfl
    · refine V_catch hx hz (tableOf []) ⟨0, 9, 12, 13⟩ (tableOf []) rfl (fun z hz => nomatch hz) rfl (by decide) q295 q302 (fun q => ?_)
      refine V_astore_n hx dL_pass_12 [(3, .ref q), (0, .ref b), (1, .int (iZ a1)), (2, .ref o)] (by decide) rfl ?_
      refine V_iconst hx dL_pass_13 ?_
      exact hE _ _ _ _ _ _ dL_pass_14 (Nat.le_refl _) (Nat.le_refl _) (Or.inr ⟨hE9, rfl, rfl⟩)
  · refine V_i2l hx dL_pass_7 ?_
    refine V_last hx hz dL_pass_8 (fun f hf => ?_)
    refine V_goto hx dL_pass_9 15 (by decide) ?_
    refine V_iconst hx dL_pass_15 ?_
    exact hE _ _ _ _ _ _ dL_pass_16 (Nat.le_refl _) (Nat.le_refl _) (Or.inl ⟨y, ws', hp, rfl, f, hf, rfl⟩)
set_option maxHeartbeats 4000000 in
set_option maxRecDepth 100000 in
theorem h_drawer (l : Launch) {g : GT} {cJ : ClassId} {W1 : va_W} {b o : Nat} {f0 : Nat → Int64} {fs : List Value} {a1 a2 : Int} {post : Int → va_W → Prop} {pE : String → Prop} (he : W1[0]? = some (b, .inr (2, fs))) (hM : MXI l yX2_drawer cX2_drawer 3 .int (rmX 8 2) g [.ref b, .int (iZ a1), .int (iZ a2)] W1 post pE) (hpE : ∀ E, pE E → E = eIO) : MH l yL_drawer cL_drawer 5 [(0, 10, 13, 19)] (rmX 9 2) g cJ [.ref b, .int (iZ a1), .int (iZ a2), .ref o] (W1 ++ [(o, LJ cJ f0)]) (fun z ws9 => (∃ y ws', post y ws' ∧ z = 0 ∧ ∃ f : Nat → Int64, f 0 = (iZ y).toInt64 ∧ ws9 = ws' ++ [(o, LJ cJ f)]) ∨ (pE eIO ∧ z = 1 ∧ ws9 = W1 ++ [(o, LJ cJ f0)])) := by
  refine MH.of (by decide) rfl (Nat.le_of_ble_eq_true rfl) (fun x hx hz hE => ?_)
  refine V_lv (lv' := [(0, .ref b), (1, .int (iZ a1)), (2, .int (iZ a2)), (3, .ref o)]) rfl ?_
  refine V_aload_n hx dL_drawer_0 3 rfl ?_
  refine V_iconst hx dL_drawer_1 ?_
  refine V_aload_n hx dL_drawer_2 0 rfl ?_
  refine V_iload_n hx dL_drawer_3 1 rfl ?_
  refine V_iload_n hx dL_drawer_4 2 rfl ?_
  refine V_callXF hx hz hM cw_L_40 ⟨Nat.le_of_ble_eq_true rfl, Nat.le_of_ble_eq_true rfl, Nat.le_of_ble_eq_true rfl, Nat.le_of_ble_eq_true rfl⟩ rfl 0 he rfl rfl (Nat.le_of_ble_eq_true rfl) dL_drawer_5 2 12 rfl rfl (fun E hE9 => ?_) (fun y ws' hp => ?_)
  · rcases hpE E hE9 with rfl
    · refine V_catch hx hz (tableOf []) ⟨0, 10, 13, 19⟩ (tableOf []) rfl (fun z hz => nomatch hz) rfl (by decide) q375 q386 (fun q => ?_)
      refine V_astore hx dL_drawer_13 [(4, .ref q), (0, .ref b), (1, .int (iZ a1)), (2, .int (iZ a2)), (3, .ref o)] (by decide) rfl ?_
      refine V_iconst hx dL_drawer_15 ?_
      exact hE _ _ _ _ _ _ dL_drawer_16 (Nat.le_refl _) (Nat.le_refl _) (Or.inr ⟨hE9, rfl, rfl⟩)
  · refine V_i2l hx dL_drawer_8 ?_
    refine V_last hx hz dL_drawer_9 (fun f hf => ?_)
    refine V_goto hx dL_drawer_10 17 (by decide) ?_
    refine V_iconst hx dL_drawer_17 ?_
    exact hE _ _ _ _ _ _ dL_drawer_18 (Nat.le_refl _) (Nat.le_refl _) (Or.inl ⟨y, ws', hp, rfl, f, hf, rfl⟩)
set_option maxHeartbeats 4000000 in
set_option maxRecDepth 100000 in
theorem h_told (l : Launch) {g : GT} {cJ : ClassId} {W1 : va_W} {b o : Nat} {f0 : Nat → Int64} {fs : List Value} {a1 a2 : Int} {post : Int → va_W → Prop} {pE : String → Prop} (he : W1[0]? = some (b, .inr (2, fs))) (hM : MXI l yX2_told cX2_told 3 .int (rmX 8 2) g [.ref b, .int (iZ a1), .int (iZ a2)] W1 post pE) (hpE : ∀ E, pE E → E = eIO) : MH l yL_told cL_told 5 [(0, 10, 13, 19)] (rmX 9 2) g cJ [.ref b, .int (iZ a1), .int (iZ a2), .ref o] (W1 ++ [(o, LJ cJ f0)]) (fun z ws9 => (∃ y ws', post y ws' ∧ z = 0 ∧ ∃ f : Nat → Int64, f 0 = (iZ y).toInt64 ∧ ws9 = ws' ++ [(o, LJ cJ f)]) ∨ (pE eIO ∧ z = 1 ∧ ws9 = W1 ++ [(o, LJ cJ f0)])) := by
  refine MH.of (by decide) rfl (Nat.le_of_ble_eq_true rfl) (fun x hx hz hE => ?_)
  refine V_lv (lv' := [(0, .ref b), (1, .int (iZ a1)), (2, .int (iZ a2)), (3, .ref o)]) rfl ?_
  refine V_aload_n hx dL_told_0 3 rfl ?_
  refine V_iconst hx dL_told_1 ?_
  refine V_aload_n hx dL_told_2 0 rfl ?_
  refine V_iload_n hx dL_told_3 1 rfl ?_
  refine V_iload_n hx dL_told_4 2 rfl ?_
  refine V_callXF hx hz hM cw_L_43 ⟨Nat.le_of_ble_eq_true rfl, Nat.le_of_ble_eq_true rfl, Nat.le_of_ble_eq_true rfl, Nat.le_of_ble_eq_true rfl⟩ rfl 0 he rfl rfl (Nat.le_of_ble_eq_true rfl) dL_told_5 2 12 rfl rfl (fun E hE9 => ?_) (fun y ws' hp => ?_)
  · rcases hpE E hE9 with rfl
    · refine V_catch hx hz (tableOf []) ⟨0, 10, 13, 19⟩ (tableOf []) rfl (fun z hz => nomatch hz) rfl (by decide) q375 q386 (fun q => ?_)
      refine V_astore hx dL_told_13 [(4, .ref q), (0, .ref b), (1, .int (iZ a1)), (2, .int (iZ a2)), (3, .ref o)] (by decide) rfl ?_
      refine V_iconst hx dL_told_15 ?_
      exact hE _ _ _ _ _ _ dL_told_16 (Nat.le_refl _) (Nat.le_refl _) (Or.inr ⟨hE9, rfl, rfl⟩)
  · refine V_i2l hx dL_told_8 ?_
    refine V_last hx hz dL_told_9 (fun f hf => ?_)
    refine V_goto hx dL_told_10 17 (by decide) ?_
    refine V_iconst hx dL_told_17 ?_
    exact hE _ _ _ _ _ _ dL_told_18 (Nat.le_refl _) (Nat.le_refl _) (Or.inl ⟨y, ws', hp, rfl, f, hf, rfl⟩)
set_option maxHeartbeats 4000000 in
set_option maxRecDepth 100000 in
theorem h_slip (l : Launch) {g : GT} {cJ : ClassId} {W1 : va_W} {b o : Nat} {f0 : Nat → Int64} {fs : List Value} {a1 a2 a3 : Int} {post : Int → va_W → Prop} {pE : String → Prop} (he : W1[0]? = some (b, .inr (2, fs))) (hM : MXI l yX2_slip cX2_slip 4 .int (rmX 8 3) g [.ref b, .int (iZ a1), .int (iZ a2), .int (iZ a3)] W1 post pE) (hpE : ∀ E, pE E → E = eIO) : MH l yL_slip cL_slip 6 [(0, 12, 15, 19)] (rmX 9 3) g cJ [.ref b, .int (iZ a1), .int (iZ a2), .int (iZ a3), .ref o] (W1 ++ [(o, LJ cJ f0)]) (fun z ws9 => (∃ y ws', post y ws' ∧ z = 0 ∧ ∃ f : Nat → Int64, f 0 = (iZ y).toInt64 ∧ ws9 = ws' ++ [(o, LJ cJ f)]) ∨ (pE eIO ∧ z = 1 ∧ ws9 = W1 ++ [(o, LJ cJ f0)])) := by
  refine MH.of (by decide) rfl (Nat.le_of_ble_eq_true rfl) (fun x hx hz hE => ?_)
  refine V_lv (lv' := [(0, .ref b), (1, .int (iZ a1)), (2, .int (iZ a2)), (3, .int (iZ a3)), (4, .ref o)]) rfl ?_
  refine V_aload hx dL_slip_0 4 rfl ?_
  refine V_iconst hx dL_slip_2 ?_
  refine V_aload_n hx dL_slip_3 0 rfl ?_
  refine V_iload_n hx dL_slip_4 1 rfl ?_
  refine V_iload_n hx dL_slip_5 2 rfl ?_
  refine V_iload_n hx dL_slip_6 3 rfl ?_
  refine V_callXF hx hz hM cw_L_46 ⟨Nat.le_of_ble_eq_true rfl, Nat.le_of_ble_eq_true rfl, Nat.le_of_ble_eq_true rfl, Nat.le_of_ble_eq_true rfl⟩ rfl 0 he rfl rfl (Nat.le_of_ble_eq_true rfl) dL_slip_7 3 18 rfl rfl (fun E hE9 => ?_) (fun y ws' hp => ?_)
  · rcases hpE E hE9 with rfl
    · refine V_catch hx hz (tableOf []) ⟨0, 12, 15, 19⟩ (tableOf []) rfl (fun z hz => nomatch hz) rfl (by decide) q375 q386 (fun q => ?_)
      refine V_astore hx dL_slip_15 [(5, .ref q), (0, .ref b), (1, .int (iZ a1)), (2, .int (iZ a2)), (3, .int (iZ a3)), (4, .ref o)] (by decide) rfl ?_
      refine V_iconst hx dL_slip_17 ?_
      exact hE _ _ _ _ _ _ dL_slip_18 (Nat.le_refl _) (Nat.le_refl _) (Or.inr ⟨hE9, rfl, rfl⟩)
  · refine V_i2l hx dL_slip_10 ?_
    refine V_last hx hz dL_slip_11 (fun f hf => ?_)
    refine V_goto hx dL_slip_12 19 (by decide) ?_
    refine V_iconst hx dL_slip_19 ?_
    exact hE _ _ _ _ _ _ dL_slip_20 (Nat.le_refl _) (Nat.le_refl _) (Or.inl ⟨y, ws', hp, rfl, f, hf, rfl⟩)
set_option maxHeartbeats 4000000 in
set_option maxRecDepth 100000 in
theorem h_step (l : Launch) {g : GT} {cJ : ClassId} {W1 : va_W} {b o : Nat} {f0 : Nat → Int64} {fs : List Value} {a1 a2 a3 : Int} {post : Int → va_W → Prop} {pE : String → Prop} (he : W1[0]? = some (b, .inr (2, fs))) (hM : MXI l yX2_step cX2_step 5 .int (rmX 8 3) g [.ref b, .int (iZ a1), .int (iZ a2), .int (iZ a3)] W1 post pE) (hpE : ∀ E, pE E → E = eIO) : MH l yL_step cL_step 6 [(0, 12, 15, 19)] (rmX 9 3) g cJ [.ref b, .int (iZ a1), .int (iZ a2), .int (iZ a3), .ref o] (W1 ++ [(o, LJ cJ f0)]) (fun z ws9 => (∃ y ws', post y ws' ∧ z = 0 ∧ ∃ f : Nat → Int64, f 0 = (iZ y).toInt64 ∧ ws9 = ws' ++ [(o, LJ cJ f)]) ∨ (pE eIO ∧ z = 1 ∧ ws9 = W1 ++ [(o, LJ cJ f0)])) := by
  refine MH.of (by decide) rfl (Nat.le_of_ble_eq_true rfl) (fun x hx hz hE => ?_)
  refine V_lv (lv' := [(0, .ref b), (1, .int (iZ a1)), (2, .int (iZ a2)), (3, .int (iZ a3)), (4, .ref o)]) rfl ?_
  refine V_aload hx dL_step_0 4 rfl ?_
  refine V_iconst hx dL_step_2 ?_
  refine V_aload_n hx dL_step_3 0 rfl ?_
  refine V_iload_n hx dL_step_4 1 rfl ?_
  refine V_iload_n hx dL_step_5 2 rfl ?_
  refine V_iload_n hx dL_step_6 3 rfl ?_
  refine V_callXF hx hz hM cw_L_50 ⟨Nat.le_of_ble_eq_true rfl, Nat.le_of_ble_eq_true rfl, Nat.le_of_ble_eq_true rfl, Nat.le_of_ble_eq_true rfl⟩ rfl 0 he rfl rfl (Nat.le_of_ble_eq_true rfl) dL_step_7 3 18 rfl rfl (fun E hE9 => ?_) (fun y ws' hp => ?_)
  · rcases hpE E hE9 with rfl
    · refine V_catch hx hz (tableOf []) ⟨0, 12, 15, 19⟩ (tableOf []) rfl (fun z hz => nomatch hz) rfl (by decide) q375 q386 (fun q => ?_)
      refine V_astore hx dL_step_15 [(5, .ref q), (0, .ref b), (1, .int (iZ a1)), (2, .int (iZ a2)), (3, .int (iZ a3)), (4, .ref o)] (by decide) rfl ?_
      refine V_iconst hx dL_step_17 ?_
      exact hE _ _ _ _ _ _ dL_step_18 (Nat.le_refl _) (Nat.le_refl _) (Or.inr ⟨hE9, rfl, rfl⟩)
  · refine V_i2l hx dL_step_10 ?_
    refine V_last hx hz dL_step_11 (fun f hf => ?_)
    refine V_goto hx dL_step_12 19 (by decide) ?_
    refine V_iconst hx dL_step_19 ?_
    exact hE _ _ _ _ _ _ dL_step_20 (Nat.le_refl _) (Nat.le_refl _) (Or.inl ⟨y, ws', hp, rfl, f, hf, rfl⟩)
set_option maxHeartbeats 4000000 in
set_option maxRecDepth 100000 in
theorem h_closing (l : Launch) {g : GT} {cJ : ClassId} {W1 : va_W} {b o : Nat} {f0 : Nat → Int64} {fs : List Value} {a1 a2 : Int} {post : Int → va_W → Prop} {pE : String → Prop} (he : W1[0]? = some (b, .inr (2, fs))) (hM : MXI l yX2_closing cX2_closing 3 .int (rmX 8 2) g [.ref b, .int (iZ a1), .int (iZ a2)] W1 post pE) (hpE : ∀ E, pE E → E = eIO) : MH l yL_closing cL_closing 5 [(0, 10, 13, 19)] (rmX 9 2) g cJ [.ref b, .int (iZ a1), .int (iZ a2), .ref o] (W1 ++ [(o, LJ cJ f0)]) (fun z ws9 => (∃ y ws', post y ws' ∧ z = 0 ∧ ∃ f : Nat → Int64, f 0 = (iZ y).toInt64 ∧ ws9 = ws' ++ [(o, LJ cJ f)]) ∨ (pE eIO ∧ z = 1 ∧ ws9 = W1 ++ [(o, LJ cJ f0)])) := by
  refine MH.of (by decide) rfl (Nat.le_of_ble_eq_true rfl) (fun x hx hz hE => ?_)
  refine V_lv (lv' := [(0, .ref b), (1, .int (iZ a1)), (2, .int (iZ a2)), (3, .ref o)]) rfl ?_
  refine V_aload_n hx dL_closing_0 3 rfl ?_
  refine V_iconst hx dL_closing_1 ?_
  refine V_aload_n hx dL_closing_2 0 rfl ?_
  refine V_iload_n hx dL_closing_3 1 rfl ?_
  refine V_iload_n hx dL_closing_4 2 rfl ?_
  refine V_callXF hx hz hM cw_L_53 ⟨Nat.le_of_ble_eq_true rfl, Nat.le_of_ble_eq_true rfl, Nat.le_of_ble_eq_true rfl, Nat.le_of_ble_eq_true rfl⟩ rfl 0 he rfl rfl (Nat.le_of_ble_eq_true rfl) dL_closing_5 2 12 rfl rfl (fun E hE9 => ?_) (fun y ws' hp => ?_)
  · rcases hpE E hE9 with rfl
    · refine V_catch hx hz (tableOf []) ⟨0, 10, 13, 19⟩ (tableOf []) rfl (fun z hz => nomatch hz) rfl (by decide) q375 q386 (fun q => ?_)
      refine V_astore hx dL_closing_13 [(4, .ref q), (0, .ref b), (1, .int (iZ a1)), (2, .int (iZ a2)), (3, .ref o)] (by decide) rfl ?_
      refine V_iconst hx dL_closing_15 ?_
      exact hE _ _ _ _ _ _ dL_closing_16 (Nat.le_refl _) (Nat.le_refl _) (Or.inr ⟨hE9, rfl, rfl⟩)
  · refine V_i2l hx dL_closing_8 ?_
    refine V_last hx hz dL_closing_9 (fun f hf => ?_)
    refine V_goto hx dL_closing_10 17 (by decide) ?_
    refine V_iconst hx dL_closing_17 ?_
    exact hE _ _ _ _ _ _ dL_closing_18 (Nat.le_refl _) (Nat.le_refl _) (Or.inl ⟨y, ws', hp, rfl, f, hf, rfl⟩)
set_option maxHeartbeats 4000000 in
set_option maxRecDepth 100000 in
theorem h_clash (l : Launch) {g : GT} {cJ : ClassId} {W1 : va_W} {b o : Nat} {f0 : Nat → Int64} {fs : List Value} {a1 a2 : Int} {post : Int → va_W → Prop} {pE : String → Prop} (he : W1[0]? = some (b, .inr (2, fs))) (h01 : ∀ y ws', post y ws' → y = 0 ∨ y = 1) (hM : MXI l yX2_clash cX2_clash 3 .boolean (rmX 8 2) g [.ref b, .int (iZ a1), .int (iZ a2)] W1 post pE) (hpE : ∀ E, pE E → E = eIO) : MH l yL_clash cL_clash 5 [(0, 17, 20, 19)] (rmX 9 2) g cJ [.ref b, .int (iZ a1), .int (iZ a2), .ref o] (W1 ++ [(o, LJ cJ f0)]) (fun z ws9 => (∃ y ws', post y ws' ∧ z = 0 ∧ ∃ f : Nat → Int64, f 0 = (iZ y).toInt64 ∧ ws9 = ws' ++ [(o, LJ cJ f)]) ∨ (pE eIO ∧ z = 1 ∧ ws9 = W1 ++ [(o, LJ cJ f0)])) := by
  refine MH.of (by decide) rfl (Nat.le_of_ble_eq_true rfl) (fun x hx hz hE => ?_)
  refine V_lv (lv' := [(0, .ref b), (1, .int (iZ a1)), (2, .int (iZ a2)), (3, .ref o)]) rfl ?_
  refine V_aload_n hx dL_clash_0 3 rfl ?_
  refine V_iconst hx dL_clash_1 ?_
  refine V_aload_n hx dL_clash_2 0 rfl ?_
  refine V_iload_n hx dL_clash_3 1 rfl ?_
  refine V_iload_n hx dL_clash_4 2 rfl ?_
  refine V_callXF hx hz hM cw_L_56 ⟨Nat.le_of_ble_eq_true rfl, Nat.le_of_ble_eq_true rfl, Nat.le_of_ble_eq_true rfl, Nat.le_of_ble_eq_true rfl⟩ rfl 0 he rfl rfl (Nat.le_of_ble_eq_true rfl) dL_clash_5 2 12 rfl rfl (fun E hE9 => ?_) (fun y ws' hp => ?_)
  · rcases hpE E hE9 with rfl
    · refine V_catch hx hz (tableOf []) ⟨0, 17, 20, 19⟩ (tableOf []) rfl (fun z hz => nomatch hz) rfl (by decide) q375 q386 (fun q => ?_)
      refine V_astore hx dL_clash_20 [(4, .ref q), (0, .ref b), (1, .int (iZ a1)), (2, .int (iZ a2)), (3, .ref o)] (by decide) rfl ?_
      refine V_iconst hx dL_clash_22 ?_
      exact hE _ _ _ _ _ _ dL_clash_23 (Nat.le_refl _) (Nat.le_refl _) (Or.inr ⟨hE9, rfl, rfl⟩)
  · rcases h01 y ws' hp with h9 | h9
    · subst h9
      refine V_if_eq hx dL_clash_8 15 (by decide) ⟨by decide, by decide⟩ (fun _ => ?_) (fun h9 => absurd rfl h9)
      refine V_lconst hx dL_clash_15 (v := (iZ 0).toInt64) rfl ?_
      refine V_last hx hz dL_clash_16 (fun f hf => ?_)
      refine V_goto hx dL_clash_17 24 (by decide) ?_
      refine V_iconst hx dL_clash_24 ?_
      exact hE _ _ _ _ _ _ dL_clash_25 (Nat.le_refl _) (Nat.le_refl _) (Or.inl ⟨0, ws', hp, rfl, f, hf, rfl⟩)
    · subst h9
      refine V_if_eq hx dL_clash_8 15 (by decide) ⟨by decide, by decide⟩ (fun h9 => absurd h9 (by decide)) (fun _ => ?_)
      refine V_lconst hx dL_clash_11 (v := (iZ 1).toInt64) rfl ?_
      refine V_goto hx dL_clash_12 16 (by decide) ?_
      refine V_last hx hz dL_clash_16 (fun f hf => ?_)
      refine V_goto hx dL_clash_17 24 (by decide) ?_
      refine V_iconst hx dL_clash_24 ?_
      exact hE _ _ _ _ _ _ dL_clash_25 (Nat.le_refl _) (Nat.le_refl _) (Or.inl ⟨1, ws', hp, rfl, f, hf, rfl⟩)
set_option maxHeartbeats 4000000 in
set_option maxRecDepth 100000 in
theorem h_count (l : Launch) {g : GT} {cJ : ClassId} {W1 : va_W} {b o : Nat} {f0 : Nat → Int64} {fs : List Value} {a1 : Int} {post : Int → va_W → Prop} {pE : String → Prop} (he : W1[0]? = some (b, .inr (2, fs))) (hM : MXI l yX2_count cX2_count 2 .int (rmX 8 1) g [.ref b, .int (iZ a1)] W1 post pE) (hpE : ∀ E, pE E → E = eIO) : MH l yL_count cL_count 4 [(0, 9, 12, 19)] (rmX 9 1) g cJ [.ref b, .int (iZ a1), .ref o] (W1 ++ [(o, LJ cJ f0)]) (fun z ws9 => (∃ y ws', post y ws' ∧ z = 0 ∧ ∃ f : Nat → Int64, f 0 = (iZ y).toInt64 ∧ ws9 = ws' ++ [(o, LJ cJ f)]) ∨ (pE eIO ∧ z = 1 ∧ ws9 = W1 ++ [(o, LJ cJ f0)])) := by
  refine MH.of (by decide) rfl (Nat.le_of_ble_eq_true rfl) (fun x hx hz hE => ?_)
  refine V_lv (lv' := [(0, .ref b), (1, .int (iZ a1)), (2, .ref o)]) rfl ?_
  refine V_aload_n hx dL_count_0 2 rfl ?_
  refine V_iconst hx dL_count_1 ?_
  refine V_aload_n hx dL_count_2 0 rfl ?_
  refine V_iload_n hx dL_count_3 1 rfl ?_
  refine V_callXF hx hz hM cw_L_60 ⟨Nat.le_of_ble_eq_true rfl, Nat.le_of_ble_eq_true rfl, Nat.le_of_ble_eq_true rfl, Nat.le_of_ble_eq_true rfl⟩ rfl 0 he rfl rfl (Nat.le_of_ble_eq_true rfl) dL_count_4 1 6 rfl rfl (fun E hE9 => ?_) (fun y ws' hp => ?_)
  · rcases hpE E hE9 with rfl
    · refine V_catch hx hz (tableOf []) ⟨0, 9, 12, 19⟩ (tableOf []) rfl (fun z hz => nomatch hz) rfl (by decide) q375 q386 (fun q => ?_)
      refine V_astore_n hx dL_count_12 [(3, .ref q), (0, .ref b), (1, .int (iZ a1)), (2, .ref o)] (by decide) rfl ?_
      refine V_iconst hx dL_count_13 ?_
      exact hE _ _ _ _ _ _ dL_count_14 (Nat.le_refl _) (Nat.le_refl _) (Or.inr ⟨hE9, rfl, rfl⟩)
  · refine V_i2l hx dL_count_7 ?_
    refine V_last hx hz dL_count_8 (fun f hf => ?_)
    refine V_goto hx dL_count_9 15 (by decide) ?_
    refine V_iconst hx dL_count_15 ?_
    exact hE _ _ _ _ _ _ dL_count_16 (Nat.le_refl _) (Nat.le_refl _) (Or.inl ⟨y, ws', hp, rfl, f, hf, rfl⟩)
set_option maxHeartbeats 4000000 in
set_option maxRecDepth 100000 in
theorem h_alone (l : Launch) {g : GT} {cJ : ClassId} {W1 : va_W} {b o : Nat} {f0 : Nat → Int64} {fs : List Value} {a1 a2 : Int} {post : Int → va_W → Prop} {pE : String → Prop} (he : W1[0]? = some (b, .inr (2, fs))) (hM : MXI l yX2_alone cX2_alone 3 .int (rmX 8 2) g [.ref b, .int (iZ a1), .int (iZ a2)] W1 post pE) (hpE : ∀ E, pE E → E = eIO) : MH l yL_alone cL_alone 5 [(0, 10, 13, 19)] (rmX 9 2) g cJ [.ref b, .int (iZ a1), .int (iZ a2), .ref o] (W1 ++ [(o, LJ cJ f0)]) (fun z ws9 => (∃ y ws', post y ws' ∧ z = 0 ∧ ∃ f : Nat → Int64, f 0 = (iZ y).toInt64 ∧ ws9 = ws' ++ [(o, LJ cJ f)]) ∨ (pE eIO ∧ z = 1 ∧ ws9 = W1 ++ [(o, LJ cJ f0)])) := by
  refine MH.of (by decide) rfl (Nat.le_of_ble_eq_true rfl) (fun x hx hz hE => ?_)
  refine V_lv (lv' := [(0, .ref b), (1, .int (iZ a1)), (2, .int (iZ a2)), (3, .ref o)]) rfl ?_
  refine V_aload_n hx dL_alone_0 3 rfl ?_
  refine V_iconst hx dL_alone_1 ?_
  refine V_aload_n hx dL_alone_2 0 rfl ?_
  refine V_iload_n hx dL_alone_3 1 rfl ?_
  refine V_iload_n hx dL_alone_4 2 rfl ?_
  refine V_callXF hx hz hM cw_L_63 ⟨Nat.le_of_ble_eq_true rfl, Nat.le_of_ble_eq_true rfl, Nat.le_of_ble_eq_true rfl, Nat.le_of_ble_eq_true rfl⟩ rfl 0 he rfl rfl (Nat.le_of_ble_eq_true rfl) dL_alone_5 2 12 rfl rfl (fun E hE9 => ?_) (fun y ws' hp => ?_)
  · rcases hpE E hE9 with rfl
    · refine V_catch hx hz (tableOf []) ⟨0, 10, 13, 19⟩ (tableOf []) rfl (fun z hz => nomatch hz) rfl (by decide) q375 q386 (fun q => ?_)
      refine V_astore hx dL_alone_13 [(4, .ref q), (0, .ref b), (1, .int (iZ a1)), (2, .int (iZ a2)), (3, .ref o)] (by decide) rfl ?_
      refine V_iconst hx dL_alone_15 ?_
      exact hE _ _ _ _ _ _ dL_alone_16 (Nat.le_refl _) (Nat.le_refl _) (Or.inr ⟨hE9, rfl, rfl⟩)
  · refine V_i2l hx dL_alone_8 ?_
    refine V_last hx hz dL_alone_9 (fun f hf => ?_)
    refine V_goto hx dL_alone_10 17 (by decide) ?_
    refine V_iconst hx dL_alone_17 ?_
    exact hE _ _ _ _ _ _ dL_alone_18 (Nat.le_refl _) (Nat.le_refl _) (Or.inl ⟨y, ws', hp, rfl, f, hf, rfl⟩)
set_option maxHeartbeats 4000000 in
set_option maxRecDepth 100000 in
theorem h_foresee (l : Launch) {g : GT} {cJ : ClassId} {W1 : va_W} {b o : Nat} {f0 : Nat → Int64} {fs : List Value} {a1 a2 : Int} {post : Int → va_W → Prop} {pE : String → Prop} (he : W1[0]? = some (b, .inr (2, fs))) (hM : MXI l yX2_foresee cX2_foresee 3 .int (rmX 8 2) g [.ref b, .int (iZ a1), .int (iZ a2)] W1 post pE) (hpE : ∀ E, pE E → E = eIA ∨ E = eIO) : MH l yL_foresee cL_foresee 5 [(0, 10, 13, 13), (0, 10, 17, 19)] (rmX 9 2) g cJ [.ref b, .int (iZ a1), .int (iZ a2), .ref o] (W1 ++ [(o, LJ cJ f0)]) (fun z ws9 => (∃ y ws', post y ws' ∧ z = 0 ∧ ∃ f : Nat → Int64, f 0 = (iZ y).toInt64 ∧ ws9 = ws' ++ [(o, LJ cJ f)]) ∨ (pE eIA ∧ z = 1 ∧ ws9 = W1 ++ [(o, LJ cJ f0)]) ∨ (pE eIO ∧ z = 2 ∧ ws9 = W1 ++ [(o, LJ cJ f0)])) := by
  refine MH.of (by decide) rfl (Nat.le_of_ble_eq_true rfl) (fun x hx hz hE => ?_)
  refine V_lv (lv' := [(0, .ref b), (1, .int (iZ a1)), (2, .int (iZ a2)), (3, .ref o)]) rfl ?_
  refine V_aload_n hx dL_foresee_0 3 rfl ?_
  refine V_iconst hx dL_foresee_1 ?_
  refine V_aload_n hx dL_foresee_2 0 rfl ?_
  refine V_iload_n hx dL_foresee_3 1 rfl ?_
  refine V_iload_n hx dL_foresee_4 2 rfl ?_
  refine V_callXF hx hz hM cw_L_66 ⟨Nat.le_of_ble_eq_true rfl, Nat.le_of_ble_eq_true rfl, Nat.le_of_ble_eq_true rfl, Nat.le_of_ble_eq_true rfl⟩ rfl 0 he rfl rfl (Nat.le_of_ble_eq_true rfl) dL_foresee_5 2 12 rfl rfl (fun E hE9 => ?_) (fun y ws' hp => ?_)
  · rcases hpE E hE9 with rfl | rfl
    · refine V_catch hx hz (tableOf []) ⟨0, 10, 13, 13⟩ (tableOf [(0, 10, 17, 19)]) rfl (fun z hz => nomatch hz) rfl (by decide) q295 q302 (fun q => ?_)
      refine V_astore hx dL_foresee_13 [(4, .ref q), (0, .ref b), (1, .int (iZ a1)), (2, .int (iZ a2)), (3, .ref o)] (by decide) rfl ?_
      refine V_iconst hx dL_foresee_15 ?_
      exact hE _ _ _ _ _ _ dL_foresee_16 (Nat.le_refl _) (Nat.le_refl _) (Or.inr (Or.inl ⟨hE9, rfl, rfl⟩))
    · refine V_catch hx hz (tableOf [(0, 10, 13, 13)]) ⟨0, 10, 17, 19⟩ (tableOf []) rfl (List.forall_mem_cons.mpr ⟨⟨by decide, _, q295, by first | exact Or.inl ⟨rfl, rfl⟩ | exact Or.inr (Or.inl ⟨rfl, rfl⟩) | exact Or.inr (Or.inr (Or.inl ⟨rfl, rfl⟩)) | exact Or.inr (Or.inr (Or.inr ⟨rfl, rfl⟩))⟩, fun z hz => nomatch hz⟩) rfl (by decide) q375 q386 (fun q => ?_)
      refine V_astore hx dL_foresee_17 [(4, .ref q), (0, .ref b), (1, .int (iZ a1)), (2, .int (iZ a2)), (3, .ref o)] (by decide) rfl ?_
      refine V_iconst hx dL_foresee_19 ?_
      exact hE _ _ _ _ _ _ dL_foresee_20 (Nat.le_refl _) (Nat.le_refl _) (Or.inr (Or.inr ⟨hE9, rfl, rfl⟩))
  · refine V_i2l hx dL_foresee_8 ?_
    refine V_last hx hz dL_foresee_9 (fun f hf => ?_)
    refine V_goto hx dL_foresee_10 21 (by decide) ?_
    refine V_iconst hx dL_foresee_21 ?_
    exact hE _ _ _ _ _ _ dL_foresee_22 (Nat.le_refl _) (Nat.le_refl _) (Or.inl ⟨y, ws', hp, rfl, f, hf, rfl⟩)
