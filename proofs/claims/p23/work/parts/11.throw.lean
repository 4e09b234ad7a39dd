/-! throwing: the class's methods that may throw leave the world as it was -/
def xstrs : List (Nat × String) := [(181, "no such clerk"), (98, "the clerk is done or has no steps"), (179, "no such drawer"), (183, "no such number to choose by"), (134, "no such closing"), (185, "rounds are 1 to 50"), (125, "no such step"), (21, "a till has 1 to 8 drawers"), (37, "an amount is 0 to 9999"), (52, "there are 6 clerks"), (70, "the number or the drawers do not fit the kind"), (88, "the program takes no step")]
def xnames : List String := ["java/lang/RuntimeException", "java/lang/Exception"]
def TX9 (A : Nat → Prop) (U : State) (H : Heap) : Prop := vx_Zq Bundle.tN "UNASSIGNED_STACK" Bundle.steD A U H ∧ vx_Zq Bundle.tN "SUPPRESSED_SENTINEL" Bundle.listD A U H ∧ ∀ q ∈ xstrs, ∃ sa, vk_R RX2 q.1 q.2 sa U
theorem TX9.go {A B : Nat → Prop} {s U : State} {H0 H : Heap} (h : TX9 A s H0) (hq : ∀ a : Nat, a < H0.size → ¬ A a → H[a]? = H0[a]?) (hW : s.WarmedH U.vm) (hAB : ∀ q, B q → A q) : TX9 B U H :=
  ⟨((h.1.kept hq).moved hW.alike).narrow hAB, ((h.2.1.kept hq).moved hW.alike).narrow hAB, fun q hq9 => (h.2.2 q hq9).elim (fun sa h9 => ⟨sa, vk_R.warm hW h9⟩)⟩
def K0X (g : GT) (as : List Value) (sz : Nat) (ws : va_W) : Array Value → State → Prop := va_Pc as (fun U => U.heap.size = sz ∧ TB U ∧ va_P g.1 vwCl ws U.heap ∧ va_K g.1 vwCl (tyl g) U ∧ va_D (fun _ => True) ws ∧ TX9 (va_A ws sz) U U.heap)
def XP (g : GT) (ws : va_W) (sz : Nat) (pE : String → Prop) : String → State → State → Prop := vx_X (fun (_ : Unit) => True) (fun E _ t => pE E ∧ va_P g.1 vwCl ws t.heap ∧ va_D (va_A ws sz) ws) (va_A ws sz)
def MXI (l : Launch) (y : MethodName) (cc : ByteArray) (maxL : Nat) (ty : FieldType) (rm : Room) (g : GT) (as : List Value) (ws : va_W) (post : Int → va_W → Prop) (pE : String → Prop) : Prop :=
  ∀ sz, vx_Met l y [.code y cc maxL (some ty)] rm (K0X g as sz ws) (va_Qi (fun r ws' => ∃ z, r = iZ z ∧ post z ws') (KB g ws sz) (va_A ws sz)) (XP g ws sz pE) rm.cells rm.slots (va_A ws sz)
def MXV (l : Launch) (y : MethodName) (cc : ByteArray) (maxL : Nat) (rm : Room) (g : GT) (as : List Value) (ws : va_W) (post : va_W → Prop) (pE : String → Prop) : Prop :=
  ∀ sz, vx_Met l y [.code y cc maxL none] rm (K0X g as sz ws) (va_Qv post (KB g ws sz) (va_A ws sz)) (XP g ws sz pE) rm.cells rm.slots (va_A ws sz)
theorem K0X_blind {g : GT} {as : List Value} {sz : Nat} {ws : va_W} : FrameBlind (K0X g as sz ws) := by
  intro a U gg mk h
  obtain ⟨h1, h2, h3, h4, h5, h6, h7⟩ := h
  refine ⟨h1, h2, TB.same (s := U) (U := U.calling gg mk a) rfl h3, h4, va_K.moved (u := U) (U := U.calling gg mk a) (Vm.Alike.refl U.vm) h5, h6, ?_⟩
  exact h7.go (U := U.calling gg mk a) (fun _ _ _ => rfl) (State.WarmedH.refl U) (fun _ h => h)
/-- the words of a throw -/
def KT (ik ic is : Nat) (cls text : String) : Prop := Bundle.fit cls = true ∧ Cond.classLink RX2 ik cls ∈ tbl ∧ Cond.initialized cls ∈ tbl ∧ (∀ w ∈ vx_atS RX2 ic cls xnames, w ∈ tbl) ∧ (∀ w ∈ Cond.classLink RX2 ik cls :: Cond.initialized cls :: vx_atS RX2 ic cls xnames, vx_ot w = true) ∧ (is, text) ∈ xstrs
/-- where a throw ends a method: the world is the one that it began with -/
def TE (x : CT) (cc : ByteArray) (R : Room) (ws : va_W) (pE : String → Prop) : Prop :=
  ∀ (pc k n ik ic is : Nat) (lv : List (Nat × Value)) (st : List Value) (cls text : String), KT ik ic is cls text → decode cc pc = .ok (.new ik, 3) → decode cc (pc + 3) = .ok (.dup, 1) → decode cc (pc + 4) = .ok (.ldc is, 2) → decode cc (pc + 6) = .ok (.invokespecial ic, 3) → decode cc (pc + 9) = .ok (.athrow, 1) →
    5 < R.frames → (st.map fun v => v.category).sum + 82 ≤ R.locals → k + 1 ≤ R.cells → n + 6 ≤ R.slots → pE cls → V x k n ws pc lv st
def VX (x : CT) (k n : Nat) (ws : va_W) (pc : Nat) (lv : List (Nat × Value)) (st : List Value) (E : String) : Prop := match x with
  | (p, l, e, R, s, m, args, below, meth, c, g, nL, A, H0, Q) => ∀ (H : Heap) (locs : List Loc) (ls : Array Slot) (q : Addr) (ce : Cell), va_P g.1 vwCl ws H → va_D A ws → va_S A H0 H locs → lv_has ls nL lv → H[q]? = some ce → ce.vm = .none → s.vm.findClass E = some ce.cls →
      vx_W p l e R s m args below meth c H locs k n Q (F0 m pc ls st) q
def PX (x : CT) (R : Room) (ws : va_W) (pE : String → Prop) : Prop := ∀ (pc k n : Nat) (lv : List (Nat × Value)) (st : List Value) (E : String), k ≤ R.cells → n ≤ R.slots → pE E → VX x k n ws pc lv st E
def FZ (x : CT) : Prop := match x with
  | (_, _, _, _, s, _, _, _, _, _, _, _, A, H0, _) => H0 = s.heap ∧ TX9 A s H0
theorem TE_of {p : Program} {l : Launch} {e : Env} {R : Room} {s : State} {m : MethodId} {args : Array Value} {below : List Frame} {meth : Method} {c : Code} {g : GT} {nL : Nat} {cc : ByteArray} {ws : va_W} {pE : String → Prop} {Qc : Array Value → State → Outcome → State → Prop} (hl : l.stackTraces = false)
    (hx : FX (p, l, e, R, s, m, args, below, meth, c, g, nL, va_A ws s.heap.size, s.heap, vx_MQ below Qc (XP g ws s.heap.size pE) args s R.cells R.slots (va_A ws s.heap.size)) l R g nL cc RX2) (hz : TX9 (va_A ws s.heap.size) s s.heap) (ht : ∀ x ∈ c.exceptionTable.toList, False) :
    TE (p, l, e, R, s, m, args, below, meth, c, g, nL, va_A ws s.heap.size, s.heap, vx_MQ below Qc (XP g ws s.heap.size pE) args s R.cells R.slots (va_A ws s.heap.size)) cc R ws pE := by
  obtain ⟨-, -, -, -, hx, hb, hml, hown, hts, hK, hlk, hA⟩ := hx
  intro pc k n ik ic is lv st cls text kt d0 d3 d4 d6 d9 hf hlo hk hn hE H locs ls hP hD hS h
  obtain ⟨k1, k2, k3, k4, k5, k6⟩ := kt
  obtain ⟨sa, hsa⟩ := hz.2.2 _ k6
  refine vx_throwS (names := xnames) hx hb hl hown k1 (by decide) (hts _ _ k2) (hts _ _ k3) hsa (fun w hw => hts _ _ (k4 w hw)) k5 hz.1 hz.2.1 hS (h.1.trans hml.symm) d0 d3 d4 d6 d9 (fun x hx => (ht x hx).elim) hf hlo hk hn hlk ?_ hS.2.2 hk hn
  intro t hvm h1 h2
  exact ⟨(), trivial, ⟨hE, hP.kept (fun k q hq => h2 q.1 (hP k q hq).lt), hD⟩, Nat.le_trans hS.1 h1, fun q g1 g2 => (h2 q (Nat.lt_of_lt_of_le g1 hS.1)).trans (hS.2.1 q g1 g2)⟩
theorem PX_of {p : Program} {l : Launch} {e : Env} {R : Room} {s : State} {m : MethodId} {args : Array Value} {below : List Frame} {meth : Method} {c : Code} {g : GT} {nL : Nat} {ws : va_W} {pE : String → Prop} {Qc : Array Value → State → Outcome → State → Prop}
    (hlk : meth.locks = false) (ht : ∀ x ∈ c.exceptionTable.toList, False) :
    PX (p, l, e, R, s, m, args, below, meth, c, g, nL, va_A ws s.heap.size, s.heap, vx_MQ below Qc (XP g ws s.heap.size pE) args s R.cells R.slots (va_A ws s.heap.size)) R ws pE := by
  intro pc k n lv st E hk hn hE H locs ls q ce hP hD hS h hce hcv hcl
  refine vx_out (fun x hx => (ht x hx).elim) hlk hce hcv hcl ?_ hS.2.2 hk hn
  intro t ht9 hvm
  exact ⟨(), trivial, ⟨hE, by rw [ht9]; exact hP, hD⟩, hS.F ht9⟩
theorem MXI.of {own : String} {l : Launch} {y : MethodName} {cc : ByteArray} {maxL : Nat} {ty : FieldType} {rm : Room} {g : GT} {as : List Value} {ws : va_W} {post : Int → va_W → Prop} {pE : String → Prop} (hy : plainName y.cls = true) (ho : y.cls = own) (ho2 : own = RX2) (hst : l.stackTraces = false) (hL : (lg_sl as).length ≤ maxL)
    (body : ∀ x : CT, FX x l rm g maxL cc own → FZ x → TE x cc rm ws pE → PX x rm ws pE → (∀ (pc k n : Nat) (lv : List (Nat × Value)) (z : Int) (ws' : va_W), decode cc pc = .ok (.ireturn, 1) → narrow ty (.int (iZ z)) = .int (iZ z) → k ≤ rm.cells → n ≤ rm.slots → post z ws' → V x k n ws' pc lv [.int (iZ z)]) → V x 0 0 ws 0 (lv_args 0 as) []) : MXI l y cc maxL ty rm g as ws post pE := by
  subst ho
  intro sz
  refine vx_ofW (cc := cc) (maxL := maxL) (ret := some ty) hy rfl ?_
  intro p e s m args below meth c s₁ B hml ht hv
  obtain ⟨rfl, hsz, hT, hP, hK, hD0, hZ⟩ := hv
  subst hsz
  have hx := B.exec
  have hb := B.bytes
  have hr := B.returns
  have hown : s.vm.findClass y.cls = some m.cls := findClass_of_methodNamed B.named
  have hlocks := B.notSynchronized
  have hD := hD0.self (sz := s.heap.size)
  have hS : va_S (va_A ws s.heap.size) s.heap s.heap [] := va_S.rf
  have hl := lv_entry as (n := maxL) hL
  rw [lg_entry_eq]
  have hF : FX (p, l, e, rm, s, m, as.toArray, below, meth, c, g, maxL, va_A ws s.heap.size, s.heap, vx_MQ below (va_Qi (fun r ws' => ∃ z, r = iZ z ∧ post z ws') (KB g ws s.heap.size) (va_A ws s.heap.size)) (XP g ws s.heap.size pE) as.toArray s rm.cells rm.slots (va_A ws s.heap.size)) l rm g maxL cc y.cls := ⟨rfl, rfl, rfl, rfl, hx, hb, hml, hown, hT, hK, hlocks, fun q h => Or.inr h⟩
  refine body _ hF ⟨rfl, hZ⟩ (TE_of hst (ho2 ▸ hF) hZ ht) (PX_of hlocks ht) ?_ s.heap [] _ hP hD hS hl
  intro pc k n lv z ws' hd hn hk9 hn9 hp H locs ls hP hD hS h
  exact vx_ret (W.widen hk9 hn9 (W.zret hx hb hr hn (fun t ht hW => ⟨⟨iZ z, ws', rfl, ⟨z, rfl, hp⟩, by rw [ht]; exact hP, hD⟩, hS.F ht⟩) hS.2.2 hd hlocks))
theorem MXV.of {own : String} {l : Launch} {y : MethodName} {cc : ByteArray} {maxL : Nat} {rm : Room} {g : GT} {as : List Value} {ws : va_W} {post : va_W → Prop} {pE : String → Prop} (hy : plainName y.cls = true) (ho : y.cls = own) (ho2 : own = RX2) (hst : l.stackTraces = false) (hL : (lg_sl as).length ≤ maxL)
    (body : ∀ x : CT, FX x l rm g maxL cc own → FZ x → TE x cc rm ws pE → PX x rm ws pE → (∀ (pc k n : Nat) (lv : List (Nat × Value)) (ws' : va_W), decode cc pc = .ok (.return_, 1) → k ≤ rm.cells → n ≤ rm.slots → post ws' → V x k n ws' pc lv []) → V x 0 0 ws 0 (lv_args 0 as) []) : MXV l y cc maxL rm g as ws post pE := by
  subst ho
  intro sz
  refine vx_ofW (cc := cc) (maxL := maxL) (ret := none) hy rfl ?_
  intro p e s m args below meth c s₁ B hml ht hv
  obtain ⟨rfl, hsz, hT, hP, hK, hD0, hZ⟩ := hv
  subst hsz
  have hx := B.exec
  have hb := B.bytes
  have hr := B.returns
  have hown : s.vm.findClass y.cls = some m.cls := findClass_of_methodNamed B.named
  have hlocks := B.notSynchronized
  have hD := hD0.self (sz := s.heap.size)
  have hS : va_S (va_A ws s.heap.size) s.heap s.heap [] := va_S.rf
  have hl := lv_entry as (n := maxL) hL
  rw [lg_entry_eq]
  have hF : FX (p, l, e, rm, s, m, as.toArray, below, meth, c, g, maxL, va_A ws s.heap.size, s.heap, vx_MQ below (va_Qv post (KB g ws s.heap.size) (va_A ws s.heap.size)) (XP g ws s.heap.size pE) as.toArray s rm.cells rm.slots (va_A ws s.heap.size)) l rm g maxL cc y.cls := ⟨rfl, rfl, rfl, rfl, hx, hb, hml, hown, hT, hK, hlocks, fun q h => Or.inr h⟩
  refine body _ hF ⟨rfl, hZ⟩ (TE_of hst (ho2 ▸ hF) hZ ht) (PX_of hlocks ht) ?_ s.heap [] _ hP hD hS hl
  intro pc k n lv ws' hd hk9 hn9 hp H locs ls hP hD hS h
  exact vx_ret (W.widen hk9 hn9 (W.vret hx hb hr (fun t ht hW => ⟨⟨ws', rfl, hp, by rw [ht]; exact hP, hD⟩, hS.F ht⟩) hS.2.2 hd hlocks))
section VXC
variable {x : CT} {l : Launch} {R : Room} {g : GT} {nL : Nat} {cc : ByteArray} {own : String} {k n : Nat} {ws ws0 : va_W} {pc : Nat} {lv : List (Nat × Value)} {st0 st : List Value}
variable {y : MethodName} {bytes : ByteArray} {maxL index np : Nat} {ty : FieldType} {rm : Room} {as : List Value} {b : Nat} {pE pE' : String → Prop}
theorem K0X_at {s : State} {A : Nat → Prop} {H H0 : Heap} {locs : List Loc} (hT : TB s) (hK : va_K g.1 vwCl (tyl g) s) (hP : va_P g.1 vwCl ws H) (hD : va_D A ws) (hS : va_S A H0 H locs) (hZ : TX9 A s H0) (hF : ∀ q, va_A ws H.size q → A q) : ∀ U : State, U.heap = H → s.WarmedH U.vm → K0X g as H.size ws as.toArray U :=
  fun U hU hW => ⟨rfl, by rw [hU], TB.warm hW hT, by rw [hU]; exact hP, va_K.moved hW.alike hK, hD.weaken (fun _ _ _ _ => trivial), by rw [hU]; exact hZ.go hS.2.1 hW hF⟩
/-- a method that may throw, called by one that lets it pass; the callee's throw leaves the world as it was -/
theorem V_callXv {post : va_W → Prop} (hx : FX x l R g nL cc own) (hz : FZ x) (hp : PX x R ws pE) (hM : MXV l y bytes maxL rm g (.ref b :: as) ws post pE') (cw : CWD own index y bytes maxL none np) (hR : RM R rm maxL k n) {ci N : Nat} {T : u_T} {fs : List Value} (hc : vwCl[ci]? = some (y.cls, T, N)) (i : Nat) (he : ws[i]? = some (b, .inr (ci, fs)))
    (hst : st0 = as.reverse ++ .ref b :: st) (hn : as.length = np) (hcat : (st.map fun v => v.category).sum ≤ 8) (hd : decode cc pc = .ok (.invokevirtual index, 3)) (k' n' : Nat) (hk' : k + rm.cells = k') (hn' : n + rm.slots = n') (hpe : ∀ E, pE' E → pE E) (kk : ∀ (ws' : va_W), post ws' → V x k' n' ws' (pc + 3) lv st) : V x k n ws pc lv st0 := by
  subst hk' hn'
  obtain ⟨p, l', e, R', s, m, args, below, meth, c, g', nL', A, H0, Q⟩ := x
  obtain ⟨rfl, rfl, rfl, rfl, hx, hb, hml, hown, hts, hK, hlk, hA⟩ := hx
  obtain ⟨-, hZ⟩ := hz
  intro H locs ls hP hD hS h
  have hF := va_A_of hD hS hA
  refine vx_callv (vx_runV (As := as) (rest := st) (Ts := []) ⟨hx, hb, hml, hown, fun _ h => by cases h⟩ (hM H.size) (cwd_of hts cw hR) ⟨K0X_blind, V_recv hK hP hc i he, K0X_at hts hK hP hD hS hZ hF⟩ rfl hn h.1 hst (lv_room hcat) hd hR.2.2) hS (fun q _ h => hF q h) hF (fun q _ h => hF q h) (fun E ce q9 u t H1 locs1 ht hvm hw hB hz1 hk1 hS1 g1 g2 g3 => ?_) (fun ws' t H1 locs1 ht hvm hw hB hz1 hk1 hS1 => ?_)
  · exact hp pc (k + rm.cells) (n + rm.slots) lv st E hR.2.2.1 hR.2.2.2 (hpe E hB.1) H1 locs1 ls q9 ce (ht ▸ hB.2.1) (hB.2.2.weaken (fun _ q _ h => hF q.1 h)) hS1 h g1 g2 g3
  · exact kk ws' hw H1 locs1 ls (ht ▸ hB.1) (hB.2.weaken (fun _ q _ h => hF q.1 h)) hS1 h
theorem V_callXSv {post : va_W → Prop} (hx : FX x l R g nL cc own) (hz : FZ x) (hp : PX x R ws pE) (hM : MXV l y bytes maxL rm g as ws post pE') (cw : CSD own index y bytes maxL none np) (hR : RM R rm maxL k n)
    (hst : st0 = as.reverse ++ st) (hn : as.length = np) (hcat : (st.map fun v => v.category).sum ≤ 8) (hd : decode cc pc = .ok (.invokestatic index, 3)) (k' n' : Nat) (hk' : k + rm.cells = k') (hn' : n + rm.slots = n') (hpe : ∀ E, pE' E → pE E) (kk : ∀ (ws' : va_W), post ws' → V x k' n' ws' (pc + 3) lv st) : V x k n ws pc lv st0 := by
  subst hk' hn'
  obtain ⟨p, l', e, R', s, m, args, below, meth, c, g', nL', A, H0, Q⟩ := x
  obtain ⟨rfl, rfl, rfl, rfl, hx, hb, hml, hown, hts, hK, hlk, hA⟩ := hx
  obtain ⟨-, hZ⟩ := hz
  intro H locs ls hP hD hS h
  have hF := va_A_of hD hS hA
  refine vx_callv (vx_runS (As := as) (rest := st) (Ts := []) ⟨hx, hb, hml, hown, fun _ h => by cases h⟩ (hM H.size) (csd_of hts cw hR) ⟨K0X_blind, K0X_at hts hK hP hD hS hZ hF⟩ rfl hn h.1 hst (lv_room hcat) hd hR.2.2) hS (fun q _ h => hF q h) hF (fun q _ h => hF q h) (fun E ce q9 u t H1 locs1 ht hvm hw hB hz1 hk1 hS1 g1 g2 g3 => ?_) (fun ws' t H1 locs1 ht hvm hw hB hz1 hk1 hS1 => ?_)
  · exact hp pc (k + rm.cells) (n + rm.slots) lv st E hR.2.2.1 hR.2.2.2 (hpe E hB.1) H1 locs1 ls q9 ce (ht ▸ hB.2.1) (hB.2.2.weaken (fun _ q _ h => hF q.1 h)) hS1 h g1 g2 g3
  · exact kk ws' hw H1 locs1 ls (ht ▸ hB.1) (hB.2.weaken (fun _ q _ h => hF q.1 h)) hS1 h
end VXC
theorem xat_IAE : ∀ w ∈ vx_atS RX2 23 "java/lang/IllegalArgumentException" xnames, w ∈ tbl := by
  have h : (vx_atS RX2 23 "java/lang/IllegalArgumentException" xnames).all (fun w => lw_tbl.contains w && tbw w) = true := by decide +kernel
  intro w hw
  have h1 := List.all_eq_true.mp h w hw
  rw [Bool.and_eq_true] at h1
  exact List.mem_filter.mpr ⟨List.contains_iff_mem.mp h1.1, h1.2⟩
theorem xot_IAE : ∀ w ∈ Cond.classLink RX2 19 "java/lang/IllegalArgumentException" :: Cond.initialized "java/lang/IllegalArgumentException" :: vx_atS RX2 23 "java/lang/IllegalArgumentException" xnames, vx_ot w = true := by
  have h : (Cond.classLink RX2 19 "java/lang/IllegalArgumentException" :: Cond.initialized "java/lang/IllegalArgumentException" :: vx_atS RX2 23 "java/lang/IllegalArgumentException" xnames).all vx_ot = true := by decide +kernel
  exact List.all_eq_true.mp h
theorem xat_IOOBE : ∀ w ∈ vx_atS RX2 127 "java/lang/IndexOutOfBoundsException" xnames, w ∈ tbl := by
  have h : (vx_atS RX2 127 "java/lang/IndexOutOfBoundsException" xnames).all (fun w => lw_tbl.contains w && tbw w) = true := by decide +kernel
  intro w hw
  have h1 := List.all_eq_true.mp h w hw
  rw [Bool.and_eq_true] at h1
  exact List.mem_filter.mpr ⟨List.contains_iff_mem.mp h1.1, h1.2⟩
theorem xot_IOOBE : ∀ w ∈ Cond.classLink RX2 123 "java/lang/IndexOutOfBoundsException" :: Cond.initialized "java/lang/IndexOutOfBoundsException" :: vx_atS RX2 127 "java/lang/IndexOutOfBoundsException" xnames, vx_ot w = true := by
  have h : (Cond.classLink RX2 123 "java/lang/IndexOutOfBoundsException" :: Cond.initialized "java/lang/IndexOutOfBoundsException" :: vx_atS RX2 127 "java/lang/IndexOutOfBoundsException" xnames).all vx_ot = true := by decide +kernel
  exact List.all_eq_true.mp h
theorem xat_ISE : ∀ w ∈ vx_atS RX2 54 "java/lang/IllegalStateException" xnames, w ∈ tbl := by
  have h : (vx_atS RX2 54 "java/lang/IllegalStateException" xnames).all (fun w => lw_tbl.contains w && tbw w) = true := by decide +kernel
  intro w hw
  have h1 := List.all_eq_true.mp h w hw
  rw [Bool.and_eq_true] at h1
  exact List.mem_filter.mpr ⟨List.contains_iff_mem.mp h1.1, h1.2⟩
theorem xot_ISE : ∀ w ∈ Cond.classLink RX2 50 "java/lang/IllegalStateException" :: Cond.initialized "java/lang/IllegalStateException" :: vx_atS RX2 54 "java/lang/IllegalStateException" xnames, vx_ot w = true := by
  have h : (Cond.classLink RX2 50 "java/lang/IllegalStateException" :: Cond.initialized "java/lang/IllegalStateException" :: vx_atS RX2 54 "java/lang/IllegalStateException" xnames).all vx_ot = true := by decide +kernel
  exact List.all_eq_true.mp h
theorem kt_IAE {is : Nat} {text : String} (h : (is, text) ∈ xstrs) : KT 19 23 is "java/lang/IllegalArgumentException" text := ⟨by decide, q402, q8, xat_IAE, xot_IAE, h⟩
theorem kt_IOOBE {is : Nat} {text : String} (h : (is, text) ∈ xstrs) : KT 123 127 is "java/lang/IndexOutOfBoundsException" text := ⟨by decide, q134, q9, xat_IOOBE, xot_IOOBE, h⟩
theorem kt_ISE {is : Nat} {text : String} (h : (is, text) ∈ xstrs) : KT 50 54 is "java/lang/IllegalStateException" text := ⟨by decide, q206, q11, xat_ISE, xot_ISE, h⟩
