/-! the law: its rows -/
theorem nan_dcmp {r : UInt64} (h : isNaN64 r = true) : FP.dcmp r r = none := by
  have h1 : (9218868437227405312 : Nat) < r.toNat % 9223372036854775808 := by
    unfold isNaN64 at h
    have h2 := of_decide_eq_true h
    have h3 : (0x7ff0000000000000 : UInt64).toNat < (r &&& 0x7fffffffffffffff).toNat := UInt64.lt_iff_toNat_lt.mp h2
    rw [UInt64.toNat_and] at h3
    have h4 : (0x7fffffffffffffff : UInt64).toNat = 2 ^ 63 - 1 := by decide
    rw [h4, Nat.and_two_pow_sub_one_eq_mod] at h3
    exact h3
  have hd : FP.Core.decode FP.Core.b64 r.toNat = .nan := by
    unfold FP.Core.decode FP.Core.fieldE FP.Core.fieldT
    have e1 : FP.Core.Fmt.tails FP.Core.b64 = 4503599627370496 := by decide
    have e2 : FP.Core.Fmt.exps FP.Core.b64 = 2048 := by decide
    rw [e1, e2, if_pos (by omega), if_neg (by omega)]
  show FP.Core.order (FP.Core.decode FP.Core.b64 r.toNat) (FP.Core.decode FP.Core.b64 r.toNat) = none
  rw [hd]
  rfl
def cmpI (a b : UInt64) : Int := (Op.cmpValue (FP.dcmp a b) CmpOp.l).toInt
theorem cmp_al {a b v : UInt64} (ha : alike64 a v = true) (hb : alike64 b v = true) : cmpI a b = 0 ∨ (cmpI a a ≠ 0 ∧ cmpI b b ≠ 0) := by
  have hn : ∀ r : UInt64, isNaN64 r = true → cmpI r r ≠ 0 := fun r h => by
    unfold cmpI
    rw [nan_dcmp h]
    decide
  unfold alike64 at ha hb
  rw [Bool.or_eq_true, Bool.and_eq_true, decide_eq_true_eq] at ha hb
  rcases ha with rfl | ⟨ha, hv⟩
  · rcases hb with rfl | ⟨hb, hv⟩
    · by_cases h : cmpI b b = 0
      · exact Or.inl h
      · exact Or.inr ⟨h, h⟩
    · exact Or.inr ⟨hn _ hv, hn _ hb⟩
  · rcases hb with rfl | ⟨hb, -⟩
    · exact Or.inr ⟨hn _ ha, hn _ hv⟩
    · exact Or.inr ⟨hn _ ha, hn _ hb⟩
/-- a frame of the law: also its script -/
def FL2 (x : CT) (cJ : ClassId) (b L : Nat) (xs : Nat → Int32) : Prop := match x with
  | (_, _, _, _, s, _, _, _, _, _, g, _, A, H0, _) => H0 = s.heap ∧ TX9 A s H0 ∧ KJ g cJ s ∧ NCS s ∧ va_X b L xs s H0 ∧ b < H0.size ∧ ¬ A b
def XD (x : CT) (d : Drawn) : CT := match x with
  | (p, l, e, R, s, m, args, below, meth, c, g, nL, A, H0, Q) => (p, l, e, R, s.setDrawn d, m, args, below, meth, c, g, nL, A, H0, Q)
def DRN (x : CT) (d : Drawn) : Prop := match x with
  | (_, _, _, _, s, _, _, _, _, _, _, _, _, _, _) => s.drawn.sameBut d lw_cs
/-- a helper, called -/
def CHD (index : Nat) (y : MethodName) (bytes : ByteArray) (maxL : Nat) (hh : List (Nat × Nat × Nat × Nat)) (np : Nat) : Prop :=
  Cond.methodLink RL index y ∈ tbl ∧ Cond.static y ∈ tbl ∧ Cond.codeWith y bytes maxL (some .int) hh ∈ tbl ∧ Cond.initialized y.cls ∈ tbl ∧ (y.cls ≠ "java/lang/invoke/MethodHandle" ∧ y.cls ≠ "java/lang/invoke/VarHandle") ∧ (parseMethodDescriptor y.desc).map (fun d => d.parameters.length) = some np
theorem chd_of {R : Room} {s : State} {args : Array Value} {index : Nat} {y : MethodName} {bytes : ByteArray} {maxL : Nat} {hh : List (Nat × Nat × Nat × Nat)} {rm : Room} {np k n : Nat} (hT : TB s) (h : CHD index y bytes maxL hh np) (hR : RM R rm maxL k n) : vx_CSW R s args RL index y bytes maxL (some .int) hh [.codeWith y bytes maxL (some .int) hh] rm rm.cells rm.slots np := by
  obtain ⟨h1, h2, h3, h4, h5, h6⟩ := h
  refine ⟨⟨rfl, rfl, hR.1, hR.2.1, fun w hw a U hW => ?_, List.mem_cons_self⟩, hT _ _ h3, hT _ _ h4, h5, fun sig hs => ?_, hT _ _ h1, hT _ _ h2⟩
  · rw [List.mem_singleton.mp hw]; exact tb_pay hT h3 a U hW
  · rw [hs] at h6; exact (Option.some.inj h6).symm
theorem K0L_at {g : GT} {cJ : ClassId} {as : List Value} {ws : va_W} {s : State} {A : Nat → Prop} {H H0 : Heap} {locs : List Loc} (hT : TB s) (hKJ : KJ g cJ s) (hP : va_P g.1 vwCl ws H) (hD : va_D A ws) (hS : va_S A H0 H locs) (hZ : TX9 A s H0) (hN : NCS s) (hF : ∀ q, va_A ws H.size q → A q) : ∀ U : State, U.heap = H → s.WarmedH U.vm → K0L g cJ as H.size ws as.toArray U :=
  fun U hU hW => ⟨rfl, by rw [hU], TB.warm hW hT, by rw [hU]; exact hP, va_K.moved hW.alike hKJ, hD.weaken (fun _ _ _ _ => trivial), by rw [hU]; exact hZ.go hS.2.1 hW hF, NCS.moved hW.alike hN⟩
/-- a constructor, called by its name -/
def CIP (own : String) (index : Nat) (y : MethodName) (bytes : ByteArray) (maxL : Nat) (np : Nat) : Prop :=
  Cond.methodLink own index y ∈ tbl ∧ Cond.instanceMethod y ∈ tbl ∧ y.name = "<init>" ∧ Cond.code y bytes maxL none ∈ tbl ∧ Cond.initialized y.cls ∈ tbl ∧ (y.cls ≠ "java/lang/invoke/MethodHandle" ∧ y.cls ≠ "java/lang/invoke/VarHandle") ∧ (parseMethodDescriptor y.desc).map (fun d => d.parameters.length) = some np
theorem cip_of {R : Room} {s : State} {args : Array Value} {own : String} {index : Nat} {y : MethodName} {bytes : ByteArray} {maxL : Nat} {rm : Room} {np k n : Nat} (hT : TB s) (h : CIP own index y bytes maxL np) (hR : RM R rm maxL k n) : CallB R s args own index y bytes maxL none [.code y bytes maxL none] rm rm.cells rm.slots np ∧ y.name = "<init>" ∧ (Cond.instanceMethod y).before args s = true := by
  obtain ⟨h1, h2, h3, h4, h5, h6, h7⟩ := h
  refine ⟨⟨rfl, rfl, hR.1, hR.2.1, fun w hw a U hW => ?_, List.mem_cons_self, hT _ _ h4, hT _ _ h5, h6, fun sig hs => ?_, hT _ _ h1⟩, h3, hT _ _ h2⟩
  · rw [List.mem_singleton.mp hw]; exact tb_pay hT h4 a U hW
  · rw [hs] at h7; exact (Option.some.inj h7).symm
theorem ci_L_69 : CIP RL 69 yX2_init cX2_init 1 0 := ⟨q16, q17, rfl, q18, q1, ⟨by decide +kernel, by decide +kernel⟩, by decide +kernel⟩
theorem ci_L_72 : CIP RL 72 yX4_init cX4_init 1 0 := ⟨q571, q572, rfl, q573, q4, ⟨by decide +kernel, by decide +kernel⟩, by decide +kernel⟩
section VLR
variable {x : CT} {l : Launch} {R : Room} {g : GT} {nL : Nat} {cc : ByteArray} {k n : Nat} {W1 wr ws : va_W} {pc : Nat} {lv : List (Nat × Value)} {st0 st : List Value} {cJ : ClassId} {hh : List (Nat × Nat × Nat × Nat)} {b0 L : Nat} {xs : Nat → Int32} {own : String}
variable {y : MethodName} {bytes : ByteArray} {maxL index np : Nat} {ty : FieldType} {rm : Room} {as : List Value} {b : Nat}
theorem V_callHF {post : Int → va_W → Prop} (hx : FX x l R g nL cc RL) (hz : FL2 x cJ b0 L xs) (hM : MH l y bytes maxL hh rm g cJ as W1 post) (cw : CHD index y bytes maxL hh np) (hR : RM R rm maxL k n) (hst : st0 = as.reverse ++ st) (hn : as.length = np) (hcat : (st.map fun v => v.category).sum ≤ 8) (hd : decode cc pc = .ok (.invokestatic index, 3)) (k' n' : Nat) (hk' : k + rm.cells = k') (hn' : n + rm.slots = n')
    (kk : ∀ (z : Int) (ws' : va_W), post z ws' → V x k' n' (ws' ++ wr) (pc + 3) lv (.int (iZ z) :: st)) : V x k n (W1 ++ wr) pc lv st0 := by
  subst hk' hn'
  obtain ⟨p, l', e, R', s, m, args, below, meth, c, g', nL', A, H0, Q⟩ := x
  obtain ⟨rfl, rfl, rfl, rfl, hx, hb, hml, hown, hts, hK, hlk, hA⟩ := hx
  obtain ⟨-, hZ, hKJ, hN, -⟩ := hz
  intro H locs ls hP hD hS h
  have hPc : va_P g'.1 vwCl W1 H := P_sub (r := wr) (List.Perm.refl _) hP
  have hDc : va_D A W1 := D_sub (r := wr) (List.Perm.refl _) hD
  have hF := va_A_of hDc hS hA
  refine va_calli (vx_runSW (As := as) (rest := st) (Ts := []) ⟨hx, hb, hml, hown, fun _ h => by cases h⟩ (hM H.size) (chd_of hts cw hR) ⟨K0L_blind, K0L_at hts hKJ hPc hDc hS hZ hN hF⟩ rfl hn h.1 hst (lv_room hcat) hd hR.2.2) hS (fun q _ h => hF q h) hF (fun r ws' t H1 locs1 ht hvm hw hB hz1 hk1 hS1 => ?_)
  obtain ⟨z, rfl, hw⟩ := hw
  obtain ⟨j1, j2⟩ := fr_join hP hD hk1 hF (ht ▸ hB.1) hB.2
  exact kk z ws' hw H1 locs1 ls j1 j2 hS1 h
theorem V_callFi {post : Int → va_W → Prop} (hx : FX x l R g nL cc own) (hM : MI l y bytes maxL ty rm g (.ref b :: as) W1 post) (cw : CWD own index y bytes maxL (some ty) np) (hR : RM R rm maxL k n) {ci N : Nat} {T : u_T} {fs : List Value} (hc : vwCl[ci]? = some (y.cls, T, N)) (i : Nat) (he : W1[i]? = some (b, .inr (ci, fs)))
    (hst : st0 = as.reverse ++ .ref b :: st) (hn : as.length = np) (hcat : (st.map fun v => v.category).sum ≤ 8) (hd : decode cc pc = .ok (.invokevirtual index, 3)) (k' n' : Nat) (hk' : k + rm.cells = k') (hn' : n + rm.slots = n')
    (kk : ∀ (z : Int) (ws' : va_W), post z ws' → V x k' n' (ws' ++ wr) (pc + 3) lv (.int (iZ z) :: st)) : V x k n (W1 ++ wr) pc lv st0 := by
  subst hk' hn'
  obtain ⟨p, l', e, R', s, m, args, below, meth, c, g', nL', A, H0, Q⟩ := x
  obtain ⟨rfl, rfl, rfl, rfl, hx, hb, hml, hown, hts, hK, hlk, hA⟩ := hx
  intro H locs ls hP hD hS h
  have hPc : va_P g'.1 vwCl W1 H := P_sub (r := wr) (List.Perm.refl _) hP
  have hDc : va_D A W1 := D_sub (r := wr) (List.Perm.refl _) hD
  have hF := va_A_of hDc hS hA
  refine va_calli (va_runV (As := as) (rest := st) (Ts := []) ⟨hx, hb, hml, hown, fun _ h => by cases h⟩ (hM H.size) (cwd_of hts cw hR) ⟨K0_blind, V_recv hK hPc hc i he, K0_at hts hK hPc hDc⟩ rfl hn h.1 hst (lv_room hcat) hd hR.2.2) hS (fun q _ h => hF q h) hF (fun r ws' t H1 locs1 ht hvm hw hB hz1 hk1 hS1 => ?_)
  obtain ⟨z, rfl, hw⟩ := hw
  obtain ⟨j1, j2⟩ := fr_join hP hD hk1 hF (ht ▸ hB.1) hB.2
  exact kk z ws' hw H1 locs1 ls j1 j2 hS1 h
theorem V_callFl {post : Int64 → va_W → Prop} (hx : FX x l R g nL cc own) (hM : ML l y bytes maxL rm g (.ref b :: as) W1 post) (cw : CWD own index y bytes maxL (some .long) np) (hR : RM R rm maxL k n) {ci N : Nat} {T : u_T} {fs : List Value} (hc : vwCl[ci]? = some (y.cls, T, N)) (i : Nat) (he : W1[i]? = some (b, .inr (ci, fs)))
    (hst : st0 = as.reverse ++ .ref b :: st) (hn : as.length = np) (hcat : (st.map fun v => v.category).sum ≤ 8) (hd : decode cc pc = .ok (.invokevirtual index, 3)) (k' n' : Nat) (hk' : k + rm.cells = k') (hn' : n + rm.slots = n')
    (kk : ∀ (z : Int64) (ws' : va_W), post z ws' → V x k' n' (ws' ++ wr) (pc + 3) lv (.long z :: st)) : V x k n (W1 ++ wr) pc lv st0 := by
  subst hk' hn'
  obtain ⟨p, l', e, R', s, m, args, below, meth, c, g', nL', A, H0, Q⟩ := x
  obtain ⟨rfl, rfl, rfl, rfl, hx, hb, hml, hown, hts, hK, hlk, hA⟩ := hx
  intro H locs ls hP hD hS h
  have hPc : va_P g'.1 vwCl W1 H := P_sub (r := wr) (List.Perm.refl _) hP
  have hDc : va_D A W1 := D_sub (r := wr) (List.Perm.refl _) hD
  have hF := va_A_of hDc hS hA
  refine va_calll (va_runV (As := as) (rest := st) (Ts := []) ⟨hx, hb, hml, hown, fun _ h => by cases h⟩ (hM H.size) (cwd_of hts cw hR) ⟨K0_blind, V_recv hK hPc hc i he, K0_at hts hK hPc hDc⟩ rfl hn h.1 hst (lv_room hcat) hd hR.2.2) hS (fun q _ h => hF q h) hF (fun r ws' t H1 locs1 ht hvm hw hB hz1 hk1 hS1 => ?_)
  obtain ⟨j1, j2⟩ := fr_join hP hD hk1 hF (ht ▸ hB.1) hB.2
  exact kk r ws' hw H1 locs1 ls j1 j2 hS1 h
theorem V_callFd {post : UInt64 → va_W → Prop} {d0 : Drawn} (hx : FX (XD x d0) l R g nL cc own) (hd0 : DRN x d0) (hM : MD l y bytes maxL rm g (.ref b :: as) W1 post) (cw : CWD own index y bytes maxL (some .double) np) (hR : RM R rm maxL k n) {ci N : Nat} {T : u_T} {fs : List Value} (hc : vwCl[ci]? = some (y.cls, T, N)) (i : Nat) (he : W1[i]? = some (b, .inr (ci, fs)))
    (hst : st0 = as.reverse ++ .ref b :: st) (hn : as.length = np) (hcat : (st.map fun v => v.category).sum ≤ 8) (hd : decode cc pc = .ok (.invokevirtual index, 3)) (k' n' : Nat) (hk' : k + rm.cells = k') (hn' : n + rm.slots = n')
    (kk : ∀ (z : UInt64) (ws' : va_W) (d' : Drawn), DRN x d' → post z ws' → V (XD x d') k' n' (ws' ++ wr) (pc + 3) lv (.double z :: st)) : V (XD x d0) k n (W1 ++ wr) pc lv st0 := by
  subst hk' hn'
  obtain ⟨p, l', e, R', s, m, args, below, meth, c, g', nL', A, H0, Q⟩ := x
  obtain ⟨rfl, rfl, rfl, rfl, hx, hb, hml, hown, hts, hK, hlk, hA⟩ := hx
  intro H locs ls hP hD hS h
  have hPc : va_P g'.1 vwCl W1 H := P_sub (r := wr) (List.Perm.refl _) hP
  have hDc : va_D A W1 := D_sub (r := wr) (List.Perm.refl _) hD
  have hF := va_A_of hDc hS hA
  refine va_calldD hd0 (va_runV_D (As := as) (rest := st) (Ts := []) ⟨hx, hb, hml, hown, fun _ h => by cases h⟩ (hM H.size) (cwd_of hts cw hR) ⟨K0_blind, V_recv hK hPc hc i he, K0_at hts hK hPc hDc⟩ rfl hn h.1 hst (lv_room hcat) hd hR.2.2) hS (fun q _ h => hF q h) hF (fun r ws' t H1 locs1 ht hvm hw hB hz1 hk1 hS1 d' hd' => ?_)
  obtain ⟨j1, j2⟩ := fr_join hP hD hk1 hF (ht ▸ hB.1) hB.2
  exact kk r ws' d' hd' hw H1 locs1 ls j1 j2 hS1 h
theorem V_callI {post : va_W → Prop} (hx : FX x l R g nL cc own) (hM : MV l y bytes maxL rm g (.ref b :: as) ws post) (cw : CIP own index y bytes maxL np) (hR : RM R rm maxL k n)
    (hst : st0 = as.reverse ++ .ref b :: st) (hn : as.length = np) (hcat : (st.map fun v => v.category).sum ≤ 8) (hd : decode cc pc = .ok (.invokespecial index, 3)) (k' n' : Nat) (hk' : k + rm.cells = k') (hn' : n + rm.slots = n') (kk : ∀ (ws' : va_W), post ws' → V x k' n' ws' (pc + 3) lv st) : V x k n ws pc lv st0 := by
  subst hk' hn'
  obtain ⟨p, l', e, R', s, m, args, below, meth, c, g', nL', A, H0, Q⟩ := x
  obtain ⟨rfl, rfl, rfl, rfl, hx, hb, hml, hown, hts, hK, hlk, hA⟩ := hx
  intro H locs ls hP hD hS h
  have hF := va_A_of hD hS hA
  refine va_callv (va_runI (As := as) (rest := st) (Ts := []) ⟨hx, hb, hml, hown, fun _ h => by cases h⟩ (hM H.size) (cip_of hts cw hR) ⟨K0_blind, K0_at hts hK hP hD⟩ rfl hn h.1 hst (lv_room hcat) hd hR.2.2) hS (fun q _ h => hF q h) hF (fun ws' t H1 locs1 ht hvm hw hB hz1 hk1 hS1 => ?_)
  exact kk ws' hw H1 locs1 ls (ht ▸ hB.1) (hB.2.weaken (fun _ q _ h => hF q.1 h)) hS1 h
theorem V_lald2 {o : Nat} {f : Nat → Int64} (hx : FX x l R g nL cc RL) (hz : FL2 x cJ b0 L xs) (hd : decode cc pc = .ok (.laload, 1)) (kk : V x k n (W1 ++ [(o, LJ cJ f)]) (pc + 1) lv (.long (f 0) :: st)) : V x k n (W1 ++ [(o, LJ cJ f)]) pc lv (.int (iZ 0) :: .ref o :: st) := by
  obtain ⟨p, l', e, R', s, m, args, below, meth, c, g', nL', A, H0, Q⟩ := x
  obtain ⟨rfl, rfl, rfl, rfl, hx, hb, hml, hown, hts, hK, hlk9, hA⟩ := hx
  obtain ⟨-, hZ, hKJ, hN, -⟩ := hz
  intro H locs ls hP hD hS h
  refine va_lald (D := g'.1) hx hb hKJ hP (W1.length + 0) 2 (apx 0 rfl) rfl (iZ_in (a := 0) (by decide) (by decide) (by decide)) hd ?_
  rw [iZ_clamp rg_0]
  exact kk H locs ls hP hD hS h
theorem V_sld (hx : FX x l R g nL cc RL) (hz : FL2 x cJ b0 L xs) {z : Int} (j : Nat) (hj : z.toNat = j) (h0 : 0 ≤ z) (h1 : z < L) (h2 : L < 2147483648) (hd : decode cc pc = .ok (.iaload, 1)) (kk : V x k n ws (pc + 1) lv (.int (iZ (xs j).toInt) :: st)) : V x k n ws pc lv (.int (iZ z) :: .ref b0 :: st) := by
  subst hj
  obtain ⟨p, l', e, R', s, m, args, below, meth, c, g', nL', A, H0, Q⟩ := x
  obtain ⟨rfl, rfl, rfl, rfl, hx, hb, hml, hown, hts, hK, hlk9, hA⟩ := hx
  obtain ⟨-, -, -, -, hX, hbl, hbA⟩ := hz
  intro H locs ls hP hD hS h
  refine va_sld hx hb hX hbl hbA hS (iZ_in h0 h1 h2) hd ?_
  rw [iZ_clamp ⟨by omega, by omega⟩]
  rw [iZ_of] at kk
  exact kk H locs ls hP hD hS h
theorem V_slen (hx : FX x l R g nL cc RL) (hz : FL2 x cJ b0 L xs) (hd : decode cc pc = .ok (.arraylength, 1)) (kk : V x k n ws (pc + 1) lv (.int (iZ (L : Int)) :: st)) : V x k n ws pc lv (.ref b0 :: st) := by
  obtain ⟨p, l', e, R', s, m, args, below, meth, c, g', nL', A, H0, Q⟩ := x
  obtain ⟨rfl, rfl, rfl, rfl, hx, hb, hml, hown, hts, hK, hlk9, hA⟩ := hx
  obtain ⟨-, -, -, -, hX, hbl, hbA⟩ := hz
  intro H locs ls hP hD hS h
  exact va_slen hx hb hX hbl hbA hS hd (kk H locs ls hP hD hS h)
theorem V_iand (hx : FX x l R g nL cc own) {a c9 : Int32} (hd : decode cc pc = .ok (.iand, 1)) (kk : V x k n ws (pc + 1) lv (.int (iZ (a &&& c9).toInt) :: st)) : V x k n ws pc lv (.int c9 :: .int a :: st) := by
  rw [iZ_of] at kk
  obtain ⟨p, l', e, R', s, m, args, below, meth, c, g', nL', A, H0, Q⟩ := x
  obtain ⟨rfl, rfl, rfl, rfl, hx, hb, hml, hown, hts, hK, hlk9, hA⟩ := hx
  intro H locs ls hP hD hS h
  exact lv_iand hx hb hd (kk H locs ls hP hD hS h)
theorem V_lcmpE (hx : FX x l R g nL cc own) {a c9 : Int64} (he : a = c9) (hd : decode cc pc = .ok (.lcmp, 1)) (kk : V x k n ws (pc + 1) lv (.int (iZ 0) :: st)) : V x k n ws pc lv (.long c9 :: .long a :: st) := by
  subst he
  obtain ⟨p, l', e, R', s, m, args, below, meth, c, g', nL', A, H0, Q⟩ := x
  obtain ⟨rfl, rfl, rfl, rfl, hx, hb, hml, hown, hts, hK, hlk9, hA⟩ := hx
  intro H locs ls hP hD hS h
  refine W.lcmp hx hb hd ?_
  rw [show lg_cmp a a = iZ 0 by unfold lg_cmp; simp; rfl]
  exact kk H locs ls hP hD hS h
theorem V_dcmp (hx : FX x l R g nL cc own) {a c9 : UInt64} (hd : decode cc pc = .ok (.dcmp .l, 1)) (kk : V x k n ws (pc + 1) lv (.int (iZ (cmpI a c9)) :: st)) : V x k n ws pc lv (.double c9 :: .double a :: st) := by
  unfold cmpI at kk
  rw [iZ_of] at kk
  obtain ⟨p, l', e, R', s, m, args, below, meth, c, g', nL', A, H0, Q⟩ := x
  obtain ⟨rfl, rfl, rfl, rfl, hx, hb, hml, hown, hts, hK, hlk9, hA⟩ := hx
  intro H locs ls hP hD hS h
  exact lv_dcmp hx hb hd (kk H locs ls hP hD hS h)
theorem V_dload (hx : FX x l R g nL cc own) {i : Nat} {v : UInt64} (hd : decode cc pc = .ok (.dload i, 2)) (j : Nat) (hl : lv[j]? = some (i, .double v)) (kk : V x k n ws (pc + 2) lv (.double v :: st)) : V x k n ws pc lv st := by
  obtain ⟨p, l', e, R', s, m, args, below, meth, c, g', nL', A, H0, Q⟩ := x
  obtain ⟨rfl, rfl, rfl, rfl, hx, hb, hml, hown, hts, hK, hlk9, hA⟩ := hx
  intro H locs ls hP hD hS h
  exact lv_dload hx hb hd (lv_at h j hl) (kk H locs ls hP hD hS h)
theorem V_dstore (hx : FX x l R g nL cc own) {i : Nat} {v : UInt64} (hd : decode cc pc = .ok (.dstore i, 2)) (lv' : List (Nat × Value)) (hn : i + 1 < nL) (hl : (i, Value.double v) :: lv.filter (fun q => !(q.1 == i) && (!(q.1 == i + 1) && !(q.1 + 1 == i && q.2.category == 2))) = lv') (kk : V x k n ws (pc + 2) lv' st) : V x k n ws pc lv (.double v :: st) := by
  obtain ⟨p, l', e, R', s, m, args, below, meth, c, g', nL', A, H0, Q⟩ := x
  obtain ⟨rfl, rfl, rfl, rfl, hx, hb, hml, hown, hts, hK, hlk9, hA⟩ := hx
  intro H locs ls hP hD hS h
  exact lv_dstore hx hb hd h hn hl (fun ls' h' => kk H locs ls' hP hD hS h')
end VLR
theorem pm1 {A B C : va_W} : ((B ++ (C ++ A)) ++ []).Perm (A ++ (B ++ C)) := by
  rw [List.append_nil, ← List.append_assoc]
  exact List.perm_append_comm
theorem pm2 {A B C : va_W} : ((B ++ (A ++ C)) ++ []).Perm ((A ++ C) ++ B) := by
  rw [List.append_nil]
  exact List.perm_append_comm
theorem pm3 {A B C : va_W} : ((A ++ (C ++ B)) ++ []).Perm ((B ++ A) ++ C) := by
  rw [List.append_nil, List.append_assoc]
  exact (List.perm_append_comm (l₁ := A ++ C) (l₂ := B)).symm.symm.trans (List.Perm.refl _) |> fun h => by
    rw [List.append_assoc] at h
    exact h
theorem RML {rm : Room} {maxL k n : Nat} (hf : rm.frames ≤ 10) (hl : 19 + maxL + rm.locals ≤ 410) (hk : k + rm.cells ≤ 612619) (hn : n + rm.slots ≤ 7258246) : RM room_1 rm maxL k n :=
  ⟨by show rm.frames + 1 ≤ 11; omega, by show 8 + (maxL + 11) + rm.locals ≤ 410; omega, hk, hn⟩
