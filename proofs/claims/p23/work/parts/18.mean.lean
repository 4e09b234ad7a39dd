/-! mean: its quotient may be any NaN where it is one -/
section VDD
variable {x : CT} {l : Launch} {R : Room} {g : GT} {nL : Nat} {cc : ByteArray} {own : String} {k n : Nat} {ws : va_W} {pc : Nat} {lv : List (Nat × Value)} {st : List Value}
theorem V_i2d (hx : FX x l R g nL cc own) {a : Int32} (hd : decode cc pc = .ok (.i2d, 1)) (kk : V x k n ws (pc + 1) lv (.double (FP.i2d a) :: st)) : V x k n ws pc lv (.int a :: st) := by
  obtain ⟨p, l', e, R', s, m, args, below, meth, c, g', nL', A, H0, Q⟩ := x
  obtain ⟨rfl, rfl, rfl, rfl, hx, hb, hml, hown, hts, hK, hlk, hA⟩ := hx
  intro H locs ls hP hD hS h
  exact lv_i2d hx hb hd (kk H locs ls hP hD hS h)
theorem V_dconst0 (hx : FX x l R g nL cc own) (hd : decode cc pc = .ok (.dconst 0, 1)) (kk : V x k n ws (pc + 1) lv (.double FP.dconst0 :: st)) : V x k n ws pc lv st := by
  obtain ⟨p, l', e, R', s, m, args, below, meth, c, g', nL', A, H0, Q⟩ := x
  obtain ⟨rfl, rfl, rfl, rfl, hx, hb, hml, hown, hts, hK, hlk, hA⟩ := hx
  intro H locs ls hP hD hS h
  exact lv_dconst0 hx hb hd (kk H locs ls hP hD hS h)
end VDD
def MD (l : Launch) (y : MethodName) (cc : ByteArray) (maxL : Nat) (rm : Room) (g : GT) (as : List Value) (ws : va_W) (post : UInt64 → va_W → Prop) : Prop :=
  ∀ sz, MetD lw_cs l y [.code y cc maxL (some .double)] rm (K0 g as sz ws) (va_Qd post (KB g ws sz) (va_A ws sz)) rm.cells rm.slots (va_A ws sz)
theorem MD.of {own : String} {l : Launch} {y : MethodName} {cc : ByteArray} {maxL : Nat} {rm : Room} {g : GT} {as : List Value} {ws : va_W} {post : UInt64 → va_W → Prop} (hy : plainName y.cls = true) (ho : y.cls = own) (hL : (lg_sl as).length ≤ maxL)
    (body : ∀ x : CT, FX x l rm g maxL cc own → (∀ (pc : Nat) (lv : List (Nat × Value)) (z : UInt64) (ws' : va_W), decode cc pc = .ok (.dreturn, 1) → post z ws' → V x rm.cells rm.slots ws' pc lv [.double z]) →
      (∀ (pc : Nat) (lv : List (Nat × Value)) (a b : UInt64) (ws' : va_W), decode cc pc = .ok (.ddiv, 1) → decode cc (pc + 1) = .ok (.dreturn, 1) → (∀ z, alike64 z (FP.ddiv a b) = true → post z ws') → V x rm.cells rm.slots ws' pc lv [.double b, .double a]) → V x 0 0 ws 0 (lv_args 0 as) []) : MD l y cc maxL rm g as ws post := by
  subst ho
  intro sz
  refine MetD.ofW (cc := cc) (maxL := maxL) (ret := some .double) hy rfl ?_
  intro p e s m args below meth c s₁ B hml hv hd0
  obtain ⟨rfl, hsz, hT, hP, hK, hD0⟩ := hv
  subst hsz
  have hx := B.exec
  have hb := B.bytes
  have hr := B.returns
  have hown : s.vm.findClass y.cls = some m.cls := findClass_of_methodNamed B.named
  have hlocks := B.notSynchronized
  have hD := hD0.self (sz := s.heap.size)
  have hS : va_S (va_A ws s.heap.size) s.heap s.heap [] := va_S.rf
  have hl := lv_entry as (n := maxL) hL
  rw [lg_entry_eq]
  refine body (p, l, e, (headSpec [.code y cc maxL (some .double)] rm).room, s.setDrawn s.drawn, m, as.toArray, below, meth, c, g, maxL, va_A ws s.heap.size, s.heap, _) ⟨rfl, rfl, rfl, rfl, hx, hb, hml, hown, TB.same (s := s) rfl hT, va_K.moved (u := s) (U := s.setDrawn s.drawn) (Vm.Alike.refl s.vm) hK, hlocks, fun q h => Or.inr h⟩ ?_ ?_ s.heap [] _ hP hD hS hl
  · intro pc lv z ws' hd hp H locs ls hP hD hS h
    refine W.endD hd0 ?_
    exact W.dret hx hb hr (fun t ht hW => ⟨⟨z, ws', rfl, hp, by rw [ht]; exact hP, hD⟩, hS.F ht⟩) hS.2.2 hd hlocks
  · intro pc lv a b ws' hd hd1 hp H locs ls hP hD hS h
    refine lv_ddiv_any hd0 lw_bits hx hb hd (fun r d1 hal hd2 => ?_)
    refine W.endD hd2 ?_
    exact W.dret hx hb hr (fun t ht hW => ⟨⟨r, ws', rfl, hp r hal, by rw [ht]; exact hP, hD⟩, hS.F ht⟩) hS.2.2 hd1 hlocks
noncomputable def mnV (T : TS) : UInt64 := @ite UInt64 (T 0 1 = 0) (Classical.propDecidable _) FP.dconst0 (FP.ddiv (FP.i2d (iZ (sm (nc T) (ltF T)))) (FP.i2d (iZ (T 0 1))))
theorem mnV_0 {T : TS} (h : T 0 1 = 0) : mnV T = FP.dconst0 := by unfold mnV; exact if_pos h
theorem mnV_1 {T : TS} (h : T 0 1 ≠ 0) : mnV T = FP.ddiv (FP.i2d (iZ (sm (nc T) (ltF T)))) (FP.i2d (iZ (T 0 1))) := by unfold mnV; exact if_neg h
theorem al_refl (z : UInt64) : alike64 z z = true := by unfold alike64; simp
set_option maxHeartbeats 4000000 in
set_option maxRecDepth 100000 in
theorem x_mean (l : Launch) {g : GT} {ad : Nat → Nat} {P : Nat → TS} (T : TS) (hS : SHP T) : MD l yX2_mean cX2_mean 1 (rmN 8) g [.ref (ad 0)] (SW g ad P 0 T) (fun z ws9 => alike64 z (mnV T) = true ∧ ws9 = SW g ad P 0 T) := by
  refine MD.of (own := RX2) (by decide) rfl (Nat.le_of_ble_eq_true rfl) (fun x hx hE hE1 => ?_)
  have hk : 0 < 2 := by decide
  obtain ⟨hT, ⟨hn1, hn8⟩, ⟨hc0, hc6⟩, ⟨hl0, hl9⟩⟩ := id hS
  have hn0 : 0 ≤ T 0 0 := by omega
  refine V_lv (lv' := [(0, .ref (ad 0))]) rfl ?_
  refine V_aload_n hx dX2_mean_0 0 rfl ?_
  refine gf_X2_10 hx 0 (SW_tillx) rfl dX2_mean_1 ?_
  refine gf_X2_47 hx (ix 0 0) (SW_shop hk) rfl dX2_mean_4 ?_
  refine V_iconst hx dX2_mean_7 ?_
  refine V_icmp_ge hx dX2_mean_8 13 (by decide) (by first | assumption | exact hT _ _ | exact ⟨by omega, by omega⟩) ⟨by decide, by decide⟩ (fun h8 => ?_) (fun h8 => ?_)
  · refine V_aload_n hx dX2_mean_13 0 rfl ?_
    refine gf_X2_10 hx 0 (SW_tillx) rfl dX2_mean_14 ?_
    refine V_callNi hx (m_sumLost l hk T hT (by omega) (by omega)) cw_X2_162 (RMn (by decide) (by decide)) rfl (ix 0 0) (SW_shop hk) rfl rfl (Nat.le_of_ble_eq_true rfl) dX2_mean_17 0 0 rfl rfl (fun z1 ws1 e1 => ?_)
    obtain ⟨rfl, rfl⟩ := e1
    refine V_i2d hx dX2_mean_20 ?_
    refine V_aload_n hx dX2_mean_21 0 rfl ?_
    refine gf_X2_10 hx 0 (SW_tillx) rfl dX2_mean_22 ?_
    refine gf_X2_47 hx (ix 0 0) (SW_shop hk) rfl dX2_mean_25 ?_
    refine V_i2d hx dX2_mean_28 ?_
    exact hE1 _ _ _ _ _ dX2_mean_29 dX2_mean_30 (fun z hz => ⟨by rw [mnV_1 (by omega)]; exact hz, rfl⟩)
  · refine V_dconst0 hx dX2_mean_11 ?_
    exact hE _ _ _ _ dX2_mean_12 ⟨by rw [mnV_0 (by omega)]; exact al_refl _, rfl⟩
