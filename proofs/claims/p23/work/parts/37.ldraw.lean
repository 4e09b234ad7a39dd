/-! what draws: isSame and its mean -/
def XD (x : CT) (d : Drawn) : CT := match x with
  | (p, l, e, R, s, m, args, below, meth, c, g, nL, A, H0, Q) => (p, l, e, R, s.setDrawn d, m, args, below, meth, c, g, nL, A, H0, Q)
def DRN (x : CT) (d : Drawn) : Prop := match x with
  | (_, _, _, _, s, _, _, _, _, _, _, _, _, _, _) => s.drawn.sameBut d lw_cs
def MZD (l : Launch) (y : MethodName) (cc : ByteArray) (maxL : Nat) (rm : Room) (g : GT) (as : List Value) (ws : va_W) (post : Int → va_W → Prop) : Prop :=
  ∀ sz, MetD lw_cs l y [.code y cc maxL (some .boolean)] rm (K0T g as sz ws) (va_Qi (fun r ws' => ∃ z, r = iZ z ∧ post z ws') (KB g ws sz) (va_A ws sz)) rm.cells rm.slots (va_A ws sz)
theorem MZD.of {own : String} {l : Launch} {y : MethodName} {cc : ByteArray} {maxL : Nat} {rm : Room} {g : GT} {as : List Value} {ws : va_W} {post : Int → va_W → Prop} (hy : plainName y.cls = true) (ho : y.cls = own) (hL : (lg_sl as).length ≤ maxL)
    (body : ∀ x : CT, (∀ d, FX (XD x d) l rm g maxL cc own) → (∀ d, TXF (XD x d)) → (∀ (d : Drawn) (pc k n : Nat) (lv : List (Nat × Value)) (z : Int) (ws' : va_W), DRN x d → decode cc pc = .ok (.ireturn, 1) → narrow .boolean (.int (iZ z)) = .int (iZ z) → k ≤ rm.cells → n ≤ rm.slots → post z ws' → V (XD x d) k n ws' pc lv [.int (iZ z)]) → ∀ d, DRN x d → V (XD x d) 0 0 ws 0 (lv_args 0 as) []) : MZD l y cc maxL rm g as ws post := by
  subst ho
  intro sz
  refine MetD.ofW (cc := cc) (maxL := maxL) (ret := some .boolean) hy rfl ?_
  intro p e s m args below meth c s₁ B hml hv hd0
  obtain ⟨rfl, hsz, hT, hP, hK, hD0, hZ, hN⟩ := hv
  subst hsz
  have hx := B.exec
  have hb := B.bytes
  have hr := B.returns
  have hown : s.vm.findClass y.cls = some m.cls := findClass_of_methodNamed B.named
  have hlocks := B.notSynchronized
  have hD := hD0.self (sz := s.heap.size)
  have hS : va_S (va_A ws s.heap.size) s.heap s.heap [] := va_S.rf
  have hl := lv_entry as (n := maxL) hL
  rw [lg_entry_eq]
  refine body (p, l, e, (headSpec [.code y cc maxL (some .boolean)] rm).room, s, m, as.toArray, below, meth, c, g, maxL, va_A ws s.heap.size, s.heap, _) (fun d => ⟨rfl, rfl, rfl, rfl, hx, hb, hml, hown, TB.same (s := s) rfl hT, va_K.moved (u := s) (U := s.setDrawn d) (Vm.Alike.refl s.vm) hK, hlocks, fun q h => Or.inr h⟩) (fun d => ⟨hZ.go (U := s.setDrawn d) (fun _ _ _ => rfl) (State.WarmedH.refl s) (fun _ h => h), NCS.moved (u := s) (U := s.setDrawn d) (Vm.Alike.refl s.vm) hN⟩) ?_ s.drawn hd0 s.heap [] _ hP hD hS hl
  intro d pc k n lv z ws' hd hdg hn9 hk hn hp H locs ls hP hD hS h
  refine W.widen hk hn ?_
  refine W.endD hd ?_
  exact W.zret hx hb hr hn9 (fun t ht hW => ⟨⟨iZ z, ws', rfl, ⟨z, rfl, hp⟩, by rw [ht]; exact hP, hD⟩, hS.F ht⟩) hS.2.2 hdg hlocks
section VLD
variable {x : CT} {l : Launch} {R : Room} {g : GT} {nL : Nat} {cc : ByteArray} {own : String} {k n : Nat} {ws W1 wr : va_W} {pc : Nat} {lv : List (Nat × Value)} {st0 st : List Value}
variable {y : MethodName} {bytes : ByteArray} {maxL index np : Nat} {rm : Room} {as : List Value} {b : Nat} {M : MM} {ad : Nat → Nat} {P : Nat → TS} {T : TS}
theorem V_callFd {post : UInt64 → va_W → Prop} {d0 : Drawn} (hx : FX (XD x d0) l R g nL cc own) (hd0 : DRN x d0) (hM : MD l y bytes maxL rm g (.ref b :: as) W1 post) (cw : CWD own index y bytes maxL (some .double) np) (hR : RM R rm maxL k n) {ci N : Nat} {T : u_T} {fs : List Value} (hc : vwCl[ci]? = some (y.cls, T, N)) (i : Nat) (he : W1[i]? = some (b, .inr (ci, fs)))
    (hst : st0 = as.reverse ++ .ref b :: st) (hn : as.length = np) (hcat : (st.map fun v => v.category).sum ≤ 8) (hd : decode cc pc = .ok (.invokevirtual index, 3)) (k' n' : Nat) (hk' : k + rm.cells = k') (hn' : n + rm.slots = n')
    (kk : ∀ (z : UInt64) (ws' : va_W) (d' : Drawn), DRN x d' → post z ws' → V (XD x d') k' n' (ws' ++ wr) (pc + 3) lv (.double z :: st)) : V (XD x d0) k n (W1 ++ wr) pc lv st0 := by
  subst hk' hn'
  obtain ⟨p, l', e, R', s, m, args, below, meth, c, g', nL', A, H0, Q⟩ := x
  obtain ⟨rfl, rfl, rfl, rfl, hx, hb, hml, hown, hts, hK, hlk, hA⟩ := hx
  intro H locs ls hP hD hS h
  have hPc : va_P g'.1 vwCl W1 H := P_sub (r := wr) (List.Perm.refl _) hP
  have hDc : va_D A W1 := D_sub (r := wr) (List.Perm.refl _) hD
  have hF := va_A_of hDc hS hA
  refine va_calldD hd0 (va_runV_D (As := as) (rest := st) (Ts := []) ⟨hx, hb, hml, hown, fun _ h => by cases h⟩ (hM H.size) (cwd_of hts cw hR) ⟨K0_blind, V_recv hK hPc hc i he, K0_at hts hK hPc hDc⟩ rfl hn h.1 hst (lv_room hcat) hd hR.2.2) hS (fun q _ h => hF q h) hF (fun r ws' t H1 locs1 ht hvm hw hB hz1 hk1 hS1 d' hd' => ?_)
  obtain ⟨j1, j2⟩ := fr_join hP hD hk1 hF (ht ▸ hB.1) hB.2
  exact kk r ws' d' hd' hw H1 locs1 ls j1 j2 hS1 h
theorem M_callD {post : UInt64 → va_W → Prop} {d0 : Drawn} (hx : FX (XD x d0) l R g nL cc own) (hd0 : DRN x d0) (hM : HM M ws) (hC : CWM g ad M P T) (hA : AI ad) (hK : MD l y bytes maxL rm g (.ref (ad 0) :: as) (SW g ad P 0 T) post) (hy : y.cls = RX2) (cw : CWD own index y bytes maxL (some .double) np) (hR : RM R rm maxL k n)
    (hst : st0 = as.reverse ++ .ref (ad 0) :: st) (hn : as.length = np) (hcat : (st.map fun v => v.category).sum ≤ 8) (hd : decode cc pc = .ok (.invokevirtual index, 3)) (k' n' : Nat) (hk' : k + rm.cells = k') (hn' : n + rm.slots = n')
    (kk : ∀ (z : UInt64) (ws' : va_W) (d' : Drawn), DRN x d' → post z ws' → ∃ P' T', ws' = SW g ad P' 0 T' ∧ ∀ (ws1 : va_W) (M1 : MM), HM M1 ws1 → CWM g ad M1 P' T' → KP (fun r => r ≠ 1000) M M1 → V (XD x d') k' n' ws1 (pc + 3) lv (.double z :: st)) : V (XD x d0) k n ws pc lv st0 := by
  obtain ⟨wr, hp⟩ := CW_pm hM hC hA
  refine V_pm hp (V_callFd hx hd0 hK cw hR (T := TX2) (N := 2) (ci := 2) (by rw [hy]; rfl) 0 SW_till hst hn hcat hd k' n' hk' hn' (fun z ws' d' hd' hw => ?_))
  obtain ⟨P', T', rfl, k9⟩ := kk z ws' d' hd' hw
  obtain ⟨M', h1, h2, h3⟩ := CW_back (P' := P') (T' := T') hM hp hC hA
  exact k9 _ M' h1 h2 h3
theorem V_dcmp (hx : FX x l R g nL cc own) {a c9 : UInt64} (hd : decode cc pc = .ok (.dcmp .l, 1)) (kk : V x k n ws (pc + 1) lv (.int (iZ (cmpI a c9)) :: st)) : V x k n ws pc lv (.double c9 :: .double a :: st) := by
  unfold cmpI at kk
  rw [iZ_of] at kk
  obtain ⟨p, l', e, R', s, m, args, below, meth, c, g', nL', A, H0, Q⟩ := x
  obtain ⟨rfl, rfl, rfl, rfl, hx, hb, hml, hown, hts, hK, hlk9, hA⟩ := hx
  intro H locs ls hP hD hS h
  exact lv_dcmp hx hb hd (kk H locs ls hP hD hS h)
theorem V_ddivD {d0 : Drawn} (hx : FX (XD x d0) l R g nL cc own) (hd0 : DRN x d0) {a c9 : UInt64} (hd : decode cc pc = .ok (.ddiv, 1)) (kk : ∀ (r : UInt64) (d' : Drawn), alike64 r (FP.ddiv a c9) = true → DRN x d' → V (XD x d') k n ws (pc + 1) lv (.double r :: st)) : V (XD x d0) k n ws pc lv (.double c9 :: .double a :: st) := by
  obtain ⟨p, l', e, R', s, m, args, below, meth, c, g', nL', A, H0, Q⟩ := x
  obtain ⟨rfl, rfl, rfl, rfl, hx, hb, hml, hown, hts, hK, hlk, hA⟩ := hx
  intro H locs ls hP hD hS h
  exact lv_ddiv_any hd0 lw_bits hx hb hd (fun r d1 hal hd2 => kk r d1 hal hd2 H locs ls hP hD hS h)
/-- isSame, called by the law -/
theorem V_callZD {post : Int → va_W → Prop} {d0 : Drawn} (hx : FX (XD x d0) l R g nL cc own) (hz : TXF (XD x d0)) (hd0 : DRN x d0) (hM : MZD l y bytes maxL rm g (.ref b :: as) ws post) (cw : CWD own index y bytes maxL (some .boolean) np) (hR : RM R rm maxL k n) {ci N : Nat} {T : u_T} {fs : List Value} (hc : vwCl[ci]? = some (y.cls, T, N)) (i : Nat) (he : ws[i]? = some (b, .inr (ci, fs)))
    (hst : st0 = as.reverse ++ .ref b :: st) (hn : as.length = np) (hcat : (st.map fun v => v.category).sum ≤ 8) (hd : decode cc pc = .ok (.invokevirtual index, 3)) (k' n' : Nat) (hk' : k + rm.cells = k') (hn' : n + rm.slots = n')
    (kk : ∀ (z : Int) (ws' : va_W) (d' : Drawn), DRN x d' → post z ws' → V (XD x d') k' n' ws' (pc + 3) lv (.int (iZ z) :: st)) : V (XD x d0) k n ws pc lv st0 := by
  subst hk' hn'
  obtain ⟨p, l', e, R', s, m, args, below, meth, c, g', nL', A, H0, Q⟩ := x
  obtain ⟨rfl, rfl, rfl, rfl, hx, hb, hml, hown, hts, hK, hlk, hA⟩ := hx
  obtain ⟨hZ, hN⟩ := hz
  intro H locs ls hP hD hS h
  have hF := va_A_of hD hS hA
  refine va_calliD hd0 (va_runV_D (As := as) (rest := st) (Ts := []) ⟨hx, hb, hml, hown, fun _ h => by cases h⟩ (hM H.size) (cwd_of hts cw hR) ⟨K0T_blind, V_recv hK hP hc i he, K0T_at hts hK hP hD hS hZ hN hF⟩ rfl hn h.1 hst (lv_room hcat) hd hR.2.2) hS (fun q _ h => hF q h) hF (fun r ws' t H1 locs1 ht hvm hw hB hz1 hk1 hS1 d' hd' => ?_)
  obtain ⟨z, rfl, hw⟩ := hw
  exact kk z ws' d' hd' hw H1 locs1 ls (ht ▸ hB.1) (hB.2.weaken (fun _ q _ h => hF q.1 h)) hS1 h
end VLD
set_option maxHeartbeats 4000000 in
set_option maxRecDepth 100000 in
theorem z_isSame (l : Launch) (hst : l.stackTraces = false) {g : GT} {ws : va_W} {M : MM} (hM : HM M ws) {ad : Nat → Nat} (hA : AI ad) {sp : Nat} {cl : Nat → Nat} {P : Nat → TS} {T : TS} {B : Int} (hSt : STT g ad M sp cl P T B) (hB : B ≤ 3000) (h1c : 1 ≤ T 0 1) : MZD l yX4_isSame cX4_isSame 9 (rmA 9 1500 9000) g [.ref sp, .ref (ad 0)] ws (fun z _ => z = 1) := by
  refine MZD.of (own := RX4) (by decide) rfl (Nat.le_of_ble_eq_true rfl) (fun x0 hX hZ hE d0 hd0 => ?_)
  refine V_lv (lv' := [(0, .ref (sp)), (1, .ref ((ad 0)))]) rfl ?_
  obtain ⟨-, -, hw, -, -⟩ := id hSt
  obtain ⟨hT, ⟨tn1, tn8⟩, ⟨hc0, hc9⟩, ⟨hz0, hz9⟩, ham1, hck9⟩ := id hw
  have hni := nc_i hw
  have h6 : nc T ≤ 6 := by omega
  refine z_sameP l hst (hX d0) (hZ d0) hM hA hSt hB (fun ws1 M1 hM1 hC hS => ?_)
  have hx := hX d0
  obtain ⟨⟨am, sl, ck, co, h0⟩, hCK⟩ := id hS
  obtain ⟨hsp, ⟨va, ham, hva⟩, ⟨vs, hsv, hvs⟩, ⟨fk, hck, hfk⟩, hcl⟩ := id h0
  have hbz : iZ (T 0 1) ≠ 0 := fun h9 => by have h8 : (iZ (T 0 1)).toInt = T 0 1 := iZ_toInt ⟨by omega, by omega⟩; rw [h9] at h8; have h7 : (0 : Int32).toInt = 0 := (by decide); omega
  have hnn : isNaN64 (mnV T) = false := by rw [mnV_1 (by omega)]; exact fl_nn _ _ hbz
  refine V_aload_n hx dX4_isSame_610 1 rfl ?_
  refine M_callD hx hd0 hM1 hC hA (x_mean l T (wf_shp hw (by omega))) rfl cw_X4_126 (RMa (by dsimp only [rmA, rmN, rmX]; omega) (by dsimp only [rmA, rmN, rmX]; omega) (by dsimp only [rmA, rmN, rmX]; omega) (by dsimp only [rmA, rmN, rmX]; omega)) rfl rfl (Nat.le_of_ble_eq_true rfl) dX4_isSame_611 _ _ rfl rfl (fun z1 w1 d1 hd1 e1 => ?_)
  obtain ⟨hal, rfl⟩ := e1
  have ez := fl_al hal hnn
  subst ez
  refine ⟨P, T, rfl, fun ws1 M1 hM1 hC9 kp1 => ?_⟩
  have hx := hX d1
  replace hsp := kp1 _ _ _ hsp (by show _ ≠ _; omega)
  replace hck := kp1 _ _ _ hck (by show _ ≠ _; omega)
  replace ham := kp1 _ _ _ ham (by show _ ≠ _; omega)
  replace hsv := kp1 _ _ _ hsv (by show _ ≠ _; omega)
  replace hS := sim_kp hS h6 kp1 (fun r hr => by first | trivial | (show _ ≠ _; omega))
  refine V_aload_n hx dX4_isSame_614 0 rfl ?_
  obtain ⟨i9, hi9⟩ := hM1.at hsp
  refine gf_X4_9 hx i9 hi9 rfl dX4_isSame_615 ?_
  obtain ⟨i9, hi9⟩ := hM1.at hck
  refine V_alenK hx (t0 := 3) i9 hi9 rfl (v := T 0 1) hni dX4_isSame_618 ?_
  refine V_if_ne hx dX4_isSame_619 626 (by decide) (by first | assumption | exact ⟨by omega, by omega⟩) (fun h619 => ?_) (fun h619 => absurd h619 (fun h9 => by omega))
  refine V_aload_n hx dX4_isSame_626 0 rfl ?_
  refine V_iconst hx dX4_isSame_627 ?_
  obtain ⟨i9, hi9⟩ := hM1.at hsp
  refine V_calli hx (z_counted l hM1 hS hw (by omega) (wh := 4) (by omega) (by omega)) cw_X4_101 (RMa (by dsimp only [rmA, rmN, rmX]; omega) (by dsimp only [rmA, rmN, rmX]; omega) (by dsimp only [rmA, rmN, rmX]; omega) (by dsimp only [rmA, rmN, rmX]; omega)) rfl i9 hi9 rfl rfl (Nat.le_of_ble_eq_true rfl) dX4_isSame_628 _ _ rfl rfl (fun z2 w2 e2 => ?_)
  obtain ⟨rfl, M2, hM2, kp2⟩ := e2
  replace hsp := kp2 _ _ _ hsp (by show _ ≠ _; omega)
  replace hck := kp2 _ _ _ hck (by show _ ≠ _; omega)
  replace ham := kp2 _ _ _ ham (by show _ ≠ _; omega)
  replace hsv := kp2 _ _ _ hsv (by show _ ≠ _; omega)
  replace hS := sim_kp hS h6 kp2 (fun r hr => by first | trivial | (show _ ≠ _; omega))
  refine V_top (b := sm (nc T) (ltF T)) rfl ?_
  refine V_i2d hx dX4_isSame_631 ?_
  refine V_aload_n hx dX4_isSame_632 0 rfl ?_
  obtain ⟨i9, hi9⟩ := hM2.at hsp
  refine gf_X4_9 hx i9 hi9 rfl dX4_isSame_633 ?_
  obtain ⟨i9, hi9⟩ := hM2.at hck
  refine V_alenK hx (t0 := 3) i9 hi9 rfl (v := T 0 1) hni dX4_isSame_636 ?_
  refine V_i2d hx dX4_isSame_637 ?_
  refine V_ddivD hx hd1 dX4_isSame_638 (fun r d2 hal2 hd2 => ?_)
  have er : r = mnV T := fl_al (by rw [mnV_1 (by omega)]; exact hal2) hnn
  subst er
  have hx := hX d2
  refine V_dcmp hx dX4_isSame_639 ?_
  refine V_top (b := 0) (fl_eq hnn) ?_
  refine V_if_ne hx dX4_isSame_640 647 (by decide) ⟨by decide, by decide⟩ (fun h640 => absurd h640 (by decide)) (fun h640 => ?_)
  refine V_iconst hx dX4_isSame_643 ?_
  refine V_goto hx dX4_isSame_644 648 (by decide) ?_
  exact hE _ _ _ _ _ _ _ hd2 dX4_isSame_648 rfl (by dsimp only [rmA, rmX, rmN]; omega) (by dsimp only [rmA, rmX, rmN]; omega) rfl
