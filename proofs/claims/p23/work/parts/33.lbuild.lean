/-! the law: build -/
/-- a constructor, called by its name -/
def CIP (own : String) (index : Nat) (y : MethodName) (bytes : ByteArray) (maxL : Nat) (np : Nat) : Prop :=
  Cond.methodLink own index y ∈ tbl ∧ Cond.instanceMethod y ∈ tbl ∧ y.name = "<init>" ∧ Cond.code y bytes maxL none ∈ tbl ∧ Cond.initialized y.cls ∈ tbl ∧ (y.cls ≠ "java/lang/invoke/MethodHandle" ∧ y.cls ≠ "java/lang/invoke/VarHandle") ∧ (parseMethodDescriptor y.desc).map (fun d => d.parameters.length) = some np
theorem cip_of {R : Room} {s : State} {args : Array Value} {own : String} {index : Nat} {y : MethodName} {bytes : ByteArray} {maxL : Nat} {rm : Room} {np k n : Nat} (hT : TB s) (h : CIP own index y bytes maxL np) (hR : RM R rm maxL k n) : CallB R s args own index y bytes maxL none [.code y bytes maxL none] rm rm.cells rm.slots np ∧ y.name = "<init>" ∧ (Cond.instanceMethod y).before args s = true := by
  obtain ⟨h1, h2, h3, h4, h5, h6, h7⟩ := h
  refine ⟨⟨rfl, rfl, hR.1, hR.2.1, fun w hw a U hW => ?_, List.mem_cons_self, hT _ _ h4, hT _ _ h5, h6, fun sig hs => ?_, hT _ _ h1⟩, h3, hT _ _ h2⟩
  · rw [List.mem_singleton.mp hw]; exact tb_pay hT h4 a U hW
  · rw [hs] at h7; exact (Option.some.inj h7).symm
theorem ci_L_55 : CIP RL 55 yX4_init cX4_init 2 1 := ⟨q528, q529, rfl, q530, q4, ⟨by decide +kernel, by decide +kernel⟩, by decide +kernel⟩
section VLI
variable {x : CT} {l : Launch} {R : Room} {g : GT} {nL : Nat} {cc : ByteArray} {k n : Nat} {ws : va_W} {pc : Nat} {lv : List (Nat × Value)} {st0 st : List Value} {own : String}
variable {y : MethodName} {bytes : ByteArray} {maxL index np : Nat} {rm : Room} {as : List Value} {b : Nat}
theorem V_callI {post : va_W → Prop} (hx : FX x l R g nL cc own) (hM : MV l y bytes maxL rm g (.ref b :: as) ws post) (cw : CIP own index y bytes maxL np) (hR : RM R rm maxL k n)
    (hst : st0 = as.reverse ++ .ref b :: st) (hn : as.length = np) (hcat : (st.map fun v => v.category).sum ≤ 8) (hd : decode cc pc = .ok (.invokespecial index, 3)) (k' n' : Nat) (hk' : k + rm.cells = k') (hn' : n + rm.slots = n') (kk : ∀ (ws' : va_W), post ws' → V x k' n' ws' (pc + 3) lv st) : V x k n ws pc lv st0 := by
  subst hk' hn'
  obtain ⟨p, l', e, R', s, m, args, below, meth, c, g', nL', A, H0, Q⟩ := x
  obtain ⟨rfl, rfl, rfl, rfl, hx, hb, hml, hown, hts, hK, hlk, hA⟩ := hx
  intro H locs ls hP hD hS h
  have hF := va_A_of hD hS hA
  refine va_callv (va_runI (As := as) (rest := st) (Ts := []) ⟨hx, hb, hml, hown, fun _ h => by cases h⟩ (hM H.size) (cip_of hts cw hR) ⟨K0_blind, K0_at hts hK hP hD⟩ rfl hn h.1 hst (lv_room hcat) hd hR.2.2) hS (fun q _ h => hF q h) hF (fun ws' t H1 locs1 ht hvm hw hB hz1 hk1 hS1 => ?_)
  exact kk ws' hw H1 locs1 ls (ht ▸ hB.1) (hB.2.weaken (fun _ q _ h => hF q.1 h)) hS1 h
end VLI
/-- one drawer's amount, by hand -/
def c1 (d : Nat) (v : Int) : Nat → Int := fun b => if b = d then v else -1
theorem slp_1 {d : Nat} {v : Int} (hd : d < 8) (hv : v ≠ -1) : SLP (c1 d v) 1 (fun _ => d) := by
  have e1 : c1 d v d = v := if_pos rfl
  have e2 : ∀ i, i ≠ d → c1 d v i = -1 := fun i hi => if_neg hi
  refine ⟨fun i hi => ⟨hd, by rw [e1]; exact hv⟩, fun i j hi hj _ => by omega, fun e he h9 => ⟨0, by omega, Classical.byContradiction (fun hx => h9 (e2 e (fun h => hx h.symm)))⟩, ?_⟩
  have e0 : sm 8 (fun _ => 0) = 0 := rfl
  have h := sm_upd (f := fun _ => 0) (f' := fun b => bz (c1 d v b ≠ -1)) (d := d) (fun i hi => bz_f (fun h9 => h9 (e2 i hi))) 8
  rw [h, e0, if_pos hd, bz_t (by rw [e1]; exact hv)]
  rfl
theorem cc_py {T : TS} {d : Nat} {v : Int} (hd : d < nd T) (hv : v ≠ -1) : ccT T (c1 d v) (-1) ((1 : Nat) : Int) = pyT T d v := by
  have e : clG (pt T 0 2 (T 0 2 + 1)) (c1 d v) (nd T) (T 0 2 + 1) = pt (pt (pt T 0 2 (T 0 2 + 1)) 1 d v) 2 d (T 0 2 + 1) := by
    funext a b
    unfold clG
    by_cases hx : b = d
    · subst hx
      have e1 : c1 b v b = v := if_pos rfl
      rw [e1]
      by_cases h1 : a = 1
      · subst h1
        rw [if_pos ⟨rfl, hd, hv⟩, pt_ne _ _ (Or.inl (by omega)), pt_at]
      · by_cases h2 : a = 2
        · subst h2
          rw [if_neg (by omega), if_pos ⟨rfl, hd, hv⟩, pt_at]
        · rw [if_neg (fun h => h1 h.1), if_neg (fun h => h2 h.1), pt_ne _ _ (Or.inl h2), pt_ne _ _ (Or.inl h1)]
    · have e1 : c1 d v b = -1 := if_neg hx
      rw [e1, if_neg (fun h => h.2.2 rfl), if_neg (fun h => h.2.2 rfl), pt_ne _ _ (Or.inr hx), pt_ne _ _ (Or.inr hx)]
  unfold ccT pyT
  rw [e]
  rfl
theorem py_q {T : TS} {d a b : Nat} {v : Int} (ha : 7 ≤ a) : pyT T d v a b = T a b := by
  unfold pyT
  rw [kcT_ne (by omega), pt_ne _ _ (Or.inl (by omega)), pt_ne _ _ (Or.inl (by omega)), pt_ne _ _ (Or.inl (by omega))]
theorem py_0 {T : TS} {d b : Nat} {v : Int} (hb : b ≠ 2) : pyT T d v 0 b = T 0 b := by
  unfold pyT
  rw [kcT_ne (by omega), pt_ne _ _ (Or.inl (by omega)), pt_ne _ _ (Or.inl (by omega)), pt_ne _ _ (Or.inr hb)]
theorem py_1 {T : TS} {d b : Nat} {v : Int} (hb : b ≠ d) : pyT T d v 1 b = T 1 b := by
  unfold pyT
  rw [kcT_ne (by omega), pt_ne _ _ (Or.inl (by omega)), pt_ne _ _ (Or.inr hb), pt_ne _ _ (Or.inl (by omega))]
/-- a closing by hand, in the law's till -/
theorem sim_py {g : GT} {M M' : MM} {sp am sl ck co d : Nat} {cl : Nat → Nat} {T : TS} {v : Int} (hS : SIM g M sp cl T) (h9 : SM0 g M' sp am sl ck co cl (ccT T (c1 d v) (-1) ((1 : Nat) : Int))) (h6 : nc T ≤ 6) (hd : d < nd T) (hv : v ≠ -1) (k : KP (fun r => r ≠ 1 ∧ r ≠ 2 ∧ r ≠ 3 ∧ r ≠ 900) M M') : SIM g M' sp cl (pyT T d v) := by
  rw [cc_py hd hv] at h9
  refine ⟨⟨am, sl, ck, co, h9⟩, fun c hc => ?_⟩
  have en : nc (pyT T d v) = nc T := by unfold nc; rw [py_0 (by omega)]
  rw [en] at hc
  exact ck_T (ck_kp (hS.2 c hc) k (by omega) (by omega) (by omega)) (fun a b h1 h2 => py_q (by omega))
theorem rws_1 {g : GT} {M : MM} {ro q d : Nat} {v : Int} {f0 : Nat → Option Nat} {w : Nat → Int32} (h1 : M ro = some (4, RA g 1 f0)) (h2 : f0 0 = some q) (h3 : M q = some (4, IA g 2 w)) (w0 : w 0 = iZ (d : Int)) (w1 : w 1 = iZ v) : RWS g M ro 1 4 2 (fun _ => q) (fun i j => if j = 0 then (((fun _ => d) i : Nat) : Int) else c1 d v ((fun _ => d) i)) := by
  refine ⟨⟨f0, h1, fun i hi => by rw [show i = 0 by omega]; exact h2⟩, fun i hi => ⟨w, h3, fun j hj => ?_⟩⟩
  rcases (show j = 0 ∨ j = 1 by omega) with rfl | rfl
  · exact w0
  · show w 1 = iZ (c1 d v d)
    unfold c1
    rw [if_pos rfl]
    exact w1
set_option maxHeartbeats 4000000 in
set_option maxRecDepth 100000 in
theorem z_build (l : Launch) (hst : l.stackTraces = false) {g : GT} {ws : va_W} {M : MM} (hM : HM M ws) {ad : Nat → Nat} (hA : AI ad) {P : Nat → TS} (hC : CWM g ad M P T0i) (hP1 : RG (P 1)) {b L : Nat} {xs : Nat → Int32} (hL : L ≤ 260) : MQS l yL_build cL_build 7 (.object "TillOptimistsLaw$Sim") (rmA 10 400 20000) g b L xs [.ref (ad 0), .ref b] ws (fun r ws9 => ∃ sp cl M9 T9, r = some sp ∧ HM M9 ws9 ∧ STT g ad M9 sp cl P T9 8 ∧ 1 ≤ T9 0 1 ∧ KP LOC M M9) := by
  refine MQS.of (by decide) rfl (Nat.le_of_ble_eq_true rfl) (Or.inl ⟨_, rfl⟩) (fun x hx hz hs hE => ?_)
  refine V_lv (lv' := [(0, .ref ((ad 0))), (1, .ref (b))]) rfl ?_
  have hk : KP LOC M M := KP.rf
  refine M_new hx hM 1 (C := RX4) (T := TX4) (N := 4) (ci := 4) rfl inT4 tyX4 tyX4_ok q526 q527 q4 [.null, .null, .null, .null] (fun j hj => by rcases (show j = 0 ∨ j = 1 ∨ j = 2 ∨ j = 3 by omega) with h | h | h | h <;> subst h <;> rfl) (by dsimp only [rmA, rmX, rmN]; omega) (by dsimp only [rmA, rmX, rmN]; omega) dL_build_0 (fun q1 ws1 M1 hM1 f1 fr1 hn1 kp1 => ?_)
  replace hk := hk.tr (kp1.of (fun r (h : 1001 ≤ r) => by first | trivial | (show _ ≠ _; omega)))
  replace hC := cwm_kp hC kp1 (by first | trivial | (show _ ≠ _; omega))
  have hsp := f1
  refine V_dup hx dL_build_3 rfl ?_
  refine V_iconst hx dL_build_4 ?_
  refine V_aload_n hx dL_build_5 1 rfl ?_
  refine V_iconst hx dL_build_6 ?_
  refine V_callIS hx hz hs (z_cell l hL (k9 := 0) (by omega) (by omega)) cw_L_51 (RMa (by dsimp only [rmA, rmN, rmX]; omega) (by dsimp only [rmA, rmN, rmX]; omega) (by dsimp only [rmA, rmN, rmX]; omega) (by dsimp only [rmA, rmN, rmX]; omega)) rfl rfl (Nat.le_of_ble_eq_true rfl) dL_build_7 _ _ rfl rfl (fun c2 w2 e2 => ?_)
  obtain ⟨c2r, e2⟩ := e2
  replace e2 := e2.symm
  subst e2
  refine V_bipush hx dL_build_10 rfl ?_
  refine V_callSi hx (z_below l (v := c2) (n := 8) (by omega) (by omega)) cw_L_15 (RMa (by dsimp only [rmA, rmN, rmX]; omega) (by dsimp only [rmA, rmN, rmX]; omega) (by dsimp only [rmA, rmN, rmX]; omega) (by dsimp only [rmA, rmN, rmX]; omega)) rfl rfl (Nat.le_of_ble_eq_true rfl) dL_build_12 _ _ rfl rfl (fun b3 w3 e3 => ?_)
  obtain ⟨⟨b3l, b3h⟩, e3⟩ := e3
  replace e3 := e3.symm
  subst e3
  refine V_iadd hx dL_build_15 ?_
  obtain ⟨n0, hn0⟩ := Int.eq_ofNat_of_zero_le (show 0 ≤ 1 + b3 by omega)
  refine V_top (b := ((n0 : Nat) : Int)) hn0 ?_
  refine V_callI hx (z_siminit l hM1 (n := n0) (by omega) hsp) ci_L_55 (RMa (by dsimp only [rmA, rmN, rmX]; omega) (by dsimp only [rmA, rmN, rmX]; omega) (by dsimp only [rmA, rmN, rmX]; omega) (by dsimp only [rmA, rmN, rmX]; omega)) rfl rfl (Nat.le_of_ble_eq_true rfl) dL_build_16 _ _ rfl rfl (fun w4 e4 => ?_)
  obtain ⟨am, sl, ck, co, fk0, fc0, M4, hM4, hsp9, ham, hsl, hck, hco, kp4⟩ := e4
  replace hk := hk.tr (kp4.of (fun r (h : 1001 ≤ r) => by first | trivial | (show _ ≠ _; omega)))
  replace hC := cwm_kp hC kp4 (by first | trivial | (show _ ≠ _; omega))
  have hS : SIM g M4 q1 (fun _ => 0) (bgT T0i n0 8) := sim_0 hsp9 ham hsl hck hco (by omega)
  have h60 : nc (bgT T0i n0 8) ≤ 6 := Nat.zero_le 6
  refine V_astore_n hx dL_build_19 [(2, .ref (q1)), (0, .ref ((ad 0))), (1, .ref (b))] (by decide) rfl ?_
  refine V_aload_n hx dL_build_20 1 rfl ?_
  refine V_aload_n hx dL_build_21 0 rfl ?_
  obtain ⟨i9, hi9⟩ := hM4.at hsp9
  refine gf_L_9 hx i9 hi9 rfl dL_build_22 ?_
  obtain ⟨i9, hi9⟩ := hM4.at ham
  refine V_alenK hx (t0 := 0) i9 hi9 rfl (v := (n0 : Int)) rfl dL_build_25 ?_
  refine M_callX hx hz hM4 hC hA (x_till l hst T0i (wf_shp wf_0 (by decide)) (a := ((n0 : Nat) : Int)) ⟨by omega, by omega⟩) rfl cw_L_58 (RMa (by dsimp only [rmA, rmN, rmX]; omega) (by dsimp only [rmA, rmN, rmX]; omega) (by dsimp only [rmA, rmN, rmX]; omega) (by dsimp only [rmA, rmN, rmX]; omega)) rfl rfl (Nat.le_of_ble_eq_true rfl) dL_build_26 _ _ rfl rfl (fun E hE9 => absurd (show (1 : Int) ≤ ((n0 : Nat) : Int) ∧ ((n0 : Nat) : Int) ≤ 8 from ⟨by omega, by omega⟩) hE9.2) (fun z5 w5 e5 => ?_)
  obtain ⟨-, rfl, rfl⟩ := e5
  refine ⟨P, _, rfl, fun ws5 M5 hM5 hC9 kp5 => ?_⟩
  replace hsp9 := kp5 _ _ _ hsp9 (by show _ ≠ _; omega)
  replace ham := kp5 _ _ _ ham (by show _ ≠ _; omega)
  replace hk := hk.tr (kp5.of (fun r (h : 1001 ≤ r) => by first | trivial | (show _ ≠ _; omega)))
  replace hS := sim_kp hS h60 kp5 (fun r hr => by first | trivial | (show _ ≠ _; omega))
  have hC := hC9
  refine V_top (b := 6) rfl ?_
  refine V_bipush hx dL_build_29 rfl ?_
  refine V_icmp_eq hx dL_build_31 36 (by decide) ⟨by decide, by decide⟩ ⟨by decide, by decide⟩ (fun h31 => ?_) (fun h31 => absurd h31 (fun h9 => h9 rfl))
  refine V_iconst hx dL_build_36 ?_
  refine V_aload_n hx dL_build_37 2 rfl ?_
  refine V_iconst hx dL_build_38 ?_
  refine V_callIS hx hz hs (z_cell l hL (k9 := 1) (by omega) (by omega)) cw_L_51 (RMa (by dsimp only [rmA, rmN, rmX]; omega) (by dsimp only [rmA, rmN, rmX]; omega) (by dsimp only [rmA, rmN, rmX]; omega) (by dsimp only [rmA, rmN, rmX]; omega)) rfl rfl (Nat.le_of_ble_eq_true rfl) dL_build_39 _ _ rfl rfl (fun c6 w6 e6 => ?_)
  obtain ⟨c6r, e6⟩ := e6
  replace e6 := e6.symm
  subst e6
  refine V_bipush hx dL_build_42 rfl ?_
  refine V_callSi hx (z_below l (v := c6) (n := 6) (by omega) (by omega)) cw_L_15 (RMa (by dsimp only [rmA, rmN, rmX]; omega) (by dsimp only [rmA, rmN, rmX]; omega) (by dsimp only [rmA, rmN, rmX]; omega) (by dsimp only [rmA, rmN, rmX]; omega)) rfl rfl (Nat.le_of_ble_eq_true rfl) dL_build_44 _ _ rfl rfl (fun b7 w7 e7 => ?_)
  obtain ⟨⟨b7l, b7h⟩, e7⟩ := e7
  replace e7 := e7.symm
  subst e7
  refine V_iadd hx dL_build_47 ?_
  refine V_istore_n hx dL_build_48 [(3, .int (iZ (1 + b7))), (2, .ref (q1)), (0, .ref ((ad 0))), (1, .ref (b))] (by decide) rfl ?_
  refine V_iconst hx dL_build_49 ?_
  refine V_istore hx dL_build_50 [(4, .int (iZ (0))), (3, .int (iZ (1 + b7))), (2, .ref (q1)), (0, .ref ((ad 0))), (1, .ref (b))] (by decide) rfl ?_
  have hw0 : WF (bgT T0i n0 8) 0 := wf_bg wf_0.1 (Int.le_refl 0) ⟨by omega, by omega⟩
  have hL1 : ∀ (n d : Nat) (w1 : va_W) (N1 : MM) (T : TS), n0 < d + n → d ≤ n0 → HM N1 w1 → STT g ad N1 q1 (fun _ => 0) P T d → T 0 0 = (n0 : Int) → T 0 1 = 0 → (∀ d9, d ≤ d9 → d9 < 8 → T 1 d9 = 0) → KP LOC M N1 → V x (6 + 6 * d) (30 + 2220 * d) w1 52 [(4, .int (iZ ((d : Int)))), (3, .int (iZ (1 + b7))), (2, .ref (q1)), (0, .ref ((ad 0))), (1, .ref (b))] [] := by
    intro n; induction n with
    | zero => intro d w1 N1 T g1 g2; exact absurd g1 (by omega)
    | succ n ih =>
      intro d w1 N1 T g1 g2 hN1 hSt e00 e01 h1 hk
      obtain ⟨hC, hS, hw, hI, hP1⟩ := id hSt
      obtain ⟨⟨am, sl, ck, co, h0⟩, hCK⟩ := id hS
      obtain ⟨hsp, ⟨va, ham, hva⟩, ⟨vs, hsv, hvs⟩, ⟨fk, hck, hfk⟩, hcl⟩ := id h0
      obtain ⟨hT, ⟨tn1, tn8⟩, ⟨hc0, hc9⟩, ⟨hz0, hz9⟩, ham1, hck9⟩ := id hw
      have hni := nc_i hw
      have h6 : nc T ≤ 6 := by omega
      have hnd : ((nd T : Nat) : Int) = T 0 0 := Int.toNat_of_nonneg (by omega)
      have hnd0 : nd T = n0 := by omega
      refine V_iload hx dL_build_52 0 rfl ?_
      refine V_aload_n hx dL_build_54 2 rfl ?_
      obtain ⟨i9, hi9⟩ := hN1.at hsp
      refine gf_L_9 hx i9 hi9 rfl dL_build_55 ?_
      obtain ⟨i9, hi9⟩ := hN1.at ham
      refine V_alenK hx (t0 := 0) i9 hi9 rfl (v := (n0 : Int)) (congrArg Nat.cast hnd0) dL_build_58 ?_
      refine V_icmp_ge hx dL_build_59 173 (by decide) ⟨by omega, by omega⟩ ⟨by omega, by omega⟩ (fun h59 => ?_) (fun h59 => ?_)
      · refine V_widen (k' := 60) (n' := 18000) (by first | omega | (dsimp only [rmA, rmX, rmN]; omega)) (by first | omega | (dsimp only [rmA, rmX, rmN]; omega)) ?_
        have hSt8 := hSt
        refine V_iconst hx dL_build_173 ?_
        refine V_istore hx dL_build_174 [(4, .int (iZ (0))), (3, .int (iZ (1 + b7))), (2, .ref (q1)), (0, .ref ((ad 0))), (1, .ref (b))] (by decide) rfl ?_
        have hL2 : ∀ (n c : Nat) (w1 : va_W) (N1 : MM) (cl : Nat → Nat) (T : TS), 1 + b7 < (c : Int) + n → (c : Int) ≤ 1 + b7 → HM N1 w1 → STT g ad N1 q1 cl P T 8 → T 0 1 = (c : Int) → KP LOC M N1 → V x (60 + 46 * c) (18000 + 263 * c) w1 176 [(4, .int (iZ ((c : Int)))), (3, .int (iZ (1 + b7))), (2, .ref (q1)), (0, .ref ((ad 0))), (1, .ref (b))] [] := by
          intro n; induction n with
          | zero => intro c w1 N1 cl T g1 g2; exact absurd g1 (by omega)
          | succ n ih =>
            intro c w1 N1 cl T g1 g2 hN1 hSt e01 hk
            obtain ⟨hC, hS, hw, hI, hP1⟩ := id hSt
            obtain ⟨⟨am, sl, ck, co, h0⟩, hCK⟩ := id hS
            obtain ⟨hsp, ⟨va, ham, hva⟩, ⟨vs, hsv, hvs⟩, ⟨fk, hck, hfk⟩, hcl⟩ := id h0
            obtain ⟨hT, ⟨tn1, tn8⟩, ⟨hc0, hc9⟩, ⟨hz0, hz9⟩, ham1, hck9⟩ := id hw
            have hni := nc_i hw
            have h6 : nc T ≤ 6 := by omega
            refine V_iload hx dL_build_176 0 rfl ?_
            refine V_iload_n hx dL_build_178 1 rfl ?_
            refine V_icmp_ge hx dL_build_179 269 (by decide) ⟨by omega, by omega⟩ (by first | assumption | exact ⟨by omega, by omega⟩) (fun h179 => ?_) (fun h179 => ?_)
            · refine V_aload_n hx dL_build_269 2 rfl ?_
              exact hE _ _ _ _ (some (q1)) _ dL_build_270 (by dsimp only [rmA, rmX, rmN]; omega) (by dsimp only [rmA, rmX, rmN]; omega) ⟨_, cl, N1, T, rfl, hN1, hSt, by omega, hk⟩
            · refine V_aload_n hx dL_build_182 3 rfl ?_
              refine M_callX hx hz hN1 hC hA (x_clerk l hst T (wf_shp hw (by omega))) rfl cw_L_70 (RMa (by dsimp only [rmA, rmN, rmX]; omega) (by dsimp only [rmA, rmN, rmX]; omega) (by dsimp only [rmA, rmN, rmX]; omega) (by dsimp only [rmA, rmN, rmX]; omega)) rfl rfl (Nat.le_of_ble_eq_true rfl) dL_build_183 _ _ rfl rfl (fun E hE9 => absurd (show T 0 1 < 6 by omega) hE9.2) (fun z8 w8 e8 => ?_)
              obtain ⟨-, rfl, rfl⟩ := e8
              refine ⟨P, _, rfl, fun ws8 M8 hM8 hC9 kp8 => ?_⟩
              replace hsp := kp8 _ _ _ hsp (by show _ ≠ _; omega)
              replace hk := hk.tr (kp8.of (fun r (h : 1001 ≤ r) => by first | trivial | (show _ ≠ _; omega)))
              replace hS := sim_kp hS h6 kp8 (fun r hr => by first | trivial | (show _ ≠ _; omega))
              refine V_top (b := ((c : Nat) : Int)) e01 ?_
              refine V_iload hx dL_build_186 0 rfl ?_
              refine V_icmp_eq hx dL_build_188 193 (by decide) ⟨by omega, by omega⟩ ⟨by omega, by omega⟩ (fun h188 => ?_) (fun h188 => absurd h188 (fun h9 => h9 rfl))
              refine V_aload_n hx dL_build_193 2 rfl ?_
              obtain ⟨i9, hi9⟩ := hM8.at hsp
              refine V_callv hx (z_addClerk l hM8 hS hw (by omega)) cw_L_74 (RMa (by dsimp only [rmA, rmN, rmX]; omega) (by dsimp only [rmA, rmN, rmX]; omega) (by dsimp only [rmA, rmN, rmX]; omega) (by dsimp only [rmA, rmN, rmX]; omega)) rfl i9 hi9 rfl rfl (Nat.le_of_ble_eq_true rfl) dL_build_194 _ _ rfl rfl (fun w9 e9 => ?_)
              obtain ⟨M9, cl9, hM9, hS9, kp9⟩ := e9
              have hC8 := cwm_kp hC9 kp9 (Nat.le_refl 1000)
              have hk9 : KP LOC M M9 := hk.tr (kp9.of (fun r (h : 1001 ≤ r) => by show 1000 ≤ r; omega))
              have hSt9 : STT g ad M9 q1 cl9 P (acT T) 8 := ⟨hC8, hS9, wf_ac hw (by omega), iv_ac hI hw, hP1⟩
              have e91 : acT T 0 1 = ((c + 1 : Nat) : Int) := by unfold acT; rw [pt_at]; omega
              refine V_aload_n hx dL_build_197 4 rfl ?_
              refine V_bipush hx dL_build_198 rfl ?_
              refine V_callIS hx hz hs (z_cell l hL (k9 := 6) (by omega) (by omega)) cw_L_51 (RMa (by dsimp only [rmA, rmN, rmX]; omega) (by dsimp only [rmA, rmN, rmX]; omega) (by dsimp only [rmA, rmN, rmX]; omega) (by dsimp only [rmA, rmN, rmX]; omega)) rfl rfl (Nat.le_of_ble_eq_true rfl) dL_build_200 _ _ rfl rfl (fun c10 w10 e10 => ?_)
              obtain ⟨c10r, e10⟩ := e10
              replace e10 := e10.symm
              subst e10
              refine V_iconst hx dL_build_203 ?_
              refine V_iload hx dL_build_204 0 rfl ?_
              refine V_imul hx dL_build_206 ?_
              refine V_ishr hx dL_build_207 (fun z11 r11 => ?_)
              refine V_bipush hx dL_build_208 rfl ?_
              refine V_callSi hx (z_below l (v := z11) (n := 6) (by omega) (by omega)) cw_L_15 (RMa (by dsimp only [rmA, rmN, rmX]; omega) (by dsimp only [rmA, rmN, rmX]; omega) (by dsimp only [rmA, rmN, rmX]; omega) (by dsimp only [rmA, rmN, rmX]; omega)) rfl rfl (Nat.le_of_ble_eq_true rfl) dL_build_210 _ _ rfl rfl (fun b12 w12 e12 => ?_)
              obtain ⟨⟨b12l, b12h⟩, e12⟩ := e12
              replace e12 := e12.symm
              subst e12
              refine V_istore hx dL_build_213 [(5, .int (iZ (b12))), (4, .int (iZ ((c : Int)))), (3, .int (iZ (1 + b7))), (2, .ref (q1)), (0, .ref ((ad 0))), (1, .ref (b))] (by decide) rfl ?_
              refine V_iconst hx dL_build_215 ?_
              refine V_istore hx dL_build_216 [(6, .int (iZ (0))), (5, .int (iZ (b12))), (4, .int (iZ ((c : Int)))), (3, .int (iZ (1 + b7))), (2, .ref (q1)), (0, .ref ((ad 0))), (1, .ref (b))] (by decide) rfl ?_
              refine V_widen (k' := 66 + 46 * c + 8 * 0) (n' := 18018 + 263 * c + 49 * 0) (by first | omega | (dsimp only [rmA, rmX, rmN]; omega)) (by first | omega | (dsimp only [rmA, rmX, rmN]; omega)) ?_
              have hL3 : ∀ (n j : Nat) (w1 : va_W) (N1 : MM) (T : TS), b12 < (j : Int) + n → (j : Int) ≤ b12 → HM N1 w1 → STT g ad N1 q1 cl9 P T 8 → T 0 1 = ((c + 1 : Nat) : Int) → KP LOC M N1 → V x (66 + 46 * c + 8 * j) (18018 + 263 * c + 49 * j) w1 218 [(6, .int (iZ ((j : Int)))), (5, .int (iZ (b12))), (4, .int (iZ ((c : Int)))), (3, .int (iZ (1 + b7))), (2, .ref (q1)), (0, .ref ((ad 0))), (1, .ref (b))] [] := by
                intro n; induction n with
                | zero => intro j w1 N1 T g1 g2; exact absurd g1 (by omega)
                | succ n ihj =>
                  intro j w1 N1 T g1 g2 hN1 hSt e01 hk
                  have hcn : c < nc T := by have := nc_i hSt.2.2.1; omega
                  refine V_iload hx dL_build_218 0 rfl ?_
                  refine V_iload hx dL_build_220 1 rfl ?_
                  refine V_icmp_ge hx dL_build_222 263 (by decide) ⟨by omega, by omega⟩ (by first | assumption | exact ⟨by omega, by omega⟩) (fun h222 => ?_) (fun h222 => ?_)
                  · refine V_widen (k' := 60 + 46 * (c + 1)) (n' := 18000 + 263 * (c + 1)) (by first | omega | (dsimp only [rmA, rmX, rmN]; omega)) (by first | omega | (dsimp only [rmA, rmX, rmN]; omega)) ?_
                    refine V_iincN hx dL_build_263 2 rfl [(4, .int (iZ (((c + 1 : Nat) : Int)))), (6, .int (iZ ((j : Int)))), (5, .int (iZ (b12))), (3, .int (iZ (1 + b7))), (2, .ref (q1)), (0, .ref ((ad 0))), (1, .ref (b))] (by decide) rfl ?_
                    refine V_goto hx dL_build_266 176 (by decide) ?_
                    exact V_sub [0, 3, 4, 5, 6] rfl (ih (c + 1) _ _ _ T (by omega) (by omega) hN1 hSt e01 hk)
                  · refine V_aload_n hx dL_build_225 5 rfl ?_
                    refine V_aload_n hx dL_build_226 4 rfl ?_
                    refine V_iload hx dL_build_227 2 rfl ?_
                    refine V_aload_n hx dL_build_229 6 rfl ?_
                    refine V_bipush hx dL_build_230 rfl ?_
                    refine V_iload hx dL_build_232 2 rfl ?_
                    refine V_iadd hx dL_build_234 ?_
                    refine V_callIS hx hz hs (z_cell l hL (k9 := 7 + (c : Int)) (by omega) (by omega)) cw_L_51 (RMa (by dsimp only [rmA, rmN, rmX]; omega) (by dsimp only [rmA, rmN, rmX]; omega) (by dsimp only [rmA, rmN, rmX]; omega) (by dsimp only [rmA, rmN, rmX]; omega)) rfl rfl (Nat.le_of_ble_eq_true rfl) dL_build_235 _ _ rfl rfl (fun c13 w13 e13 => ?_)
                    obtain ⟨c13r, e13⟩ := e13
                    replace e13 := e13.symm
                    subst e13
                    refine V_iconst hx dL_build_238 ?_
                    refine V_iload hx dL_build_239 0 rfl ?_
                    refine V_imul hx dL_build_241 ?_
                    refine V_ishr hx dL_build_242 (fun z14 r14 => ?_)
                    refine V_bipush hx dL_build_243 rfl ?_
                    refine V_iload hx dL_build_245 0 rfl ?_
                    refine V_imulA hx dL_build_247 (fun z15 r15 => ?_)
                    refine V_iaddA hx dL_build_248 (fun z16 r16 => ?_)
                    refine V_callHT hx hz (z_sayL l hst hN1 hA hSt (by decide) hcn (x0 := z16)) (ch_say 77 q621) (RMa (by dsimp only [rmA, rmN, rmX]; omega) (by dsimp only [rmA, rmN, rmX]; omega) (by dsimp only [rmA, rmN, rmX]; omega) (by dsimp only [rmA, rmN, rmX]; omega)) rfl rfl (Nat.le_of_ble_eq_true rfl) dL_build_249 _ _ rfl rfl (fun z17 w17 e17 => ?_)
                    obtain ⟨rfl, M17, T17, hM17, hSt9, e90, e91, kp17⟩ := e17
                    refine V_if_ne hx dL_build_252 257 (by decide) ⟨by decide, by decide⟩ (fun h252 => ?_) (fun h252 => absurd h252 (by decide))
                    refine V_iincN hx dL_build_257 0 rfl [(6, .int (iZ (((j + 1 : Nat) : Int)))), (5, .int (iZ (b12))), (4, .int (iZ ((c : Int)))), (3, .int (iZ (1 + b7))), (2, .ref (q1)), (0, .ref ((ad 0))), (1, .ref (b))] (by decide) rfl ?_
                    refine V_goto hx dL_build_260 218 (by decide) ?_
                    refine V_widen (k' := 66 + 46 * c + 8 * (j + 1)) (n' := 18018 + 263 * c + 49 * (j + 1)) (by first | omega | (dsimp only [rmA, rmX, rmN]; omega)) (by first | omega | (dsimp only [rmA, rmX, rmN]; omega)) ?_
                    exact V_sub [0, 1, 2, 3, 4, 5, 6] rfl (ihj (j + 1) _ _ T17 (by omega) (by omega) hM17 hSt9 (e91.trans e01) (hk.tr kp17))
              exact V_sub [0, 1, 2, 3, 4, 5, 6] rfl (hL3 7 0 _ _ _ (by omega) (by omega) hM9 hSt9 e91 hk9)
        refine V_widen (k' := 60 + 46 * 0) (n' := 18000 + 263 * 0) (by first | omega | (dsimp only [rmA, rmX, rmN]; omega)) (by first | omega | (dsimp only [rmA, rmX, rmN]; omega)) ?_
        exact V_sub [0, 1, 2, 3, 4] rfl (hL2 7 0 _ _ _ T (by omega) (by omega) hN1 ⟨hSt8.1, hSt8.2.1, wf_mono hSt8.2.2.1 (by omega), hSt8.2.2.2.1, hSt8.2.2.2.2⟩ e01 hk)
      · refine V_aload_n hx dL_build_62 4 rfl ?_
        refine V_iconst hx dL_build_63 ?_
        refine V_iload hx dL_build_64 0 rfl ?_
        refine V_iconst hx dL_build_66 ?_
        refine V_irem hx ⟨by omega, by omega⟩ ⟨by omega, by omega⟩ dL_build_67 ?_
        refine V_iadd hx dL_build_68 ?_
        refine V_callIS hx hz hs (z_cell l hL (k9 := 2 + ((d : Int) % 4)) (by omega) (by omega)) cw_L_51 (RMa (by dsimp only [rmA, rmN, rmX]; omega) (by dsimp only [rmA, rmN, rmX]; omega) (by dsimp only [rmA, rmN, rmX]; omega) (by dsimp only [rmA, rmN, rmX]; omega)) rfl rfl (Nat.le_of_ble_eq_true rfl) dL_build_69 _ _ rfl rfl (fun c18 w18 e18 => ?_)
        obtain ⟨c18r, e18⟩ := e18
        replace e18 := e18.symm
        subst e18
        refine V_iload hx dL_build_72 0 rfl ?_
        refine V_ishr hx dL_build_74 (fun z19 r19 => ?_)
        refine V_istore hx dL_build_75 [(5, .int (iZ (z19))), (4, .int (iZ ((d : Int)))), (3, .int (iZ (1 + b7))), (2, .ref (q1)), (0, .ref ((ad 0))), (1, .ref (b))] (by decide) rfl ?_
        refine V_iload hx dL_build_77 0 rfl ?_
        refine V_iconst hx dL_build_79 ?_
        refine V_callSi hx (z_below l (v := z19) (n := 3) (by omega) (by omega)) cw_L_15 (RMa (by dsimp only [rmA, rmN, rmX]; omega) (by dsimp only [rmA, rmN, rmX]; omega) (by dsimp only [rmA, rmN, rmX]; omega) (by dsimp only [rmA, rmN, rmX]; omega)) rfl rfl (Nat.le_of_ble_eq_true rfl) dL_build_80 _ _ rfl rfl (fun b20 w20 e20 => ?_)
        obtain ⟨⟨b20l, b20h⟩, e20⟩ := e20
        replace e20 := e20.symm
        subst e20
        refine V_if_ne hx dL_build_83 89 (by decide) (by first | assumption | exact ⟨by omega, by omega⟩) (fun h83 => ?_) (fun h83 => ?_)
        · refine V_iload hx dL_build_89 0 rfl ?_
          refine V_iconst hx dL_build_91 ?_
          refine V_ishr hx dL_build_92 (fun z21 r21 => ?_)
          refine V_iconst hx dL_build_93 ?_
          refine V_callSi hx (z_below l (v := z21) (n := 5) (by omega) (by omega)) cw_L_15 (RMa (by dsimp only [rmA, rmN, rmX]; omega) (by dsimp only [rmA, rmN, rmX]; omega) (by dsimp only [rmA, rmN, rmX]; omega) (by dsimp only [rmA, rmN, rmX]; omega)) rfl rfl (Nat.le_of_ble_eq_true rfl) dL_build_94 _ _ rfl rfl (fun b22 w22 e22 => ?_)
          obtain ⟨⟨b22l, b22h⟩, e22⟩ := e22
          replace e22 := e22.symm
          subst e22
          refine V_widen (k' := 6 + 6 * d) (n' := 30 + 2220 * d) (by first | omega | (dsimp only [rmA, rmX, rmN]; omega)) (by first | omega | (dsimp only [rmA, rmX, rmN]; omega)) ?_
          have h127 : ∀ (v0 : Int) (_ : 0 ≤ v0) (_ : v0 ≤ 9999), V x (6 + 6 * d) (30 + 2220 * d) w1 127 [(5, .int (iZ (z19))), (4, .int (iZ ((d : Int)))), (3, .int (iZ (1 + b7))), (2, .ref (q1)), (0, .ref ((ad 0))), (1, .ref (b))] [.int (iZ (v0))] := by
            intro v0 v00 v09
            refine V_istore hx dL_build_127 [(6, .int (iZ (v0))), (5, .int (iZ (z19))), (4, .int (iZ ((d : Int)))), (3, .int (iZ (1 + b7))), (2, .ref (q1)), (0, .ref ((ad 0))), (1, .ref (b))] (by decide) rfl ?_
            refine V_aload_n hx dL_build_129 5 rfl ?_
            refine V_iload hx dL_build_130 2 rfl ?_
            refine V_iload hx dL_build_132 0 rfl ?_
            refine M_callX hx hz hN1 hC hA (x_pay l hst T (wf_shp hw (by omega)) (d := ((d : Nat) : Int)) (a := v0) ⟨by omega, by omega⟩ ⟨by omega, by omega⟩) rfl cw_L_62 (RMa (by dsimp only [rmA, rmN, rmX]; omega) (by dsimp only [rmA, rmN, rmX]; omega) (by dsimp only [rmA, rmN, rmX]; omega) (by dsimp only [rmA, rmN, rmX]; omega)) rfl rfl (Nat.le_of_ble_eq_true rfl) dL_build_134 _ _ rfl rfl (fun E hE9 => by rcases hE9 with ⟨-, h9⟩ | ⟨-, -, h9⟩ <;> exact absurd (show _ ∧ _ from ⟨by omega, by omega⟩) h9) (fun z23 w23 e23 => ?_)
            obtain ⟨-, rfl, rfl⟩ := e23
            refine ⟨P, _, rfl, fun ws23 M23 hM23 hC9 kp23 => ?_⟩
            replace hsp := kp23 _ _ _ hsp (by show _ ≠ _; omega)
            replace ham := kp23 _ _ _ ham (by show _ ≠ _; omega)
            replace hk := hk.tr (kp23.of (fun r (h : 1001 ≤ r) => by first | trivial | (show _ ≠ _; omega)))
            replace hS := sim_kp hS h6 kp23 (fun r hr => by first | trivial | (show _ ≠ _; omega))
            refine V_top (b := 0) (h1 d (Nat.le_refl d) (by omega)) ?_
            refine V_if_eq hx dL_build_137 142 (by decide) ⟨by decide, by decide⟩ (fun h137 => ?_) (fun h137 => absurd h137 (by decide))
            refine V_aload_n hx dL_build_142 4 rfl ?_
            refine V_iconst hx dL_build_143 ?_
            refine V_iconst hx dL_build_144 ?_
            refine M_newA hx hM23 901 (1) rfl (by omega) q570 (by dsimp only [rmA, rmX, rmN]; omega) (by dsimp only [rmA, rmX, rmN]; omega) dL_build_145 (fun q24 ws24 M24 hM24 f24 fr24 hn24 kp24 => ?_)
            replace hsp := kp24 _ _ _ hsp trivial
            replace ham := kp24 _ _ _ ham trivial
            replace hk := hk.tr (kp24.of (fun r (h : 1001 ≤ r) => by first | trivial | (show _ ≠ _; omega)))
            replace hS := sim_kp hS h6 kp24 (fun r hr => by first | trivial | (show _ ≠ _; omega))
            replace hC9 := cwm_kp hC9 kp24 (by first | trivial | (show _ ≠ _; omega))
            have hq24 := f24
            refine V_dup hx dL_build_148 rfl ?_
            refine V_iconst hx dL_build_149 ?_
            refine V_iconst hx dL_build_150 ?_
            refine M_newa hx hM24 900 (2) rfl (by omega) (by dsimp only [rmA, rmX, rmN]; omega) (by dsimp only [rmA, rmX, rmN]; omega) dL_build_151 (fun q25 ws25 M25 hM25 f25 fr25 hn25 kp25 => ?_)
            replace hsp := kp25 _ _ _ hsp trivial
            replace ham := kp25 _ _ _ ham trivial
            replace hq24 := kp25 _ _ _ hq24 trivial
            replace hk := hk.tr (kp25.of (fun r (h : 1001 ≤ r) => by first | trivial | (show _ ≠ _; omega)))
            replace hS := sim_kp hS h6 kp25 (fun r hr => by first | trivial | (show _ ≠ _; omega))
            replace hC9 := cwm_kp hC9 kp25 (by first | trivial | (show _ ≠ _; omega))
            have hq25 := f25
            refine V_dup hx dL_build_153 rfl ?_
            refine V_iconst hx dL_build_154 ?_
            refine V_iload hx dL_build_155 2 rfl ?_
            refine M_iast hx hM25 (by omega) (by omega) (by omega) hq25 dL_build_157 (fun ws26 M26 hM26 f26 hn26 kp26 => ?_)
            replace hsp := kp26 _ _ _ hsp (by show _ ≠ _; omega)
            replace ham := kp26 _ _ _ ham (by show _ ≠ _; omega)
            replace hq24 := kp26 _ _ _ hq24 (by show _ ≠ _; omega)
            replace hk := hk.tr (kp26.of (fun r (h : 1001 ≤ r) => by first | trivial | (show _ ≠ _; omega)))
            replace hS := sim_kp hS h6 kp26 (fun r hr => by first | trivial | (show _ ≠ _; omega))
            replace hC9 := cwm_kp hC9 kp26 (by first | trivial | (show _ ≠ _; omega))
            replace hq25 := f26
            refine V_dup hx dL_build_158 rfl ?_
            refine V_iconst hx dL_build_159 ?_
            refine V_iload hx dL_build_160 0 rfl ?_
            refine M_iast hx hM26 (by omega) (by omega) (by omega) hq25 dL_build_162 (fun ws27 M27 hM27 f27 hn27 kp27 => ?_)
            replace hsp := kp27 _ _ _ hsp (by show _ ≠ _; omega)
            replace ham := kp27 _ _ _ ham (by show _ ≠ _; omega)
            replace hq24 := kp27 _ _ _ hq24 (by show _ ≠ _; omega)
            replace hk := hk.tr (kp27.of (fun r (h : 1001 ≤ r) => by first | trivial | (show _ ≠ _; omega)))
            replace hS := sim_kp hS h6 kp27 (fun r hr => by first | trivial | (show _ ≠ _; omega))
            replace hC9 := cwm_kp hC9 kp27 (by first | trivial | (show _ ≠ _; omega))
            replace hq25 := f27
            refine M_aastA hx hM27 (by omega) (by omega) (by omega) hq24 hq25 dL_build_163 (fun ws28 M28 hM28 f28 hn28 kp28 => ?_)
            replace hsp := kp28 _ _ _ hsp (by show _ ≠ _; omega)
            replace ham := kp28 _ _ _ ham (by show _ ≠ _; omega)
            replace hq25 := kp28 _ _ _ hq25 (by show _ ≠ _; omega)
            replace hk := hk.tr (kp28.of (fun r (h : 1001 ≤ r) => by first | trivial | (show _ ≠ _; omega)))
            replace hS := sim_kp hS h6 kp28 (fun r hr => by first | trivial | (show _ ≠ _; omega))
            replace hC9 := cwm_kp hC9 kp28 (by first | trivial | (show _ ≠ _; omega))
            replace hq24 := f28
            obtain ⟨M29, hM29, f29, hn29, kp29⟩ := hM28.retag hq24 (4)
            replace hsp := kp29 _ _ _ hsp (by show _ ≠ _; omega)
            replace ham := kp29 _ _ _ ham (by show _ ≠ _; omega)
            replace hq25 := kp29 _ _ _ hq25 (by show _ ≠ _; omega)
            replace hk := hk.tr (kp29.of (fun r (h : 1001 ≤ r) => by first | trivial | (show _ ≠ _; omega)))
            replace hS := sim_kp hS h6 kp29 (fun r hr => by first | trivial | (show _ ≠ _; omega))
            replace hC9 := cwm_kp hC9 kp29 (by first | trivial | (show _ ≠ _; omega))
            replace hq24 := f29
            obtain ⟨M30, hM30, f30, hn30, kp30⟩ := hM29.retag hq25 (4)
            replace hsp := kp30 _ _ _ hsp (by show _ ≠ _; omega)
            replace ham := kp30 _ _ _ ham (by show _ ≠ _; omega)
            replace hq24 := kp30 _ _ _ hq24 (by show _ ≠ _; omega)
            replace hk := hk.tr (kp30.of (fun r (h : 1001 ≤ r) => by first | trivial | (show _ ≠ _; omega)))
            replace hS := sim_kp hS h6 kp30 (fun r hr => by first | trivial | (show _ ≠ _; omega))
            replace hC9 := cwm_kp hC9 kp30 (by first | trivial | (show _ ≠ _; omega))
            replace hq25 := f30
            obtain ⟨⟨am8, sl8, ck8, co8, h08⟩, -⟩ := id hS
            obtain ⟨i9, hi9⟩ := hM30.at hsp
            refine V_callv hx (z_close l hM30 h08 (t := 4) (col := c1 d v0) (ds := fun _ => d) (x9 := -1) (rws_1 hq24 (vup_at _ _ _) hq25 rfl rfl) ⟨by omega, by omega, by omega, by omega⟩ (slp_1 (by omega) (by omega)) (fun i hi => by show (d : Int) < T 0 0; omega) tn1 tn8 hz0 (by omega)) cw_L_66 (RMa (by dsimp only [rmA, rmN, rmX]; omega) (by dsimp only [rmA, rmN, rmX]; omega) (by dsimp only [rmA, rmN, rmX]; omega) (by dsimp only [rmA, rmN, rmX]; omega)) rfl i9 hi9 rfl rfl (Nat.le_of_ble_eq_true rfl) dL_build_164 _ _ rfl rfl (fun w31 e31 => ?_)
            obtain ⟨M31, co31, hM31, h09, kp31⟩ := e31
            have hS9 := sim_py hS h09 h6 (show d < nd T by omega) (show v0 ≠ -1 by omega) kp31
            have hC8 := cwm_kp hC9 kp31 (by omega)
            have hk9 := hk.tr (kp31.of (fun r (h : 1001 ≤ r) => by show r ≠ 1 ∧ r ≠ 2 ∧ r ≠ 3 ∧ r ≠ 900; omega))
            refine V_widen (k' := 6 + 6 * (d + 1)) (n' := 30 + 2220 * (d + 1)) (by first | omega | (dsimp only [rmA, rmX, rmN]; omega)) (by first | omega | (dsimp only [rmA, rmX, rmN]; omega)) ?_
            refine V_iincN hx dL_build_167 2 rfl [(4, .int (iZ (((d + 1 : Nat) : Int)))), (6, .int (iZ (v0))), (5, .int (iZ (z19))), (3, .int (iZ (1 + b7))), (2, .ref (q1)), (0, .ref ((ad 0))), (1, .ref (b))] (by decide) rfl ?_
            refine V_goto hx dL_build_170 52 (by decide) ?_
            exact V_sub [0, 3, 4, 5, 6] rfl (ih (d + 1) _ _ (pyT T d v0) (by omega) (by omega) hM31 ⟨hC8, hS9, (by have h9 := wf_py hw (by omega) (d := d) (v := v0) ⟨by omega, by omega⟩; exact h9), iv_py hI hw, hP1⟩ ((py_0 (by omega)).trans e00) ((py_0 (by omega)).trans e01) (fun d9 h8 h9 => (py_1 (by omega)).trans (h1 d9 (by omega) h9)) hk9)
          refine V_if_ne hx dL_build_97 117 (by decide) (by first | assumption | exact ⟨by omega, by omega⟩) (fun h97 => ?_) (fun h97 => ?_)
          · refine V_iload hx dL_build_117 0 rfl ?_
            refine V_iconst hx dL_build_119 ?_
            refine V_ishr hx dL_build_120 (fun z32 r32 => ?_)
            refine V_sipush hx dL_build_121 rfl ?_
            refine V_callSi hx (z_below l (v := z32) (n := 200) (by omega) (by omega)) cw_L_15 (RMa (by dsimp only [rmA, rmN, rmX]; omega) (by dsimp only [rmA, rmN, rmX]; omega) (by dsimp only [rmA, rmN, rmX]; omega) (by dsimp only [rmA, rmN, rmX]; omega)) rfl rfl (Nat.le_of_ble_eq_true rfl) dL_build_124 _ _ rfl rfl (fun b33 w33 e33 => ?_)
            obtain ⟨⟨b33l, b33h⟩, e33⟩ := e33
            replace e33 := e33.symm
            subst e33
            refine V_widen (k' := 6 + 6 * d) (n' := 30 + 2220 * d) (by first | omega | (dsimp only [rmA, rmX, rmN]; omega)) (by first | omega | (dsimp only [rmA, rmX, rmN]; omega)) ?_
            exact h127 _ (by omega) (by omega)
          · refine V_sipush hx dL_build_100 rfl ?_
            refine V_iload hx dL_build_103 0 rfl ?_
            refine V_iconst hx dL_build_105 ?_
            refine V_ishr hx dL_build_106 (fun z34 r34 => ?_)
            refine V_sipush hx dL_build_107 rfl ?_
            refine V_callSi hx (z_below l (v := z34) (n := 1000) (by omega) (by omega)) cw_L_15 (RMa (by dsimp only [rmA, rmN, rmX]; omega) (by dsimp only [rmA, rmN, rmX]; omega) (by dsimp only [rmA, rmN, rmX]; omega) (by dsimp only [rmA, rmN, rmX]; omega)) rfl rfl (Nat.le_of_ble_eq_true rfl) dL_build_110 _ _ rfl rfl (fun b35 w35 e35 => ?_)
            obtain ⟨⟨b35l, b35h⟩, e35⟩ := e35
            replace e35 := e35.symm
            subst e35
            refine V_iadd hx dL_build_113 ?_
            refine V_goto hx dL_build_114 127 (by decide) ?_
            refine V_widen (k' := 6 + 6 * d) (n' := 30 + 2220 * d) (by first | omega | (dsimp only [rmA, rmX, rmN]; omega)) (by first | omega | (dsimp only [rmA, rmX, rmN]; omega)) ?_
            exact h127 _ (by omega) (by omega)
        · refine V_goto hx dL_build_86 167 (by decide) ?_
          refine V_iincN hx dL_build_167 1 rfl [(4, .int (iZ (((d + 1 : Nat) : Int)))), (5, .int (iZ (z19))), (3, .int (iZ (1 + b7))), (2, .ref (q1)), (0, .ref ((ad 0))), (1, .ref (b))] (by decide) rfl ?_
          refine V_goto hx dL_build_170 52 (by decide) ?_
          refine V_widen (k' := 6 + 6 * (d + 1)) (n' := 30 + 2220 * (d + 1)) (by first | omega | (dsimp only [rmA, rmX, rmN]; omega)) (by first | omega | (dsimp only [rmA, rmX, rmN]; omega)) ?_
          exact V_sub [0, 2, 3, 4, 5] rfl (ih (d + 1) _ _ T (by omega) (by omega) hN1 ⟨hC, hS, wf_mono hw (by omega), hI, hP1⟩ e00 e01 (fun d9 h8 h9 => h1 d9 (by omega) h9) hk)
  refine V_widen (k' := 6 + 6 * 0) (n' := 30 + 2220 * 0) (by first | omega | (dsimp only [rmA, rmX, rmN]; omega)) (by first | omega | (dsimp only [rmA, rmX, rmN]; omega)) ?_
  exact V_sub [0, 1, 2, 3, 4] rfl (hL1 (n0 + 1) 0 _ _ (bgT T0i n0 8) (by omega) (by omega) hM5 ⟨hC, hS, hw0, iv_bg, hP1⟩ rfl rfl (fun d9 h8 h9 => by unfold bgT; rw [if_neg (by omega), if_neg (by omega), if_pos ⟨Or.inl rfl, h9⟩]) hk)
