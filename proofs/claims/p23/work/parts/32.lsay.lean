/-! the law: below, cell, say -/
/-- where a run stands: the class's world, the law's till, both of T's ints -/
def STT (g : GT) (ad : Nat → Nat) (M : MM) (sp : Nat) (cl : Nat → Nat) (P : Nat → TS) (T : TS) (B : Int) : Prop := CWM g ad M P T ∧ SIM g M sp cl T ∧ WF T B ∧ IV T ∧ RG (P 1)
def LOC : Nat → Prop := fun r => 1001 ≤ r
theorem cwm_kp {g : GT} {S : Nat → Prop} {M M' : MM} {ad : Nat → Nat} {P : Nat → TS} {T : TS} (h : CWM g ad M P T) (k : KP S M M') (hs : S 1000) : CWM g ad M' P T := fun i hi => k _ _ _ (h i hi) hs
theorem q522z : Cond.constant RL 8 (iZ 790386105) ∈ tbl := by
  have e : iZ 790386105 = (790386105 : Int32) := by decide
  rw [e]
  exact q522
set_option maxHeartbeats 4000000 in
set_option maxRecDepth 100000 in
theorem z_below (l : Launch) {g : GT} {ws : va_W} {v n : Int} (hn0 : 0 < n) (hn9 : n < 2147483648) : MI l yL_below cL_below 2 .int (rmA 0 0 0) g [.int (iZ (v)), .int (iZ (n))] ws (fun z ws9 => (0 ≤ z ∧ z < n) ∧ ws9 = ws) := by
  refine MI.ofk (own := RL) (by decide) rfl (Nat.le_of_ble_eq_true rfl) (fun x hx hE => ?_)
  refine V_lv (lv' := [(0, .int (iZ (v))), (1, .int (iZ (n)))]) rfl ?_
  refine V_iload_n hx dL_below_0 0 rfl ?_
  refine V_ldc hx dL_below_1 q518 ?_
  refine V_iandP hx dL_below_3 (fun z1 r1 => ?_)
  refine V_iload_n hx dL_below_4 1 rfl ?_
  refine V_irem hx r1 ⟨hn0, hn9⟩ dL_below_5 ?_
  exact hE _ _ _ _ _ _ dL_below_6 rfl (by dsimp only [rmA]; omega) (by dsimp only [rmA]; omega) ⟨⟨Int.emod_nonneg _ (by omega), Int.emod_lt_of_pos _ hn0⟩, rfl⟩
set_option maxHeartbeats 4000000 in
set_option maxRecDepth 100000 in
theorem z_cell (l : Launch) {g : GT} {ws : va_W} {b L : Nat} {xs : Nat → Int32} (hL : L ≤ 260) {k9 : Int} (h0 : 0 ≤ k9) (h9 : k9 < 1000) : MIS l yL_cell cL_cell 2 (rmA 0 0 0) g b L xs [.ref (b), .int (iZ (k9))] ws (fun z ws9 => rg z ∧ ws9 = ws) := by
  refine MIS.of (by decide) rfl (Nat.le_of_ble_eq_true rfl) (fun x hx hs hE => ?_)
  refine V_lv (lv' := [(0, .ref (b)), (1, .int (iZ (k9)))]) rfl ?_
  refine V_iload_n hx dL_cell_0 1 rfl ?_
  refine V_aload_n hx dL_cell_1 0 rfl ?_
  refine V_slen hx hs dL_cell_2 ?_
  refine V_icmp_ge hx dL_cell_3 12 (by decide) (by first | assumption | exact ⟨by omega, by omega⟩) ⟨by omega, by omega⟩ (fun h3 => ?_) (fun h3 => ?_)
  · refine V_ldc hx dL_cell_12 q522z ?_
    refine V_iload_n hx dL_cell_14 1 rfl ?_
    refine V_iconst hx dL_cell_15 ?_
    refine V_iaddA hx dL_cell_16 (fun z1 r1 => ?_)
    refine V_imulA hx dL_cell_17 (fun z2 r2 => ?_)
    exact hE _ _ _ _ _ _ dL_cell_18 (by dsimp only [rmA]; omega) (by dsimp only [rmA]; omega) ⟨by assumption, rfl⟩
  · refine V_aload_n hx dL_cell_6 0 rfl ?_
    refine V_iload_n hx dL_cell_7 1 rfl ?_
    refine V_sld hx hs (by omega) (by omega) (by omega) dL_cell_8 (fun v hv => ?_)
    refine V_goto hx dL_cell_9 18 (by decide) ?_
    exact hE _ _ _ _ _ _ dL_cell_18 (by dsimp only [rmA]; omega) (by dsimp only [rmA]; omega) ⟨by assumption, rfl⟩
theorem nmod_ne {d n : Int} (h0 : 0 ≤ d) (h1 : d < n) (h2 : n ≠ 1) : (d + 1) % n ≠ d := by
  by_cases h : d + 1 < n
  · rw [Int.emod_eq_of_lt (by omega) h]; omega
  · have e : d + 1 = n := by omega
    rw [e, Int.emod_self]
    omega
theorem ck_as {g : GT} {M : MM} {ca c ms mo pr' pr ow se q1 : Nat} {T : TS} {kd d e b : Int} {fp fs fo ds dw : Nat → Nat} {f0 f9 : Nat → Option Nat} {v : Nat → Int32}
    (hca : M ca = some (10 + c, CKE T (7 + 8 * c) pr' se ow)) (hpr : RWS g M pr (T (7 + 8 * c) 0).toNat 4 4 fp (cP T (7 + 8 * c))) (h0 : M pr = some (4, RA g (T (7 + 8 * c) 0).toNat f0)) (hse : RWS g M se ms 4 3 fs (cS T (7 + 8 * c) ds)) (hsl : SLP (T (7 + 8 * c + 5)) ms ds) (how : RWS g M ow mo (20 + c) 2 fo (cO T (7 + 8 * c) dw)) (hwl : SLP (T (7 + 8 * c + 7)) mo dw)
    (k1 : 0 ≤ T (7 + 8 * c) 0) (h1 : M q1 = some (4, IA g 4 v)) (v0 : v 0 = iZ kd) (v1 : v 1 = iZ d) (v2 : v 2 = iZ e) (v3 : v 3 = iZ b) (h2 : M pr' = some (4, RA g ((T (7 + 8 * c) 0).toNat + 1) f9)) (h3 : ∀ i, i < (T (7 + 8 * c) 0).toNat → f9 i = f0 i) (h4 : f9 (T (7 + 8 * c) 0).toNat = some q1) : CK g M ca c (asT T (7 + 8 * c) kd d e b) := by
  have en : ∀ j, 4 < j → asT T (7 + 8 * c) kd d e b (7 + 8 * c + j) = T (7 + 8 * c + j) := fun j hj => funext (fun x => as_ne (by omega))
  have e1 : ∀ x, x ≠ 0 → asT T (7 + 8 * c) kd d e b (7 + 8 * c) x = T (7 + 8 * c) x := fun x hx => as_ne (by omega)
  have e0 : asT T (7 + 8 * c) kd d e b (7 + 8 * c) 0 = T (7 + 8 * c) 0 + 1 := by unfold asT; rw [pt_at]
  have em : (asT T (7 + 8 * c) kd d e b (7 + 8 * c) 0).toNat = (T (7 + 8 * c) 0).toNat + 1 := by rw [e0]; omega
  have ea : ∀ j i, j < 4 → asT T (7 + 8 * c) kd d e b (7 + 8 * c + 1 + j) i = if i = (T (7 + 8 * c) 0).toNat then (if j = 0 then kd else if j = 1 then d else if j = 2 then e else b) else T (7 + 8 * c + 1 + j) i := fun j i hj => by
    unfold asT pt
    rcases (show j = 0 ∨ j = 1 ∨ j = 2 ∨ j = 3 by omega) with rfl | rfl | rfl | rfl <;> by_cases hx : i = (T (7 + 8 * c) 0).toNat <;> simp [hx] <;> (repeat' split) <;> first | rfl | omega
  refine ⟨pr', se, ow, adx fp (T (7 + 8 * c) 0).toNat q1, fs, fo, ms, mo, ds, dw, by unfold CKE; rw [e1 1 (by omega), e1 2 (by omega), e1 3 (by omega)]; exact hca, ?_, ⟨?_, ?_⟩, ⟨?_, ?_⟩⟩
  · rw [em]
    refine rws_add (c' := cP (asT T (7 + 8 * c) kd d e b) (7 + 8 * c)) hpr h0 (KP.rf (S := ALL)) trivial h1 (fun j hj => ?_) h2 h3 h4 (fun i j hi hj => ?_)
    · unfold cP
      rw [ea j _ hj, if_pos rfl]
      rcases (show j = 0 ∨ j = 1 ∨ j = 2 ∨ j = 3 by omega) with rfl | rfl | rfl | rfl
      · exact v0
      · exact v1
      · exact v2
      · exact v3
    · unfold cP
      rw [ea j _ hj, if_neg (by omega)]
  · unfold cS at hse ⊢; rw [en 5 (by omega), en 6 (by omega)]; exact hse
  · rw [en 5 (by omega)]; exact hsl
  · unfold cO at how ⊢; rw [en 7 (by omega)]; exact how
  · rw [en 7 (by omega)]; exact hwl
set_option maxHeartbeats 4000000 in
set_option maxRecDepth 100000 in
theorem z_sayL (l : Launch) (hst : l.stackTraces = false) {g : GT} {ws : va_W} {M : MM} (hM : HM M ws) {ad : Nat → Nat} (hA : AI ad) {sp : Nat} {cl : Nat → Nat} {P : Nat → TS} {T : TS} {B : Int} (hSt : STT g ad M sp cl P T B) (hB : B < 2147400000) {c : Nat} (hc : c < nc T) {x0 : Int} : MHT l yL_say cL_say 13 [(196, 247, 248, 49)] (rmA 9 8 49) g [.ref (ad 0), .ref sp, .int (iZ (c : Int)), .int (iZ x0)] ws (fun z ws9 => z = 1 ∧ ∃ M9 T9, HM M9 ws9 ∧ STT g ad M9 sp cl P T9 B ∧ T9 0 0 = T 0 0 ∧ T9 0 1 = T 0 1 ∧ KP LOC M M9) := by
  refine MHT.of (by decide) rfl (Nat.le_of_ble_eq_true rfl) (fun x hx hz htb hE => ?_)
  refine V_lv (lv' := [(0, .ref ((ad 0))), (1, .ref (sp)), (2, .int (iZ ((c : Int)))), (3, .int (iZ (x0)))]) rfl ?_
  obtain ⟨hC, hS, hw, hI, hP1⟩ := id hSt
  obtain ⟨⟨am, sl, ck, co, h0⟩, hCK⟩ := id hS
  obtain ⟨hsp, ⟨va, ham, hva⟩, ⟨vs, hsv, hvs⟩, ⟨fk, hck, hfk⟩, hcl⟩ := id h0
  obtain ⟨hT, ⟨tn1, tn8⟩, ⟨hc0, hc9⟩, ⟨hz0, hz9⟩, ham1, hck9⟩ := id hw
  have hni := nc_i hw
  have h6 : nc T ≤ 6 := by omega
  have hci : (c : Int) < T 0 1 := by omega
  obtain ⟨⟨k1, k1b⟩, ⟨k2, k2b⟩, k3, ⟨k4, k4b⟩, k5, k6⟩ := hck9 c hci
  have hc6 : c < 6 := by omega
  have hnd : ((nd T : Nat) : Int) = T 0 0 := Int.toNat_of_nonneg (by omega)
  obtain ⟨pr, se, ow, fp, fs, fo, ms, mo, ds, dw, hca, hpr, ⟨hse, hsl⟩, ⟨how, hwl⟩⟩ := id (hCK c hc)
  obtain ⟨fq, hpr1, hpr2⟩ := id hpr.1
  have hk : KP LOC M M := KP.rf
  refine V_aload_n hx dL_say_0 1 rfl ?_
  obtain ⟨i9, hi9⟩ := hM.at hsp
  refine gf_L_9 hx i9 hi9 rfl dL_say_1 ?_
  obtain ⟨i9, hi9⟩ := hM.at ham
  refine V_alenK hx (t0 := 0) i9 hi9 rfl (v := ((nd T) : Int)) rfl dL_say_4 ?_
  refine V_istore hx dL_say_5 [(4, .int (iZ (((nd T) : Int)))), (0, .ref ((ad 0))), (1, .ref (sp)), (2, .int (iZ ((c : Int)))), (3, .int (iZ (x0)))] (by decide) rfl ?_
  refine V_iload_n hx dL_say_7 4 rfl ?_
  refine V_iconst hx dL_say_8 ?_
  refine V_callSi hx (z_below l (v := x0) (n := 4) (by omega) (by omega)) cw_L_15 (RMa (by dsimp only [rmA, rmN, rmX]; omega) (by dsimp only [rmA, rmN, rmX]; omega) (by dsimp only [rmA, rmN, rmX]; omega) (by dsimp only [rmA, rmN, rmX]; omega)) rfl rfl (Nat.le_of_ble_eq_true rfl) dL_say_9 _ _ rfl rfl (fun b1 w1 e1 => ?_)
  obtain ⟨⟨b1l, b1h⟩, e1⟩ := e1
  replace e1 := e1.symm
  subst e1
  refine V_istore hx dL_say_12 [(5, .int (iZ (b1))), (4, .int (iZ (((nd T) : Int)))), (0, .ref ((ad 0))), (1, .ref (sp)), (2, .int (iZ ((c : Int)))), (3, .int (iZ (x0)))] (by decide) rfl ?_
  refine V_iload_n hx dL_say_14 5 rfl ?_
  refine V_iconst hx dL_say_15 ?_
  refine V_ishr hx dL_say_16 (fun z2 r2 => ?_)
  refine V_iload hx dL_say_17 1 rfl ?_
  refine V_callSi hx (z_below l (v := z2) (n := ((nd T) : Int)) (by omega) (by omega)) cw_L_15 (RMa (by dsimp only [rmA, rmN, rmX]; omega) (by dsimp only [rmA, rmN, rmX]; omega) (by dsimp only [rmA, rmN, rmX]; omega) (by dsimp only [rmA, rmN, rmX]; omega)) rfl rfl (Nat.le_of_ble_eq_true rfl) dL_say_19 _ _ rfl rfl (fun b3 w3 e3 => ?_)
  obtain ⟨⟨b3l, b3h⟩, e3⟩ := e3
  replace e3 := e3.symm
  subst e3
  refine V_istore hx dL_say_22 [(6, .int (iZ (b3))), (5, .int (iZ (b1))), (4, .int (iZ (((nd T) : Int)))), (0, .ref ((ad 0))), (1, .ref (sp)), (2, .int (iZ ((c : Int)))), (3, .int (iZ (x0)))] (by decide) rfl ?_
  refine V_iload_n hx dL_say_24 6 rfl ?_
  refine V_iconst hx dL_say_25 ?_
  refine V_ishr hx dL_say_26 (fun z4 r4 => ?_)
  refine V_iload hx dL_say_27 2 rfl ?_
  refine V_callSi hx (z_below l (v := z4) (n := ((nd T) : Int)) (by omega) (by omega)) cw_L_15 (RMa (by dsimp only [rmA, rmN, rmX]; omega) (by dsimp only [rmA, rmN, rmX]; omega) (by dsimp only [rmA, rmN, rmX]; omega) (by dsimp only [rmA, rmN, rmX]; omega)) rfl rfl (Nat.le_of_ble_eq_true rfl) dL_say_29 _ _ rfl rfl (fun b5 w5 e5 => ?_)
  obtain ⟨⟨b5l, b5h⟩, e5⟩ := e5
  replace e5 := e5.symm
  subst e5
  refine V_istore hx dL_say_32 [(7, .int (iZ (b5))), (6, .int (iZ (b3))), (5, .int (iZ (b1))), (4, .int (iZ (((nd T) : Int)))), (0, .ref ((ad 0))), (1, .ref (sp)), (2, .int (iZ ((c : Int)))), (3, .int (iZ (x0)))] (by decide) rfl ?_
  refine V_widen (k' := 0) (n' := 0) (by first | omega | (dsimp only [rmA, rmX, rmN]; omega)) (by first | omega | (dsimp only [rmA, rmX, rmN]; omega)) ?_
  have h68 : ∀ (kd ee9 : Int) (_ : 0 ≤ kd) (_ : kd ≤ 3) (_ : 0 ≤ ee9) (_ : ee9 < T 0 0) (_ : kd = 3 → b3 ≠ ee9), V x 0 0 ws 68 [(5, .int (iZ (kd))), (7, .int (iZ (ee9))), (6, .int (iZ (b3))), (4, .int (iZ (((nd T) : Int)))), (0, .ref ((ad 0))), (1, .ref (sp)), (2, .int (iZ ((c : Int)))), (3, .int (iZ (x0)))] [] := by
    intro kd ee9 kd0 kd3 e90 e9n kde
    refine V_iload_n hx dL_say_68 7 rfl ?_
    refine V_iconst hx dL_say_69 ?_
    refine V_ishr hx dL_say_70 (fun z6 r6 => ?_)
    refine V_bipush hx dL_say_71 rfl ?_
    refine V_callSi hx (z_below l (v := z6) (n := 7) (by omega) (by omega)) cw_L_15 (RMa (by dsimp only [rmA, rmN, rmX]; omega) (by dsimp only [rmA, rmN, rmX]; omega) (by dsimp only [rmA, rmN, rmX]; omega) (by dsimp only [rmA, rmN, rmX]; omega)) rfl rfl (Nat.le_of_ble_eq_true rfl) dL_say_73 _ _ rfl rfl (fun b7 w7 e7 => ?_)
    obtain ⟨⟨b7l, b7h⟩, e7⟩ := e7
    replace e7 := e7.symm
    subst e7
    refine V_widen (k' := 0) (n' := 0) (by first | omega | (dsimp only [rmA, rmX, rmN]; omega)) (by first | omega | (dsimp only [rmA, rmX, rmN]; omega)) ?_
    have h106 : ∀ (b0 : Int) (_ : 1 ≤ b0) (_ : b0 ≤ 999), V x 0 0 ws 106 [(5, .int (iZ (kd))), (7, .int (iZ (ee9))), (6, .int (iZ (b3))), (4, .int (iZ (((nd T) : Int)))), (0, .ref ((ad 0))), (1, .ref (sp)), (2, .int (iZ ((c : Int)))), (3, .int (iZ (x0)))] [.int (iZ (b0))] := by
      intro b0 b01 b09
      refine V_istore hx dL_say_106 [(8, .int (iZ (b0))), (5, .int (iZ (kd))), (7, .int (iZ (ee9))), (6, .int (iZ (b3))), (4, .int (iZ (((nd T) : Int)))), (0, .ref ((ad 0))), (1, .ref (sp)), (2, .int (iZ ((c : Int)))), (3, .int (iZ (x0)))] (by decide) rfl ?_
      have h129 : ∀ (b9 : Int) (_ : -999 ≤ b9) (_ : b9 ≤ 999) (_ : kd = 1 → 0 ≤ b9) (_ : kd = 3 → 1 ≤ b9), V x 0 0 ws 129 [(8, .int (iZ (b9))), (5, .int (iZ (kd))), (7, .int (iZ (ee9))), (6, .int (iZ (b3))), (4, .int (iZ (((nd T) : Int)))), (0, .ref ((ad 0))), (1, .ref (sp)), (2, .int (iZ ((c : Int)))), (3, .int (iZ (x0)))] [] := by
        intro b9 b9l b9h b91 b93
        refine V_iconst hx dL_say_129 ?_
        refine M_newa hx hM 900 (4) rfl (by omega) (by dsimp only [rmA, rmX, rmN]; omega) (by dsimp only [rmA, rmX, rmN]; omega) dL_say_130 (fun q8 ws8 M8 hM8 f8 fr8 hn8 kp8 => ?_)
        replace hsp := kp8 _ _ _ hsp trivial
        replace hck := kp8 _ _ _ hck trivial
        replace ham := kp8 _ _ _ ham trivial
        replace hca := kp8 _ _ _ hca trivial
        replace hpr1 := kp8 _ _ _ hpr1 trivial
        replace hpr := rws_kp hpr kp8 (by first | trivial | (show _ ≠ _; omega)) (by first | trivial | (show _ ≠ _; omega))
        replace hse := rws_kp hse kp8 (by first | trivial | (show _ ≠ _; omega)) (by first | trivial | (show _ ≠ _; omega))
        replace how := rws_kp how kp8 (by first | trivial | (show _ ≠ _; omega)) (by first | trivial | (show _ ≠ _; omega))
        replace hk := hk.tr (kp8.of (fun r (h : 1001 ≤ r) => by first | trivial | (show _ ≠ _; omega)))
        replace hS := sim_kp hS h6 kp8 (fun r hr => by first | trivial | (show _ ≠ _; omega))
        replace hC := cwm_kp hC kp8 (by first | trivial | (show _ ≠ _; omega))
        have hq8 := f8
        refine V_dup hx dL_say_132 rfl ?_
        refine V_iconst hx dL_say_133 ?_
        refine V_iload hx dL_say_134 1 rfl ?_
        refine M_iast hx hM8 (by omega) (by omega) (by omega) hq8 dL_say_136 (fun ws9 M9 hM9 f9 hn9 kp9 => ?_)
        replace hsp := kp9 _ _ _ hsp (by show _ ≠ _; omega)
        replace hck := kp9 _ _ _ hck (by show _ ≠ _; omega)
        replace ham := kp9 _ _ _ ham (by show _ ≠ _; omega)
        replace hca := kp9 _ _ _ hca (by show _ ≠ _; omega)
        replace hpr1 := kp9 _ _ _ hpr1 (by show _ ≠ _; omega)
        replace hpr := rws_kp hpr kp9 (by first | trivial | (show _ ≠ _; omega)) (by first | trivial | (show _ ≠ _; omega))
        replace hse := rws_kp hse kp9 (by first | trivial | (show _ ≠ _; omega)) (by first | trivial | (show _ ≠ _; omega))
        replace how := rws_kp how kp9 (by first | trivial | (show _ ≠ _; omega)) (by first | trivial | (show _ ≠ _; omega))
        replace hk := hk.tr (kp9.of (fun r (h : 1001 ≤ r) => by first | trivial | (show _ ≠ _; omega)))
        replace hS := sim_kp hS h6 kp9 (fun r hr => by first | trivial | (show _ ≠ _; omega))
        replace hC := cwm_kp hC kp9 (by first | trivial | (show _ ≠ _; omega))
        replace hq8 := f9
        refine V_dup hx dL_say_137 rfl ?_
        refine V_iconst hx dL_say_138 ?_
        refine V_iload hx dL_say_139 3 rfl ?_
        refine M_iast hx hM9 (by omega) (by omega) (by omega) hq8 dL_say_141 (fun ws10 M10 hM10 f10 hn10 kp10 => ?_)
        replace hsp := kp10 _ _ _ hsp (by show _ ≠ _; omega)
        replace hck := kp10 _ _ _ hck (by show _ ≠ _; omega)
        replace ham := kp10 _ _ _ ham (by show _ ≠ _; omega)
        replace hca := kp10 _ _ _ hca (by show _ ≠ _; omega)
        replace hpr1 := kp10 _ _ _ hpr1 (by show _ ≠ _; omega)
        replace hpr := rws_kp hpr kp10 (by first | trivial | (show _ ≠ _; omega)) (by first | trivial | (show _ ≠ _; omega))
        replace hse := rws_kp hse kp10 (by first | trivial | (show _ ≠ _; omega)) (by first | trivial | (show _ ≠ _; omega))
        replace how := rws_kp how kp10 (by first | trivial | (show _ ≠ _; omega)) (by first | trivial | (show _ ≠ _; omega))
        replace hk := hk.tr (kp10.of (fun r (h : 1001 ≤ r) => by first | trivial | (show _ ≠ _; omega)))
        replace hS := sim_kp hS h6 kp10 (fun r hr => by first | trivial | (show _ ≠ _; omega))
        replace hC := cwm_kp hC kp10 (by first | trivial | (show _ ≠ _; omega))
        replace hq8 := f10
        refine V_dup hx dL_say_142 rfl ?_
        refine V_iconst hx dL_say_143 ?_
        refine V_iload hx dL_say_144 2 rfl ?_
        refine M_iast hx hM10 (by omega) (by omega) (by omega) hq8 dL_say_146 (fun ws11 M11 hM11 f11 hn11 kp11 => ?_)
        replace hsp := kp11 _ _ _ hsp (by show _ ≠ _; omega)
        replace hck := kp11 _ _ _ hck (by show _ ≠ _; omega)
        replace ham := kp11 _ _ _ ham (by show _ ≠ _; omega)
        replace hca := kp11 _ _ _ hca (by show _ ≠ _; omega)
        replace hpr1 := kp11 _ _ _ hpr1 (by show _ ≠ _; omega)
        replace hpr := rws_kp hpr kp11 (by first | trivial | (show _ ≠ _; omega)) (by first | trivial | (show _ ≠ _; omega))
        replace hse := rws_kp hse kp11 (by first | trivial | (show _ ≠ _; omega)) (by first | trivial | (show _ ≠ _; omega))
        replace how := rws_kp how kp11 (by first | trivial | (show _ ≠ _; omega)) (by first | trivial | (show _ ≠ _; omega))
        replace hk := hk.tr (kp11.of (fun r (h : 1001 ≤ r) => by first | trivial | (show _ ≠ _; omega)))
        replace hS := sim_kp hS h6 kp11 (fun r hr => by first | trivial | (show _ ≠ _; omega))
        replace hC := cwm_kp hC kp11 (by first | trivial | (show _ ≠ _; omega))
        replace hq8 := f11
        refine V_dup hx dL_say_147 rfl ?_
        refine V_iconst hx dL_say_148 ?_
        refine V_iload hx dL_say_149 0 rfl ?_
        refine M_iast hx hM11 (by omega) (by omega) (by omega) hq8 dL_say_151 (fun ws12 M12 hM12 f12 hn12 kp12 => ?_)
        replace hsp := kp12 _ _ _ hsp (by show _ ≠ _; omega)
        replace hck := kp12 _ _ _ hck (by show _ ≠ _; omega)
        replace ham := kp12 _ _ _ ham (by show _ ≠ _; omega)
        replace hca := kp12 _ _ _ hca (by show _ ≠ _; omega)
        replace hpr1 := kp12 _ _ _ hpr1 (by show _ ≠ _; omega)
        replace hpr := rws_kp hpr kp12 (by first | trivial | (show _ ≠ _; omega)) (by first | trivial | (show _ ≠ _; omega))
        replace hse := rws_kp hse kp12 (by first | trivial | (show _ ≠ _; omega)) (by first | trivial | (show _ ≠ _; omega))
        replace how := rws_kp how kp12 (by first | trivial | (show _ ≠ _; omega)) (by first | trivial | (show _ ≠ _; omega))
        replace hk := hk.tr (kp12.of (fun r (h : 1001 ≤ r) => by first | trivial | (show _ ≠ _; omega)))
        replace hS := sim_kp hS h6 kp12 (fun r hr => by first | trivial | (show _ ≠ _; omega))
        replace hC := cwm_kp hC kp12 (by first | trivial | (show _ ≠ _; omega))
        replace hq8 := f12
        refine V_astore hx dL_say_152 [(9, .ref (q8)), (8, .int (iZ (b9))), (5, .int (iZ (kd))), (7, .int (iZ (ee9))), (6, .int (iZ (b3))), (4, .int (iZ (((nd T) : Int)))), (0, .ref ((ad 0))), (1, .ref (sp)), (2, .int (iZ ((c : Int)))), (3, .int (iZ (x0)))] (by decide) rfl ?_
        refine V_aload_n hx dL_say_154 7 rfl ?_
        obtain ⟨i9, hi9⟩ := hM12.at hsp
        refine gf_L_21 hx i9 hi9 rfl dL_say_155 ?_
        refine V_iload_n hx dL_say_158 8 rfl ?_
        obtain ⟨i9, hi9⟩ := hM12.at hck
        refine V_aaldL hx (by omega) (by omega) (by omega) i9 hi9 (r := (cl c)) (hfk c hc) dL_say_159 ?_
        refine V_astore hx dL_say_160 [(10, .ref ((cl c))), (9, .ref (q8)), (8, .int (iZ (b9))), (5, .int (iZ (kd))), (7, .int (iZ (ee9))), (6, .int (iZ (b3))), (4, .int (iZ (((nd T) : Int)))), (0, .ref ((ad 0))), (1, .ref (sp)), (2, .int (iZ ((c : Int)))), (3, .int (iZ (x0)))] (by decide) rfl ?_
        refine V_aload hx dL_say_162 0 rfl ?_
        have hpl : skP T (c : Int) ↔ (T (7 + 8 * c) 2 = 0 ∧ T (7 + 8 * c) 1 = 0 ∧ T (7 + 8 * c) 0 < 8) := Iff.rfl
        refine V_widen (k' := 1) (n' := 4) (by first | omega | (dsimp only [rmA, rmX, rmN]; omega)) (by first | omega | (dsimp only [rmA, rmX, rmN]; omega)) ?_
        have h194 : V x 1 4 ws12 194 [(10, .ref ((cl c))), (9, .ref (q8)), (8, .int (iZ (b9))), (5, .int (iZ (kd))), (7, .int (iZ (ee9))), (6, .int (iZ (b3))), (4, .int (iZ (((nd T) : Int)))), (0, .ref ((ad 0))), (1, .ref (sp)), (2, .int (iZ ((c : Int)))), (3, .int (iZ (x0)))] [.int (iZ (bz (skP T (c : Int))))] := by
          refine V_istore hx dL_say_194 [(11, .int (iZ (bz (skP T (c : Int))))), (10, .ref ((cl c))), (9, .ref (q8)), (8, .int (iZ (b9))), (5, .int (iZ (kd))), (7, .int (iZ (ee9))), (6, .int (iZ (b3))), (4, .int (iZ (((nd T) : Int)))), (0, .ref ((ad 0))), (1, .ref (sp)), (2, .int (iZ ((c : Int)))), (3, .int (iZ (x0)))] (by decide) rfl ?_
          refine V_aload_n hx dL_say_196 8 rfl ?_
          refine V_iload_n hx dL_say_197 10 rfl ?_
          refine V_iload hx dL_say_198 4 rfl ?_
          refine V_iload hx dL_say_200 6 rfl ?_
          refine V_iload hx dL_say_202 5 rfl ?_
          refine V_iload hx dL_say_204 3 rfl ?_
          have hsy : syP T (c : Int) (kd) (b3) (ee9) := ⟨⟨by omega, by omega⟩, ⟨by omega, by omega⟩, ⟨by omega, by omega⟩, ⟨by omega, by omega⟩⟩
          have hfk9 : fkP (kd) (b3) (ee9) (b9) := ⟨⟨by omega, by omega⟩, b91, fun h => ⟨b93 h, kde h⟩⟩
          refine M_callX hx hz hM12 hC hA (x_say l hst T (wf_shp hw (by omega)) (c := (c : Int)) (kd := kd) (d := b3) (e := ee9) (b := b9) ⟨by omega, by omega⟩ ⟨by omega, by omega⟩ ⟨by omega, by omega⟩ ⟨by omega, by omega⟩ ⟨by omega, by omega⟩ (fun _ _ => k1)) rfl cw_L_39 (RMa (by dsimp only [rmA, rmN, rmX]; omega) (by dsimp only [rmA, rmN, rmX]; omega) (by dsimp only [rmA, rmN, rmX]; omega) (by dsimp only [rmA, rmN, rmX]; omega)) rfl rfl (Nat.le_of_ble_eq_true rfl) dL_say_206 _ _ rfl rfl (fun E hE9 wx hMx => ?_) (fun z8 w8 e8 => ?_)
          · rcases hE9 with ⟨rfl, h9⟩ | ⟨rfl, -, h9⟩ | ⟨rfl, -, -, hns⟩
            · exact absurd hsy h9
            · exact absurd hfk9 h9
            · refine V_catch hx hz htb (tableOf []) ⟨196, 247, 248, 49⟩ (tableOf []) rfl (fun z hz => nomatch hz) rfl (by decide) q624 q208 (fun qe => ?_)
              refine V_astore hx dL_say_248 [(12, .ref (qe)), (11, .int (iZ (bz (skP T (c : Int))))), (10, .ref ((cl c))), (9, .ref (q8)), (8, .int (iZ (b9))), (5, .int (iZ (kd))), (7, .int (iZ (ee9))), (6, .int (iZ (b3))), (4, .int (iZ (((nd T) : Int)))), (0, .ref ((ad 0))), (1, .ref (sp)), (2, .int (iZ ((c : Int)))), (3, .int (iZ (x0)))] (by decide) rfl ?_
              refine V_iload hx dL_say_250 1 rfl ?_
              refine V_ifb_ne hx dL_say_252 259 (by decide) (fun h252 => absurd h252 (hns)) (fun h252 => ?_)
              refine V_iconst hx dL_say_255 ?_
              refine V_goto hx dL_say_256 260 (by decide) ?_
              exact hE _ _ _ _ _ _ dL_say_260 rfl (by dsimp only [rmA, rmX, rmN]; omega) (by dsimp only [rmA, rmX, rmN]; omega) ⟨rfl, M12, T, hMx, ⟨hC, hS, hw, hI, hP1⟩, rfl, rfl, hk⟩
          · obtain ⟨⟨-, -, hsk⟩, rfl, rfl⟩ := e8
            refine ⟨P, _, rfl, fun ws8 M8 hM8 hC8 kp8 => ?_⟩
            replace hsp := kp8 _ _ _ hsp (by show _ ≠ _; omega)
            replace hck := kp8 _ _ _ hck (by show _ ≠ _; omega)
            replace ham := kp8 _ _ _ ham (by show _ ≠ _; omega)
            replace hca := kp8 _ _ _ hca (by show _ ≠ _; omega)
            replace hpr1 := kp8 _ _ _ hpr1 (by show _ ≠ _; omega)
            replace hq8 := kp8 _ _ _ hq8 (by show _ ≠ _; omega)
            replace hpr := rws_kp hpr kp8 (by first | trivial | (show _ ≠ _; omega)) (by first | trivial | (show _ ≠ _; omega))
            replace hse := rws_kp hse kp8 (by first | trivial | (show _ ≠ _; omega)) (by first | trivial | (show _ ≠ _; omega))
            replace how := rws_kp how kp8 (by first | trivial | (show _ ≠ _; omega)) (by first | trivial | (show _ ≠ _; omega))
            replace hk := hk.tr (kp8.of (fun r (h : 1001 ≤ r) => by first | trivial | (show _ ≠ _; omega)))
            replace hS := sim_kp hS h6 kp8 (fun r hr => by first | trivial | (show _ ≠ _; omega))
            refine V_istore hx dL_say_209 [(12, .int (iZ (T (7 + 8 * c) 0 + 1))), (11, .int (iZ (bz (skP T (c : Int))))), (10, .ref ((cl c))), (9, .ref (q8)), (8, .int (iZ (b9))), (5, .int (iZ (kd))), (7, .int (iZ (ee9))), (6, .int (iZ (b3))), (4, .int (iZ (((nd T) : Int)))), (0, .ref ((ad 0))), (1, .ref (sp)), (2, .int (iZ ((c : Int)))), (3, .int (iZ (x0)))] (by decide) rfl ?_
            refine V_aload hx dL_say_211 2 rfl ?_
            refine V_aload hx dL_say_213 2 rfl ?_
            obtain ⟨i9, hi9⟩ := hM8.at hca
            refine gf_L_35 hx i9 hi9 rfl dL_say_215 ?_
            refine V_aload hx dL_say_218 3 rfl ?_
            obtain ⟨M13, hM13, f13, hn13, kp13⟩ := hM8.retag hq8 (4)
            replace hsp := kp13 _ _ _ hsp (by show _ ≠ _; omega)
            replace hck := kp13 _ _ _ hck (by show _ ≠ _; omega)
            replace ham := kp13 _ _ _ ham (by show _ ≠ _; omega)
            replace hca := kp13 _ _ _ hca (by show _ ≠ _; omega)
            replace hpr1 := kp13 _ _ _ hpr1 (by show _ ≠ _; omega)
            replace hpr := rws_kp hpr kp13 (by first | trivial | (show _ ≠ _; omega)) (by first | trivial | (show _ ≠ _; omega))
            replace hse := rws_kp hse kp13 (by first | trivial | (show _ ≠ _; omega)) (by first | trivial | (show _ ≠ _; omega))
            replace how := rws_kp how kp13 (by first | trivial | (show _ ≠ _; omega)) (by first | trivial | (show _ ≠ _; omega))
            replace hk := hk.tr (kp13.of (fun r (h : 1001 ≤ r) => by first | trivial | (show _ ≠ _; omega)))
            replace hS := sim_kp hS h6 kp13 (fun r hr => by first | trivial | (show _ ≠ _; omega))
            replace hC8 := cwm_kp hC8 kp13 (by first | trivial | (show _ ≠ _; omega))
            replace hq8 := f13
            have hSb := hS
            have hkb : KP (fun r => r ≠ 10 + c ∧ r ≠ 20 + c) M13 M13 := KP.rf
            obtain ⟨g0, hg0, hge⟩ := rws_he hpr
            refine V_callSq hx (z_more l hM13 hg0 hge hq8 (by omega)) cw_L_45 (RMa (by dsimp only [rmA, rmN, rmX]; omega) (by dsimp only [rmA, rmN, rmX]; omega) (by dsimp only [rmA, rmN, rmX]; omega) (by dsimp only [rmA, rmN, rmX]; omega)) rfl rfl (Nat.le_of_ble_eq_true rfl) dL_say_220 _ _ rfl rfl (fun r14 w14 e14 => ?_)
            obtain ⟨q14, M14, f9, rfl, hM14, fr14, hn14, hq14, hf9, hf9m⟩ := e14
            have kp14 := kp_new fr14 hn14
            replace hsp := kp14 _ _ _ hsp trivial
            replace hck := kp14 _ _ _ hck trivial
            replace ham := kp14 _ _ _ ham trivial
            replace hca := kp14 _ _ _ hca trivial
            replace hpr1 := kp14 _ _ _ hpr1 trivial
            replace hq8 := kp14 _ _ _ hq8 trivial
            replace hpr := rws_kp hpr kp14 (by first | trivial | (show _ ≠ _; omega)) (by first | trivial | (show _ ≠ _; omega))
            replace hse := rws_kp hse kp14 (by first | trivial | (show _ ≠ _; omega)) (by first | trivial | (show _ ≠ _; omega))
            replace how := rws_kp how kp14 (by first | trivial | (show _ ≠ _; omega)) (by first | trivial | (show _ ≠ _; omega))
            replace hk := hk.tr (kp14.of (fun r (h : 1001 ≤ r) => by first | trivial | (show _ ≠ _; omega)))
            replace hC8 := cwm_kp hC8 kp14 (by first | trivial | (show _ ≠ _; omega))
            replace hkb := hkb.tr (kp14.of (fun r (h : r ≠ 10 + c ∧ r ≠ 20 + c) => by first | trivial | (show _ ≠ _; omega)))
            replace hg0 := kp14 _ _ _ hg0 (by first | trivial | (show _ ≠ _; omega))
            refine M_put (e' := .inr (3, [.ref (q14), .int (iZ (T (7 + 8 * c) 1)), .int (iZ (T (7 + 8 * c) 2)), .int (iZ (T (7 + 8 * c) 3)), .ref (se), .ref (ow)])) hM14 hca (fun i9 hi9 ws15 M15 e9 hM15 f15 hn15 kp15 => ?_)
            refine pf_L_35 hx i9 hi9 (Nat.le_of_ble_eq_true rfl) ws15 e9 dL_say_223 ?_
            replace hsp := kp15 _ _ _ hsp (by show _ ≠ _; omega)
            replace hck := kp15 _ _ _ hck (by show _ ≠ _; omega)
            replace ham := kp15 _ _ _ ham (by show _ ≠ _; omega)
            replace hpr1 := kp15 _ _ _ hpr1 (by show _ ≠ _; omega)
            replace hq8 := kp15 _ _ _ hq8 (by show _ ≠ _; omega)
            replace hq14 := kp15 _ _ _ hq14 (by show _ ≠ _; omega)
            replace hpr := rws_kp hpr kp15 (by first | trivial | (show _ ≠ _; omega)) (by first | trivial | (show _ ≠ _; omega))
            replace hse := rws_kp hse kp15 (by first | trivial | (show _ ≠ _; omega)) (by first | trivial | (show _ ≠ _; omega))
            replace how := rws_kp how kp15 (by first | trivial | (show _ ≠ _; omega)) (by first | trivial | (show _ ≠ _; omega))
            replace hk := hk.tr (kp15.of (fun r (h : 1001 ≤ r) => by first | trivial | (show _ ≠ _; omega)))
            replace hC8 := cwm_kp hC8 kp15 (by first | trivial | (show _ ≠ _; omega))
            replace hkb := hkb.tr (kp15.of (fun r (h : r ≠ 10 + c ∧ r ≠ 20 + c) => by first | trivial | (show _ ≠ _; omega)))
            replace hg0 := kp15 _ _ _ hg0 (by first | trivial | (show _ ≠ _; omega))
            replace hca := f15
            refine V_iload hx dL_say_226 1 rfl ?_
            refine V_ifb_eq hx dL_say_228 246 (by decide) (fun h228 => absurd h228 (fun h9 => h9 hsk)) (fun h228 => ?_)
            refine V_iload hx dL_say_231 0 rfl ?_
            refine V_aload hx dL_say_233 2 rfl ?_
            obtain ⟨i9, hi9⟩ := hM15.at hca
            refine gf_L_35 hx i9 hi9 rfl dL_say_235 ?_
            obtain ⟨i9, hi9⟩ := hM15.at hq14
            refine V_alenK hx (t0 := 2) i9 hi9 rfl (v := T (7 + 8 * c) 0 + 1) (by show (((T (7 + 8 * c) 0).toNat + 1 : Nat) : Int) = T (7 + 8 * c) 0 + 1; omega) dL_say_238 ?_
            refine V_icmp_ne hx dL_say_239 246 (by decide) (by first | assumption | exact ⟨by omega, by omega⟩) (by first | assumption | exact ⟨by omega, by omega⟩) (fun h239 => absurd h239 (fun h9 => h9 rfl)) (fun h239 => ?_)
            refine V_iconst hx dL_say_242 ?_
            refine V_goto hx dL_say_243 247 (by decide) ?_
            have hC9 : CK g M15 (cl c) c (asT T (7 + 8 * c) kd b3 ee9 b9) := by
              refine ck_as hca hpr hg0 hse hsl how hwl k1 hq8 rfl rfl rfl rfl hq14 hf9 hf9m
            exact hE _ _ _ _ _ _ dL_say_247 rfl (by dsimp only [rmA, rmX, rmN]; omega) (by dsimp only [rmA, rmX, rmN]; omega) ⟨rfl, M15, _, hM15, ⟨hC8, sim_ck2 hSb h6 hc (fun a b hab => as_ne (by omega)) hkb (fun r h1 h2 h3 => ⟨h2, h3⟩) hC9, wf_as hw hsy hfk9 hsk, iv_as hI hw hci ⟨hsk.1, hsk.2.1⟩, hP1⟩, as_ne (by omega), as_ne (by omega), hk⟩
        obtain ⟨i9, hi9⟩ := hM12.at hca
        refine gf_L_25 hx i9 hi9 rfl dL_say_164 ?_
        refine V_if_ne hx dL_say_167 193 (by decide) (hT _ _) (fun h167 => ?_) (fun h167 => ?_)
        · refine V_iconst hx dL_say_193 ?_
          refine V_top (b := bz (skP T (c : Int))) (by rw [bz_f (fun h9 => by have := hpl.mp h9; omega)]) ?_
          exact h194
        · refine V_aload hx dL_say_170 0 rfl ?_
          obtain ⟨i9, hi9⟩ := hM12.at hca
          refine gf_L_31 hx i9 hi9 rfl dL_say_172 ?_
          refine V_if_ne hx dL_say_175 193 (by decide) (hT _ _) (fun h175 => ?_) (fun h175 => ?_)
          · refine V_iconst hx dL_say_193 ?_
            refine V_top (b := bz (skP T (c : Int))) (by rw [bz_f (fun h9 => by have := hpl.mp h9; omega)]) ?_
            exact h194
          · refine V_aload hx dL_say_178 0 rfl ?_
            obtain ⟨i9, hi9⟩ := hM12.at hca
            refine gf_L_35 hx i9 hi9 rfl dL_say_180 ?_
            obtain ⟨i9, hi9⟩ := hM12.at hpr1
            refine V_alenK hx (t0 := 2) i9 hi9 rfl (v := T (7 + 8 * c) 0) (Int.toNat_of_nonneg k1) dL_say_183 ?_
            refine V_bipush hx dL_say_184 rfl ?_
            refine V_icmp_ge hx dL_say_186 193 (by decide) (hT _ _) ⟨by decide, by decide⟩ (fun h186 => ?_) (fun h186 => ?_)
            · refine V_iconst hx dL_say_193 ?_
              refine V_top (b := bz (skP T (c : Int))) (by rw [bz_f (fun h9 => by have := hpl.mp h9; omega)]) ?_
              exact h194
            · refine V_iconst hx dL_say_189 ?_
              refine V_goto hx dL_say_190 194 (by decide) ?_
              refine V_top (b := bz (skP T (c : Int))) (by rw [bz_t (hpl.mpr ⟨by omega, by omega, by omega⟩)]) ?_
              exact h194
      refine V_iload hx dL_say_108 1 rfl ?_
      refine V_iconst hx dL_say_110 ?_
      refine V_icmp_ne hx dL_say_111 129 (by decide) (by first | assumption | exact ⟨by omega, by omega⟩) ⟨by decide, by decide⟩ (fun h111 => ?_) (fun h111 => ?_)
      · refine V_widen (k' := 0) (n' := 0) (by first | omega | (dsimp only [rmA, rmX, rmN]; omega)) (by first | omega | (dsimp only [rmA, rmX, rmN]; omega)) ?_
        exact V_sub [0, 1, 2, 3, 4, 5, 6, 7, 8] rfl (h129 _ (by omega) (by omega) (by omega) (by omega))
      · refine V_iload_n hx dL_say_114 8 rfl ?_
        refine V_iconst hx dL_say_115 ?_
        refine V_ishr hx dL_say_116 (fun z16 r16 => ?_)
        refine V_iconst hx dL_say_117 ?_
        refine V_callSi hx (z_below l (v := z16) (n := 3) (by omega) (by omega)) cw_L_15 (RMa (by dsimp only [rmA, rmN, rmX]; omega) (by dsimp only [rmA, rmN, rmX]; omega) (by dsimp only [rmA, rmN, rmX]; omega) (by dsimp only [rmA, rmN, rmX]; omega)) rfl rfl (Nat.le_of_ble_eq_true rfl) dL_say_118 _ _ rfl rfl (fun b17 w17 e17 => ?_)
        obtain ⟨⟨b17l, b17h⟩, e17⟩ := e17
        replace e17 := e17.symm
        subst e17
        refine V_if_ne hx dL_say_121 129 (by decide) (by first | assumption | exact ⟨by omega, by omega⟩) (fun h121 => ?_) (fun h121 => ?_)
        · refine V_widen (k' := 0) (n' := 0) (by first | omega | (dsimp only [rmA, rmX, rmN]; omega)) (by first | omega | (dsimp only [rmA, rmX, rmN]; omega)) ?_
          exact V_sub [0, 1, 2, 3, 4, 5, 6, 7, 8] rfl (h129 _ (by omega) (by omega) (by omega) (by omega))
        · refine V_iload hx dL_say_124 0 rfl ?_
          refine V_ineg hx dL_say_126 ?_
          refine V_istore hx dL_say_127 [(8, .int (iZ (-b0))), (5, .int (iZ (kd))), (7, .int (iZ (ee9))), (6, .int (iZ (b3))), (4, .int (iZ (((nd T) : Int)))), (0, .ref ((ad 0))), (1, .ref (sp)), (2, .int (iZ ((c : Int)))), (3, .int (iZ (x0)))] (by decide) rfl ?_
          refine V_widen (k' := 0) (n' := 0) (by first | omega | (dsimp only [rmA, rmX, rmN]; omega)) (by first | omega | (dsimp only [rmA, rmX, rmN]; omega)) ?_
          exact V_sub [0, 1, 2, 3, 4, 5, 6, 7, 8] rfl (h129 _ (by omega) (by omega) (by omega) (by omega))
    refine V_if_ne hx dL_say_76 95 (by decide) (by first | assumption | exact ⟨by omega, by omega⟩) (fun h76 => ?_) (fun h76 => ?_)
    · refine V_iconst hx dL_say_95 ?_
      refine V_iload_n hx dL_say_96 7 rfl ?_
      refine V_bipush hx dL_say_97 rfl ?_
      refine V_ishr hx dL_say_99 (fun z18 r18 => ?_)
      refine V_bipush hx dL_say_100 rfl ?_
      refine V_callSi hx (z_below l (v := z18) (n := 60) (by omega) (by omega)) cw_L_15 (RMa (by dsimp only [rmA, rmN, rmX]; omega) (by dsimp only [rmA, rmN, rmX]; omega) (by dsimp only [rmA, rmN, rmX]; omega) (by dsimp only [rmA, rmN, rmX]; omega)) rfl rfl (Nat.le_of_ble_eq_true rfl) dL_say_102 _ _ rfl rfl (fun b19 w19 e19 => ?_)
      obtain ⟨⟨b19l, b19h⟩, e19⟩ := e19
      replace e19 := e19.symm
      subst e19
      refine V_iadd hx dL_say_105 ?_
      refine V_widen (k' := 0) (n' := 0) (by first | omega | (dsimp only [rmA, rmX, rmN]; omega)) (by first | omega | (dsimp only [rmA, rmX, rmN]; omega)) ?_
      exact h106 _ (by omega) (by omega)
    · refine V_iload_n hx dL_say_79 7 rfl ?_
      refine V_iconst hx dL_say_80 ?_
      refine V_ishr hx dL_say_81 (fun z20 r20 => ?_)
      refine V_iconst hx dL_say_82 ?_
      refine V_callSi hx (z_below l (v := z20) (n := 2) (by omega) (by omega)) cw_L_15 (RMa (by dsimp only [rmA, rmN, rmX]; omega) (by dsimp only [rmA, rmN, rmX]; omega) (by dsimp only [rmA, rmN, rmX]; omega) (by dsimp only [rmA, rmN, rmX]; omega)) rfl rfl (Nat.le_of_ble_eq_true rfl) dL_say_83 _ _ rfl rfl (fun b21 w21 e21 => ?_)
      obtain ⟨⟨b21l, b21h⟩, e21⟩ := e21
      replace e21 := e21.symm
      subst e21
      refine V_sipush hx dL_say_86 rfl ?_
      refine V_imul hx dL_say_89 ?_
      refine V_iconst hx dL_say_90 ?_
      refine V_iadd hx dL_say_91 ?_
      refine V_goto hx dL_say_92 106 (by decide) ?_
      refine V_widen (k' := 0) (n' := 0) (by first | omega | (dsimp only [rmA, rmX, rmN]; omega)) (by first | omega | (dsimp only [rmA, rmX, rmN]; omega)) ?_
      exact h106 _ (by omega) (by omega)
  refine V_iload hx dL_say_34 2 rfl ?_
  refine V_iconst hx dL_say_36 ?_
  refine V_icmp_ne hx dL_say_37 68 (by decide) (by first | assumption | exact ⟨by omega, by omega⟩) ⟨by decide, by decide⟩ (fun h37 => ?_) (fun h37 => ?_)
  · refine V_widen (k' := 0) (n' := 0) (by first | omega | (dsimp only [rmA, rmX, rmN]; omega)) (by first | omega | (dsimp only [rmA, rmX, rmN]; omega)) ?_
    exact V_sub [2, 0, 1, 3, 4, 5, 6, 7] rfl (h68 _ _ (by omega) (by omega) (by omega) (by omega) (by omega))
  · refine V_iload hx dL_say_40 1 rfl ?_
    refine V_iload hx dL_say_42 0 rfl ?_
    refine V_icmp_ne hx dL_say_44 68 (by decide) (by first | assumption | exact ⟨by omega, by omega⟩) (by first | assumption | exact ⟨by omega, by omega⟩) (fun h44 => ?_) (fun h44 => ?_)
    · refine V_widen (k' := 0) (n' := 0) (by first | omega | (dsimp only [rmA, rmX, rmN]; omega)) (by first | omega | (dsimp only [rmA, rmX, rmN]; omega)) ?_
      exact V_sub [2, 0, 1, 3, 4, 5, 6, 7] rfl (h68 _ _ (by omega) (by omega) (by omega) (by omega) (by omega))
    · refine V_iload hx dL_say_47 3 rfl ?_
      refine V_iconst hx dL_say_49 ?_
      refine V_icmp_ne hx dL_say_50 59 (by decide) ⟨by omega, by omega⟩ ⟨by decide, by decide⟩ (fun h50 => ?_) (fun h50 => ?_)
      · refine V_iload hx dL_say_59 1 rfl ?_
        refine V_iconst hx dL_say_61 ?_
        refine V_iadd hx dL_say_62 ?_
        refine V_iload hx dL_say_63 3 rfl ?_
        refine V_irem hx ⟨by omega, by omega⟩ ⟨by omega, by omega⟩ dL_say_65 ?_
        have hrm := Int.emod_nonneg (b3 + 1) (show ((nd T) : Int) ≠ 0 by omega)
        have hrl := Int.emod_lt_of_pos (b3 + 1) (show 0 < ((nd T) : Int) by omega)
        have hrx : (b3 + 1) % ((nd T) : Int) ≠ b3 := nmod_ne (by omega) (by omega) (by omega)
        refine V_istore hx dL_say_66 [(7, .int (iZ ((b3 + 1) % ((nd T) : Int)))), (6, .int (iZ (b3))), (5, .int (iZ (b1))), (4, .int (iZ (((nd T) : Int)))), (0, .ref ((ad 0))), (1, .ref (sp)), (2, .int (iZ ((c : Int)))), (3, .int (iZ (x0)))] (by decide) rfl ?_
        refine V_widen (k' := 0) (n' := 0) (by first | omega | (dsimp only [rmA, rmX, rmN]; omega)) (by first | omega | (dsimp only [rmA, rmX, rmN]; omega)) ?_
        exact V_sub [2, 0, 1, 3, 4, 5, 6, 7] rfl (h68 _ _ (by omega) (by omega) (by omega) (by omega) (by omega))
      · refine V_iconst hx dL_say_53 ?_
        refine V_istore hx dL_say_54 [(5, .int (iZ (0))), (7, .int (iZ (b5))), (6, .int (iZ (b3))), (4, .int (iZ (((nd T) : Int)))), (0, .ref ((ad 0))), (1, .ref (sp)), (2, .int (iZ ((c : Int)))), (3, .int (iZ (x0)))] (by decide) rfl ?_
        refine V_goto hx dL_say_56 68 (by decide) ?_
        refine V_widen (k' := 0) (n' := 0) (by first | omega | (dsimp only [rmA, rmX, rmN]; omega)) (by first | omega | (dsimp only [rmA, rmX, rmN]; omega)) ?_
        exact V_sub [0, 1, 2, 3, 4, 5, 6, 7] rfl (h68 _ _ (by omega) (by omega) (by omega) (by omega) (by omega))
