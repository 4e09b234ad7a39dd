/-! the law's till: turn, round, clash, counted -/
theorem ck_obj {g : GT} {M : MM} {ca c pr se ow ms mo : Nat} {T T' : TS} {fp fs fo ds dw : Nat → Nat} (hca : M ca = some (10 + c, CKE T' (7 + 8 * c) pr se ow)) (hpr : RWS g M pr (T (7 + 8 * c) 0).toNat 4 4 fp (cP T (7 + 8 * c))) (hse : RWS g M se ms 4 3 fs (cS T (7 + 8 * c) ds)) (hsl : SLP (T (7 + 8 * c + 5)) ms ds) (how : RWS g M ow mo (20 + c) 2 fo (cO T (7 + 8 * c) dw)) (hwl : SLP (T (7 + 8 * c + 7)) mo dw) (he : ∀ j, 0 < j → j < 8 → T' (7 + 8 * c + j) = T (7 + 8 * c + j)) (h0 : T' (7 + 8 * c) 0 = T (7 + 8 * c) 0) : CK g M ca c T' := by
  refine ⟨pr, se, ow, fp, fs, fo, ms, mo, ds, dw, hca, ?_, ⟨?_, ?_⟩, ⟨?_, ?_⟩⟩
  · rw [h0]
    refine rws_c hpr (fun i j _ hj => ?_)
    have e := he (1 + j) (by omega) (by omega)
    have e2 : 7 + 8 * c + (1 + j) = 7 + 8 * c + 1 + j := by omega
    rw [e2] at e
    show T' (7 + 8 * c + 1 + j) i = T (7 + 8 * c + 1 + j) i
    rw [e]
  · unfold cS at hse ⊢; rw [he 5 (by omega) (by omega), he 6 (by omega) (by omega)]; exact hse
  · rw [he 5 (by omega) (by omega)]; exact hsl
  · unfold cO at how ⊢; rw [he 7 (by omega) (by omega)]; exact how
  · rw [he 7 (by omega) (by omega)]; exact hwl
theorem sim_ck2 {g : GT} {S : Nat → Prop} {M M' : MM} {sp c : Nat} {cl : Nat → Nat} {T T' : TS} (h : SIM g M sp cl T) (hn : nc T ≤ 6) (hc : c < nc T) (he : ∀ a b, ¬ (7 + 8 * c ≤ a ∧ a < 7 + 8 * c + 8) → T' a b = T a b) (k : KP S M M') (hS : ∀ r, r < 30 → r ≠ 10 + c → r ≠ 20 + c → S r) (h9 : CK g M' (cl c) c T') : SIM g M' sp cl T' := by
  obtain ⟨⟨am, se, ck, co, h1⟩, h2⟩ := h
  have en : nc T' = nc T := by unfold nc; rw [he 0 1 (by omega)]
  refine ⟨⟨am, se, ck, co, sm0_T (sm0_kp h1 k (hS _ (by omega) (by omega) (by omega)) (hS _ (by omega) (by omega) (by omega)) (hS _ (by omega) (by omega) (by omega)) (hS _ (by omega) (by omega) (by omega))) (fun a b ha => he a b (by omega))⟩, fun c9 hc9 => ?_⟩
  rw [en] at hc9
  by_cases hx : c9 = c
  · subst hx; exact h9
  · exact ck_T (ck_kp (h2 c9 hc9) k (hS _ (by omega) (by omega) (by omega)) (hS _ (by omega) (by omega) (by omega)) (hS _ (by omega) (by omega) (by omega))) (fun a b h1 h2 => he a b (by omega))
theorem so_pt3 {T : TS} {q d : Nat} {v : Int} : soT (pt T q 3 v) q d = pt (soT T q d) q 3 v := by
  funext a b
  unfold soT pt
  by_cases h1 : a = q ∧ b = 3
  · rw [if_neg (by omega), if_neg (by omega), if_pos h1, if_pos h1]
  · rw [if_neg h1, if_neg h1]
theorem kc_congr {X X' : TS} {x w : Int} (h : ∀ a b, a < 7 → X' a b = X a b) {a b : Nat} (ha : a < 7) : kcT X' x w a b = kcT X x w a b := by
  have en : nd X' = nd X := by unfold nd; rw [h _ _ (by omega)]
  have e1 : X' 1 = X 1 := funext (fun b => h _ _ (by omega))
  unfold kcT
  rw [en, e1]
  unfold pt
  split
  · rfl
  · split
    · rfl
    · split
      · rfl
      · unfold shT
        rw [h _ _ ha, h _ _ ha]
theorem cl_cc {T : TS} {q : Nat} {x : Int} {a b : Nat} (hq : 7 ≤ q) (ha : a < 7) : clT T q x a b = ccT T (T (q + 7)) x (sm 8 (wrF T q)) a b := by
  have e : clL (pt T 0 2 (T 0 2 + 1)) q (nd T) (T 0 2 + 1) = clG (pt T 0 2 (T 0 2 + 1)) (T (q + 7)) (nd T) (T 0 2 + 1) := by
    funext a b
    unfold clL clG
    rw [pt_ne (a := q + 7) _ _ (Or.inl (by omega))]
  unfold clT ccT
  rw [e]
  exact kc_congr (X := clG (pt T 0 2 (T 0 2 + 1)) (T (q + 7)) (nd T) (T 0 2 + 1)) (fun a b ha => pt_ne _ _ (Or.inl (by omega))) ha
set_option maxHeartbeats 4000000 in
set_option maxRecDepth 100000 in
theorem z_turn (l : Launch) {g : GT} {ws : va_W} {M : MM} (hM : HM M ws) {sp : Nat} {cl : Nat → Nat} {T : TS} {B : Int} (hS : SIM g M sp cl T) (hw : WF T B) (hB : B ≤ 2180) {c : Nat} (hc : c < nc T) : MI l yX4_turn cX4_turn 3 .int (rmA 4 8 2203) g [.ref (sp), .int (iZ ((c : Int)))] ws (fun z ws9 => z = tkV T c ∧ ∃ M9, HM M9 ws9 ∧ SIM g M9 sp cl (tkT T c) ∧ KP OUT M M9) := by
  refine MI.ofk (own := RX4) (by decide) rfl (Nat.le_of_ble_eq_true rfl) (fun x hx hE => ?_)
  refine V_lv (lv' := [(0, .ref (sp)), (1, .int (iZ ((c : Int))))]) rfl ?_
  obtain ⟨⟨am, sl, ck, co, h0⟩, hCK⟩ := id hS
  obtain ⟨hsp, ⟨va, ham, hva⟩, ⟨vs, hsv, hvs⟩, ⟨fk, hck, hfk⟩, hcl⟩ := id h0
  obtain ⟨hT, ⟨tn1, tn8⟩, ⟨hc0, hc9⟩, ⟨hz0, hz9⟩, ham1, hck9⟩ := id hw
  have hni := nc_i hw
  have h6 : nc T ≤ 6 := by omega
  have hci : (c : Int) < T 0 1 := by omega
  obtain ⟨⟨k1, k1b⟩, ⟨k2, k2b⟩, k3, ⟨k4, k4b⟩, k5, k6⟩ := hck9 c hci
  have hc6 : c < 6 := by omega
  obtain ⟨pr, se, ow, fp, fs, fo, ms, mo, ds, dw, hca, hpr, ⟨hse, hsl⟩, ⟨how, hwl⟩⟩ := id (hCK c hc)
  obtain ⟨fq, hpr1, hpr2⟩ := id hpr.1
  have hk : KP OUT M M := KP.rf
  refine V_aload_n hx dX4_turn_0 0 rfl ?_
  obtain ⟨i9, hi9⟩ := hM.at hsp
  refine gf_X4_9 hx i9 hi9 rfl dX4_turn_1 ?_
  refine V_iload_n hx dX4_turn_4 1 rfl ?_
  obtain ⟨i9, hi9⟩ := hM.at hck
  refine V_aaldL hx (by omega) (by omega) (by omega) i9 hi9 (r := (cl c)) (hfk c hc) dX4_turn_5 ?_
  refine V_astore_n hx dX4_turn_6 [(2, .ref ((cl c))), (0, .ref (sp)), (1, .int (iZ ((c : Int))))] (by decide) rfl ?_
  refine V_aload_n hx dX4_turn_7 0 rfl ?_
  obtain ⟨i9, hi9⟩ := hM.at hca
  refine gf_X4_56 hx i9 hi9 rfl dX4_turn_8 ?_
  refine V_aload_n hx dX4_turn_11 0 rfl ?_
  obtain ⟨i9, hi9⟩ := hM.at hca
  refine gf_X4_53 hx i9 hi9 rfl dX4_turn_12 ?_
  obtain ⟨i9, hi9⟩ := hM.at hpr1
  refine V_alenK hx (t0 := 2) i9 hi9 rfl (v := T (7 + 8 * c) 0) (Int.toNat_of_nonneg k1) dX4_turn_15 ?_
  refine V_icmp_ge hx dX4_turn_16 45 (by decide) ⟨by omega, by omega⟩ ⟨by omega, by omega⟩ (fun h16 => ?_) (fun h16 => ?_)
  · refine V_aload_n hx dX4_turn_45 0 rfl ?_
    refine V_aload_n hx dX4_turn_46 1 rfl ?_
    obtain ⟨i9, hi9⟩ := hM.at hca
    refine V_calli hx (z_losing l hM h0 (hCK c hc) hc6 tn1 tn8 hT k6) cw_X4_64 (RMa (by dsimp only [rmA, rmN]; omega) (by dsimp only [rmA, rmN]; omega) (by dsimp only [rmA, rmN]; omega) (by dsimp only [rmA, rmN]; omega)) rfl i9 hi9 rfl rfl (Nat.le_of_ble_eq_true rfl) dX4_turn_47 _ _ rfl rfl (fun z1 w1 e1 => ?_)
    obtain ⟨rfl, rfl⟩ := e1
    refine V_ifb_eq hx dX4_turn_50 69 (by decide) (fun h50 => ?_) (fun h50 => ?_)
    · refine V_aload_n hx dX4_turn_69 1 rfl ?_
      refine V_iload_n hx dX4_turn_70 2 rfl ?_
      refine V_aload_n hx dX4_turn_71 0 rfl ?_
      obtain ⟨i9, hi9⟩ := hM.at hca
      refine gf_X4_74 hx i9 hi9 rfl dX4_turn_72 ?_
      obtain ⟨i9, hi9⟩ := hM.at hsp
      have hdn : ∀ i, i < mo → (dw i : Int) < T 0 0 := fun i hi => Classical.byContradiction (fun h9 => (hwl.1 i hi).2 ((k6 (dw i) (hwl.1 i hi).1).2.2 (by omega)).2)
      refine V_callv hx (z_close l hM h0 (col := T (7 + 8 * c + 7)) (ds := dw) (x9 := (c : Int)) how ⟨by omega, by omega, by omega, by omega⟩ hwl hdn tn1 tn8 hz0 (by omega)) cw_X4_77 (RMa (by dsimp only [rmA, rmN]; omega) (by dsimp only [rmA, rmN]; omega) (by dsimp only [rmA, rmN]; omega) (by dsimp only [rmA, rmN]; omega)) rfl i9 hi9 rfl rfl (Nat.le_of_ble_eq_true rfl) dX4_turn_75 _ _ rfl rfl (fun w2 e2 => ?_)
      obtain ⟨M2, co9, hM2, h09, kp2⟩ := e2
      have hk1 := kp2
      replace hca := kp2 _ _ _ hca (by show 10 + c ≠ 1 ∧ 10 + c ≠ 2 ∧ 10 + c ≠ 3 ∧ 10 + c ≠ 900; omega)
      replace hpr := rws_kp hpr kp2 (by show 4 ≠ 1 ∧ 4 ≠ 2 ∧ 4 ≠ 3 ∧ 4 ≠ 900; omega) (by show 4 ≠ 1 ∧ 4 ≠ 2 ∧ 4 ≠ 3 ∧ 4 ≠ 900; omega)
      replace hse := rws_kp hse kp2 (by show 4 ≠ 1 ∧ 4 ≠ 2 ∧ 4 ≠ 3 ∧ 4 ≠ 900; omega) (by show 4 ≠ 1 ∧ 4 ≠ 2 ∧ 4 ≠ 3 ∧ 4 ≠ 900; omega)
      replace how := rws_kp how kp2 (by show 4 ≠ 1 ∧ 4 ≠ 2 ∧ 4 ≠ 3 ∧ 4 ≠ 900; omega) (by show 20 + c ≠ 1 ∧ 20 + c ≠ 2 ∧ 20 + c ≠ 3 ∧ 20 + c ≠ 900; omega)
      replace hk1 : KP (fun r => r ≠ 1 ∧ r ≠ 2 ∧ r ≠ 3 ∧ r ≠ 900 ∧ r ≠ 10 + c) M M2 := hk1.of (fun r (h : r ≠ 1 ∧ r ≠ 2 ∧ r ≠ 3 ∧ r ≠ 900 ∧ r ≠ 10 + c) => by show r ≠ 1 ∧ r ≠ 2 ∧ r ≠ 3 ∧ r ≠ 900; omega)
      refine V_aload_n hx dX4_turn_78 0 rfl ?_
      refine V_iconst hx dX4_turn_79 ?_
      refine M_put (e' := .inr (3, [.ref (pr), .int (iZ (T (7 + 8 * c) 1)), .int (iZ (1)), .int (iZ (T (7 + 8 * c) 3)), .ref (se), .ref (ow)])) hM2 hca (fun i9 hi9 ws3 M3 e9 hM3 f3 hn3 kp3 => ?_)
      refine pf_X4_49 hx rfl rfl i9 hi9 (Nat.le_of_ble_eq_true rfl) ws3 e9 dX4_turn_80 ?_
      replace hpr := rws_kp hpr kp3 (by first | trivial | (show _ ≠ _; omega)) (by first | trivial | (show _ ≠ _; omega))
      replace hse := rws_kp hse kp3 (by first | trivial | (show _ ≠ _; omega)) (by first | trivial | (show _ ≠ _; omega))
      replace how := rws_kp how kp3 (by first | trivial | (show _ ≠ _; omega)) (by first | trivial | (show _ ≠ _; omega))
      replace hk1 := hk1.tr (kp3.of (fun r (h : r ≠ 1 ∧ r ≠ 2 ∧ r ≠ 3 ∧ r ≠ 900 ∧ r ≠ 10 + c) => by first | trivial | (show _ ≠ _; omega)))
      replace h09 := sm0_kp h09 kp3 (by show _ ≠ _; omega) (by show _ ≠ _; omega) (by show _ ≠ _; omega) (by show _ ≠ _; omega)
      replace hca := f3
      refine V_iconst hx dX4_turn_83 ?_
      have em : (mo : Int) = sm 8 (wrF T (7 + 8 * c)) := hwl.2.2.2
      rw [em] at h09
      have hC9 : CK g M3 (cl c) c (clT T (7 + 8 * c) c) := by
        refine ck_obj (T := T) ?_ hpr hse hsl how hwl (fun j h1 h2 => funext (fun b => cl_q (by omega) (by omega))) (cl_q (by omega) (by omega))
        unfold CKE
        rw [cl_q (b := 1) (by omega) (by omega), clT_2 (by omega), cl_q (b := 3) (by omega) (by omega)]
        exact hca
      have nc9 : nc (clT T (7 + 8 * c) c) = nc T := by unfold nc; rw [cl_0 (by omega), if_neg (by omega)]
      have hS9 : SIM g M3 sp cl (clT T (7 + 8 * c) c) := by
        refine ⟨⟨am, sl, ck, co9, sm0_T h09 (fun a b ha => cl_cc (by omega) ha)⟩, fun c9 hc9 => ?_⟩
        rw [nc9] at hc9
        by_cases hx9 : c9 = c
        · subst hx9; exact hC9
        · exact ck_T (ck_kp (hCK c9 hc9) hk1 (by show 4 ≠ 1 ∧ 4 ≠ 2 ∧ 4 ≠ 3 ∧ 4 ≠ 900 ∧ 4 ≠ 10 + c; omega) (by show 10 + c9 ≠ 1 ∧ 10 + c9 ≠ 2 ∧ 10 + c9 ≠ 3 ∧ 10 + c9 ≠ 900 ∧ 10 + c9 ≠ 10 + c; omega) (by show 20 + c9 ≠ 1 ∧ 20 + c9 ≠ 2 ∧ 20 + c9 ≠ 3 ∧ 20 + c9 ≠ 900 ∧ 20 + c9 ≠ 10 + c; omega)) (fun a b h1 h2 => cl_q (by omega) (by omega))
      exact hE _ _ _ _ _ _ dX4_turn_84 rfl (by dsimp only [rmA]; omega) (by dsimp only [rmA]; omega) ⟨(by unfold tkV; rw [if_neg (by omega), if_neg (by rw [bz_f h50]; decide)]), M3, hM3, (by rw [show tkT T c = clT T (7 + 8 * c) c from (by unfold tkT; rw [if_neg (by omega), if_neg (by rw [bz_f h50]; decide)])]; exact hS9), hk1.of (fun r (h : 1000 ≤ r) => by show r ≠ 1 ∧ r ≠ 2 ∧ r ≠ 3 ∧ r ≠ 900 ∧ r ≠ 10 + c; omega)⟩
    · refine V_aload_n hx dX4_turn_53 0 rfl ?_
      obtain ⟨i9, hi9⟩ := hM.at hca
      refine V_callv hx (z_begin l hM (hCK c hc) hc6) cw_X4_68 (RMa (by dsimp only [rmA, rmN]; omega) (by dsimp only [rmA, rmN]; omega) (by dsimp only [rmA, rmN]; omega) (by dsimp only [rmA, rmN]; omega)) rfl i9 hi9 rfl rfl (Nat.le_of_ble_eq_true rfl) dX4_turn_54 _ _ rfl rfl (fun w4 e4 => ?_)
      obtain ⟨M4, hM4, hC1, kp4⟩ := e4
      have hk1 : KP (fun r => r ≠ 10 + c ∧ r ≠ 20 + c ∧ r ≠ 900) M M4 := kp4.of (fun r (h : r ≠ 10 + c ∧ r ≠ 20 + c ∧ r ≠ 900) => by show r ≠ 10 + c; omega)
      obtain ⟨pr4, se4, ow4, fp4, fs4, fo4, ms4, mo4, ds4, dw4, hcb, hpr, ⟨hse, hsl⟩, ⟨how, hwl⟩⟩ := id hC1
      refine V_aload_n hx dX4_turn_57 0 rfl ?_
      refine V_dup hx dX4_turn_58 rfl ?_
      obtain ⟨i9, hi9⟩ := hM4.at hcb
      refine gf_X4_71 hx i9 hi9 rfl dX4_turn_59 ?_
      refine V_top (b := T (7 + 8 * c) 3) soT_3 ?_
      refine V_iconst hx dX4_turn_62 ?_
      refine V_iadd hx dX4_turn_63 ?_
      refine M_put (e' := .inr (3, [.ref (pr4), .int (iZ ((soT T (7 + 8 * c) 8) (7 + 8 * c) 1)), .int (iZ ((soT T (7 + 8 * c) 8) (7 + 8 * c) 2)), .int (iZ ((T (7 + 8 * c) 3) + 1)), .ref (se4), .ref (ow4)])) hM4 hcb (fun i9 hi9 ws5 M5 e9 hM5 f5 hn5 kp5 => ?_)
      refine pf_X4_71 hx i9 hi9 (Nat.le_of_ble_eq_true rfl) ws5 e9 dX4_turn_64 ?_
      replace hk1 := hk1.tr (kp5.of (fun r (h : r ≠ 10 + c ∧ r ≠ 20 + c ∧ r ≠ 900) => by first | trivial | (show _ ≠ _; omega)))
      replace hpr := rws_kp hpr kp5 (by first | trivial | (show _ ≠ _; omega)) (by first | trivial | (show _ ≠ _; omega))
      replace hse := rws_kp hse kp5 (by first | trivial | (show _ ≠ _; omega)) (by first | trivial | (show _ ≠ _; omega))
      replace how := rws_kp how kp5 (by first | trivial | (show _ ≠ _; omega)) (by first | trivial | (show _ ≠ _; omega))
      replace hcb := f5
      refine V_iconst hx dX4_turn_67 ?_
      have hC9 : CK g M5 (cl c) c (pt (soT T (7 + 8 * c) 8) (7 + 8 * c) 3 (T (7 + 8 * c) 3 + 1)) := by
        refine ck_obj (T := (soT T (7 + 8 * c) 8)) ?_ hpr hse hsl how hwl (fun j h1 h2 => pt_row _ (by omega)) (pt_ne _ _ (Or.inr (by omega)))
        unfold CKE
        rw [pt_ne (b := 1) _ _ (Or.inr (by omega)), pt_ne (b := 2) _ _ (Or.inr (by omega)), pt_at]
        exact hcb
      exact hE _ _ _ _ _ _ dX4_turn_68 rfl (by dsimp only [rmA]; omega) (by dsimp only [rmA]; omega) ⟨(by unfold tkV; rw [if_neg (by omega), if_pos (bz_t h50)]), M5, hM5, (by rw [show tkT T c = pt (soT T (7 + 8 * c) 8) (7 + 8 * c) 3 (T (7 + 8 * c) 3 + 1) from (by unfold tkT; rw [if_neg (by omega), if_pos (bz_t h50), so_pt3])]; exact sim_ck2 hS h6 hc (fun a b hab => (by rw [pt_ne _ _ (Or.inl (by omega)), soT_ne (by omega)])) hk1 (fun r h1 h2 h3 => by show r ≠ 10 + c ∧ r ≠ 20 + c ∧ r ≠ 900; omega) hC9), hk1.of (fun r (h : 1000 ≤ r) => by show r ≠ 10 + c ∧ r ≠ 20 + c ∧ r ≠ 900; omega)⟩
  · refine V_aload_n hx dX4_turn_19 0 rfl ?_
    refine V_aload_n hx dX4_turn_20 1 rfl ?_
    refine V_aload_n hx dX4_turn_21 0 rfl ?_
    obtain ⟨i9, hi9⟩ := hM.at hca
    refine gf_X4_53 hx i9 hi9 rfl dX4_turn_22 ?_
    refine V_aload_n hx dX4_turn_25 0 rfl ?_
    obtain ⟨i9, hi9⟩ := hM.at hca
    refine gf_X4_56 hx i9 hi9 rfl dX4_turn_26 ?_
    obtain ⟨vo, hoa, hvo⟩ := hpr.2 (T (7 + 8 * c) 1).toNat (by omega)
    obtain ⟨i9, hi9⟩ := hM.at hpr1
    refine V_aaldA hx (by omega) (by omega) (by omega) i9 hi9 (r := (fp (T (7 + 8 * c) 1).toNat)) (hpr2 _ (by omega)) dX4_turn_29 ?_
    obtain ⟨i9, hi9⟩ := hM.at hca
    refine V_callv hx (z_act l hM h0 (hCK c hc) hw hci (p := (T (7 + 8 * c) 1).toNat) (by omega) hoa hvo) cw_X4_60 (RMa (by dsimp only [rmA, rmN]; omega) (by dsimp only [rmA, rmN]; omega) (by dsimp only [rmA, rmN]; omega) (by dsimp only [rmA, rmN]; omega)) rfl i9 hi9 rfl rfl (Nat.le_of_ble_eq_true rfl) dX4_turn_30 _ _ rfl rfl (fun w6 e6 => ?_)
    obtain ⟨M6, hM6, hC1, kp6⟩ := e6
    have hk1 := kp6
    obtain ⟨pr6, se6, ow6, fp6, fs6, fo6, ms6, mo6, ds6, dw6, hcb, hpr, ⟨hse, hsl⟩, ⟨how, hwl⟩⟩ := id hC1
    refine V_aload_n hx dX4_turn_33 0 rfl ?_
    refine V_dup hx dX4_turn_34 rfl ?_
    obtain ⟨i9, hi9⟩ := hM6.at hcb
    refine gf_X4_56 hx i9 hi9 rfl dX4_turn_35 ?_
    refine V_top (b := T (7 + 8 * c) 1) (dsT_ne (by omega) (by omega) (by omega)) ?_
    refine V_iconst hx dX4_turn_38 ?_
    refine V_iadd hx dX4_turn_39 ?_
    refine M_put (e' := .inr (3, [.ref (pr6), .int (iZ ((T (7 + 8 * c) 1) + 1)), .int (iZ ((dsT T (7 + 8 * c) (T (7 + 8 * c) 1).toNat) (7 + 8 * c) 2)), .int (iZ ((dsT T (7 + 8 * c) (T (7 + 8 * c) 1).toNat) (7 + 8 * c) 3)), .ref (se6), .ref (ow6)])) hM6 hcb (fun i9 hi9 ws7 M7 e9 hM7 f7 hn7 kp7 => ?_)
    refine pf_X4_56 hx i9 hi9 (Nat.le_of_ble_eq_true rfl) ws7 e9 dX4_turn_40 ?_
    replace hk1 := hk1.tr (kp7.of (fun r (h : r ≠ 10 + c ∧ r ≠ 20 + c ∧ r ≠ 900) => by first | trivial | (show _ ≠ _; omega)))
    replace hpr := rws_kp hpr kp7 (by first | trivial | (show _ ≠ _; omega)) (by first | trivial | (show _ ≠ _; omega))
    replace hse := rws_kp hse kp7 (by first | trivial | (show _ ≠ _; omega)) (by first | trivial | (show _ ≠ _; omega))
    replace how := rws_kp how kp7 (by first | trivial | (show _ ≠ _; omega)) (by first | trivial | (show _ ≠ _; omega))
    replace hcb := f7
    refine V_iconst hx dX4_turn_43 ?_
    have hC9 : CK g M7 (cl c) c (pt (dsT T (7 + 8 * c) (T (7 + 8 * c) 1).toNat) (7 + 8 * c) 1 (T (7 + 8 * c) 1 + 1)) := by
      refine ck_obj (T := (dsT T (7 + 8 * c) (T (7 + 8 * c) 1).toNat)) ?_ hpr hse hsl how hwl (fun j h1 h2 => pt_row _ (by omega)) (pt_ne _ _ (Or.inr (by omega)))
      unfold CKE
      rw [pt_at, pt_ne (b := 2) _ _ (Or.inr (by omega)), pt_ne (b := 3) _ _ (Or.inr (by omega))]
      exact hcb
    exact hE _ _ _ _ _ _ dX4_turn_44 rfl (by dsimp only [rmA]; omega) (by dsimp only [rmA]; omega) ⟨(by unfold tkV; rw [if_pos (by omega)]), M7, hM7, (by rw [show tkT T c = pt (dsT T (7 + 8 * c) (T (7 + 8 * c) 1).toNat) (7 + 8 * c) 1 (T (7 + 8 * c) 1 + 1) from (by unfold tkT; rw [if_pos (by omega)])]; exact sim_ck2 hS h6 hc (fun a b hab => (by rw [pt_ne _ _ (Or.inl (by omega)), dsT_ne (by omega) (by omega) (by omega)])) hk1 (fun r h1 h2 h3 => by show r ≠ 10 + c ∧ r ≠ 20 + c ∧ r ≠ 900; omega) hC9), hk1.of (fun r (h : 1000 ≤ r) => by show r ≠ 10 + c ∧ r ≠ 20 + c ∧ r ≠ 900; omega)⟩
