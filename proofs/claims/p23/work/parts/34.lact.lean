/-! the law: act -/
theorem py_nc {T : TS} {d : Nat} {v : Int} : nc (pyT T d v) = nc T := by unfold nc; rw [py_0 (by omega)]
theorem so_nc {T : TS} {c d : Nat} : nc (soT T (7 + 8 * c) d) = nc T := by unfold nc; rw [soT_ne (by omega)]
theorem tk_nc {T : TS} {c : Nat} : nc (tkT T c) = nc T := by unfold nc; rw [tk_00 (by omega)]
theorem grs_0 {T : TS} {b : Nat} (hb : b ≠ 2) : ∀ j : Nat, (grs T j).1 0 b = T 0 b
  | 0 => rfl
  | j + 1 => (grz_0 hb _).trans (grs_0 hb j)
theorem grs_nc {T : TS} (j : Nat) : nc (grs T j).1 = nc T := by unfold nc; rw [grs_0 (by omega)]
theorem grs_b {T : TS} (h6 : nc T ≤ 6) : ∀ j : Nat, 0 ≤ (grs T j).2 ∧ (grs T j).2 ≤ 6 * j
  | 0 => ⟨Int.le_refl _, Int.le_refl _⟩
  | j + 1 => by
    have ih := grs_b h6 j
    have h := gr_b (grs T j).1 (nc (grs T j).1)
    have e := grs_nc (T := T) j
    show 0 ≤ (grs T j).2 + (gr (grs T j).1 (nc (grs T j).1)).2 ∧ (grs T j).2 + (gr (grs T j).1 (nc (grs T j).1)).2 ≤ _
    omega
set_option maxHeartbeats 4000000 in
set_option maxRecDepth 100000 in
theorem z_actL (l : Launch) (hst : l.stackTraces = false) {g : GT} {ws : va_W} {M : MM} (hM : HM M ws) {ad : Nat → Nat} (hA : AI ad) {sp : Nat} {cl : Nat → Nat} {P : Nat → TS} {T : TS} {B : Int} (hSt : STT g ad M sp cl P T B) (hB : B ≤ 2050) (h1c : 1 ≤ T 0 1) {x9 : Int} : MHT l yL_act cL_act 8 [(232, 247, 248, 49)] (rmA 10 1000 264400) g [.ref (ad 0), .ref sp, .int (iZ (x9))] ws (fun z ws9 => z = 1 ∧ ∃ M9 T9, HM M9 ws9 ∧ STT g ad M9 sp cl P T9 (B + 120) ∧ T9 0 0 = T 0 0 ∧ T9 0 1 = T 0 1 ∧ KP LOC M M9) := by
  refine MHT.of (by decide) rfl (Nat.le_of_ble_eq_true rfl) (fun x hx hz htb hE => ?_)
  refine V_lv (lv' := [(0, .ref ((ad 0))), (1, .ref (sp)), (2, .int (iZ (x9)))]) rfl ?_
  obtain ⟨hC, hS, hw, hI, hP1⟩ := id hSt
  obtain ⟨⟨am, sl, ck, co, h0⟩, hCK⟩ := id hS
  obtain ⟨hsp, ⟨va, ham, hva⟩, ⟨vs, hsv, hvs⟩, ⟨fk, hck, hfk⟩, hcl⟩ := id h0
  obtain ⟨hT, ⟨tn1, tn8⟩, ⟨hc0, hc9⟩, ⟨hz0, hz9⟩, ham1, hck9⟩ := id hw
  have hni := nc_i hw
  have h6 : nc T ≤ 6 := by omega
  have hnd : ((nd T : Nat) : Int) = T 0 0 := Int.toNat_of_nonneg (by omega)
  have hk : KP LOC M M := KP.rf
  refine V_iload_n hx dL_act_0 2 rfl ?_
  refine V_iconst hx dL_act_1 ?_
  refine V_ishr hx dL_act_2 (fun z1 r1 => ?_)
  refine V_aload_n hx dL_act_3 1 rfl ?_
  obtain ⟨i9, hi9⟩ := hM.at hsp
  refine gf_L_21 hx i9 hi9 rfl dL_act_4 ?_
  obtain ⟨i9, hi9⟩ := hM.at hck
  refine V_alenK hx (t0 := 3) i9 hi9 rfl (v := T 0 1) hni dL_act_7 ?_
  refine V_callSi hx (z_below l (v := z1) (n := T 0 1) (by omega) (by omega)) cw_L_15 (RMa (by dsimp only [rmA, rmN, rmX]; omega) (by dsimp only [rmA, rmN, rmX]; omega) (by dsimp only [rmA, rmN, rmX]; omega) (by dsimp only [rmA, rmN, rmX]; omega)) rfl rfl (Nat.le_of_ble_eq_true rfl) dL_act_8 _ _ rfl rfl (fun b2 w2 e2 => ?_)
  obtain ⟨⟨b2l, b2h⟩, e2⟩ := e2
  replace e2 := e2.symm
  subst e2
  obtain ⟨c, rfl⟩ := Int.eq_ofNat_of_zero_le b2l
  have hc : c < nc T := by omega
  have hci : (c : Int) < T 0 1 := by omega
  obtain ⟨⟨k1, k1b⟩, ⟨k2, k2b⟩, k3, ⟨k4, k4b⟩, k5, k6⟩ := hck9 c hci
  have hc6 : c < 6 := by omega
  obtain ⟨pr, se, ow, fp, fs, fo, ms, mo, ds, dw, hca, hpr, ⟨hse, hsl⟩, ⟨how, hwl⟩⟩ := id (hCK c hc)
  refine V_istore_n hx dL_act_11 [(3, .int (iZ ((c : Int)))), (0, .ref ((ad 0))), (1, .ref (sp)), (2, .int (iZ (x9)))] (by decide) rfl ?_
  refine V_aload_n hx dL_act_12 2 rfl ?_
  obtain ⟨i9, hi9⟩ := hM.at hsp
  refine gf_L_21 hx i9 hi9 rfl dL_act_13 ?_
  refine V_iload_n hx dL_act_16 0 rfl ?_
  obtain ⟨i9, hi9⟩ := hM.at hck
  refine V_aaldL hx (by omega) (by omega) (by omega) i9 hi9 (r := (cl c)) (hfk c hc) dL_act_17 ?_
  refine V_astore hx dL_act_18 [(4, .ref ((cl c))), (3, .int (iZ ((c : Int)))), (0, .ref ((ad 0))), (1, .ref (sp)), (2, .int (iZ (x9)))] (by decide) rfl ?_
  refine V_iload_n hx dL_act_20 4 rfl ?_
  refine V_bipush hx dL_act_21 rfl ?_
  refine V_callSi hx (z_below l (v := x9) (n := 14) (by omega) (by omega)) cw_L_15 (RMa (by dsimp only [rmA, rmN, rmX]; omega) (by dsimp only [rmA, rmN, rmX]; omega) (by dsimp only [rmA, rmN, rmX]; omega) (by dsimp only [rmA, rmN, rmX]; omega)) rfl rfl (Nat.le_of_ble_eq_true rfl) dL_act_23 _ _ rfl rfl (fun b3 w3 e3 => ?_)
  obtain ⟨⟨b3l, b3h⟩, e3⟩ := e3
  replace e3 := e3.symm
  subst e3
  refine V_widen (k' := 0) (n' := 0) (by first | omega | (dsimp only [rmA, rmX, rmN]; omega)) (by first | omega | (dsimp only [rmA, rmX, rmN]; omega)) ?_
  have h209 : V x 0 0 ws 209 [(4, .ref ((cl c))), (3, .int (iZ ((c : Int)))), (0, .ref ((ad 0))), (1, .ref (sp)), (2, .int (iZ (x9)))] [] := by
    refine V_aload_n hx dL_act_209 3 rfl ?_
    refine V_iload_n hx dL_act_210 1 rfl ?_
    obtain ⟨i9, hi9⟩ := hM.at hsp
    refine V_calli hx (z_goes l hM hS hT h6 hc k1) cw_L_86 (RMa (by dsimp only [rmA, rmN, rmX]; omega) (by dsimp only [rmA, rmN, rmX]; omega) (by dsimp only [rmA, rmN, rmX]; omega) (by dsimp only [rmA, rmN, rmX]; omega)) rfl i9 hi9 rfl rfl (Nat.le_of_ble_eq_true rfl) dL_act_211 _ _ rfl rfl (fun z4 w4 e4 => ?_)
    obtain ⟨rfl, rfl⟩ := e4
    refine V_istore hx dL_act_214 [(5, .int (iZ (bz (awP T c)))), (4, .ref ((cl c))), (3, .int (iZ ((c : Int)))), (0, .ref ((ad 0))), (1, .ref (sp)), (2, .int (iZ (x9)))] (by decide) rfl ?_
    refine V_iload hx dL_act_216 0 rfl ?_
    refine V_ifb_eq hx dL_act_218 229 (by decide) (fun h218 => ?_) (fun h218 => ?_)
    · refine V_iconst hx dL_act_229 ?_
      refine V_istore hx dL_act_230 [(6, .int (iZ ((-1)))), (5, .int (iZ (bz (awP T c)))), (4, .ref ((cl c))), (3, .int (iZ ((c : Int)))), (0, .ref ((ad 0))), (1, .ref (sp)), (2, .int (iZ (x9)))] (by decide) rfl ?_
      refine V_aload_n hx dL_act_232 4 rfl ?_
      refine V_iload_n hx dL_act_233 3 rfl ?_
      refine M_callX hx hz hM hC hA (x_turn l hst T (wf_shp hw (by omega)) (c := ((c : Nat) : Int)) ⟨by omega, by omega⟩ (fun _ _ => wf_tkok hw (by omega) hci)) rfl cw_L_93 (RMa (by dsimp only [rmA, rmN, rmX]; omega) (by dsimp only [rmA, rmN, rmX]; omega) (by dsimp only [rmA, rmN, rmX]; omega) (by dsimp only [rmA, rmN, rmX]; omega)) rfl rfl (Nat.le_of_ble_eq_true rfl) dL_act_234 _ _ rfl rfl (fun E hE9 wx hMx => ?_) (fun z5 w5 e5 => absurd e5.1.2 h218)
      rcases hE9 with ⟨-, h9⟩ | ⟨rfl, -, -⟩
      · exact absurd (show _ ∧ _ from ⟨by omega, by omega⟩) h9
      · refine V_catch hx hz htb (tableOf []) ⟨232, 247, 248, 49⟩ (tableOf []) rfl (fun z hz => nomatch hz) rfl (by decide) q624 q208 (fun qe => ?_)
        refine V_astore hx dL_act_248 [(7, .ref (qe)), (6, .int (iZ ((-1)))), (5, .int (iZ (bz (awP T c)))), (4, .ref ((cl c))), (3, .int (iZ ((c : Int)))), (0, .ref ((ad 0))), (1, .ref (sp)), (2, .int (iZ (x9)))] (by decide) rfl ?_
        refine V_iload hx dL_act_250 2 rfl ?_
        refine V_ifb_ne hx dL_act_252 259 (by decide) (fun h252 => absurd h252 (h218)) (fun h252 => ?_)
        refine V_iconst hx dL_act_255 ?_
        refine V_goto hx dL_act_256 260 (by decide) ?_
        exact hE _ _ _ _ _ _ dL_act_260 rfl (by dsimp only [rmA, rmX, rmN]; omega) (by dsimp only [rmA, rmX, rmN]; omega) ⟨rfl, M, T, hMx, ⟨hC, hS, wf_mono hw (by omega), hI, hP1⟩, rfl, rfl, hk⟩
    · refine V_aload_n hx dL_act_221 4 rfl ?_
      refine V_iload_n hx dL_act_222 2 rfl ?_
      obtain ⟨i9, hi9⟩ := hM.at hsp
      refine V_calli hx (z_turn l hM hS hw (by omega) hc) cw_L_90 (RMa (by dsimp only [rmA, rmN, rmX]; omega) (by dsimp only [rmA, rmN, rmX]; omega) (by dsimp only [rmA, rmN, rmX]; omega) (by dsimp only [rmA, rmN, rmX]; omega)) rfl i9 hi9 rfl rfl (Nat.le_of_ble_eq_true rfl) dL_act_223 _ _ rfl rfl (fun z6 w6 e6 => ?_)
      obtain ⟨rfl, M6, hM6, hS9, kp6⟩ := e6
      have hC8 := cwm_kp hC kp6 (Nat.le_refl 1000)
      have hk9 := hk.tr (kp6.of (fun r (h : 1001 ≤ r) => by show 1000 ≤ r; omega))
      refine V_goto hx dL_act_226 230 (by decide) ?_
      refine V_istore hx dL_act_230 [(6, .int (iZ (tkV T c))), (5, .int (iZ (bz (awP T c)))), (4, .ref ((cl c))), (3, .int (iZ ((c : Int)))), (0, .ref ((ad 0))), (1, .ref (sp)), (2, .int (iZ (x9)))] (by decide) rfl ?_
      refine V_aload_n hx dL_act_232 4 rfl ?_
      refine V_iload_n hx dL_act_233 3 rfl ?_
      refine M_callX hx hz hM6 hC8 hA (x_turn l hst T (wf_shp hw (by omega)) (c := ((c : Nat) : Int)) ⟨by omega, by omega⟩ (fun _ _ => wf_tkok hw (by omega) hci)) rfl cw_L_93 (RMa (by dsimp only [rmA, rmN, rmX]; omega) (by dsimp only [rmA, rmN, rmX]; omega) (by dsimp only [rmA, rmN, rmX]; omega) (by dsimp only [rmA, rmN, rmX]; omega)) rfl rfl (Nat.le_of_ble_eq_true rfl) dL_act_234 _ _ rfl rfl (fun E hE9 => by rcases hE9 with ⟨-, h9⟩ | ⟨-, -, h9⟩; exact absurd (show _ ∧ _ from ⟨by omega, by omega⟩) h9; exact absurd h218 h9) (fun z7 w7 e7 => ?_)
      obtain ⟨-, rfl, rfl⟩ := e7
      refine ⟨P, _, rfl, fun ws7 M7 hM7 hC9 kp7 => ?_⟩
      have hS10 := sim_kp hS9 (by rw [tk_nc]; exact h6) kp7 (fun r hr => by show _ ≠ _; omega)
      have hk10 := hk9.tr (kp7.of (fun r (h : 1001 ≤ r) => by show _ ≠ _; omega))
      refine V_top (b := tkV T c) rfl ?_
      refine V_iload hx dL_act_237 0 rfl ?_
      refine V_icmp_ne hx dL_act_239 246 (by decide) (rg_tkV _ _) (rg_tkV _ _) (fun h239 => absurd h239 (fun h9 => h9 rfl)) (fun h239 => ?_)
      refine V_iconst hx dL_act_242 ?_
      refine V_goto hx dL_act_243 247 (by decide) ?_
      exact hE _ _ _ _ _ _ dL_act_247 rfl (by dsimp only [rmA, rmX, rmN]; omega) (by dsimp only [rmA, rmX, rmN]; omega) ⟨rfl, M7, _, hM7, ⟨hC9, hS10, wf_mono (wf_tk hw (by omega) hci) (by omega), iv_tk hI hw hci, hP1⟩, tk_00 (by omega), tk_00 (by omega), hk10⟩
  by_cases h26_0 : b3 = 0
  · refine V_tabIn hx dL_act_26 (by first | assumption | exact ⟨by omega, by omega⟩) (by omega) (by omega) (off := 50) (by rw [h26_0]; rfl) 76 (by decide) ?_
    refine V_iload_n hx dL_act_76 4 rfl ?_
    refine V_bipush hx dL_act_77 rfl ?_
    refine V_ishr hx dL_act_79 (fun z8 r8 => ?_)
    refine V_aload_n hx dL_act_80 3 rfl ?_
    obtain ⟨i9, hi9⟩ := hM.at hsp
    refine gf_L_9 hx i9 hi9 rfl dL_act_81 ?_
    obtain ⟨i9, hi9⟩ := hM.at ham
    refine V_alenK hx (t0 := 0) i9 hi9 rfl (v := T 0 0) hnd dL_act_84 ?_
    refine V_callSi hx (z_below l (v := z8) (n := T 0 0) (by omega) (by omega)) cw_L_15 (RMa (by dsimp only [rmA, rmN, rmX]; omega) (by dsimp only [rmA, rmN, rmX]; omega) (by dsimp only [rmA, rmN, rmX]; omega) (by dsimp only [rmA, rmN, rmX]; omega)) rfl rfl (Nat.le_of_ble_eq_true rfl) dL_act_85 _ _ rfl rfl (fun b9 w9 e9 => ?_)
    obtain ⟨⟨b9l, b9h⟩, e9⟩ := e9
    replace e9 := e9.symm
    subst e9
    obtain ⟨d, rfl⟩ := Int.eq_ofNat_of_zero_le b9l
    refine V_istore hx dL_act_88 [(5, .int (iZ ((d : Int)))), (4, .ref ((cl c))), (3, .int (iZ ((c : Int)))), (0, .ref ((ad 0))), (1, .ref (sp)), (2, .int (iZ (x9)))] (by decide) rfl ?_
    refine V_iload_n hx dL_act_90 5 rfl ?_
    refine V_iconst hx dL_act_91 ?_
    refine V_ishr hx dL_act_92 (fun z10 r10 => ?_)
    refine V_iconst hx dL_act_93 ?_
    refine V_callSi hx (z_below l (v := z10) (n := 4) (by omega) (by omega)) cw_L_15 (RMa (by dsimp only [rmA, rmN, rmX]; omega) (by dsimp only [rmA, rmN, rmX]; omega) (by dsimp only [rmA, rmN, rmX]; omega) (by dsimp only [rmA, rmN, rmX]; omega)) rfl rfl (Nat.le_of_ble_eq_true rfl) dL_act_94 _ _ rfl rfl (fun b11 w11 e11 => ?_)
    obtain ⟨⟨b11l, b11h⟩, e11⟩ := e11
    replace e11 := e11.symm
    subst e11
    refine V_widen (k' := 0) (n' := 0) (by first | omega | (dsimp only [rmA, rmX, rmN]; omega)) (by first | omega | (dsimp only [rmA, rmX, rmN]; omega)) ?_
    have h116 : ∀ (v0 : Int) (_ : 0 ≤ v0) (_ : v0 ≤ 9999), V x 0 0 ws 116 [(5, .int (iZ ((d : Int)))), (4, .ref ((cl c))), (3, .int (iZ ((c : Int)))), (0, .ref ((ad 0))), (1, .ref (sp)), (2, .int (iZ (x9)))] [.int (iZ (v0))] := by
      intro v0 v00 v09
      refine V_istore hx dL_act_116 [(6, .int (iZ (v0))), (5, .int (iZ ((d : Int)))), (4, .ref ((cl c))), (3, .int (iZ ((c : Int)))), (0, .ref ((ad 0))), (1, .ref (sp)), (2, .int (iZ (x9)))] (by decide) rfl ?_
      refine V_aload_n hx dL_act_118 5 rfl ?_
      obtain ⟨i9, hi9⟩ := hM.at hsp
      refine gf_L_9 hx i9 hi9 rfl dL_act_119 ?_
      refine V_iload hx dL_act_122 1 rfl ?_
      obtain ⟨i9, hi9⟩ := hM.at ham
      refine V_iald hx (by omega) (by omega) (by omega) i9 hi9 (v := T 1 d) (hva d (by omega)) dL_act_124 ?_
      refine V_istore hx dL_act_125 [(7, .int (iZ (T 1 d))), (6, .int (iZ (v0))), (5, .int (iZ ((d : Int)))), (4, .ref ((cl c))), (3, .int (iZ ((c : Int)))), (0, .ref ((ad 0))), (1, .ref (sp)), (2, .int (iZ (x9)))] (by decide) rfl ?_
      refine V_aload_n hx dL_act_127 6 rfl ?_
      refine V_iconst hx dL_act_128 ?_
      refine V_iconst hx dL_act_129 ?_
      refine M_newA hx hM 901 (1) rfl (by omega) q570 (by dsimp only [rmA, rmX, rmN]; omega) (by dsimp only [rmA, rmX, rmN]; omega) dL_act_130 (fun q12 ws12 M12 hM12 f12 fr12 hn12 kp12 => ?_)
      replace hsp := kp12 _ _ _ hsp trivial
      replace hck := kp12 _ _ _ hck trivial
      replace ham := kp12 _ _ _ ham trivial
      replace hca := kp12 _ _ _ hca trivial
      replace hk := hk.tr (kp12.of (fun r (h : 1001 ≤ r) => by first | trivial | (show _ ≠ _; omega)))
      replace hS := sim_kp hS h6 kp12 (fun r hr => by first | trivial | (show _ ≠ _; omega))
      replace hC := cwm_kp hC kp12 (by first | trivial | (show _ ≠ _; omega))
      have hq12 := f12
      refine V_dup hx dL_act_133 rfl ?_
      refine V_iconst hx dL_act_134 ?_
      refine V_iconst hx dL_act_135 ?_
      refine M_newa hx hM12 900 (2) rfl (by omega) (by dsimp only [rmA, rmX, rmN]; omega) (by dsimp only [rmA, rmX, rmN]; omega) dL_act_136 (fun q13 ws13 M13 hM13 f13 fr13 hn13 kp13 => ?_)
      replace hsp := kp13 _ _ _ hsp trivial
      replace hck := kp13 _ _ _ hck trivial
      replace ham := kp13 _ _ _ ham trivial
      replace hca := kp13 _ _ _ hca trivial
      replace hq12 := kp13 _ _ _ hq12 trivial
      replace hk := hk.tr (kp13.of (fun r (h : 1001 ≤ r) => by first | trivial | (show _ ≠ _; omega)))
      replace hS := sim_kp hS h6 kp13 (fun r hr => by first | trivial | (show _ ≠ _; omega))
      replace hC := cwm_kp hC kp13 (by first | trivial | (show _ ≠ _; omega))
      have hq13 := f13
      refine V_dup hx dL_act_138 rfl ?_
      refine V_iconst hx dL_act_139 ?_
      refine V_iload hx dL_act_140 2 rfl ?_
      refine M_iast hx hM13 (by omega) (by omega) (by omega) hq13 dL_act_142 (fun ws14 M14 hM14 f14 hn14 kp14 => ?_)
      replace hsp := kp14 _ _ _ hsp (by show _ ≠ _; omega)
      replace hck := kp14 _ _ _ hck (by show _ ≠ _; omega)
      replace ham := kp14 _ _ _ ham (by show _ ≠ _; omega)
      replace hca := kp14 _ _ _ hca (by show _ ≠ _; omega)
      replace hq12 := kp14 _ _ _ hq12 (by show _ ≠ _; omega)
      replace hk := hk.tr (kp14.of (fun r (h : 1001 ≤ r) => by first | trivial | (show _ ≠ _; omega)))
      replace hS := sim_kp hS h6 kp14 (fun r hr => by first | trivial | (show _ ≠ _; omega))
      replace hC := cwm_kp hC kp14 (by first | trivial | (show _ ≠ _; omega))
      replace hq13 := f14
      refine V_dup hx dL_act_143 rfl ?_
      refine V_iconst hx dL_act_144 ?_
      refine V_iload hx dL_act_145 1 rfl ?_
      refine M_iast hx hM14 (by omega) (by omega) (by omega) hq13 dL_act_147 (fun ws15 M15 hM15 f15 hn15 kp15 => ?_)
      replace hsp := kp15 _ _ _ hsp (by show _ ≠ _; omega)
      replace hck := kp15 _ _ _ hck (by show _ ≠ _; omega)
      replace ham := kp15 _ _ _ ham (by show _ ≠ _; omega)
      replace hca := kp15 _ _ _ hca (by show _ ≠ _; omega)
      replace hq12 := kp15 _ _ _ hq12 (by show _ ≠ _; omega)
      replace hk := hk.tr (kp15.of (fun r (h : 1001 ≤ r) => by first | trivial | (show _ ≠ _; omega)))
      replace hS := sim_kp hS h6 kp15 (fun r hr => by first | trivial | (show _ ≠ _; omega))
      replace hC := cwm_kp hC kp15 (by first | trivial | (show _ ≠ _; omega))
      replace hq13 := f15
      refine M_aastA hx hM15 (by omega) (by omega) (by omega) hq12 hq13 dL_act_148 (fun ws16 M16 hM16 f16 hn16 kp16 => ?_)
      replace hsp := kp16 _ _ _ hsp (by show _ ≠ _; omega)
      replace hck := kp16 _ _ _ hck (by show _ ≠ _; omega)
      replace ham := kp16 _ _ _ ham (by show _ ≠ _; omega)
      replace hca := kp16 _ _ _ hca (by show _ ≠ _; omega)
      replace hq13 := kp16 _ _ _ hq13 (by show _ ≠ _; omega)
      replace hk := hk.tr (kp16.of (fun r (h : 1001 ≤ r) => by first | trivial | (show _ ≠ _; omega)))
      replace hS := sim_kp hS h6 kp16 (fun r hr => by first | trivial | (show _ ≠ _; omega))
      replace hC := cwm_kp hC kp16 (by first | trivial | (show _ ≠ _; omega))
      replace hq12 := f16
      obtain ⟨M17, hM17, f17, hn17, kp17⟩ := hM16.retag hq12 (4)
      replace hsp := kp17 _ _ _ hsp (by show _ ≠ _; omega)
      replace hck := kp17 _ _ _ hck (by show _ ≠ _; omega)
      replace ham := kp17 _ _ _ ham (by show _ ≠ _; omega)
      replace hca := kp17 _ _ _ hca (by show _ ≠ _; omega)
      replace hq13 := kp17 _ _ _ hq13 (by show _ ≠ _; omega)
      replace hk := hk.tr (kp17.of (fun r (h : 1001 ≤ r) => by first | trivial | (show _ ≠ _; omega)))
      replace hS := sim_kp hS h6 kp17 (fun r hr => by first | trivial | (show _ ≠ _; omega))
      replace hC := cwm_kp hC kp17 (by first | trivial | (show _ ≠ _; omega))
      replace hq12 := f17
      obtain ⟨M18, hM18, f18, hn18, kp18⟩ := hM17.retag hq13 (4)
      replace hsp := kp18 _ _ _ hsp (by show _ ≠ _; omega)
      replace hck := kp18 _ _ _ hck (by show _ ≠ _; omega)
      replace ham := kp18 _ _ _ ham (by show _ ≠ _; omega)
      replace hca := kp18 _ _ _ hca (by show _ ≠ _; omega)
      replace hq12 := kp18 _ _ _ hq12 (by show _ ≠ _; omega)
      replace hk := hk.tr (kp18.of (fun r (h : 1001 ≤ r) => by first | trivial | (show _ ≠ _; omega)))
      replace hS := sim_kp hS h6 kp18 (fun r hr => by first | trivial | (show _ ≠ _; omega))
      replace hC := cwm_kp hC kp18 (by first | trivial | (show _ ≠ _; omega))
      replace hq13 := f18
      obtain ⟨⟨am8, sl8, ck8, co8, h08⟩, -⟩ := id hS
      obtain ⟨i9, hi9⟩ := hM18.at hsp
      refine V_callv hx (z_close l hM18 h08 (t := 4) (col := c1 d v0) (ds := fun _ => d) (x9 := -1) (rws_1 hq12 (vup_at _ _ _) hq13 rfl rfl) ⟨by omega, by omega, by omega, by omega⟩ (slp_1 (by omega) (by omega)) (fun i hi => by show (d : Int) < T 0 0; omega) tn1 tn8 hz0 (by omega)) cw_L_66 (RMa (by dsimp only [rmA, rmN, rmX]; omega) (by dsimp only [rmA, rmN, rmX]; omega) (by dsimp only [rmA, rmN, rmX]; omega) (by dsimp only [rmA, rmN, rmX]; omega)) rfl i9 hi9 rfl rfl (Nat.le_of_ble_eq_true rfl) dL_act_149 _ _ rfl rfl (fun w19 e19 => ?_)
      obtain ⟨M19, co19, hM19, h09, kp19⟩ := e19
      have hS9 := sim_py hS h09 h6 (show d < nd T by omega) (show v0 ≠ -1 by omega) kp19
      have hC8 := cwm_kp hC kp19 (by omega)
      have hk9 := hk.tr (kp19.of (fun r (h : 1001 ≤ r) => by show r ≠ 1 ∧ r ≠ 2 ∧ r ≠ 3 ∧ r ≠ 900; omega))
      refine V_aload_n hx dL_act_152 5 rfl ?_
      refine V_iload hx dL_act_153 2 rfl ?_
      refine V_iload hx dL_act_155 1 rfl ?_
      refine M_callX hx hz hM19 hC8 hA (x_pay l hst T (wf_shp hw (by omega)) (d := ((d : Nat) : Int)) (a := v0) ⟨by omega, by omega⟩ ⟨by omega, by omega⟩) rfl cw_L_62 (RMa (by dsimp only [rmA, rmN, rmX]; omega) (by dsimp only [rmA, rmN, rmX]; omega) (by dsimp only [rmA, rmN, rmX]; omega) (by dsimp only [rmA, rmN, rmX]; omega)) rfl rfl (Nat.le_of_ble_eq_true rfl) dL_act_157 _ _ rfl rfl (fun E hE9 => by rcases hE9 with ⟨-, h9⟩ | ⟨-, -, h9⟩ <;> exact absurd (show _ ∧ _ from ⟨by omega, by omega⟩) h9) (fun z20 w20 e20 => ?_)
      obtain ⟨-, rfl, rfl⟩ := e20
      refine ⟨P, _, rfl, fun ws20 M20 hM20 hC9 kp20 => ?_⟩
      have hS10 := sim_kp hS9 (by rw [py_nc]; exact h6) kp20 (fun r hr => by show _ ≠ _; omega)
      have hk10 := hk9.tr (kp20.of (fun r (h : 1001 ≤ r) => by show _ ≠ _; omega))
      refine V_top (b := T 1 d) rfl ?_
      refine V_iload hx dL_act_160 0 rfl ?_
      refine V_icmp_ne hx dL_act_162 169 (by decide) (hT _ _) (hT _ _) (fun h162 => absurd h162 (fun h9 => h9 rfl)) (fun h162 => ?_)
      refine V_iconst hx dL_act_165 ?_
      refine V_goto hx dL_act_166 170 (by decide) ?_
      exact hE _ _ _ _ _ _ dL_act_170 rfl (by dsimp only [rmA, rmX, rmN]; omega) (by dsimp only [rmA, rmX, rmN]; omega) ⟨rfl, M20, _, hM20, ⟨hC9, hS10, wf_mono (wf_py hw (by omega) (d := d) (v := v0) ⟨by omega, by omega⟩) (by omega), iv_py hI hw, hP1⟩, py_0 (by omega), py_0 (by omega), hk10⟩
    refine V_if_ne hx dL_act_97 106 (by decide) (by first | assumption | exact ⟨by omega, by omega⟩) (fun h97 => ?_) (fun h97 => ?_)
    · refine V_iload_n hx dL_act_106 5 rfl ?_
      refine V_bipush hx dL_act_107 rfl ?_
      refine V_ishr hx dL_act_109 (fun z21 r21 => ?_)
      refine V_sipush hx dL_act_110 rfl ?_
      refine V_callSi hx (z_below l (v := z21) (n := 300) (by omega) (by omega)) cw_L_15 (RMa (by dsimp only [rmA, rmN, rmX]; omega) (by dsimp only [rmA, rmN, rmX]; omega) (by dsimp only [rmA, rmN, rmX]; omega) (by dsimp only [rmA, rmN, rmX]; omega)) rfl rfl (Nat.le_of_ble_eq_true rfl) dL_act_113 _ _ rfl rfl (fun b22 w22 e22 => ?_)
      obtain ⟨⟨b22l, b22h⟩, e22⟩ := e22
      replace e22 := e22.symm
      subst e22
      refine V_widen (k' := 0) (n' := 0) (by first | omega | (dsimp only [rmA, rmX, rmN]; omega)) (by first | omega | (dsimp only [rmA, rmX, rmN]; omega)) ?_
      exact h116 _ (by omega) (by omega)
    · refine V_sipush hx dL_act_100 rfl ?_
      refine V_goto hx dL_act_103 116 (by decide) ?_
      refine V_widen (k' := 0) (n' := 0) (by first | omega | (dsimp only [rmA, rmX, rmN]; omega)) (by first | omega | (dsimp only [rmA, rmX, rmN]; omega)) ?_
      exact h116 _ (by omega) (by omega)
  by_cases h26_1 : b3 = 1
  · refine V_tabIn hx dL_act_26 (by first | assumption | exact ⟨by omega, by omega⟩) (by omega) (by omega) (off := 145) (by rw [h26_1]; rfl) 171 (by decide) ?_
    refine V_aload hx dL_act_171 0 rfl ?_
    obtain ⟨i9, hi9⟩ := hM.at hca
    refine gf_L_31 hx i9 hi9 rfl dL_act_173 ?_
    refine V_istore hx dL_act_176 [(5, .int (iZ (T (7 + 8 * c) 1))), (4, .ref ((cl c))), (3, .int (iZ ((c : Int)))), (0, .ref ((ad 0))), (1, .ref (sp)), (2, .int (iZ (x9)))] (by decide) rfl ?_
    refine V_aload hx dL_act_178 1 rfl ?_
    obtain ⟨i9, hi9⟩ := hM.at hca
    refine V_callv hx (z_begin l hM (hCK c hc) hc6) cw_L_80 (RMa (by dsimp only [rmA, rmN, rmX]; omega) (by dsimp only [rmA, rmN, rmX]; omega) (by dsimp only [rmA, rmN, rmX]; omega) (by dsimp only [rmA, rmN, rmX]; omega)) rfl i9 hi9 rfl rfl (Nat.le_of_ble_eq_true rfl) dL_act_180 _ _ rfl rfl (fun w23 e23 => ?_)
    obtain ⟨M23, hM23, hC1, kp23⟩ := e23
    have hS9 : SIM g M23 sp cl (soT T (7 + 8 * c) 8) := sim_ck2 hS h6 hc (fun a b hab => soT_ne (by omega)) kp23 (fun r h1 h2 h3 => h2) hC1
    have hC8 := cwm_kp hC kp23 (by show _ ≠ _; omega)
    have hk9 := hk.tr (kp23.of (fun r (h : 1001 ≤ r) => by show _ ≠ _; omega))
    refine V_aload_n hx dL_act_183 3 rfl ?_
    refine V_iload_n hx dL_act_184 2 rfl ?_
    refine M_callX hx hz hM23 hC8 hA (x_drop l hst T (wf_shp hw (by omega)) (c := ((c : Nat) : Int)) ⟨by omega, by omega⟩) rfl cw_L_83 (RMa (by dsimp only [rmA, rmN, rmX]; omega) (by dsimp only [rmA, rmN, rmX]; omega) (by dsimp only [rmA, rmN, rmX]; omega) (by dsimp only [rmA, rmN, rmX]; omega)) rfl rfl (Nat.le_of_ble_eq_true rfl) dL_act_185 _ _ rfl rfl (fun E hE9 => absurd (show _ ∧ _ from ⟨by omega, by omega⟩) hE9.2) (fun z24 w24 e24 => ?_)
    obtain ⟨-, rfl, rfl⟩ := e24
    refine ⟨P, _, rfl, fun ws24 M24 hM24 hC9 kp24 => ?_⟩
    have hS10 := sim_kp hS9 (by rw [so_nc]; exact h6) kp24 (fun r hr => by show _ ≠ _; omega)
    have hk10 := hk9.tr (kp24.of (fun r (h : 1001 ≤ r) => by show _ ≠ _; omega))
    refine V_top (b := T (7 + 8 * c) 1) rfl ?_
    refine V_iload hx dL_act_188 0 rfl ?_
    refine V_icmp_ne hx dL_act_190 197 (by decide) (hT _ _) (hT _ _) (fun h190 => absurd h190 (fun h9 => h9 rfl)) (fun h190 => ?_)
    refine V_iconst hx dL_act_193 ?_
    refine V_goto hx dL_act_194 198 (by decide) ?_
    exact hE _ _ _ _ _ _ dL_act_198 rfl (by dsimp only [rmA, rmX, rmN]; omega) (by dsimp only [rmA, rmX, rmN]; omega) ⟨rfl, M24, _, hM24, ⟨hC9, hS10, wf_mono (wf_so hw hci) (by omega), iv_so hI hw, hP1⟩, soT_ne (by omega), soT_ne (by omega), hk10⟩
  by_cases h26_2 : b3 = 2
  · refine V_tabIn hx dL_act_26 (by first | assumption | exact ⟨by omega, by omega⟩) (by omega) (by omega) (off := 173) (by rw [h26_2]; rfl) 199 (by decide) ?_
    refine V_aload_n hx dL_act_199 2 rfl ?_
    refine V_aload_n hx dL_act_200 3 rfl ?_
    refine V_iload_n hx dL_act_201 1 rfl ?_
    refine V_iload_n hx dL_act_202 4 rfl ?_
    refine V_iconst hx dL_act_203 ?_
    refine V_ishr hx dL_act_204 (fun z25 r25 => ?_)
    refine V_callHT hx hz (z_sayL l hst hM hA hSt (by omega) hc (x0 := z25)) (ch_say 77 q621) (RMa (by dsimp only [rmA, rmN, rmX]; omega) (by dsimp only [rmA, rmN, rmX]; omega) (by dsimp only [rmA, rmN, rmX]; omega) (by dsimp only [rmA, rmN, rmX]; omega)) rfl rfl (Nat.le_of_ble_eq_true rfl) dL_act_205 _ _ rfl rfl (fun z26 w26 e26 => ?_)
    obtain ⟨rfl, M26, T26, hM26, hSt9, e90, e91, kp26⟩ := e26
    exact hE _ _ _ _ _ _ dL_act_208 rfl (by dsimp only [rmA, rmX, rmN]; omega) (by dsimp only [rmA, rmX, rmN]; omega) ⟨rfl, M26, T26, hM26, ⟨hSt9.1, hSt9.2.1, wf_mono hSt9.2.2.1 (by omega), hSt9.2.2.2⟩, e90, e91, kp26⟩
  by_cases h26_3 : b3 = 3
  · refine V_tabIn hx dL_act_26 (by first | assumption | exact ⟨by omega, by omega⟩) (by omega) (by omega) (off := 183) (by rw [h26_3]; rfl) 209 (by decide) ?_
    exact h209
  by_cases h26_4 : b3 = 4
  · refine V_tabIn hx dL_act_26 (by first | assumption | exact ⟨by omega, by omega⟩) (by omega) (by omega) (off := 183) (by rw [h26_4]; rfl) 209 (by decide) ?_
    exact h209
  by_cases h26_5 : b3 = 5
  · refine V_tabIn hx dL_act_26 (by first | assumption | exact ⟨by omega, by omega⟩) (by omega) (by omega) (off := 183) (by rw [h26_5]; rfl) 209 (by decide) ?_
    exact h209
  by_cases h26_6 : b3 = 6
  · refine V_tabIn hx dL_act_26 (by first | assumption | exact ⟨by omega, by omega⟩) (by omega) (by omega) (off := 183) (by rw [h26_6]; rfl) 209 (by decide) ?_
    exact h209
  by_cases h26_7 : b3 = 7
  · refine V_tabIn hx dL_act_26 (by first | assumption | exact ⟨by omega, by omega⟩) (by omega) (by omega) (off := 183) (by rw [h26_7]; rfl) 209 (by decide) ?_
    exact h209
  by_cases h26_8 : b3 = 8
  · refine V_tabIn hx dL_act_26 (by first | assumption | exact ⟨by omega, by omega⟩) (by omega) (by omega) (off := 183) (by rw [h26_8]; rfl) 209 (by decide) ?_
    exact h209
  refine V_tabOut hx dL_act_26 (by first | assumption | exact ⟨by omega, by omega⟩) (by omega) 261 (by decide) ?_
  refine V_iconst hx dL_act_261 ?_
  refine V_iload_n hx dL_act_262 4 rfl ?_
  refine V_bipush hx dL_act_263 rfl ?_
  refine V_ishr hx dL_act_265 (fun z27 r27 => ?_)
  refine V_iload_n hx dL_act_266 4 rfl ?_
  refine V_iconst hx dL_act_267 ?_
  refine V_ishr hx dL_act_268 (fun z28 r28 => ?_)
  refine V_bipush hx dL_act_269 rfl ?_
  refine V_callSi hx (z_below l (v := z28) (n := 6) (by omega) (by omega)) cw_L_15 (RMa (by dsimp only [rmA, rmN, rmX]; omega) (by dsimp only [rmA, rmN, rmX]; omega) (by dsimp only [rmA, rmN, rmX]; omega) (by dsimp only [rmA, rmN, rmX]; omega)) rfl rfl (Nat.le_of_ble_eq_true rfl) dL_act_271 _ _ rfl rfl (fun b29 w29 e29 => ?_)
  obtain ⟨⟨b29l, b29h⟩, e29⟩ := e29
  replace e29 := e29.symm
  subst e29
  refine V_widen (k' := 0) (n' := 0) (by first | omega | (dsimp only [rmA, rmX, rmN]; omega)) (by first | omega | (dsimp only [rmA, rmX, rmN]; omega)) ?_
  have h283 : ∀ (n9 : Int) (_ : 1 ≤ n9) (_ : n9 ≤ 20), V x 0 0 ws 283 [(4, .ref ((cl c))), (3, .int (iZ ((c : Int)))), (0, .ref ((ad 0))), (1, .ref (sp)), (2, .int (iZ (x9)))] [.int (iZ (n9)), .int (iZ (z27)), .int (iZ (1))] := by
    intro n9 n91 n92
    refine V_callSi hx (z_below l (v := z27) (n := n9) (by omega) (by omega)) cw_L_15 (RMa (by dsimp only [rmA, rmN, rmX]; omega) (by dsimp only [rmA, rmN, rmX]; omega) (by dsimp only [rmA, rmN, rmX]; omega) (by dsimp only [rmA, rmN, rmX]; omega)) rfl rfl (Nat.le_of_ble_eq_true rfl) dL_act_283 _ _ rfl rfl (fun b30 w30 e30 => ?_)
    obtain ⟨⟨b30l, b30h⟩, e30⟩ := e30
    replace e30 := e30.symm
    subst e30
    refine V_iadd hx dL_act_286 ?_
    obtain ⟨r, hr⟩ := Int.eq_ofNat_of_zero_le (show 0 ≤ 1 + b30 by omega)
    refine V_top (b := ((r : Nat) : Int)) hr ?_
    refine V_istore hx dL_act_287 [(5, .int (iZ ((r : Int)))), (4, .ref ((cl c))), (3, .int (iZ ((c : Int)))), (0, .ref ((ad 0))), (1, .ref (sp)), (2, .int (iZ (x9)))] (by decide) rfl ?_
    refine V_iconst hx dL_act_289 ?_
    refine V_istore hx dL_act_290 [(6, .int (iZ (0))), (5, .int (iZ ((r : Int)))), (4, .ref ((cl c))), (3, .int (iZ ((c : Int)))), (0, .ref ((ad 0))), (1, .ref (sp)), (2, .int (iZ (x9)))] (by decide) rfl ?_
    refine V_iconst hx dL_act_292 ?_
    refine V_istore hx dL_act_293 [(7, .int (iZ (0))), (6, .int (iZ (0))), (5, .int (iZ ((r : Int)))), (4, .ref ((cl c))), (3, .int (iZ ((c : Int)))), (0, .ref ((ad 0))), (1, .ref (sp)), (2, .int (iZ (x9)))] (by decide) rfl ?_
    refine V_widen (k' := 48 * 0) (n' := 13218 * 0) (by first | omega | (dsimp only [rmA, rmX, rmN]; omega)) (by first | omega | (dsimp only [rmA, rmX, rmN]; omega)) ?_
    have hL1 : ∀ (n j : Nat) (w1 : va_W) (N1 : MM), r < j + n → j ≤ r → HM N1 w1 → CWM g ad N1 P T → SIM g N1 sp cl (grs T j).1 → KP LOC M N1 → V x (48 * j) (13218 * j) w1 295 [(7, .int (iZ ((j : Int)))), (6, .int (iZ ((grs T j).2))), (5, .int (iZ ((r : Int)))), (4, .ref ((cl c))), (3, .int (iZ ((c : Int)))), (0, .ref ((ad 0))), (1, .ref (sp)), (2, .int (iZ (x9)))] [] := by
      intro n; induction n with
      | zero => intro j w1 N1 g1 g2; exact absurd g1 (by omega)
      | succ n ih =>
        intro j w1 N1 g1 g2 hN1 hC1 hS1 hk1
        have hwj := wf_grs hw (by omega) j (by omega)
        have hbj := grs_b h6 j
        obtain ⟨⟨am, sl, ck, co, h0⟩, hCK⟩ := id hS1
        obtain ⟨hsp, -⟩ := id h0
        refine V_iload hx dL_act_295 0 rfl ?_
        refine V_iload hx dL_act_297 2 rfl ?_
        refine V_icmp_ge hx dL_act_299 317 (by decide) ⟨by omega, by omega⟩ ⟨by omega, by omega⟩ (fun h299 => ?_) (fun h299 => ?_)
        · refine V_aload_n hx dL_act_317 5 rfl ?_
          refine V_iload hx dL_act_318 2 rfl ?_
          obtain rfl : j = r := by omega
          have hS9 := hS1
          have hk9 := hk1
          refine M_callX hx hz hN1 hC1 hA (x_pass l hst T (wf_shp hw (by omega)) (r := ((j : Nat) : Int)) ⟨by omega, by omega⟩ (fun _ _ j9 hj9 => wf_grok (wf_grs hw (by omega) j9 (by omega)) (by omega))) rfl cw_L_97 (RMa (by dsimp only [rmA, rmN, rmX]; omega) (by dsimp only [rmA, rmN, rmX]; omega) (by dsimp only [rmA, rmN, rmX]; omega) (by dsimp only [rmA, rmN, rmX]; omega)) rfl rfl (Nat.le_of_ble_eq_true rfl) dL_act_320 _ _ rfl rfl (fun E hE9 => absurd (show _ ∧ _ from ⟨by omega, by omega⟩) hE9.2) (fun z31 w31 e31 => ?_)
          obtain ⟨-, rfl, rfl⟩ := e31
          refine ⟨P, _, rfl, fun ws31 M31 hM31 hC9 kp31 => ?_⟩
          have hS10 := sim_kp hS9 (by rw [grs_nc]; exact h6) kp31 (fun r hr => by show _ ≠ _; omega)
          have hk10 := hk9.tr (kp31.of (fun r (h : 1001 ≤ r) => by show _ ≠ _; omega))
          refine V_top (b := (grs T j).2) rfl ?_
          refine V_iload hx dL_act_323 1 rfl ?_
          refine V_icmp_ne hx dL_act_325 332 (by decide) (by first | assumption | exact ⟨by omega, by omega⟩) (by first | assumption | exact ⟨by omega, by omega⟩) (fun h325 => absurd h325 (fun h9 => h9 rfl)) (fun h325 => ?_)
          refine V_iconst hx dL_act_328 ?_
          refine V_goto hx dL_act_329 333 (by decide) ?_
          exact hE _ _ _ _ _ _ dL_act_333 rfl (by dsimp only [rmA, rmX, rmN]; omega) (by dsimp only [rmA, rmX, rmN]; omega) ⟨rfl, M31, _, hM31, ⟨hC9, hS10, wf_mono (wf_grs hw (by omega) j (by omega)) (by omega), iv_grs hI hw (by omega) j (by omega), hP1⟩, grs_0 (by omega) j, grs_0 (by omega) j, hk10⟩
        · refine V_iload hx dL_act_302 1 rfl ?_
          refine V_aload_n hx dL_act_304 6 rfl ?_
          obtain ⟨i9, hi9⟩ := hN1.at hsp
          refine V_calli hx (z_round l hN1 hS1 hwj (by omega)) cw_L_94 (RMa (by dsimp only [rmA, rmN, rmX]; omega) (by dsimp only [rmA, rmN, rmX]; omega) (by dsimp only [rmA, rmN, rmX]; omega) (by dsimp only [rmA, rmN, rmX]; omega)) rfl i9 hi9 rfl rfl (Nat.le_of_ble_eq_true rfl) dL_act_305 _ _ rfl rfl (fun z32 w32 e32 => ?_)
          obtain ⟨rfl, M32, hM32, hS9, kp32⟩ := e32
          have hC8 := cwm_kp hC1 kp32 (Nat.le_refl 1000)
          have hk9 := hk1.tr (kp32.of (fun r (h : 1001 ≤ r) => by show 1000 ≤ r; omega))
          refine V_iadd hx dL_act_308 ?_
          refine V_top (b := (grs T (j + 1)).2) rfl ?_
          refine V_istore hx dL_act_309 [(6, .int (iZ ((grs T (j + 1)).2))), (7, .int (iZ ((j : Int)))), (5, .int (iZ ((r : Int)))), (4, .ref ((cl c))), (3, .int (iZ ((c : Int)))), (0, .ref ((ad 0))), (1, .ref (sp)), (2, .int (iZ (x9)))] (by decide) rfl ?_
          refine V_iincN hx dL_act_311 1 rfl [(7, .int (iZ (((j + 1 : Nat) : Int)))), (6, .int (iZ ((grs T (j + 1)).2))), (5, .int (iZ ((r : Int)))), (4, .ref ((cl c))), (3, .int (iZ ((c : Int)))), (0, .ref ((ad 0))), (1, .ref (sp)), (2, .int (iZ (x9)))] (by decide) rfl ?_
          refine V_goto hx dL_act_314 295 (by decide) ?_
          refine V_widen (k' := 48 * (j + 1)) (n' := 13218 * (j + 1)) (by first | omega | (dsimp only [rmA, rmX, rmN]; omega)) (by first | omega | (dsimp only [rmA, rmX, rmN]; omega)) ?_
          exact V_sub [0, 1, 2, 3, 4, 5, 6, 7] rfl (ih (j + 1) _ _ (by omega) (by omega) hM32 hC8 hS9 hk9)
    exact V_sub [0, 1, 2, 3, 4, 5, 6, 7] rfl (hL1 (r + 1) 0 _ _ (by omega) (by omega) hM hC hS hk)
  refine V_if_ne hx dL_act_274 282 (by decide) (by first | assumption | exact ⟨by omega, by omega⟩) (fun h274 => ?_) (fun h274 => ?_)
  · refine V_iconst hx dL_act_282 ?_
    refine V_widen (k' := 0) (n' := 0) (by first | omega | (dsimp only [rmA, rmX, rmN]; omega)) (by first | omega | (dsimp only [rmA, rmX, rmN]; omega)) ?_
    exact h283 _ (by omega) (by omega)
  · refine V_bipush hx dL_act_277 rfl ?_
    refine V_goto hx dL_act_279 283 (by decide) ?_
    refine V_widen (k' := 0) (n' := 0) (by first | omega | (dsimp only [rmA, rmX, rmN]; omega)) (by first | omega | (dsimp only [rmA, rmX, rmN]; omega)) ?_
    exact h283 _ (by omega) (by omega)
