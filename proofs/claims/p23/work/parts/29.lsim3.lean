/-! the law's till: round, clash -/
theorem gr_b (T : TS) : ∀ i : Nat, 0 ≤ (gr T i).2 ∧ (gr T i).2 ≤ i
  | 0 => ⟨Int.le_refl _, Int.le_refl _⟩
  | i + 1 => by
    have ih := gr_b T i
    rw [gr]
    split
    · have := bz_b (tkV (gr T i).1 i = 1)
      show 0 ≤ (gr T i).2 + bz (tkV (gr T i).1 i = 1) ∧ (gr T i).2 + bz (tkV (gr T i).1 i = 1) ≤ _
      omega
    · omega
set_option maxHeartbeats 4000000 in
set_option maxRecDepth 100000 in
theorem z_round (l : Launch) {g : GT} {ws : va_W} {M : MM} (hM : HM M ws) {sp : Nat} {cl : Nat → Nat} {T : TS} {B : Int} (hS : SIM g M sp cl T) (hw : WF T B) (hB : B ≤ 2170) : MI l yX4_round cX4_round 3 .int (rmA 5 48 13218) g [.ref (sp)] ws (fun z ws9 => z = (gr T (nc T)).2 ∧ ∃ M9, HM M9 ws9 ∧ SIM g M9 sp cl (gr T (nc T)).1 ∧ KP OUT M M9) := by
  refine MI.ofk (own := RX4) (by decide) rfl (Nat.le_of_ble_eq_true rfl) (fun x hx hE => ?_)
  refine V_lv (lv' := [(0, .ref (sp))]) rfl ?_
  obtain ⟨hT, ⟨tn1, tn8⟩, ⟨hc0, hc9⟩, ⟨hz0, hz9⟩, ham1, hck9⟩ := id hw
  have hni := nc_i hw
  have h6 : nc T ≤ 6 := by omega
  refine V_iconst hx dX4_round_0 ?_
  refine V_istore_n hx dX4_round_1 [(1, .int (iZ (0))), (0, .ref (sp))] (by decide) rfl ?_
  refine V_iconst hx dX4_round_2 ?_
  refine V_istore_n hx dX4_round_3 [(2, .int (iZ (0))), (1, .int (iZ (0))), (0, .ref (sp))] (by decide) rfl ?_
  have hL : ∀ (n i : Nat) (w1 : va_W) (N1 : MM), nc T < i + n → i ≤ nc T → HM N1 w1 → SIM g N1 sp cl (gr T i).1 → KP OUT M N1 → V x (8 * i) (2203 * i) w1 4 [(2, .int (iZ ((i : Int)))), (1, .int (iZ ((gr T i).2))), (0, .ref (sp))] [] := by
    intro n; induction n with
    | zero => intro i w1 N1 g1 g2; exact absurd g1 (by omega)
    | succ n ih =>
      intro i w1 N1 g1 g2 hN1 hS1 hk
      have hwi := wf_gr hw (by omega) i (by omega)
      have en : nc (gr T i).1 = nc T := by unfold nc; rw [grz_0 (by omega)]
      obtain ⟨⟨am, sl, ck, co, h0⟩, hCK⟩ := id hS1
      obtain ⟨hsp, -, -, ⟨fk, hck, hfk⟩, -⟩ := id h0
      rw [en] at hck
      have hr2 : rg (gr T i).2 := by have := gr_b T i; exact ⟨by omega, by omega⟩
      refine V_iload_n hx dX4_round_4 0 rfl ?_
      refine V_aload_n hx dX4_round_5 2 rfl ?_
      obtain ⟨i9, hi9⟩ := hN1.at hsp
      refine gf_X4_9 hx i9 hi9 rfl dX4_round_6 ?_
      obtain ⟨i9, hi9⟩ := hN1.at hck
      refine V_alenK hx (t0 := 3) i9 hi9 rfl (v := ((nc T) : Int)) rfl dX4_round_9 ?_
      refine V_icmp_ge hx dX4_round_10 39 (by decide) ⟨by omega, by omega⟩ ⟨by omega, by omega⟩ (fun h10 => ?_) (fun h10 => ?_)
      · refine V_iload_n hx dX4_round_39 1 rfl ?_
        exact hE _ _ _ _ _ _ dX4_round_40 rfl (by dsimp only [rmA]; omega) (by dsimp only [rmA]; omega) ⟨by rw [show i = nc T by omega], N1, hN1, by rw [show nc T = i by omega]; exact hS1, hk⟩
      · refine V_aload_n hx dX4_round_13 2 rfl ?_
        refine V_iload_n hx dX4_round_14 0 rfl ?_
        obtain ⟨i9, hi9⟩ := hN1.at hsp
        refine V_calli hx (z_goes l hN1 hS1 hwi.1 (by omega) (c := i) (by omega) (hwi.2.2.2.2.2 i (by rw [grz_0 (by omega)]; omega)).1.1) cw_X4_81 (RMa (by dsimp only [rmA, rmN]; omega) (by dsimp only [rmA, rmN]; omega) (by dsimp only [rmA, rmN]; omega) (by dsimp only [rmA, rmN]; omega)) rfl i9 hi9 rfl rfl (Nat.le_of_ble_eq_true rfl) dX4_round_15 _ _ rfl rfl (fun z1 w1 e1 => ?_)
        obtain ⟨rfl, rfl⟩ := e1
        refine V_ifb_eq hx dX4_round_18 33 (by decide) (fun h18 => ?_) (fun h18 => ?_)
        · refine V_iincN hx dX4_round_33 0 rfl [(2, .int (iZ (((i + 1 : Nat) : Int)))), (1, .int (iZ ((gr T i).2))), (0, .ref (sp))] (by decide) rfl ?_
          refine V_goto hx dX4_round_36 4 (by decide) ?_
          refine V_widen (k' := 8 * (i + 1)) (n' := 2203 * (i + 1)) (by first | omega | (dsimp only [rmA]; omega)) (by first | omega | (dsimp only [rmA]; omega)) ?_
          refine V_sub (lv' := [(1, .int (iZ ((gr T i).2))), (2, .int (iZ (((i + 1 : Nat) : Int)))), (0, .ref (sp))]) [1, 0, 2] rfl ?_
          refine V_lv (lv' := [(1, .int (iZ ((gr T (i + 1)).2))), (2, .int (iZ (((i + 1 : Nat) : Int)))), (0, .ref (sp))]) (by rw [gr_no h18]) ?_
          exact V_sub [1, 0, 2] rfl (ih (i + 1) _ _ (by omega) (by omega) hN1 (by rw [gr_no h18]; exact hS1) hk)
        · refine V_aload_n hx dX4_round_21 2 rfl ?_
          refine V_iload_n hx dX4_round_22 0 rfl ?_
          obtain ⟨i9, hi9⟩ := hN1.at hsp
          refine V_calli hx (z_turn l hN1 hS1 hwi (by omega) (c := i) (by omega)) cw_X4_85 (RMa (by dsimp only [rmA, rmN]; omega) (by dsimp only [rmA, rmN]; omega) (by dsimp only [rmA, rmN]; omega) (by dsimp only [rmA, rmN]; omega)) rfl i9 hi9 rfl rfl (Nat.le_of_ble_eq_true rfl) dX4_round_23 _ _ rfl rfl (fun z2 w2 e2 => ?_)
          obtain ⟨rfl, M2, hM2, hS2, kp2⟩ := e2
          refine V_iconst hx dX4_round_26 ?_
          refine V_icmp_ne hx dX4_round_27 33 (by decide) (rg_tkV _ _) ⟨by decide, by decide⟩ (fun h27 => ?_) (fun h27 => ?_)
          · refine V_iincN hx dX4_round_33 0 rfl [(2, .int (iZ (((i + 1 : Nat) : Int)))), (1, .int (iZ ((gr T i).2))), (0, .ref (sp))] (by decide) rfl ?_
            refine V_goto hx dX4_round_36 4 (by decide) ?_
            have e1 : (gr T (i + 1)).2 = (gr T i).2 := by
              rw [gr_yes h18]
              show (gr T i).2 + bz (tkV (gr T i).1 i = 1) = _
              rw [bz_f h27, Int.add_zero]
            refine V_widen (k' := 8 * (i + 1)) (n' := 2203 * (i + 1)) (by first | omega | (dsimp only [rmA]; omega)) (by first | omega | (dsimp only [rmA]; omega)) ?_
            refine V_sub (lv' := [(1, .int (iZ ((gr T i).2))), (2, .int (iZ (((i + 1 : Nat) : Int)))), (0, .ref (sp))]) [1, 0, 2] rfl ?_
            refine V_lv (lv' := [(1, .int (iZ ((gr T (i + 1)).2))), (2, .int (iZ (((i + 1 : Nat) : Int)))), (0, .ref (sp))]) (by rw [e1]) ?_
            exact V_sub [1, 0, 2] rfl (ih (i + 1) _ _ (by omega) (by omega) hM2 (by rw [gr_yes h18]; exact hS2) (hk.tr kp2))
          · refine V_iinc hx dX4_round_30 1 rfl [(1, .int (iZ ((gr T i).2 + (1)))), (2, .int (iZ ((i : Int)))), (0, .ref (sp))] (by decide) rfl ?_
            refine V_iincN hx dX4_round_33 1 rfl [(2, .int (iZ (((i + 1 : Nat) : Int)))), (1, .int (iZ ((gr T i).2 + (1)))), (0, .ref (sp))] (by decide) rfl ?_
            refine V_goto hx dX4_round_36 4 (by decide) ?_
            have e1 : (gr T (i + 1)).2 = (gr T i).2 + 1 := by
              rw [gr_yes h18]
              show (gr T i).2 + bz (tkV (gr T i).1 i = 1) = _
              rw [bz_t h27]
            refine V_widen (k' := 8 * (i + 1)) (n' := 2203 * (i + 1)) (by first | omega | (dsimp only [rmA]; omega)) (by first | omega | (dsimp only [rmA]; omega)) ?_
            refine V_sub (lv' := [(1, .int (iZ ((gr T i).2 + (1)))), (2, .int (iZ (((i + 1 : Nat) : Int)))), (0, .ref (sp))]) [1, 0, 2] rfl ?_
            refine V_lv (lv' := [(1, .int (iZ ((gr T (i + 1)).2))), (2, .int (iZ (((i + 1 : Nat) : Int)))), (0, .ref (sp))]) (by rw [e1]) ?_
            exact V_sub [1, 0, 2] rfl (ih (i + 1) _ _ (by omega) (by omega) hM2 (by rw [gr_yes h18]; exact hS2) (hk.tr kp2))
  exact V_sub [0, 1, 2] rfl (hL (nc T + 1) 0 _ _ (by omega) (by omega) hM hS KP.rf)
set_option maxHeartbeats 4000000 in
set_option maxRecDepth 100000 in
theorem z_clash (l : Launch) {g : GT} {ws : va_W} {M : MM} (hM : HM M ws) {sp : Nat} {cl : Nat → Nat} {T : TS} {B : Int} (hS : SIM g M sp cl T) (hw : WF T B) {a b : Nat} (ha : a < nc T) (hb : b < nc T) : MI l yX4_clash cX4_clash 7 .boolean (rmA 1 0 0) g [.ref (sp), .int (iZ ((a : Int))), .int (iZ ((b : Int)))] ws (fun z ws9 => z = bz (clP T a b) ∧ ws9 = ws) := by
  refine MI.ofk (own := RX4) (by decide) rfl (Nat.le_of_ble_eq_true rfl) (fun x hx hE => ?_)
  refine V_lv (lv' := [(0, .ref (sp)), (1, .int (iZ ((a : Int)))), (2, .int (iZ ((b : Int))))]) rfl ?_
  obtain ⟨⟨am, sl, ck, co, h0⟩, hCK⟩ := id hS
  obtain ⟨hsp, ⟨va, ham, hva⟩, ⟨vs, hsv, hvs⟩, ⟨fk, hck, hfk⟩, hcl⟩ := id h0
  obtain ⟨hT, ⟨tn1, tn8⟩, ⟨hc0, hc9⟩, ⟨hz0, hz9⟩, ham1, hck9⟩ := id hw
  have hni := nc_i hw
  have h6 : nc T ≤ 6 := by omega
  obtain ⟨prA, seA, owA, fpA, fsA, foA, msA, moA, dsA, dwA, hcaA, hprA, ⟨hseA, hslA⟩, ⟨howA, hwlA⟩⟩ := hCK a ha
  obtain ⟨prB, seB, owB, fpB, fsB, foB, msB, moB, dsB, dwB, hcaB, hprB, ⟨hseB, hslB⟩, ⟨howB, hwlB⟩⟩ := hCK b hb
  obtain ⟨fA0, hfA1, hfA2⟩ := howA.1
  have hmA := slp_8 hwlA
  have hmB := slp_8 hslB
  have sbA := (hck9 a (by omega)).2.2.2.2.2
  have hnd : ((nd T : Nat) : Int) = T 0 0 := Int.toNat_of_nonneg (by omega)
  refine V_iload_n hx dX4_clash_0 1 rfl ?_
  refine V_iload_n hx dX4_clash_1 2 rfl ?_
  refine V_icmp_eq hx dX4_clash_2 29 (by decide) ⟨by omega, by omega⟩ ⟨by omega, by omega⟩ (fun h2 => ?_) (fun h2 => ?_)
  · refine V_iconst hx dX4_clash_29 ?_
    exact hE _ _ _ _ _ _ dX4_clash_30 rfl (by dsimp only [rmA]; omega) (by dsimp only [rmA]; omega) ⟨(bz_f (fun h9 => h9.1 (by omega))).symm, rfl⟩
  · refine V_aload_n hx dX4_clash_5 0 rfl ?_
    obtain ⟨i9, hi9⟩ := hM.at hsp
    refine gf_X4_9 hx i9 hi9 rfl dX4_clash_6 ?_
    refine V_iload_n hx dX4_clash_9 1 rfl ?_
    obtain ⟨i9, hi9⟩ := hM.at hck
    refine V_aaldL hx (by omega) (by omega) (by omega) i9 hi9 (r := (cl a)) (hfk a ha) dX4_clash_10 ?_
    obtain ⟨i9, hi9⟩ := hM.at hcaA
    refine gf_X4_49 hx i9 hi9 rfl dX4_clash_11 ?_
    refine V_if_ne hx dX4_clash_14 29 (by decide) (hT _ _) (fun h14 => ?_) (fun h14 => ?_)
    · refine V_iconst hx dX4_clash_29 ?_
      exact hE _ _ _ _ _ _ dX4_clash_30 rfl (by dsimp only [rmA]; omega) (by dsimp only [rmA]; omega) ⟨(bz_f (fun h9 => h14 h9.2.1)).symm, rfl⟩
    · refine V_aload_n hx dX4_clash_17 0 rfl ?_
      obtain ⟨i9, hi9⟩ := hM.at hsp
      refine gf_X4_9 hx i9 hi9 rfl dX4_clash_18 ?_
      refine V_iload_n hx dX4_clash_21 2 rfl ?_
      obtain ⟨i9, hi9⟩ := hM.at hck
      refine V_aaldL hx (by omega) (by omega) (by omega) i9 hi9 (r := (cl b)) (hfk b hb) dX4_clash_22 ?_
      obtain ⟨i9, hi9⟩ := hM.at hcaB
      refine gf_X4_49 hx i9 hi9 rfl dX4_clash_23 ?_
      refine V_if_eq hx dX4_clash_26 31 (by decide) (hT _ _) (fun h26 => ?_) (fun h26 => ?_)
      · refine V_aload_n hx dX4_clash_31 0 rfl ?_
        obtain ⟨i9, hi9⟩ := hM.at hsp
        refine gf_X4_9 hx i9 hi9 rfl dX4_clash_32 ?_
        refine V_iload_n hx dX4_clash_35 1 rfl ?_
        obtain ⟨i9, hi9⟩ := hM.at hck
        refine V_aaldL hx (by omega) (by omega) (by omega) i9 hi9 (r := (cl a)) (hfk a ha) dX4_clash_36 ?_
        obtain ⟨i9, hi9⟩ := hM.at hcaA
        refine gf_X4_74 hx i9 hi9 rfl dX4_clash_37 ?_
        refine V_astore_n hx dX4_clash_40 [(3, .ref (owA)), (0, .ref (sp)), (1, .int (iZ ((a : Int)))), (2, .int (iZ ((b : Int))))] (by decide) rfl ?_
        refine V_aload_n hx dX4_clash_41 0 rfl ?_
        obtain ⟨i9, hi9⟩ := hM.at hfA1
        refine V_alenK hx (t0 := 2) i9 hi9 rfl (v := (moA : Int)) rfl dX4_clash_42 ?_
        refine V_istore hx dX4_clash_43 [(4, .int (iZ ((moA : Int)))), (3, .ref (owA)), (0, .ref (sp)), (1, .int (iZ ((a : Int)))), (2, .int (iZ ((b : Int))))] (by decide) rfl ?_
        refine V_iconst hx dX4_clash_45 ?_
        refine V_istore hx dX4_clash_46 [(5, .int (iZ (0))), (4, .int (iZ ((moA : Int)))), (3, .ref (owA)), (0, .ref (sp)), (1, .int (iZ ((a : Int)))), (2, .int (iZ ((b : Int))))] (by decide) rfl ?_
        have hL : ∀ (n i : Nat), moA < i + n → i ≤ moA → (∀ j, j < i → T (7 + 8 * b + 5) (dwA j) = -1) → V x 0 0 ws 48 [(5, .int (iZ ((i : Int)))), (4, .int (iZ ((moA : Int)))), (3, .ref (owA)), (0, .ref (sp)), (1, .int (iZ ((a : Int)))), (2, .int (iZ ((b : Int))))] [] := by
          intro n; induction n with
          | zero => intro i g1 g2; exact absurd g1 (by omega)
          | succ n ih =>
            intro i g1 g2 hno
            refine V_iload hx dX4_clash_48 0 rfl ?_
            refine V_iload hx dX4_clash_50 1 rfl ?_
            refine V_icmp_ge hx dX4_clash_52 88 (by decide) ⟨by omega, by omega⟩ ⟨by omega, by omega⟩ (fun h52 => ?_) (fun h52 => ?_)
            · refine V_iconst hx dX4_clash_88 ?_
              exact hE _ _ _ _ _ _ dX4_clash_89 rfl (by dsimp only [rmA]; omega) (by dsimp only [rmA]; omega) ⟨(bz_f (fun ⟨h1, h2, h3, d, hd, h4, h5⟩ => by obtain ⟨j, hj, rfl⟩ := hwlA.2.2.1 d (by omega) h4; exact h5 (hno j (by omega)))).symm, rfl⟩
            · refine V_aload_n hx dX4_clash_55 2 rfl ?_
              refine V_iload hx dX4_clash_56 0 rfl ?_
              obtain ⟨v, hv, hvv⟩ := howA.2 i (by omega)
              have hdi := hwlA.1 i (by omega)
              obtain ⟨i9, hi9⟩ := hM.at hfA1
              refine V_aaldA hx (by omega) (by omega) (by omega) i9 hi9 (r := (foA i)) (hfA2 i (by omega)) dX4_clash_58 ?_
              refine V_astore hx dX4_clash_59 [(6, .ref ((foA i))), (5, .int (iZ ((i : Int)))), (4, .int (iZ ((moA : Int)))), (3, .ref (owA)), (0, .ref (sp)), (1, .int (iZ ((a : Int)))), (2, .int (iZ ((b : Int))))] (by decide) rfl ?_
              refine V_aload_n hx dX4_clash_61 4 rfl ?_
              obtain ⟨i9, hi9⟩ := hM.at hsp
              refine gf_X4_9 hx i9 hi9 rfl dX4_clash_62 ?_
              refine V_iload_n hx dX4_clash_65 6 rfl ?_
              obtain ⟨i9, hi9⟩ := hM.at hck
              refine V_aaldL hx (by omega) (by omega) (by omega) i9 hi9 (r := (cl b)) (hfk b hb) dX4_clash_66 ?_
              obtain ⟨i9, hi9⟩ := hM.at hcaB
              refine gf_X4_89 hx i9 hi9 rfl dX4_clash_67 ?_
              refine V_aload hx dX4_clash_70 0 rfl ?_
              refine V_iconst hx dX4_clash_72 ?_
              obtain ⟨i9, hi9⟩ := hM.at hv
              refine V_iald hx (by omega) (by omega) (by omega) i9 hi9 (v := ((dwA i : Nat) : Int)) (hvv 0 (by omega)) dX4_clash_73 ?_
              refine V_callSq hx (z_find' l hM hseB (by decide) (by decide) (by omega) (fun i hi => slp_rg hslB hi) (d := ((dwA i : Nat) : Int)) ⟨by omega, by omega⟩) cw_X4_92 (RMa (by dsimp only [rmA, rmN]; omega) (by dsimp only [rmA, rmN]; omega) (by dsimp only [rmA, rmN]; omega) (by dsimp only [rmA, rmN]; omega)) rfl rfl (Nat.le_of_ble_eq_true rfl) dX4_clash_74 _ _ rfl rfl (fun r1 w1 e1 => ?_)
              obtain ⟨rfl, e1⟩ := e1
              rcases fd_cases (c := cS T (7 + 8 * b) dsB) hslB (fun i hi => rfl) (by omega) (by omega) e1 with ⟨rfl, n1⟩ | ⟨i1, hi1, rfl, d1, y1⟩
              · rw [Int.toNat_natCast] at n1
                refine V_ifnullN hx dX4_clash_77 82 (by decide) ?_
                refine V_iincN hx dX4_clash_82 1 rfl [(5, .int (iZ (((i + 1 : Nat) : Int)))), (6, .ref ((foA i))), (4, .int (iZ ((moA : Int)))), (3, .ref (owA)), (0, .ref (sp)), (1, .int (iZ ((a : Int)))), (2, .int (iZ ((b : Int))))] (by decide) rfl ?_
                refine V_goto hx dX4_clash_85 48 (by decide) ?_
                refine V_widen (k' := 0) (n' := 0) (by first | omega | (dsimp only [rmA]; omega)) (by first | omega | (dsimp only [rmA]; omega)) ?_
                refine V_sub [0, 2, 3, 4, 5, 6] rfl (ih (i + 1) (by omega) (by omega) (fun j hj => ?_))
                by_cases hx9 : j = i
                · subst hx9; exact n1
                · exact hno j (by omega)
              · rw [Int.toNat_natCast] at y1
                refine V_ifnull hx dX4_clash_77 ?_
                refine V_iconst hx dX4_clash_80 ?_
                exact hE _ _ _ _ _ _ dX4_clash_81 rfl (by dsimp only [rmA]; omega) (by dsimp only [rmA]; omega) ⟨(bz_t ⟨by omega, h14, h26, dwA i, Classical.byContradiction (fun h9 => hdi.2 ((sbA _ hdi.1).2.2 (by omega)).2), hdi.2, y1⟩).symm, rfl⟩
        exact V_sub [0, 1, 2, 3, 4, 5] rfl (hL (moA + 1) 0 (by omega) (by omega) (fun j hj => absurd hj (by omega)))
      · refine V_iconst hx dX4_clash_29 ?_
        exact hE _ _ _ _ _ _ dX4_clash_30 rfl (by dsimp only [rmA]; omega) (by dsimp only [rmA]; omega) ⟨(bz_f (fun h9 => h26 h9.2.2.1)).symm, rfl⟩
