/-! the law's till: sum, goesOn, close -/
def clG (T : TS) (col : Nat → Int) (i : Nat) (z : Int) : TS := fun a b => if a = 1 ∧ b < i ∧ col b ≠ -1 then col b else if a = 2 ∧ b < i ∧ col b ≠ -1 then z else T a b
theorem clG_ne {T : TS} {col : Nat → Int} {i : Nat} {z : Int} {a b : Nat} (h1 : a ≠ 1) (h2 : a ≠ 2) : clG T col i z a b = T a b := by
  unfold clG
  rw [if_neg (fun h => h1 h.1), if_neg (fun h => h2 h.1)]
/-- what a closing writes -/
def ccT (T : TS) (col : Nat → Int) (x w : Int) : TS := kcT (clG (pt T 0 2 (T 0 2 + 1)) col (nd T) (T 0 2 + 1)) x w
theorem nd_cc {T : TS} {col : Nat → Int} {z : Int} : nd (clG (pt T 0 2 z) col (nd T) z) = nd T := by
  unfold nd
  rw [clG_ne (by omega) (by omega), pt_ne _ _ (Or.inr (by omega))]
theorem cls_add {g : GT} {M M' : MM} {co co' q1 : Nat} {T X : TS} {x w : Int} {f0 f9 : Nat → Option Nat} {v : Nat → Int32} {S : Nat → Prop} (h : CLS g M co T) (h0 : M co = some (4, RA g (T 0 2).toNat f0)) (k : KP S M M') (hs : S 4) (hz : 0 ≤ T 0 2) (hX : X 0 2 = T 0 2 + 1) (hX4 : ∀ a b, (a = 4 ∨ a = 5 ∨ a = 6) → X a b = T a b) (h1 : M' q1 = some (4, IA g 3 v)) (v0 : v 0 = iZ x) (v1 : v 1 = iZ w) (v2 : v 2 = iZ (sm (nd X) (X 1))) (h2 : M' co' = some (4, RA g ((T 0 2).toNat + 1) f9)) (h3 : ∀ i, i < (T 0 2).toNat → f9 i = f0 i) (h4 : f9 (T 0 2).toNat = some q1) : CLS g M' co' (kcT X x w) := by
  obtain ⟨g0, a1, a2⟩ := h
  have e : g0 = f0 := by
    rw [a1] at h0
    cases h0
    rfl
  subst e
  have en : (kcT X x w 0 2).toNat = (T 0 2).toNat + 1 := by rw [kcT_ne (by omega), hX]; omega
  refine ⟨f9, by rw [en]; exact h2, fun i hi => ?_⟩
  rw [en] at hi
  by_cases hx : i < (T 0 2).toNat
  · obtain ⟨r, u, b1, b2, b3⟩ := a2 i hx
    refine ⟨r, u, by rw [h3 i hx]; exact b1, k _ _ _ b2 hs, fun b hb hib => ?_⟩
    rw [en] at hib
    have hsh : ∀ a, (a = 4 ∨ a = 5 ∨ a = 6) → kcT X x w a b = T a (b - 1) := fun a ha => by
      unfold kcT
      rw [pt_ne _ _ (Or.inr (by omega)), pt_ne _ _ (Or.inr (by omega)), pt_ne _ _ (Or.inr (by omega))]
      unfold shT
      rw [if_pos ⟨ha, by omega, hb⟩]
      exact hX4 a _ ha
    rw [hsh 4 (by omega), hsh 5 (by omega), hsh 6 (by omega)]
    exact b3 (b - 1) (by omega) (by omega)
  · have hi2 : i = (T 0 2).toNat := by omega
    subst hi2
    refine ⟨q1, v, h4, h1, fun b hb hib => ?_⟩
    rw [en] at hib
    have hb0 : b = 0 := by omega
    subst hb0
    have e4 : kcT X x w 4 0 = x := by unfold kcT; rw [pt_ne _ _ (Or.inl (by omega)), pt_ne _ _ (Or.inl (by omega)), pt_at]
    have e5 : kcT X x w 5 0 = w := by unfold kcT; rw [pt_ne _ _ (Or.inl (by omega)), pt_at]
    have e6 : kcT X x w 6 0 = sm (nd X) (X 1) := by unfold kcT; rw [pt_at]
    rw [e4, e5, e6]
    exact ⟨v0, v1, v2⟩
theorem ckx_kp {g : GT} {M M' : MM} {S : Nat → Prop} {ck n : Nat} {cl : Nat → Nat} (h : ∃ f0, M ck = some (4, LA g n f0) ∧ ∀ c, c < n → f0 c = some (cl c)) (k : KP S M M') (hs : S 4) : ∃ f0, M' ck = some (4, LA g n f0) ∧ ∀ c, c < n → f0 c = some (cl c) := by
  obtain ⟨f, h1, h2⟩ := h
  exact ⟨f, k _ _ _ h1 hs, h2⟩
/-- the rows of a closing, all written -/
theorem cc_row {T : TS} {col : Nat → Int} {m : Nat} {ds : Nat → Nat} {u : Nat → Int32} {a : Nat} {z : Int} (hn : nd T ≤ 8) (ha : a = 1 ∨ a = 2) (hs : SLP col m ds) (h1 : ∀ j, j < m → u (ds j) = iZ (if a = 1 then col (ds j) else z)) (h2 : ∀ d, d < nd T → (∀ j, j < m → ds j ≠ d) → u d = iZ (T a d)) : ∀ d, d < nd T → u d = iZ (clG (pt T 0 2 z) col (nd T) z a d) := by
  intro d hd
  unfold clG
  rw [pt_ne _ _ (Or.inl (by omega))]
  by_cases hc : col d ≠ -1
  · obtain ⟨j, hj, rfl⟩ := hs.2.2.1 d (by omega) hc
    rw [h1 j hj]
    rcases ha with rfl | rfl
    · rw [if_pos rfl, if_pos ⟨rfl, hd, hc⟩]
    · rw [if_neg (by decide), if_neg (fun h => absurd h.1 (by decide)), if_pos ⟨rfl, hd, hc⟩]
  · rw [if_neg (fun h => hc h.2.2), if_neg (fun h => hc h.2.2)]
    exact h2 d hd (fun j hj h => hc (by rw [← h]; exact (hs.1 j hj).2))
set_option maxHeartbeats 4000000 in
set_option maxRecDepth 100000 in
theorem z_sum (l : Launch) {g : GT} {ws : va_W} {M : MM} (hM : HM M ws) {sp am sl ck co n : Nat} {col : Nat → Int} {va : Nat → Int32} (hsp : M sp = some (1, .inr (4, [.ref am, .ref sl, .ref ck, .ref co]))) (ham : M am = some (2, IA g n va)) (hva : ∀ d, d < n → va d = iZ (col d)) (hn : n ≤ 8) : MI l yX4_sum cX4_sum 6 .int (rmA 0 0 0) g [.ref (sp)] ws (fun z ws9 => z = sm n col ∧ ws9 = ws) := by
  refine MI.ofk (own := RX4) (by decide) rfl (Nat.le_of_ble_eq_true rfl) (fun x hx hE => ?_)
  refine V_lv (lv' := [(0, .ref (sp))]) rfl ?_
  refine V_iconst hx dX4_sum_0 ?_
  refine V_istore_n hx dX4_sum_1 [(1, .int (iZ (0))), (0, .ref (sp))] (by decide) rfl ?_
  refine V_aload_n hx dX4_sum_2 1 rfl ?_
  obtain ⟨i9, hi9⟩ := hM.at hsp
  refine gf_X4_21 hx i9 hi9 rfl dX4_sum_3 ?_
  refine V_astore_n hx dX4_sum_6 [(2, .ref (am)), (1, .int (iZ (0))), (0, .ref (sp))] (by decide) rfl ?_
  refine V_aload_n hx dX4_sum_7 0 rfl ?_
  obtain ⟨i9, hi9⟩ := hM.at ham
  refine V_alenK hx (t0 := 0) i9 hi9 rfl (v := (n : Int)) rfl dX4_sum_8 ?_
  refine V_istore_n hx dX4_sum_9 [(3, .int (iZ ((n : Int)))), (2, .ref (am)), (1, .int (iZ (0))), (0, .ref (sp))] (by decide) rfl ?_
  refine V_iconst hx dX4_sum_10 ?_
  refine V_istore hx dX4_sum_11 [(4, .int (iZ (0))), (3, .int (iZ ((n : Int)))), (2, .ref (am)), (1, .int (iZ (0))), (0, .ref (sp))] (by decide) rfl ?_
  have hL : ∀ (f i : Nat), n < i + f → i ≤ n → V x 0 0 ws 13 [(4, .int (iZ ((i : Int)))), (3, .int (iZ ((n : Int)))), (2, .ref (am)), (1, .int (iZ (sm i col))), (0, .ref (sp))] [] := by
    intro f; induction f with
    | zero => intro i g1 g2; exact absurd g1 (by omega)
    | succ f ih =>
      intro i g1 g2
      refine V_iload hx dX4_sum_13 0 rfl ?_
      refine V_iload_n hx dX4_sum_15 1 rfl ?_
      refine V_icmp_ge hx dX4_sum_16 36 (by decide) ⟨by omega, by omega⟩ ⟨by omega, by omega⟩ (fun h16 => ?_) (fun h16 => ?_)
      · refine V_iload_n hx dX4_sum_36 3 rfl ?_
        exact hE _ _ _ _ _ _ dX4_sum_37 rfl (by dsimp only [rmA]; omega) (by dsimp only [rmA]; omega) ⟨by rw [show i = n by omega], rfl⟩
      · refine V_aload_n hx dX4_sum_19 2 rfl ?_
        refine V_iload hx dX4_sum_20 0 rfl ?_
        obtain ⟨i9, hi9⟩ := hM.at ham
        refine V_iald hx (by omega) (by omega) (by omega) i9 hi9 (v := col i) (hva i (by omega)) dX4_sum_22 ?_
        refine V_istore hx dX4_sum_23 [(5, .int (iZ (col i))), (4, .int (iZ ((i : Int)))), (3, .int (iZ ((n : Int)))), (2, .ref (am)), (1, .int (iZ (sm i col))), (0, .ref (sp))] (by decide) rfl ?_
        refine V_iload_n hx dX4_sum_25 4 rfl ?_
        refine V_iload hx dX4_sum_26 0 rfl ?_
        refine V_iadd hx dX4_sum_28 ?_
        refine V_top (b := sm (i + 1) col) rfl ?_
        refine V_istore_n hx dX4_sum_29 [(1, .int (iZ (sm (i + 1) col))), (5, .int (iZ (col i))), (4, .int (iZ ((i : Int)))), (3, .int (iZ ((n : Int)))), (2, .ref (am)), (0, .ref (sp))] (by decide) rfl ?_
        refine V_iincN hx dX4_sum_30 2 rfl [(4, .int (iZ (((i + 1 : Nat) : Int)))), (1, .int (iZ (sm (i + 1) col))), (5, .int (iZ (col i))), (3, .int (iZ ((n : Int)))), (2, .ref (am)), (0, .ref (sp))] (by decide) rfl ?_
        refine V_goto hx dX4_sum_33 13 (by decide) ?_
        exact V_sub [0, 3, 4, 1, 5] rfl (ih (i + 1) (by omega) (by omega))
  exact V_sub [0, 1, 2, 3, 4] rfl (hL (n + 1) 0 (by omega) (by omega))
set_option maxHeartbeats 4000000 in
set_option maxRecDepth 100000 in
theorem z_goes (l : Launch) {g : GT} {ws : va_W} {M : MM} (hM : HM M ws) {sp : Nat} {cl : Nat → Nat} {T : TS} (hS : SIM g M sp cl T) (hT : RG T) (h6 : nc T ≤ 6) {c : Nat} (hc : c < nc T) (hq0 : 0 ≤ T (7 + 8 * c) 0) : MI l yX4_goesOn cX4_goesOn 2 .boolean (rmA 0 0 0) g [.ref (sp), .int (iZ ((c : Int)))] ws (fun z ws9 => z = bz (awP T c) ∧ ws9 = ws) := by
  refine MI.ofk (own := RX4) (by decide) rfl (Nat.le_of_ble_eq_true rfl) (fun x hx hE => ?_)
  refine V_lv (lv' := [(0, .ref (sp)), (1, .int (iZ ((c : Int))))]) rfl ?_
  obtain ⟨⟨am, sl, ck, co, h0⟩, hCK⟩ := id hS
  obtain ⟨hsp, ⟨va, ham, hva⟩, ⟨vs, hsv, hvs⟩, ⟨fk, hck, hfk⟩, hcl⟩ := id h0
  obtain ⟨pr, se, ow, fp, fs, fo, ms, mo, ds, dw, hca, ⟨⟨fq, hpr1, -⟩, -⟩, -, -⟩ := hCK c hc
  refine V_aload_n hx dX4_goesOn_0 0 rfl ?_
  obtain ⟨i9, hi9⟩ := hM.at hsp
  refine gf_X4_9 hx i9 hi9 rfl dX4_goesOn_1 ?_
  refine V_iload_n hx dX4_goesOn_4 1 rfl ?_
  obtain ⟨i9, hi9⟩ := hM.at hck
  refine V_aaldL hx (by omega) (by omega) (by omega) i9 hi9 (r := (cl c)) (hfk c hc) dX4_goesOn_5 ?_
  obtain ⟨i9, hi9⟩ := hM.at hca
  refine gf_X4_49 hx i9 hi9 rfl dX4_goesOn_6 ?_
  refine V_if_ne hx dX4_goesOn_9 29 (by decide) (hT _ _) (fun h9 => ?_) (fun h9 => ?_)
  · refine V_iconst hx dX4_goesOn_29 ?_
    exact hE _ _ _ _ _ _ dX4_goesOn_30 rfl (by dsimp only [rmA]; omega) (by dsimp only [rmA]; omega) ⟨(bz_f (fun ⟨h1, h2⟩ => by omega)).symm, rfl⟩
  · refine V_aload_n hx dX4_goesOn_12 0 rfl ?_
    obtain ⟨i9, hi9⟩ := hM.at hsp
    refine gf_X4_9 hx i9 hi9 rfl dX4_goesOn_13 ?_
    refine V_iload_n hx dX4_goesOn_16 1 rfl ?_
    obtain ⟨i9, hi9⟩ := hM.at hck
    refine V_aaldL hx (by omega) (by omega) (by omega) i9 hi9 (r := (cl c)) (hfk c hc) dX4_goesOn_17 ?_
    obtain ⟨i9, hi9⟩ := hM.at hca
    refine gf_X4_53 hx i9 hi9 rfl dX4_goesOn_18 ?_
    obtain ⟨i9, hi9⟩ := hM.at hpr1
    refine V_alenK hx (t0 := 2) i9 hi9 rfl (v := T (7 + 8 * c) 0) (Int.toNat_of_nonneg hq0) dX4_goesOn_21 ?_
    refine V_if_le hx dX4_goesOn_22 29 (by decide) (hT _ _) (fun h22 => ?_) (fun h22 => ?_)
    · refine V_iconst hx dX4_goesOn_29 ?_
      exact hE _ _ _ _ _ _ dX4_goesOn_30 rfl (by dsimp only [rmA]; omega) (by dsimp only [rmA]; omega) ⟨(bz_f (fun ⟨h1, h2⟩ => by omega)).symm, rfl⟩
    · refine V_iconst hx dX4_goesOn_25 ?_
      refine V_goto hx dX4_goesOn_26 30 (by decide) ?_
      exact hE _ _ _ _ _ _ dX4_goesOn_30 rfl (by dsimp only [rmA]; omega) (by dsimp only [rmA]; omega) ⟨(bz_t ⟨by omega, by omega⟩).symm, rfl⟩
set_option maxHeartbeats 4000000 in
set_option maxRecDepth 100000 in
theorem z_close (l : Launch) {g : GT} {ws : va_W} {M : MM} (hM : HM M ws) {sp am sl ck co ro m t : Nat} {cl : Nat → Nat} {T : TS} {f ds : Nat → Nat} {col : Nat → Int} {x9 : Int} (h0 : SM0 g M sp am sl ck co cl T) (hr : RWS g M ro m t 2 f (fun i j => if j = 0 then (ds i : Int) else col (ds i))) (ht : t ≠ 1 ∧ t ≠ 2 ∧ t ≠ 3 ∧ t ≠ 900) (hs : SLP col m ds) (hdn : ∀ i, i < m → (ds i : Int) < T 0 0) (hn1 : 1 ≤ T 0 0) (hn8 : T 0 0 ≤ 8) (hz0 : 0 ≤ T 0 2) (hz9 : T 0 2 ≤ 2190) : MV l yX4_close cX4_close 7 (rmA 1 2 2200) g [.ref (sp), .int (iZ (x9)), .ref (ro)] ws (fun ws9 => ∃ M9 co9, HM M9 ws9 ∧ SM0 g M9 sp am sl ck co9 cl (ccT T col x9 m) ∧ KP (fun r => r ≠ 1 ∧ r ≠ 2 ∧ r ≠ 3 ∧ r ≠ 900) M M9) := by
  refine MV.ofk (own := RX4) (by decide) rfl (Nat.le_of_ble_eq_true rfl) (fun x hx hE => ?_)
  refine V_lv (lv' := [(0, .ref (sp)), (1, .int (iZ (x9))), (2, .ref (ro))]) rfl ?_
  obtain ⟨hsp, ⟨va, ham, hva⟩, ⟨vs, hsv, hvs⟩, hck0, hcl⟩ := id h0
  obtain ⟨fc, hco, -⟩ := id hcl
  obtain ⟨f0, hr1, hr2⟩ := hr.1
  have hnd : ((nd T : Nat) : Int) = T 0 0 := Int.toNat_of_nonneg (by omega)
  have hmo := slp_8 hs
  have hk : KP (fun r => r ≠ 1 ∧ r ≠ 2 ∧ r ≠ 3 ∧ r ≠ 900) M M := KP.rf
  refine V_aload_n hx dX4_close_0 2 rfl ?_
  refine V_astore_n hx dX4_close_1 [(3, .ref (ro)), (0, .ref (sp)), (1, .int (iZ (x9))), (2, .ref (ro))] (by decide) rfl ?_
  refine V_aload_n hx dX4_close_2 0 rfl ?_
  obtain ⟨i9, hi9⟩ := hM.at hr1
  refine V_alenK hx (t0 := 2) i9 hi9 rfl (v := (m : Int)) rfl dX4_close_3 ?_
  refine V_istore hx dX4_close_4 [(4, .int (iZ ((m : Int)))), (3, .ref (ro)), (0, .ref (sp)), (1, .int (iZ (x9))), (2, .ref (ro))] (by decide) rfl ?_
  refine V_iconst hx dX4_close_6 ?_
  refine V_istore hx dX4_close_7 [(5, .int (iZ (0))), (4, .int (iZ ((m : Int)))), (3, .ref (ro)), (0, .ref (sp)), (1, .int (iZ (x9))), (2, .ref (ro))] (by decide) rfl ?_
  have hL : ∀ (n i : Nat) (w1 : va_W) (N1 : MM) (u w : Nat → Int32), m < i + n → i ≤ m → HM N1 w1 → N1 sp = some (1, .inr (4, [.ref am, .ref sl, .ref ck, .ref co])) → N1 am = some (2, IA g (nd T) u) → N1 sl = some (3, IA g (nd T) w) → N1 ro = some (4, RA g m f0) → N1 co = some (4, RA g (T 0 2).toNat fc) → RWS g N1 ro m t 2 f (fun i j => if j = 0 then (ds i : Int) else col (ds i)) → KP (fun r => r ≠ 1 ∧ r ≠ 2 ∧ r ≠ 3 ∧ r ≠ 900) M N1 → CLS g N1 co T → (∃ f0, N1 ck = some (4, LA g (nc T) f0) ∧ ∀ c, c < nc T → f0 c = some (cl c)) → (∀ j, j < i → u (ds j) = iZ (if (1 : Nat) = 1 then col (ds j) else T 0 2 + 1)) → (∀ d, d < nd T → (∀ j, j < i → ds j ≠ d) → u d = iZ (T 1 d)) → (∀ j, j < i → w (ds j) = iZ (if (2 : Nat) = 1 then col (ds j) else T 0 2 + 1)) → (∀ d, d < nd T → (∀ j, j < i → ds j ≠ d) → w d = iZ (T 2 d)) → V x 0 0 w1 9 [(5, .int (iZ ((i : Int)))), (4, .int (iZ ((m : Int)))), (3, .ref (ro)), (0, .ref (sp)), (1, .int (iZ (x9))), (2, .ref (ro))] [] := by
    intro n; induction n with
    | zero => intro i w1 N1 u w g1 g2; exact absurd g1 (by omega)
    | succ n ih =>
      intro i w1 N1 u w g1 g2 hN hsp ham hsv hr1 hco hr hk hcl hck0 iu1 iu2 iw1 iw2
      refine V_iload hx dX4_close_9 0 rfl ?_
      refine V_iload hx dX4_close_11 1 rfl ?_
      refine V_icmp_ge hx dX4_close_13 57 (by decide) ⟨by omega, by omega⟩ ⟨by omega, by omega⟩ (fun h13 => ?_) (fun h13 => ?_)
      · refine V_aload_n hx dX4_close_57 3 rfl ?_
        refine V_aload_n hx dX4_close_58 3 rfl ?_
        obtain ⟨i9, hi9⟩ := hN.at hsp
        refine gf_X4_17 hx i9 hi9 rfl dX4_close_59 ?_
        refine V_iconst hx dX4_close_62 ?_
        refine M_newa hx hN 900 (3) rfl (by omega) (by dsimp only [rmA]; omega) (by dsimp only [rmA]; omega) dX4_close_63 (fun q1 ws1 M1 hM1 f1 fr1 hn1 kp1 => ?_)
        replace hsp := kp1 _ _ _ hsp trivial
        replace ham := kp1 _ _ _ ham trivial
        replace hsv := kp1 _ _ _ hsv trivial
        replace hr1 := kp1 _ _ _ hr1 trivial
        replace hco := kp1 _ _ _ hco trivial
        replace hk := hk.tr (kp1.of (fun r (h : r ≠ 1 ∧ r ≠ 2 ∧ r ≠ 3 ∧ r ≠ 900) => by first | trivial | (show _ ≠ _; omega)))
        replace hr := rws_kp hr kp1 (by first | trivial | (show _ ≠ _; omega)) (by first | trivial | (show _ ≠ _; omega))
        replace hcl := cls_kp hcl kp1 (by first | trivial | (show _ ≠ _; omega))
        replace hck0 := ckx_kp hck0 kp1 (by first | trivial | (show _ ≠ _; omega))
        have hq1 := f1
        refine V_dup hx dX4_close_65 rfl ?_
        refine V_iconst hx dX4_close_66 ?_
        refine V_iload_n hx dX4_close_67 4 rfl ?_
        refine M_iast hx hM1 (by omega) (by omega) (by omega) hq1 dX4_close_68 (fun ws2 M2 hM2 f2 hn2 kp2 => ?_)
        replace hsp := kp2 _ _ _ hsp (by show _ ≠ _; omega)
        replace ham := kp2 _ _ _ ham (by show _ ≠ _; omega)
        replace hsv := kp2 _ _ _ hsv (by show _ ≠ _; omega)
        replace hr1 := kp2 _ _ _ hr1 (by show _ ≠ _; omega)
        replace hco := kp2 _ _ _ hco (by show _ ≠ _; omega)
        replace hk := hk.tr (kp2.of (fun r (h : r ≠ 1 ∧ r ≠ 2 ∧ r ≠ 3 ∧ r ≠ 900) => by first | trivial | (show _ ≠ _; omega)))
        replace hr := rws_kp hr kp2 (by first | trivial | (show _ ≠ _; omega)) (by first | trivial | (show _ ≠ _; omega))
        replace hcl := cls_kp hcl kp2 (by first | trivial | (show _ ≠ _; omega))
        replace hck0 := ckx_kp hck0 kp2 (by first | trivial | (show _ ≠ _; omega))
        replace hq1 := f2
        refine V_dup hx dX4_close_69 rfl ?_
        refine V_iconst hx dX4_close_70 ?_
        refine V_aload_n hx dX4_close_71 5 rfl ?_
        obtain ⟨i9, hi9⟩ := hM2.at hr1
        refine V_alenK hx (t0 := 2) i9 hi9 rfl (v := (m : Int)) rfl dX4_close_72 ?_
        refine M_iast hx hM2 (by omega) (by omega) (by omega) hq1 dX4_close_73 (fun ws3 M3 hM3 f3 hn3 kp3 => ?_)
        replace hsp := kp3 _ _ _ hsp (by show _ ≠ _; omega)
        replace ham := kp3 _ _ _ ham (by show _ ≠ _; omega)
        replace hsv := kp3 _ _ _ hsv (by show _ ≠ _; omega)
        replace hr1 := kp3 _ _ _ hr1 (by show _ ≠ _; omega)
        replace hco := kp3 _ _ _ hco (by show _ ≠ _; omega)
        replace hk := hk.tr (kp3.of (fun r (h : r ≠ 1 ∧ r ≠ 2 ∧ r ≠ 3 ∧ r ≠ 900) => by first | trivial | (show _ ≠ _; omega)))
        replace hr := rws_kp hr kp3 (by first | trivial | (show _ ≠ _; omega)) (by first | trivial | (show _ ≠ _; omega))
        replace hcl := cls_kp hcl kp3 (by first | trivial | (show _ ≠ _; omega))
        replace hck0 := ckx_kp hck0 kp3 (by first | trivial | (show _ ≠ _; omega))
        replace hq1 := f3
        refine V_dup hx dX4_close_74 rfl ?_
        refine V_iconst hx dX4_close_75 ?_
        refine V_aload_n hx dX4_close_76 3 rfl ?_
        have hu : ∀ d, d < nd T → u d = iZ ((clG (pt T 0 2 (T 0 2 + 1)) col (nd T) (T 0 2 + 1)) 1 d) := cc_row (by omega) (Or.inl rfl) hs (fun j hj => iu1 j (by omega)) (fun d hd hno => iu2 d hd (fun j hj => hno j (by omega)))
        have hw : ∀ d, d < nd T → w d = iZ ((clG (pt T 0 2 (T 0 2 + 1)) col (nd T) (T 0 2 + 1)) 2 d) := cc_row (by omega) (Or.inr rfl) hs (fun j hj => iw1 j (by omega)) (fun d hd hno => iw2 d hd (fun j hj => hno j (by omega)))
        obtain ⟨i9, hi9⟩ := hM3.at hsp
        refine V_calli hx (z_sum l hM3 hsp ham hu (by omega)) cw_X4_41 (RMa (by dsimp only [rmA, rmN]; omega) (by dsimp only [rmA, rmN]; omega) (by dsimp only [rmA, rmN]; omega) (by dsimp only [rmA, rmN]; omega)) rfl i9 hi9 rfl rfl (Nat.le_of_ble_eq_true rfl) dX4_close_77 _ _ rfl rfl (fun z4 w4 e4 => ?_)
        obtain ⟨rfl, rfl⟩ := e4
        refine M_iast hx hM3 (by omega) (by omega) (by omega) hq1 dX4_close_80 (fun ws5 M5 hM5 f5 hn5 kp5 => ?_)
        replace hsp := kp5 _ _ _ hsp (by show _ ≠ _; omega)
        replace ham := kp5 _ _ _ ham (by show _ ≠ _; omega)
        replace hsv := kp5 _ _ _ hsv (by show _ ≠ _; omega)
        replace hr1 := kp5 _ _ _ hr1 (by show _ ≠ _; omega)
        replace hco := kp5 _ _ _ hco (by show _ ≠ _; omega)
        replace hk := hk.tr (kp5.of (fun r (h : r ≠ 1 ∧ r ≠ 2 ∧ r ≠ 3 ∧ r ≠ 900) => by first | trivial | (show _ ≠ _; omega)))
        replace hr := rws_kp hr kp5 (by first | trivial | (show _ ≠ _; omega)) (by first | trivial | (show _ ≠ _; omega))
        replace hcl := cls_kp hcl kp5 (by first | trivial | (show _ ≠ _; omega))
        replace hck0 := ckx_kp hck0 kp5 (by first | trivial | (show _ ≠ _; omega))
        replace hq1 := f5
        obtain ⟨M6, hM6, f6, hn6, kp6⟩ := hM5.retag hq1 (4)
        replace hsp := kp6 _ _ _ hsp (by show _ ≠ _; omega)
        replace ham := kp6 _ _ _ ham (by show _ ≠ _; omega)
        replace hsv := kp6 _ _ _ hsv (by show _ ≠ _; omega)
        replace hr1 := kp6 _ _ _ hr1 (by show _ ≠ _; omega)
        replace hco := kp6 _ _ _ hco (by show _ ≠ _; omega)
        replace hk := hk.tr (kp6.of (fun r (h : r ≠ 1 ∧ r ≠ 2 ∧ r ≠ 3 ∧ r ≠ 900) => by first | trivial | (show _ ≠ _; omega)))
        replace hr := rws_kp hr kp6 (by first | trivial | (show _ ≠ _; omega)) (by first | trivial | (show _ ≠ _; omega))
        replace hcl := cls_kp hcl kp6 (by first | trivial | (show _ ≠ _; omega))
        replace hck0 := ckx_kp hck0 kp6 (by first | trivial | (show _ ≠ _; omega))
        replace hq1 := f6
        obtain ⟨f9c, hco9, hge0⟩ := id hcl
        have ef : f9c = fc := by rw [hco] at hco9; cases hco9; rfl
        subst ef
        have hge : ∀ i, i < (T 0 2).toNat → ∃ r t2 L2 v2, f9c i = some r ∧ M6 r = some (t2, IA g L2 v2) := fun i hi => (hge0 i hi).elim (fun r h => h.elim (fun v h => ⟨r, _, _, v, h.1, h.2.1⟩))
        refine V_callSq hx (z_more l hM6 hco hge hq1 (by omega)) cw_X4_45 (RMa (by dsimp only [rmA, rmN]; omega) (by dsimp only [rmA, rmN]; omega) (by dsimp only [rmA, rmN]; omega) (by dsimp only [rmA, rmN]; omega)) rfl rfl (Nat.le_of_ble_eq_true rfl) dX4_close_81 _ _ rfl rfl (fun r7 w7 e7 => ?_)
        obtain ⟨q7, M7, f9, rfl, hM7, fr7, hn7, hq7, hf9, hf9m⟩ := e7
        have kp7 := kp_new fr7 hn7
        replace hsp := kp7 _ _ _ hsp trivial
        replace ham := kp7 _ _ _ ham trivial
        replace hsv := kp7 _ _ _ hsv trivial
        replace hr1 := kp7 _ _ _ hr1 trivial
        replace hco := kp7 _ _ _ hco trivial
        replace hq1 := kp7 _ _ _ hq1 trivial
        replace hk := hk.tr (kp7.of (fun r (h : r ≠ 1 ∧ r ≠ 2 ∧ r ≠ 3 ∧ r ≠ 900) => by first | trivial | (show _ ≠ _; omega)))
        replace hr := rws_kp hr kp7 (by first | trivial | (show _ ≠ _; omega)) (by first | trivial | (show _ ≠ _; omega))
        replace hcl := cls_kp hcl kp7 (by first | trivial | (show _ ≠ _; omega))
        replace hck0 := ckx_kp hck0 kp7 (by first | trivial | (show _ ≠ _; omega))
        refine M_put (e' := .inr (4, [.ref (am), .ref (sl), .ref (ck), .ref (q7)])) hM7 hsp (fun i9 hi9 ws8 M8 e9 hM8 f8 hn8 kp8 => ?_)
        refine pf_X4_17 hx i9 hi9 (Nat.le_of_ble_eq_true rfl) ws8 e9 dX4_close_84 ?_
        replace ham := kp8 _ _ _ ham (by show _ ≠ _; omega)
        replace hsv := kp8 _ _ _ hsv (by show _ ≠ _; omega)
        replace hr1 := kp8 _ _ _ hr1 (by show _ ≠ _; omega)
        replace hco := kp8 _ _ _ hco (by show _ ≠ _; omega)
        replace hq1 := kp8 _ _ _ hq1 (by show _ ≠ _; omega)
        replace hq7 := kp8 _ _ _ hq7 (by show _ ≠ _; omega)
        replace hk := hk.tr (kp8.of (fun r (h : r ≠ 1 ∧ r ≠ 2 ∧ r ≠ 3 ∧ r ≠ 900) => by first | trivial | (show _ ≠ _; omega)))
        replace hr := rws_kp hr kp8 (by first | trivial | (show _ ≠ _; omega)) (by first | trivial | (show _ ≠ _; omega))
        replace hcl := cls_kp hcl kp8 (by first | trivial | (show _ ≠ _; omega))
        replace hck0 := ckx_kp hck0 kp8 (by first | trivial | (show _ ≠ _; omega))
        replace hsp := f8
        have ndk : nd (kcT (clG (pt T 0 2 (T 0 2 + 1)) col (nd T) (T 0 2 + 1)) x9 m) = nd T := by unfold nd; rw [kcT_ne (by omega), clG_ne (by omega) (by omega), pt_ne _ _ (Or.inr (by omega))]
        have nck : nc (kcT (clG (pt T 0 2 (T 0 2 + 1)) col (nd T) (T 0 2 + 1)) x9 m) = nc T := by unfold nc; rw [kcT_ne (by omega), clG_ne (by omega) (by omega), pt_ne _ _ (Or.inr (by omega))]
        refine hE _ _ _ _ _ dX4_close_87 (by dsimp only [rmA]; omega) (by dsimp only [rmA]; omega) ⟨M8, q7, hM8, ⟨hsp, ⟨u, by unfold ccT; rw [show nd (kcT (clG (pt T 0 2 (T 0 2 + 1)) col (nd T) (T 0 2 + 1)) x9 m) = nd T from ndk]; exact ham, fun d hd => ?_⟩, ⟨w, by unfold ccT; rw [show nd (kcT (clG (pt T 0 2 (T 0 2 + 1)) col (nd T) (T 0 2 + 1)) x9 m) = nd T from ndk]; exact hsv, fun d hd => ?_⟩, ?_, cls_add (X := (clG (pt T 0 2 (T 0 2 + 1)) col (nd T) (T 0 2 + 1))) hcl hco (KP.rf (S := ALL)) trivial hz0 (by rw [clG_ne (by omega) (by omega), pt_at]) (fun a b ha => by rw [clG_ne (by omega) (by omega), pt_ne _ _ (Or.inl (by omega))]) hq1 rfl rfl (by rw [nd_cc]; rfl) hq7 hf9 hf9m⟩, hk⟩
        · unfold ccT at hd ⊢; rw [ndk] at hd; rw [kcT_ne (by omega)]; exact hu d hd
        · unfold ccT at hd ⊢; rw [ndk] at hd; rw [kcT_ne (by omega)]; exact hw d hd
        · unfold ccT; rw [nck]; exact hck0
      · refine V_aload_n hx dX4_close_16 2 rfl ?_
        refine V_iload hx dX4_close_17 0 rfl ?_
        obtain ⟨v, hv, hvv⟩ := hr.2 i (by omega)
        have hdi := hdn i (by omega)
        have hdi0 : (0 : Int) ≤ (ds i : Int) := Int.natCast_nonneg _
        obtain ⟨i9, hi9⟩ := hN.at hr1
        refine V_aaldA hx (by omega) (by omega) (by omega) i9 hi9 (r := (f i)) (hr2 i (by omega)) dX4_close_19 ?_
        refine V_astore hx dX4_close_20 [(6, .ref ((f i))), (5, .int (iZ ((i : Int)))), (4, .int (iZ ((m : Int)))), (3, .ref (ro)), (0, .ref (sp)), (1, .int (iZ (x9))), (2, .ref (ro))] (by decide) rfl ?_
        refine V_aload_n hx dX4_close_22 4 rfl ?_
        obtain ⟨i9, hi9⟩ := hN.at hsp
        refine gf_X4_21 hx i9 hi9 rfl dX4_close_23 ?_
        refine V_aload hx dX4_close_26 0 rfl ?_
        refine V_iconst hx dX4_close_28 ?_
        obtain ⟨i9, hi9⟩ := hN.at hv
        refine V_iald hx (by omega) (by omega) (by omega) i9 hi9 (v := ((ds i : Nat) : Int)) (hvv 0 (by omega)) dX4_close_29 ?_
        refine V_aload hx dX4_close_30 0 rfl ?_
        refine V_iconst hx dX4_close_32 ?_
        obtain ⟨i9, hi9⟩ := hN.at hv
        refine V_iald hx (by omega) (by omega) (by omega) i9 hi9 (v := col (ds i)) (hvv 1 (by omega)) dX4_close_33 ?_
        refine M_iast hx hN (by omega) (by omega) (by omega) ham dX4_close_34 (fun ws9 M9 hM9 f9 hn9 kp9 => ?_)
        replace hsp := kp9 _ _ _ hsp (by show _ ≠ _; omega)
        replace hsv := kp9 _ _ _ hsv (by show _ ≠ _; omega)
        replace hr1 := kp9 _ _ _ hr1 (by show _ ≠ _; omega)
        replace hco := kp9 _ _ _ hco (by show _ ≠ _; omega)
        replace hv := kp9 _ _ _ hv (by show _ ≠ _; omega)
        replace hk := hk.tr (kp9.of (fun r (h : r ≠ 1 ∧ r ≠ 2 ∧ r ≠ 3 ∧ r ≠ 900) => by first | trivial | (show _ ≠ _; omega)))
        replace hr := rws_kp hr kp9 (by first | trivial | (show _ ≠ _; omega)) (by first | trivial | (show _ ≠ _; omega))
        replace hcl := cls_kp hcl kp9 (by first | trivial | (show _ ≠ _; omega))
        replace hck0 := ckx_kp hck0 kp9 (by first | trivial | (show _ ≠ _; omega))
        replace ham := f9
        refine V_aload_n hx dX4_close_35 4 rfl ?_
        obtain ⟨i9, hi9⟩ := hM9.at hsp
        refine gf_X4_24 hx i9 hi9 rfl dX4_close_36 ?_
        refine V_aload hx dX4_close_39 0 rfl ?_
        refine V_iconst hx dX4_close_41 ?_
        obtain ⟨i9, hi9⟩ := hM9.at hv
        refine V_iald hx (by omega) (by omega) (by omega) i9 hi9 (v := ((ds i : Nat) : Int)) (hvv 0 (by omega)) dX4_close_42 ?_
        refine V_aload_n hx dX4_close_43 4 rfl ?_
        obtain ⟨i9, hi9⟩ := hM9.at hsp
        refine gf_X4_17 hx i9 hi9 rfl dX4_close_44 ?_
        obtain ⟨i9, hi9⟩ := hM9.at hco
        refine V_alenK hx (t0 := 2) i9 hi9 rfl (v := T 0 2) (Int.toNat_of_nonneg hz0) dX4_close_47 ?_
        refine V_iconst hx dX4_close_48 ?_
        refine V_iadd hx dX4_close_49 ?_
        refine M_iast hx hM9 (by omega) (by omega) (by omega) hsv dX4_close_50 (fun ws10 M10 hM10 f10 hn10 kp10 => ?_)
        replace hsp := kp10 _ _ _ hsp (by show _ ≠ _; omega)
        replace ham := kp10 _ _ _ ham (by show _ ≠ _; omega)
        replace hr1 := kp10 _ _ _ hr1 (by show _ ≠ _; omega)
        replace hco := kp10 _ _ _ hco (by show _ ≠ _; omega)
        replace hv := kp10 _ _ _ hv (by show _ ≠ _; omega)
        replace hk := hk.tr (kp10.of (fun r (h : r ≠ 1 ∧ r ≠ 2 ∧ r ≠ 3 ∧ r ≠ 900) => by first | trivial | (show _ ≠ _; omega)))
        replace hr := rws_kp hr kp10 (by first | trivial | (show _ ≠ _; omega)) (by first | trivial | (show _ ≠ _; omega))
        replace hcl := cls_kp hcl kp10 (by first | trivial | (show _ ≠ _; omega))
        replace hck0 := ckx_kp hck0 kp10 (by first | trivial | (show _ ≠ _; omega))
        replace hsv := f10
        refine V_iincN hx dX4_close_51 1 rfl [(5, .int (iZ (((i + 1 : Nat) : Int)))), (6, .ref ((f i))), (4, .int (iZ ((m : Int)))), (3, .ref (ro)), (0, .ref (sp)), (1, .int (iZ (x9))), (2, .ref (ro))] (by decide) rfl ?_
        refine V_goto hx dX4_close_54 9 (by decide) ?_
        refine V_sub [0, 2, 3, 4, 5, 6] rfl (ih (i + 1) _ _ _ _ (by omega) (by omega) hM10 hsp ham hsv hr1 hco hr hk hcl hck0 (fun j hj => ?_) (fun d hd hno => ?_) (fun j hj => ?_) (fun d hd hno => ?_))
        · by_cases hx9 : j = i
          · subst hx9; exact (upd_at u (ds j) _).trans (congrArg iZ (by rfl))
          · exact (upd_ne u _ (fun h => hx9 (hs.2.1 j i (by omega) (by omega) h))).trans (iu1 j (by omega))
        · exact (upd_ne u _ (fun h => hno i (by omega) h.symm)).trans (iu2 d hd (fun j hj => hno j (by omega)))
        · by_cases hx9 : j = i
          · subst hx9; exact (upd_at w (ds j) _).trans (congrArg iZ (by rfl))
          · exact (upd_ne w _ (fun h => hx9 (hs.2.1 j i (by omega) (by omega) h))).trans (iw1 j (by omega))
        · exact (upd_ne w _ (fun h => hno i (by omega) h.symm)).trans (iw2 d hd (fun j hj => hno j (by omega)))
  exact V_sub [0, 1, 2, 3, 4, 5] rfl (hL (m + 1) 0 _ _ _ _ (by omega) (by omega) hM hsp ham hsv hr1 hco hr hk hcl hck0 (fun j hj => absurd hj (by omega)) (fun d hd _ => hva d hd) (fun j hj => absurd hj (by omega)) (fun d hd _ => hvs d hd))
