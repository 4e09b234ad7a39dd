/-! the law's clerk: more, find, begin, read, write, act, isLosing -/
theorem HM.retag {M : MM} {ws : va_W} {a r : Nat} {e : va_E} (h : HM M ws) (ha : M a = some (r, e)) (r' : Nat) : ∃ M1 : MM, HM M1 ws ∧ M1 a = some (r', e) ∧ (∀ b, b ≠ a → M1 b = M b) ∧ KP (fun r9 => r9 ≠ r) M M1 := by
  refine ⟨fun b => if b = a then some (r', e) else M b, fun b r9 e9 hb => ?_, if_pos rfl, fun b hb => if_neg hb, fun b r9 e9 hb hr => ?_⟩
  · dsimp only at hb
    by_cases hx : b = a
    · subst hx
      rw [if_pos rfl] at hb
      cases hb
      exact h b r e ha
    · rw [if_neg hx] at hb
      exact h b r9 e9 hb
  · by_cases hx : b = a
    · subst hx
      rw [ha] at hb
      cases hb
      exact absurd rfl hr
    · show (if b = a then some (r', e) else M b) = _
      rw [if_neg hx]
      exact hb
theorem slp_no {col : Nat → Int} {m : Nat} {ds : Nat → Nat} (h : SLP col m ds) {d : Int} (h0 : 0 ≤ d) (h8 : d < 8) (hn : ∀ i, i < m → (ds i : Int) ≠ d) : col d.toNat = -1 := Classical.byContradiction (fun h9 => by
  obtain ⟨i, hi, e⟩ := h.2.2.1 d.toNat (by omega) h9
  exact hn i hi (by omega))
theorem slp_yes {col : Nat → Int} {m i : Nat} {ds : Nat → Nat} (h : SLP col m ds) {d : Int} (hi : i < m) (he : (ds i : Int) = d) : d.toNat = ds i ∧ col (ds i) ≠ -1 := ⟨by omega, (h.1 i hi).2⟩
set_option maxHeartbeats 4000000 in
set_option maxRecDepth 100000 in
theorem z_more (l : Launch) {g : GT} {ws : va_W} {M : MM} (hM : HM M ws) {ra m t one t1 L1 : Nat} {f0 : Nat → Option Nat} {v1 : Nat → Int32} (hr : M ra = some (t, RA g m f0)) (he : ∀ i, i < m → ∃ r t2 L2 v2, f0 i = some r ∧ M r = some (t2, IA g L2 v2)) (ho : M one = some (t1, IA g L1 v1)) (hm : m < 99999) : MRf l yX3_more cX3_more 4 (.array (.array .int)) (rmA 0 1 (m + 1)) g [.ref (ra), .ref (one)] ws (fun r ws9 => ∃ q M9 f9, r = some q ∧ HM M9 ws9 ∧ M q = none ∧ (∀ b, b ≠ q → M9 b = M b) ∧ M9 q = some (4, RA g (m + 1) f9) ∧ (∀ i, i < m → f9 i = f0 i) ∧ f9 m = some one) := by
  refine MRf.ofk (own := RX3) (by decide) rfl (Nat.le_of_ble_eq_true rfl) (Or.inr ⟨_, rfl⟩) (fun x hx hE => ?_)
  refine V_lv (lv' := [(0, .ref (ra)), (1, .ref (one))]) rfl ?_
  have hr0 := hr
  have ho0 := ho
  refine V_aload_n hx dX3_more_0 0 rfl ?_
  obtain ⟨i9, hi9⟩ := hM.at hr
  refine V_alenK hx (t0 := 2) i9 hi9 rfl (v := (m : Int)) rfl dX3_more_1 ?_
  refine V_iconst hx dX3_more_2 ?_
  refine V_iadd hx dX3_more_3 ?_
  refine V_top (b := ((m + 1 : Nat) : Int)) (by omega) ?_
  refine M_newA hx hM 4 ((m + 1)) rfl (by omega) q459 (by dsimp only [rmA]; omega) (by dsimp only [rmA]; omega) dX3_more_4 (fun q1 ws1 M1 hM1 f1 fr1 hn1 kp1 => ?_)
  replace hr := kp1 _ _ _ hr trivial
  replace ho := kp1 _ _ _ ho trivial
  have hq1 := f1
  refine V_astore_n hx dX3_more_7 [(2, .ref (q1)), (0, .ref (ra)), (1, .ref (one))] (by decide) rfl ?_
  refine V_iconst hx dX3_more_8 ?_
  refine V_istore_n hx dX3_more_9 [(3, .int (iZ (0))), (2, .ref (q1)), (0, .ref (ra)), (1, .ref (one))] (by decide) rfl ?_
  have hL : ∀ (n i : Nat) (w1 : va_W) (N1 : MM) (f1 : Nat → Option Nat), m < i + n → i ≤ m → HM N1 w1 → N1 q1 = some (4, RA g (m + 1) f1) → (∀ b, b ≠ q1 → N1 b = M b) → (∀ j, j < i → f1 j = f0 j) → V x 1 (m + 1) w1 10 [(3, .int (iZ ((i : Int)))), (2, .ref (q1)), (0, .ref (ra)), (1, .ref (one))] [] := by
    intro n; induction n with
    | zero => intro i w1 N1 f1 g1 g2; exact absurd g1 (by omega)
    | succ n ih =>
      intro i w1 N1 f1 g1 g2 hN1 hq1 hne hf1
      have hra : N1 ra = some (t, RA g m f0) := (hne ra (fne hr0 fr1)).trans hr0
      have hoa : N1 one = some (t1, IA g L1 v1) := (hne one (fne ho0 fr1)).trans ho0
      refine V_iload_n hx dX3_more_10 0 rfl ?_
      refine V_aload_n hx dX3_more_11 2 rfl ?_
      obtain ⟨i9, hi9⟩ := hN1.at hra
      refine V_alenK hx (t0 := 2) i9 hi9 rfl (v := (m : Int)) rfl dX3_more_12 ?_
      refine V_icmp_ge hx dX3_more_13 28 (by decide) ⟨by omega, by omega⟩ ⟨by omega, by omega⟩ (fun h13 => ?_) (fun h13 => ?_)
      · refine V_aload_n hx dX3_more_28 1 rfl ?_
        refine V_aload_n hx dX3_more_29 2 rfl ?_
        obtain ⟨i9, hi9⟩ := hN1.at hra
        refine V_alenK hx (t0 := 2) i9 hi9 rfl (v := (m : Int)) rfl dX3_more_30 ?_
        refine V_aload_n hx dX3_more_31 3 rfl ?_
        refine M_aastA hx hN1 (by omega) (by omega) (by omega) hq1 hoa dX3_more_32 (fun ws2 M2 hM2 f2 hn2 kp2 => ?_)
        replace hq1 := f2
        refine V_aload_n hx dX3_more_33 1 rfl ?_
        exact hE _ _ _ _ (some (q1)) _ dX3_more_34 (by dsimp only [rmA]; omega) (by dsimp only [rmA]; omega) ⟨q1, M2, _, rfl, hM2, fr1, fun b hb => (hn2 b hb).trans (hne b hb), f2, fun j hj => (vup_ne f1 _ (by show j ≠ m; omega)).trans (hf1 j (by omega)), vup_at f1 m _⟩
      · refine V_aload_n hx dX3_more_16 1 rfl ?_
        refine V_iload_n hx dX3_more_17 0 rfl ?_
        refine V_aload_n hx dX3_more_18 2 rfl ?_
        refine V_iload_n hx dX3_more_19 0 rfl ?_
        obtain ⟨r2, t2, L2, v2, e1, e2⟩ := he i (by omega)
        have hr2 : N1 r2 = some (t2, IA g L2 v2) := (hne r2 (fne e2 fr1)).trans e2
        obtain ⟨i9, hi9⟩ := hN1.at hra
        refine V_aaldA hx (by omega) (by omega) (by omega) i9 hi9 (r := r2) e1 dX3_more_20 ?_
        refine M_aastA hx hN1 (by omega) (by omega) (by omega) hq1 hr2 dX3_more_21 (fun ws3 M3 hM3 f3 hn3 kp3 => ?_)
        replace hq1 := f3
        refine V_iincN hx dX3_more_22 0 rfl [(3, .int (iZ (((i + 1 : Nat) : Int)))), (2, .ref (q1)), (0, .ref (ra)), (1, .ref (one))] (by decide) rfl ?_
        refine V_goto hx dX3_more_25 10 (by decide) ?_
        refine V_sub [0, 1, 2, 3] rfl (ih (i + 1) _ M3 _ (by omega) (by omega) hM3 f3 (fun b hb => (hn3 b hb).trans (hne b hb)) (fun j hj => ?_))
        by_cases hx9 : j = i
        · subst hx9; exact (vup_at f1 j _).trans e1.symm
        · exact (vup_ne f1 _ hx9).trans (hf1 j (by omega))
  refine V_widen (k' := 1) (n' := m + 1) (by omega) (by omega) ?_
  exact V_sub [0, 1, 2, 3] rfl (hL (m + 1) 0 _ M1 _ (by omega) (by omega) hM1 hq1 hn1 (fun j hj => absurd hj (by omega)))
set_option maxHeartbeats 4000000 in
set_option maxRecDepth 100000 in
theorem z_find (l : Launch) {g : GT} {ws : va_W} {M : MM} (hM : HM M ws) {ra m t tr L : Nat} {f : Nat → Nat} {f0 : Nat → Option Nat} {c : Nat → Int} (hr : M ra = some (t, RA g m f0)) (hf : ∀ i, i < m → f0 i = some (f i)) (hc : ∀ i, i < m → ∃ v, M (f i) = some (tr, IA g L v) ∧ v 0 = iZ (c i)) (hL1 : 1 ≤ L) (hL9 : L < 1000) (hm : m < 99999) (hcr : ∀ i, i < m → rg (c i)) {d : Int} (hd : rg d) : MRf l yX3_find cX3_find 6 (.array .int) (rmA 0 0 0) g [.ref (ra), .int (iZ (d))] ws (fun r ws9 => ws9 = ws ∧ ((r = none ∧ ∀ i, i < m → c i ≠ d) ∨ (∃ i, i < m ∧ r = some (f i) ∧ c i = d))) := by
  refine MRf.ofk (own := RX3) (by decide) rfl (Nat.le_of_ble_eq_true rfl) (Or.inr ⟨_, rfl⟩) (fun x hx hE => ?_)
  refine V_lv (lv' := [(0, .ref (ra)), (1, .int (iZ (d)))]) rfl ?_
  refine V_aload_n hx dX3_find_0 0 rfl ?_
  refine V_astore_n hx dX3_find_1 [(2, .ref (ra)), (0, .ref (ra)), (1, .int (iZ (d)))] (by decide) rfl ?_
  refine V_aload_n hx dX3_find_2 0 rfl ?_
  obtain ⟨i9, hi9⟩ := hM.at hr
  refine V_alenK hx (t0 := 2) i9 hi9 rfl (v := (m : Int)) rfl dX3_find_3 ?_
  refine V_istore_n hx dX3_find_4 [(3, .int (iZ ((m : Int)))), (2, .ref (ra)), (0, .ref (ra)), (1, .int (iZ (d)))] (by decide) rfl ?_
  refine V_iconst hx dX3_find_5 ?_
  refine V_istore hx dX3_find_6 [(4, .int (iZ (0))), (3, .int (iZ ((m : Int)))), (2, .ref (ra)), (0, .ref (ra)), (1, .int (iZ (d)))] (by decide) rfl ?_
  have hL : ∀ (n i : Nat), m < i + n → i ≤ m → (∀ j, j < i → c j ≠ d) → V x 0 0 ws 8 [(4, .int (iZ ((i : Int)))), (3, .int (iZ ((m : Int)))), (2, .ref (ra)), (0, .ref (ra)), (1, .int (iZ (d)))] [] := by
    intro n; induction n with
    | zero => intro i g1 g2; exact absurd g1 (by omega)
    | succ n ih =>
      intro i g1 g2 hno
      refine V_iload hx dX3_find_8 0 rfl ?_
      refine V_iload_n hx dX3_find_10 1 rfl ?_
      refine V_icmp_ge hx dX3_find_11 37 (by decide) ⟨by omega, by omega⟩ ⟨by omega, by omega⟩ (fun h11 => ?_) (fun h11 => ?_)
      · refine V_null hx dX3_find_37 ?_
        exact hE _ _ _ _ none _ dX3_find_38 (by dsimp only [rmA]; omega) (by dsimp only [rmA]; omega) ⟨rfl, Or.inl ⟨rfl, fun j hj => hno j (by omega)⟩⟩
      · refine V_aload_n hx dX3_find_14 2 rfl ?_
        refine V_iload hx dX3_find_15 0 rfl ?_
        obtain ⟨v, hv, hv0⟩ := hc i (by omega)
        obtain ⟨i9, hi9⟩ := hM.at hr
        refine V_aaldA hx (by omega) (by omega) (by omega) i9 hi9 (r := (f i)) (hf i (by omega)) dX3_find_17 ?_
        refine V_astore hx dX3_find_18 [(5, .ref ((f i))), (4, .int (iZ ((i : Int)))), (3, .int (iZ ((m : Int)))), (2, .ref (ra)), (0, .ref (ra)), (1, .int (iZ (d)))] (by decide) rfl ?_
        refine V_aload hx dX3_find_20 0 rfl ?_
        refine V_iconst hx dX3_find_22 ?_
        obtain ⟨i9, hi9⟩ := hM.at hv
        refine V_iald hx (by omega) (by omega) (by omega) i9 hi9 (v := c i) hv0 dX3_find_23 ?_
        refine V_iload_n hx dX3_find_24 5 rfl ?_
        refine V_icmp_ne hx dX3_find_25 31 (by decide) (hcr i (by omega)) hd (fun h25 => ?_) (fun h25 => ?_)
        · refine V_iincN hx dX3_find_31 1 rfl [(4, .int (iZ (((i + 1 : Nat) : Int)))), (5, .ref ((f i))), (3, .int (iZ ((m : Int)))), (2, .ref (ra)), (0, .ref (ra)), (1, .int (iZ (d)))] (by decide) rfl ?_
          refine V_goto hx dX3_find_34 8 (by decide) ?_
          refine V_sub [0, 2, 3, 4, 5] rfl (ih (i + 1) (by omega) (by omega) (fun j hj => ?_))
          by_cases hx9 : j = i
          · subst hx9; exact h25
          · exact hno j (by omega)
        · refine V_aload hx dX3_find_28 0 rfl ?_
          exact hE _ _ _ _ (some ((f i))) _ dX3_find_30 (by dsimp only [rmA]; omega) (by dsimp only [rmA]; omega) ⟨rfl, Or.inr ⟨i, by omega, rfl, h25⟩⟩
  exact V_sub [0, 1, 2, 3, 4] rfl (hL (m + 1) 0 (by omega) (by omega) (fun j hj => absurd hj (by omega)))
set_option maxHeartbeats 4000000 in
set_option maxRecDepth 100000 in
theorem z_begin (l : Launch) {g : GT} {ws : va_W} {M : MM} (hM : HM M ws) {ca c : Nat} {T : TS} (hC : CK g M ca c T) (hc : c < 6) : MV l yX3_begin cX3_begin 1 (rmA 0 2 0) g [.ref (ca)] ws (fun ws9 => ∃ M9, HM M9 ws9 ∧ CK g M9 ca c (soT T (7 + 8 * c) 8) ∧ KP (fun r => r ≠ 10 + c) M M9) := by
  refine MV.ofk (own := RX3) (by decide) rfl (Nat.le_of_ble_eq_true rfl) (fun x hx hE => ?_)
  refine V_lv (lv' := [(0, .ref (ca))]) rfl ?_
  obtain ⟨pr, se, ow, fp, fs, fo, ms, mo, ds, dw, hca, hpr, ⟨hse, hsl⟩, ⟨how, hwl⟩⟩ := hC
  have hk : KP (fun r => r ≠ 10 + c) M M := KP.rf
  refine V_aload_n hx dX3_begin_0 0 rfl ?_
  refine V_iconst hx dX3_begin_1 ?_
  refine M_put (e' := .inr (3, [.ref (pr), .int (iZ (0)), .int (iZ (T (7 + 8 * c) 2)), .int (iZ (T (7 + 8 * c) 3)), .ref (se), .ref (ow)])) hM hca (fun i9 hi9 ws1 M1 e9 hM1 f1 hn1 kp1 => ?_)
  refine pf_X3_22 hx i9 hi9 (Nat.le_of_ble_eq_true rfl) ws1 e9 dX3_begin_2 ?_
  replace hpr := rws_kp hpr kp1 (by first | trivial | (show _ ≠ _; omega)) (by first | trivial | (show _ ≠ _; omega))
  replace hk := hk.tr (kp1.of (fun r h => by first | trivial | exact h))
  replace hca := f1
  refine V_aload_n hx dX3_begin_5 0 rfl ?_
  refine V_iconst hx dX3_begin_6 ?_
  refine M_put (e' := .inr (3, [.ref (pr), .int (iZ (0)), .int (iZ (0)), .int (iZ (T (7 + 8 * c) 3)), .ref (se), .ref (ow)])) hM1 hca (fun i9 hi9 ws2 M2 e9 hM2 f2 hn2 kp2 => ?_)
  refine pf_X3_26 hx rfl rfl i9 hi9 (Nat.le_of_ble_eq_true rfl) ws2 e9 dX3_begin_7 ?_
  replace hpr := rws_kp hpr kp2 (by first | trivial | (show _ ≠ _; omega)) (by first | trivial | (show _ ≠ _; omega))
  replace hk := hk.tr (kp2.of (fun r h => by first | trivial | exact h))
  replace hca := f2
  refine V_aload_n hx dX3_begin_10 0 rfl ?_
  refine V_iconst hx dX3_begin_11 ?_
  refine M_newA hx hM2 4 (0) rfl (by omega) q459 (by dsimp only [rmA]; omega) (by dsimp only [rmA]; omega) dX3_begin_12 (fun q3 ws3 M3 hM3 f3 fr3 hn3 kp3 => ?_)
  replace hca := kp3 _ _ _ hca trivial
  replace hpr := rws_kp hpr kp3 (by first | trivial | (show _ ≠ _; omega)) (by first | trivial | (show _ ≠ _; omega))
  replace hk := hk.tr (kp3.of (fun r h => by first | trivial | exact h))
  have hq3 := f3
  refine M_put (e' := .inr (3, [.ref (pr), .int (iZ (0)), .int (iZ (0)), .int (iZ (T (7 + 8 * c) 3)), .ref (q3), .ref (ow)])) hM3 hca (fun i9 hi9 ws4 M4 e9 hM4 f4 hn4 kp4 => ?_)
  refine pf_X3_15 hx i9 hi9 (Nat.le_of_ble_eq_true rfl) ws4 e9 dX3_begin_15 ?_
  replace hq3 := kp4 _ _ _ hq3 (by show _ ≠ _; omega)
  replace hpr := rws_kp hpr kp4 (by first | trivial | (show _ ≠ _; omega)) (by first | trivial | (show _ ≠ _; omega))
  replace hk := hk.tr (kp4.of (fun r h => by first | trivial | exact h))
  replace hca := f4
  refine V_aload_n hx dX3_begin_18 0 rfl ?_
  refine V_iconst hx dX3_begin_19 ?_
  refine M_newA hx hM4 4 (0) rfl (by omega) q459 (by dsimp only [rmA]; omega) (by dsimp only [rmA]; omega) dX3_begin_20 (fun q5 ws5 M5 hM5 f5 fr5 hn5 kp5 => ?_)
  replace hca := kp5 _ _ _ hca trivial
  replace hq3 := kp5 _ _ _ hq3 trivial
  replace hpr := rws_kp hpr kp5 (by first | trivial | (show _ ≠ _; omega)) (by first | trivial | (show _ ≠ _; omega))
  replace hk := hk.tr (kp5.of (fun r h => by first | trivial | exact h))
  have hq5 := f5
  refine M_put (e' := .inr (3, [.ref (pr), .int (iZ (0)), .int (iZ (0)), .int (iZ (T (7 + 8 * c) 3)), .ref (q3), .ref (q5)])) hM5 hca (fun i9 hi9 ws6 M6 e9 hM6 f6 hn6 kp6 => ?_)
  refine pf_X3_18 hx i9 hi9 (Nat.le_of_ble_eq_true rfl) ws6 e9 dX3_begin_23 ?_
  replace hq3 := kp6 _ _ _ hq3 (by show _ ≠ _; omega)
  replace hq5 := kp6 _ _ _ hq5 (by show _ ≠ _; omega)
  replace hpr := rws_kp hpr kp6 (by first | trivial | (show _ ≠ _; omega)) (by first | trivial | (show _ ≠ _; omega))
  replace hk := hk.tr (kp6.of (fun r h => by first | trivial | exact h))
  replace hca := f6
  exact hE _ _ _ _ _ dX3_begin_26 (by dsimp only [rmA]; omega) (by dsimp only [rmA]; omega) ⟨M6, hM6, ⟨pr, q3, q5, fp, fs, fo, 0, 0, ds, dw, by unfold CKE; rw [soT_1, soT_2, soT_3]; exact hca, by rw [soT_0]; exact rws_c hpr (fun i j _ hj => by unfold cP; exact soT_ne (by omega)), ⟨rws_em hq3, slp_em (fun d hd => soT_s (by omega) hd)⟩, ⟨rws_em hq5, slp_em (fun d hd => soT_s (by omega) hd)⟩⟩, hk⟩
