/-! the law's clerk: read, write, act, isLosing -/
theorem z_find' (l : Launch) {g : GT} {ws : va_W} {M : MM} (hM : HM M ws) {ra m t L : Nat} {f : Nat → Nat} {c : Nat → Nat → Int} (h : RWS g M ra m t L f c) (hL1 : 1 ≤ L) (hL9 : L < 1000) (hm : m < 99999) (hcr : ∀ i, i < m → rg (c i 0)) {d : Int} (hd : rg d) : MRf l yX3_find cX3_find 6 (.array .int) (rmA 0 0 0) g [.ref ra, .int (iZ d)] ws (fun r ws9 => ws9 = ws ∧ ((r = none ∧ ∀ i, i < m → c i 0 ≠ d) ∨ (∃ i, i < m ∧ r = some (f i) ∧ c i 0 = d))) := by
  obtain ⟨⟨f0, a1, a2⟩, a3⟩ := h
  refine z_find l hM a1 a2 (c := fun i => c i 0) (tr := t) (L := L) (fun i hi => ?_) hL1 hL9 hm hcr hd
  obtain ⟨v, b1, b2⟩ := a3 i hi
  exact ⟨v, b1, b2 0 (by omega)⟩
theorem fd_cases {col : Nat → Int} {m : Nat} {ds f : Nat → Nat} {c : Nat → Nat → Int} {d : Int} {r : Option Nat} (hs : SLP col m ds) (hc0 : ∀ i, i < m → c i 0 = (ds i : Int)) (h0 : 0 ≤ d) (h8 : d < 8) (h : (r = none ∧ ∀ i, i < m → c i 0 ≠ d) ∨ (∃ i, i < m ∧ r = some (f i) ∧ c i 0 = d)) : (r = none ∧ col d.toNat = -1) ∨ (∃ i, i < m ∧ r = some (f i) ∧ d.toNat = ds i ∧ col d.toNat ≠ -1) := by
  rcases h with ⟨h1, h2⟩ | ⟨i, h1, h2, h3⟩
  · exact Or.inl ⟨h1, slp_no hs h0 h8 (fun i hi => by rw [← hc0 i hi]; exact h2 i hi)⟩
  · have e := slp_yes hs h1 (d := d) (by rw [← hc0 i h1]; exact h3)
    exact Or.inr ⟨i, h1, h2, e.1, by rw [e.1]; exact e.2⟩
theorem slp_rg {col : Nat → Int} {m i : Nat} {ds : Nat → Nat} (hs : SLP col m ds) (hi : i < m) : rg (ds i : Int) := by
  have := (hs.1 i hi).1
  exact ⟨by omega, by omega⟩
theorem rws_he {g : GT} {M : MM} {ra m t L : Nat} {f : Nat → Nat} {c : Nat → Nat → Int} (h : RWS g M ra m t L f c) : ∃ f0, M ra = some (4, RA g m f0) ∧ ∀ i, i < m → ∃ r t2 L2 v2, f0 i = some r ∧ M r = some (t2, IA g L2 v2) := by
  obtain ⟨⟨f0, a1, a2⟩, a3⟩ := h
  refine ⟨f0, a1, fun i hi => ?_⟩
  obtain ⟨v, b1, b2⟩ := a3 i hi
  exact ⟨_, _, _, v, a2 i hi, b1⟩
theorem kp_new {M M' : MM} {q : Nat} (h : M q = none) (hn : ∀ b, b ≠ q → M' b = M b) : KP ALL M M' := fun a r e ha _ => (hn a (fne ha h)).trans ha
theorem ck_rdn {g : GT} {M : MM} {ca c dn ms mo pr ow se q1 q2 : Nat} {T : TS} {fp fs fo ds dw : Nat → Nat} {f0 f9 : Nat → Option Nat} {v : Nat → Int32} (hd : dn < 8) (n7 : T (7 + 8 * c + 7) dn = -1) (n5 : T (7 + 8 * c + 5) dn = -1) (ha : 0 ≤ T 1 dn)
    (hca : M ca = some (10 + c, CKE T (7 + 8 * c) pr q2 ow)) (hpr : RWS g M pr (T (7 + 8 * c) 0).toNat 4 4 fp (cP T (7 + 8 * c))) (how : RWS g M ow mo (20 + c) 2 fo (cO T (7 + 8 * c) dw)) (hwl : SLP (T (7 + 8 * c + 7)) mo dw)
    (hse : RWS g M se ms 4 3 fs (cS T (7 + 8 * c) ds)) (h0 : M se = some (4, RA g ms f0)) (hsl : SLP (T (7 + 8 * c + 5)) ms ds) (h1 : M q1 = some (4, IA g 3 v)) (v0 : v 0 = iZ (dn : Int)) (v1 : v 1 = iZ (T 1 dn)) (v2 : v 2 = iZ (T 2 dn)) (h2 : M q2 = some (4, RA g (ms + 1) f9)) (h3 : ∀ i, i < ms → f9 i = f0 i) (h4 : f9 ms = some q1) : CK g M ca c (rdT T (7 + 8 * c) dn) := by
  have e : rdT T (7 + 8 * c) dn = pt (pt T (7 + 8 * c + 5) dn (T 1 dn)) (7 + 8 * c + 6) dn (T 2 dn) := by
    unfold rdT
    rw [if_neg (fun h => h n7), if_neg (fun h => h n5)]
  have e5 : ∀ b, rdT T (7 + 8 * c) dn (7 + 8 * c + 5) b = if b = dn then T 1 dn else T (7 + 8 * c + 5) b := fun b => by
    rw [e, pt_ne _ _ (Or.inl (by omega))]
    by_cases hx : b = dn
    · subst hx; rw [pt_at, if_pos rfl]
    · rw [pt_ne _ _ (Or.inr hx), if_neg hx]
  have e6 : ∀ b, rdT T (7 + 8 * c) dn (7 + 8 * c + 6) b = if b = dn then T 2 dn else T (7 + 8 * c + 6) b := fun b => by
    rw [e]
    by_cases hx : b = dn
    · subst hx; rw [pt_at, if_pos rfl]
    · rw [pt_ne _ _ (Or.inr hx), if_neg hx, pt_ne _ _ (Or.inl (by omega))]
  have en : ∀ j, j ≠ 5 → j ≠ 6 → rdT T (7 + 8 * c) dn (7 + 8 * c + j) = T (7 + 8 * c + j) := fun j h5 h6 => funext (fun b => rdT_ne (by omega) (by omega))
  have eq : rdT T (7 + 8 * c) dn (7 + 8 * c) = T (7 + 8 * c) := en 0 (by omega) (by omega)
  have hdn : ∀ i, i < ms → ds i ≠ dn := fun i hi h => (hsl.1 i hi).2 (by rw [h]; exact n5)
  refine ⟨pr, q2, ow, fp, adx fs ms q1, fo, ms + 1, mo, adx ds ms dn, dw, by unfold CKE; rw [eq]; exact hca, ?_, ⟨?_, ?_⟩, ?_⟩
  · rw [eq]
    exact rws_c hpr (fun i j _ hj => by show rdT T (7 + 8 * c) dn (7 + 8 * c + 1 + j) i = T (7 + 8 * c + 1 + j) i; exact rdT_ne (by omega) (by omega))
  · refine rws_add (c' := cS (rdT T (7 + 8 * c) dn) (7 + 8 * c) (adx ds ms dn)) hse h0 (KP.rf (S := ALL)) trivial h1 (fun j hj => ?_) h2 h3 h4 (fun i j hi hj => ?_)
    · unfold cS
      rw [adx_e (by omega), e5, e6, if_pos rfl, if_pos rfl]
      rcases (show j = 0 ∨ j = 1 ∨ j = 2 by omega) with rfl | rfl | rfl
      · exact v0
      · exact v1
      · exact v2
    · unfold cS
      rw [adx_l hi, e5, e6, if_neg (hdn i hi), if_neg (hdn i hi)]
  · exact slp_add hsl hd n5 (by rw [e5, if_pos rfl]; omega) (fun i hi => by rw [e5, if_neg hi])
  · have e7 := en 7 (by omega) (by omega)
    exact ⟨by unfold cO at how ⊢; rw [e7]; exact how, by rw [e7]; exact hwl⟩
theorem ck_w {g : GT} {M : MM} {ca c dn ms mo' pr ow' se : Nat} {v : Int} {T : TS} {fp fs fo' ds dw' : Nat → Nat}
    (hca : M ca = some (10 + c, CKE T (7 + 8 * c) pr se ow')) (hpr : RWS g M pr (T (7 + 8 * c) 0).toNat 4 4 fp (cP T (7 + 8 * c))) (hse : RWS g M se ms 4 3 fs (cS T (7 + 8 * c) ds)) (hsl : SLP (T (7 + 8 * c + 5)) ms ds)
    (how : RWS g M ow' mo' (20 + c) 2 fo' (cO (pt T (7 + 8 * c + 7) dn v) (7 + 8 * c) dw')) (hwl : SLP (pt T (7 + 8 * c + 7) dn v (7 + 8 * c + 7)) mo' dw') : CK g M ca c (pt T (7 + 8 * c + 7) dn v) := by
  have en : ∀ j, j ≠ 7 → pt T (7 + 8 * c + 7) dn v (7 + 8 * c + j) = T (7 + 8 * c + j) := fun j h7 => funext (fun b => pt_ne _ _ (Or.inl (by omega)))
  have eq : pt T (7 + 8 * c + 7) dn v (7 + 8 * c) = T (7 + 8 * c) := en 0 (by omega)
  refine ⟨pr, se, ow', fp, fs, fo', ms, mo', ds, dw', by unfold CKE; rw [eq]; exact hca, ?_, ⟨?_, ?_⟩, how, hwl⟩
  · rw [eq]
    exact rws_c hpr (fun i j _ hj => pt_ne _ _ (Or.inl (by omega)))
  · unfold cS at hse ⊢
    rw [en 5 (by omega), en 6 (by omega)]
    exact hse
  · rw [en 5 (by omega)]
    exact hsl
theorem pt7 {T : TS} {c dn : Nat} {v : Int} (b : Nat) : pt T (7 + 8 * c + 7) dn v (7 + 8 * c + 7) b = if b = dn then v else T (7 + 8 * c + 7) b := by
  by_cases hx : b = dn
  · subst hx; rw [pt_at, if_pos rfl]
  · rw [pt_ne _ _ (Or.inr hx), if_neg hx]
set_option maxHeartbeats 4000000 in
set_option maxRecDepth 100000 in
theorem z_read (l : Launch) {g : GT} {ws : va_W} {M : MM} (hM : HM M ws) {sp am sl ck co c ca : Nat} {cl : Nat → Nat} {T : TS} (h0 : SM0 g M sp am sl ck co cl T) (hC : CK g M ca c T) (hc : c < 6) (hn1 : 1 ≤ T 0 0) (hn8 : T 0 0 ≤ 8) (ha : AMW T) {d : Int} (hd0 : 0 ≤ d) (hd9 : d < T 0 0) : MI l yX3_read cX3_read 5 .int (rmA 1 2 12) g [.ref (ca), .ref (sp), .int (iZ (d))] ws (fun z ws9 => z = rdV T (7 + 8 * c) d.toNat ∧ ∃ M9, HM M9 ws9 ∧ CK g M9 ca c (rdT T (7 + 8 * c) d.toNat) ∧ KP (fun r => r ≠ 10 + c ∧ r ≠ 900) M M9) := by
  refine MI.ofk (own := RX3) (by decide) rfl (Nat.le_of_ble_eq_true rfl) (fun x hx hE => ?_)
  refine V_lv (lv' := [(0, .ref (ca)), (1, .ref (sp)), (2, .int (iZ (d)))]) rfl ?_
  obtain ⟨hsp, ⟨va, ham, hva⟩, ⟨vs, hsv, hvs⟩, hck, hcl⟩ := h0
  obtain ⟨pr, se, ow, fp, fs, fo, ms, mo, ds, dw, hca, hpr, ⟨hse, hsl⟩, ⟨how, hwl⟩⟩ := hC
  have hnd : ((nd T : Nat) : Int) = T 0 0 := Int.toNat_of_nonneg (by omega)
  have hk : KP (fun r => r ≠ 10 + c ∧ r ≠ 900) M M := KP.rf
  have hms := slp_8 hsl
  have hmo := slp_8 hwl
  refine V_aload_n hx dX3_read_0 0 rfl ?_
  obtain ⟨i9, hi9⟩ := hM.at hca
  refine gf_X3_18 hx i9 hi9 rfl dX3_read_1 ?_
  refine V_iload_n hx dX3_read_4 2 rfl ?_
  refine V_callSq hx (z_find' l hM how (by decide) (by decide) (by have := slp_8 hwl; omega) (fun i hi => slp_rg hwl hi) (d := d) ⟨by omega, by omega⟩) cw_X3_37 (RMa (by dsimp only [rmA, rmN]; omega) (by dsimp only [rmA, rmN]; omega) (by dsimp only [rmA, rmN]; omega) (by dsimp only [rmA, rmN]; omega)) rfl rfl (Nat.le_of_ble_eq_true rfl) dX3_read_5 _ _ rfl rfl (fun r1 w1 e1 => ?_)
  obtain ⟨rfl, e1⟩ := e1
  rcases fd_cases (c := cO T (7 + 8 * c) dw) hwl (fun i hi => rfl) (by omega) (by omega) e1 with ⟨rfl, n1⟩ | ⟨i1, hi1, rfl, d1, y1⟩
  · refine V_astore_nN hx dX3_read_8 [(3, .null), (0, .ref (ca)), (1, .ref (sp)), (2, .int (iZ (d)))] (by decide) rfl ?_
    refine V_aload_nN hx dX3_read_9 0 rfl ?_
    refine V_ifnullN hx dX3_read_10 17 (by decide) ?_
    refine V_aload_n hx dX3_read_17 1 rfl ?_
    obtain ⟨i9, hi9⟩ := hM.at hca
    refine gf_X3_15 hx i9 hi9 rfl dX3_read_18 ?_
    refine V_iload_n hx dX3_read_21 3 rfl ?_
    refine V_callSq hx (z_find' l hM hse (by decide) (by decide) (by have := slp_8 hsl; omega) (fun i hi => slp_rg hsl hi) (d := d) ⟨by omega, by omega⟩) cw_X3_37 (RMa (by dsimp only [rmA, rmN]; omega) (by dsimp only [rmA, rmN]; omega) (by dsimp only [rmA, rmN]; omega) (by dsimp only [rmA, rmN]; omega)) rfl rfl (Nat.le_of_ble_eq_true rfl) dX3_read_22 _ _ rfl rfl (fun r2 w2 e2 => ?_)
    obtain ⟨rfl, e2⟩ := e2
    rcases fd_cases (c := cS T (7 + 8 * c) ds) hsl (fun i hi => rfl) (by omega) (by omega) e2 with ⟨rfl, n2⟩ | ⟨i2, hi2, rfl, d2, y2⟩
    · refine V_astoreN hx dX3_read_25 [(4, .null), (3, .null), (0, .ref (ca)), (1, .ref (sp)), (2, .int (iZ (d)))] (by decide) rfl ?_
      refine V_aloadN hx dX3_read_27 0 rfl ?_
      refine V_ifnonnullN hx dX3_read_29 ?_
      refine V_iconst hx dX3_read_32 ?_
      refine M_newa hx hM 900 (3) rfl (by omega) (by dsimp only [rmA]; omega) (by dsimp only [rmA]; omega) dX3_read_33 (fun q3 ws3 M3 hM3 f3 fr3 hn3 kp3 => ?_)
      replace hca := kp3 _ _ _ hca trivial
      replace hsp := kp3 _ _ _ hsp trivial
      replace ham := kp3 _ _ _ ham trivial
      replace hsv := kp3 _ _ _ hsv trivial
      replace hpr := rws_kp hpr kp3 (by first | trivial | (show _ ≠ _; omega)) (by first | trivial | (show _ ≠ _; omega))
      replace hse := rws_kp hse kp3 (by first | trivial | (show _ ≠ _; omega)) (by first | trivial | (show _ ≠ _; omega))
      replace how := rws_kp how kp3 (by first | trivial | (show _ ≠ _; omega)) (by first | trivial | (show _ ≠ _; omega))
      replace hk := hk.tr (kp3.of (fun r (h : r ≠ 10 + c ∧ r ≠ 900) => by first | trivial | (show _ ≠ _; omega)))
      have hq3 := f3
      refine V_dup hx dX3_read_35 rfl ?_
      refine V_iconst hx dX3_read_36 ?_
      refine V_iload_n hx dX3_read_37 4 rfl ?_
      refine M_iast hx hM3 (by omega) (by omega) (by omega) hq3 dX3_read_38 (fun ws4 M4 hM4 f4 hn4 kp4 => ?_)
      replace hca := kp4 _ _ _ hca (by show _ ≠ _; omega)
      replace hsp := kp4 _ _ _ hsp (by show _ ≠ _; omega)
      replace ham := kp4 _ _ _ ham (by show _ ≠ _; omega)
      replace hsv := kp4 _ _ _ hsv (by show _ ≠ _; omega)
      replace hpr := rws_kp hpr kp4 (by first | trivial | (show _ ≠ _; omega)) (by first | trivial | (show _ ≠ _; omega))
      replace hse := rws_kp hse kp4 (by first | trivial | (show _ ≠ _; omega)) (by first | trivial | (show _ ≠ _; omega))
      replace how := rws_kp how kp4 (by first | trivial | (show _ ≠ _; omega)) (by first | trivial | (show _ ≠ _; omega))
      replace hk := hk.tr (kp4.of (fun r (h : r ≠ 10 + c ∧ r ≠ 900) => by first | trivial | (show _ ≠ _; omega)))
      replace hq3 := f4
      refine V_dup hx dX3_read_39 rfl ?_
      refine V_iconst hx dX3_read_40 ?_
      refine V_aload_n hx dX3_read_41 3 rfl ?_
      obtain ⟨i9, hi9⟩ := hM4.at hsp
      refine gf_X3_41 hx i9 hi9 rfl dX3_read_42 ?_
      refine V_iload_n hx dX3_read_45 4 rfl ?_
      obtain ⟨i9, hi9⟩ := hM4.at ham
      refine V_iald hx (by omega) (by omega) (by omega) i9 hi9 (v := T 1 (d).toNat) (hva (d).toNat (by omega)) dX3_read_46 ?_
      refine M_iast hx hM4 (by omega) (by omega) (by omega) hq3 dX3_read_47 (fun ws5 M5 hM5 f5 hn5 kp5 => ?_)
      replace hca := kp5 _ _ _ hca (by show _ ≠ _; omega)
      replace hsp := kp5 _ _ _ hsp (by show _ ≠ _; omega)
      replace ham := kp5 _ _ _ ham (by show _ ≠ _; omega)
      replace hsv := kp5 _ _ _ hsv (by show _ ≠ _; omega)
      replace hpr := rws_kp hpr kp5 (by first | trivial | (show _ ≠ _; omega)) (by first | trivial | (show _ ≠ _; omega))
      replace hse := rws_kp hse kp5 (by first | trivial | (show _ ≠ _; omega)) (by first | trivial | (show _ ≠ _; omega))
      replace how := rws_kp how kp5 (by first | trivial | (show _ ≠ _; omega)) (by first | trivial | (show _ ≠ _; omega))
      replace hk := hk.tr (kp5.of (fun r (h : r ≠ 10 + c ∧ r ≠ 900) => by first | trivial | (show _ ≠ _; omega)))
      replace hq3 := f5
      refine V_dup hx dX3_read_48 rfl ?_
      refine V_iconst hx dX3_read_49 ?_
      refine V_aload_n hx dX3_read_50 3 rfl ?_
      obtain ⟨i9, hi9⟩ := hM5.at hsp
      refine gf_X3_46 hx i9 hi9 rfl dX3_read_51 ?_
      refine V_iload_n hx dX3_read_54 4 rfl ?_
      obtain ⟨i9, hi9⟩ := hM5.at hsv
      refine V_iald hx (by omega) (by omega) (by omega) i9 hi9 (v := T 2 (d).toNat) (hvs (d).toNat (by omega)) dX3_read_55 ?_
      refine M_iast hx hM5 (by omega) (by omega) (by omega) hq3 dX3_read_56 (fun ws6 M6 hM6 f6 hn6 kp6 => ?_)
      replace hca := kp6 _ _ _ hca (by show _ ≠ _; omega)
      replace hsp := kp6 _ _ _ hsp (by show _ ≠ _; omega)
      replace ham := kp6 _ _ _ ham (by show _ ≠ _; omega)
      replace hsv := kp6 _ _ _ hsv (by show _ ≠ _; omega)
      replace hpr := rws_kp hpr kp6 (by first | trivial | (show _ ≠ _; omega)) (by first | trivial | (show _ ≠ _; omega))
      replace hse := rws_kp hse kp6 (by first | trivial | (show _ ≠ _; omega)) (by first | trivial | (show _ ≠ _; omega))
      replace how := rws_kp how kp6 (by first | trivial | (show _ ≠ _; omega)) (by first | trivial | (show _ ≠ _; omega))
      replace hk := hk.tr (kp6.of (fun r (h : r ≠ 10 + c ∧ r ≠ 900) => by first | trivial | (show _ ≠ _; omega)))
      replace hq3 := f6
      refine V_astore hx dX3_read_57 [(4, .ref (q3)), (3, .null), (0, .ref (ca)), (1, .ref (sp)), (2, .int (iZ (d)))] (by decide) rfl ?_
      refine V_aload_n hx dX3_read_59 2 rfl ?_
      refine V_aload_n hx dX3_read_60 2 rfl ?_
      obtain ⟨i9, hi9⟩ := hM6.at hca
      refine gf_X3_15 hx i9 hi9 rfl dX3_read_61 ?_
      refine V_aload hx dX3_read_64 0 rfl ?_
      obtain ⟨M7, hM7, f7, hn7, kp7⟩ := hM6.retag hq3 (4)
      replace hca := kp7 _ _ _ hca (by show _ ≠ _; omega)
      replace hsp := kp7 _ _ _ hsp (by show _ ≠ _; omega)
      replace ham := kp7 _ _ _ ham (by show _ ≠ _; omega)
      replace hsv := kp7 _ _ _ hsv (by show _ ≠ _; omega)
      replace hpr := rws_kp hpr kp7 (by first | trivial | (show _ ≠ _; omega)) (by first | trivial | (show _ ≠ _; omega))
      replace hse := rws_kp hse kp7 (by first | trivial | (show _ ≠ _; omega)) (by first | trivial | (show _ ≠ _; omega))
      replace how := rws_kp how kp7 (by first | trivial | (show _ ≠ _; omega)) (by first | trivial | (show _ ≠ _; omega))
      replace hk := hk.tr (kp7.of (fun r (h : r ≠ 10 + c ∧ r ≠ 900) => by first | trivial | (show _ ≠ _; omega)))
      replace hq3 := f7
      obtain ⟨g0, hg0, hge⟩ := rws_he hse
      refine V_callSq hx (z_more l hM7 hg0 hge hq3 (by have := slp_8 hsl; omega)) cw_X3_33 (RMa (by dsimp only [rmA, rmN]; omega) (by dsimp only [rmA, rmN]; omega) (by dsimp only [rmA, rmN]; omega) (by dsimp only [rmA, rmN]; omega)) rfl rfl (Nat.le_of_ble_eq_true rfl) dX3_read_66 _ _ rfl rfl (fun r8 w8 e8 => ?_)
      obtain ⟨q8, M8, f9, rfl, hM8, fr8, hn8, hq8, hf9, hf9m⟩ := e8
      have kp8 := kp_new fr8 hn8
      replace hca := kp8 _ _ _ hca trivial
      replace hsp := kp8 _ _ _ hsp trivial
      replace ham := kp8 _ _ _ ham trivial
      replace hsv := kp8 _ _ _ hsv trivial
      replace hq3 := kp8 _ _ _ hq3 trivial
      replace hpr := rws_kp hpr kp8 (by first | trivial | (show _ ≠ _; omega)) (by first | trivial | (show _ ≠ _; omega))
      replace hse := rws_kp hse kp8 (by first | trivial | (show _ ≠ _; omega)) (by first | trivial | (show _ ≠ _; omega))
      replace how := rws_kp how kp8 (by first | trivial | (show _ ≠ _; omega)) (by first | trivial | (show _ ≠ _; omega))
      replace hk := hk.tr (kp8.of (fun r (h : r ≠ 10 + c ∧ r ≠ 900) => by first | trivial | (show _ ≠ _; omega)))
      replace hg0 := kp8 _ _ _ hg0 (by first | trivial | (show _ ≠ _; omega))
      refine M_put (e' := .inr (3, [.ref (pr), .int (iZ (T (7 + 8 * c) 1)), .int (iZ (T (7 + 8 * c) 2)), .int (iZ (T (7 + 8 * c) 3)), .ref (q8), .ref (ow)])) hM8 hca (fun i9 hi9 ws9 M9 e9 hM9 f9 hn9 kp9 => ?_)
      refine pf_X3_15 hx i9 hi9 (Nat.le_of_ble_eq_true rfl) ws9 e9 dX3_read_69 ?_
      replace hsp := kp9 _ _ _ hsp (by show _ ≠ _; omega)
      replace ham := kp9 _ _ _ ham (by show _ ≠ _; omega)
      replace hsv := kp9 _ _ _ hsv (by show _ ≠ _; omega)
      replace hq3 := kp9 _ _ _ hq3 (by show _ ≠ _; omega)
      replace hq8 := kp9 _ _ _ hq8 (by show _ ≠ _; omega)
      replace hpr := rws_kp hpr kp9 (by first | trivial | (show _ ≠ _; omega)) (by first | trivial | (show _ ≠ _; omega))
      replace hse := rws_kp hse kp9 (by first | trivial | (show _ ≠ _; omega)) (by first | trivial | (show _ ≠ _; omega))
      replace how := rws_kp how kp9 (by first | trivial | (show _ ≠ _; omega)) (by first | trivial | (show _ ≠ _; omega))
      replace hk := hk.tr (kp9.of (fun r (h : r ≠ 10 + c ∧ r ≠ 900) => by first | trivial | (show _ ≠ _; omega)))
      replace hg0 := kp9 _ _ _ hg0 (by first | trivial | (show _ ≠ _; omega))
      replace hca := f9
      refine V_aload hx dX3_read_72 0 rfl ?_
      refine V_iconst hx dX3_read_74 ?_
      obtain ⟨i9, hi9⟩ := hM9.at hq3
      refine V_iald hx (by omega) (by omega) (by omega) i9 hi9 (v := T 1 d.toNat) rfl dX3_read_75 ?_
      exact hE _ _ _ _ _ _ dX3_read_76 rfl (by dsimp only [rmA]; omega) (by dsimp only [rmA]; omega) ⟨by unfold rdV; rw [if_neg (fun h => h n1), if_neg (fun h => h n2)], M9, hM9, ck_rdn (by omega) n1 n2 (ha _ (by omega)).1 hca hpr how hwl hse hg0 hsl hq3 (congrArg iZ (Int.toNat_of_nonneg hd0).symm) rfl rfl hq8 hf9 hf9m, hk⟩
    · obtain ⟨v2, hv2, hvv2⟩ := hse.2 i2 hi2
      refine V_astore hx dX3_read_25 [(4, .ref ((fs i2))), (3, .null), (0, .ref (ca)), (1, .ref (sp)), (2, .int (iZ (d)))] (by decide) rfl ?_
      refine V_aload hx dX3_read_27 0 rfl ?_
      refine V_ifnonnull hx dX3_read_29 72 (by decide) ?_
      refine V_aload hx dX3_read_72 0 rfl ?_
      refine V_iconst hx dX3_read_74 ?_
      obtain ⟨i9, hi9⟩ := hM.at hv2
      refine V_iald hx (by omega) (by omega) (by omega) i9 hi9 (v := (cS T (7 + 8 * c) ds) i2 1) (hvv2 1 (by omega)) dX3_read_75 ?_
      exact hE _ _ _ _ _ _ dX3_read_76 rfl (by dsimp only [rmA]; omega) (by dsimp only [rmA]; omega) ⟨(by unfold rdV; rw [if_neg (fun h => h n1), if_pos y2, d2]; rfl), M, hM, (by rw [show rdT T (7 + 8 * c) d.toNat = T from (by unfold rdT; rw [if_neg (fun h => h n1), if_pos y2])]; exact ⟨pr, se, ow, fp, fs, fo, ms, mo, ds, dw, hca, hpr, ⟨hse, hsl⟩, how, hwl⟩), hk⟩
  · obtain ⟨v1, hv1, hvv1⟩ := how.2 i1 hi1
    refine V_astore_n hx dX3_read_8 [(3, .ref ((fo i1))), (0, .ref (ca)), (1, .ref (sp)), (2, .int (iZ (d)))] (by decide) rfl ?_
    refine V_aload_n hx dX3_read_9 0 rfl ?_
    refine V_ifnull hx dX3_read_10 ?_
    refine V_aload_n hx dX3_read_13 0 rfl ?_
    refine V_iconst hx dX3_read_14 ?_
    obtain ⟨i9, hi9⟩ := hM.at hv1
    refine V_iald hx (by omega) (by omega) (by omega) i9 hi9 (v := (cO T (7 + 8 * c) dw) i1 1) (hvv1 1 (by omega)) dX3_read_15 ?_
    exact hE _ _ _ _ _ _ dX3_read_16 rfl (by dsimp only [rmA]; omega) (by dsimp only [rmA]; omega) ⟨(by unfold rdV; rw [if_pos y1, d1]; rfl), M, hM, (by rw [show rdT T (7 + 8 * c) d.toNat = T from (by unfold rdT; exact if_pos y1)]; exact ⟨pr, se, ow, fp, fs, fo, ms, mo, ds, dw, hca, hpr, ⟨hse, hsl⟩, how, hwl⟩), hk⟩
theorem wfo {g : GT} {M : MM} {ow mo t i j : Nat} {fo dw : Nat → Nat} {col : Nat → Int} (h : RWS g M ow mo t 2 fo (fun i j => if j = 0 then (dw i : Int) else col (dw i))) (hs : SLP col mo dw) (hi : i < mo) (hj : j < mo) (he : fo i = fo j) : dw i = dw j := by
  obtain ⟨v, a1, a2⟩ := h.2 i hi
  obtain ⟨w, b1, b2⟩ := h.2 j hj
  rw [he, b1] at a1
  have e9 : w = v := by cases a1; rfl
  have e : iZ (dw i : Int) = iZ (dw j : Int) := by rw [← (show v 0 = iZ (dw i : Int) from a2 0 (by omega)), ← (show w 0 = iZ (dw j : Int) from b2 0 (by omega)), e9]
  have := iZ_inj (slp_rg hs hi) (slp_rg hs hj) e
  omega
set_option maxHeartbeats 4000000 in
set_option maxRecDepth 100000 in
theorem z_write (l : Launch) {g : GT} {ws : va_W} {M : MM} (hM : HM M ws) {c ca : Nat} {T : TS} (hC : CK g M ca c T) (hc : c < 6) {d to : Int} (hd0 : 0 ≤ d) (hd9 : d < 8) (hto : rg to) : MV l yX3_write cX3_write 5 (rmA 1 2 11) g [.ref (ca), .int (iZ (d)), .int (iZ (to))] ws (fun ws9 => ∃ M9, HM M9 ws9 ∧ CK g M9 ca c (pt T (7 + 8 * c + 7) d.toNat (hl to)) ∧ KP (fun r => r ≠ 10 + c ∧ r ≠ 20 + c ∧ r ≠ 900) M M9) := by
  refine MV.ofk (own := RX3) (by decide) rfl (Nat.le_of_ble_eq_true rfl) (fun x hx hE => ?_)
  refine V_lv (lv' := [(0, .ref (ca)), (1, .int (iZ (d))), (2, .int (iZ (to)))]) rfl ?_
  obtain ⟨pr, se, ow, fp, fs, fo, ms, mo, ds, dw, hca, hpr, ⟨hse, hsl⟩, ⟨how, hwl⟩⟩ := hC
  have hk : KP (fun r => r ≠ 10 + c ∧ r ≠ 20 + c ∧ r ≠ 900) M M := KP.rf
  have hms := slp_8 hsl
  have hmo := slp_8 hwl
  have hh := hl_b to
  have hW : V x 0 0 ws 22 [(0, .ref (ca)), (1, .int (iZ (d))), (2, .int (iZ (to)))] [.int (iZ (hl to))] := by
    refine V_istore_n hx dX3_write_22 [(3, .int (iZ (hl to))), (0, .ref (ca)), (1, .int (iZ (d))), (2, .int (iZ (to)))] (by decide) rfl ?_
    refine V_aload_n hx dX3_write_23 1 rfl ?_
    obtain ⟨i9, hi9⟩ := hM.at hca
    refine gf_X3_18 hx i9 hi9 rfl dX3_write_24 ?_
    refine V_iload_n hx dX3_write_27 2 rfl ?_
    refine V_callSq hx (z_find' l hM how (by decide) (by decide) (by have := slp_8 hwl; omega) (fun i hi => slp_rg hwl hi) (d := d) ⟨by omega, by omega⟩) cw_X3_37 (RMa (by dsimp only [rmA, rmN]; omega) (by dsimp only [rmA, rmN]; omega) (by dsimp only [rmA, rmN]; omega) (by dsimp only [rmA, rmN]; omega)) rfl rfl (Nat.le_of_ble_eq_true rfl) dX3_write_28 _ _ rfl rfl (fun r1 w1 e1 => ?_)
    obtain ⟨rfl, e1⟩ := e1
    rcases fd_cases (c := cO T (7 + 8 * c) dw) hwl (fun i hi => rfl) (by omega) (by omega) e1 with ⟨rfl, n1⟩ | ⟨i1, hi1, rfl, d1, y1⟩
    · refine V_astoreN hx dX3_write_31 [(4, .null), (3, .int (iZ (hl to))), (0, .ref (ca)), (1, .int (iZ (d))), (2, .int (iZ (to)))] (by decide) rfl ?_
      refine V_aloadN hx dX3_write_33 0 rfl ?_
      refine V_ifnonnullN hx dX3_write_35 ?_
      refine V_aload_n hx dX3_write_38 2 rfl ?_
      refine V_aload_n hx dX3_write_39 2 rfl ?_
      obtain ⟨i9, hi9⟩ := hM.at hca
      refine gf_X3_18 hx i9 hi9 rfl dX3_write_40 ?_
      refine V_iconst hx dX3_write_43 ?_
      refine M_newa hx hM 900 (2) rfl (by omega) (by dsimp only [rmA]; omega) (by dsimp only [rmA]; omega) dX3_write_44 (fun q2 ws2 M2 hM2 f2 fr2 hn2 kp2 => ?_)
      replace hca := kp2 _ _ _ hca trivial
      replace hpr := rws_kp hpr kp2 (by first | trivial | (show _ ≠ _; omega)) (by first | trivial | (show _ ≠ _; omega))
      replace hse := rws_kp hse kp2 (by first | trivial | (show _ ≠ _; omega)) (by first | trivial | (show _ ≠ _; omega))
      replace how := rws_kp how kp2 (by first | trivial | (show _ ≠ _; omega)) (by first | trivial | (show _ ≠ _; omega))
      replace hk := hk.tr (kp2.of (fun r (h : r ≠ 10 + c ∧ r ≠ 20 + c ∧ r ≠ 900) => by first | trivial | (show _ ≠ _; omega)))
      have hq2 := f2
      refine V_dup hx dX3_write_46 rfl ?_
      refine V_iconst hx dX3_write_47 ?_
      refine V_iload_n hx dX3_write_48 3 rfl ?_
      refine M_iast hx hM2 (by omega) (by omega) (by omega) hq2 dX3_write_49 (fun ws3 M3 hM3 f3 hn3 kp3 => ?_)
      replace hca := kp3 _ _ _ hca (by show _ ≠ _; omega)
      replace hpr := rws_kp hpr kp3 (by first | trivial | (show _ ≠ _; omega)) (by first | trivial | (show _ ≠ _; omega))
      replace hse := rws_kp hse kp3 (by first | trivial | (show _ ≠ _; omega)) (by first | trivial | (show _ ≠ _; omega))
      replace how := rws_kp how kp3 (by first | trivial | (show _ ≠ _; omega)) (by first | trivial | (show _ ≠ _; omega))
      replace hk := hk.tr (kp3.of (fun r (h : r ≠ 10 + c ∧ r ≠ 20 + c ∧ r ≠ 900) => by first | trivial | (show _ ≠ _; omega)))
      replace hq2 := f3
      refine V_dup hx dX3_write_50 rfl ?_
      refine V_iconst hx dX3_write_51 ?_
      refine V_iload_n hx dX3_write_52 1 rfl ?_
      refine M_iast hx hM3 (by omega) (by omega) (by omega) hq2 dX3_write_53 (fun ws4 M4 hM4 f4 hn4 kp4 => ?_)
      replace hca := kp4 _ _ _ hca (by show _ ≠ _; omega)
      replace hpr := rws_kp hpr kp4 (by first | trivial | (show _ ≠ _; omega)) (by first | trivial | (show _ ≠ _; omega))
      replace hse := rws_kp hse kp4 (by first | trivial | (show _ ≠ _; omega)) (by first | trivial | (show _ ≠ _; omega))
      replace how := rws_kp how kp4 (by first | trivial | (show _ ≠ _; omega)) (by first | trivial | (show _ ≠ _; omega))
      replace hk := hk.tr (kp4.of (fun r (h : r ≠ 10 + c ∧ r ≠ 20 + c ∧ r ≠ 900) => by first | trivial | (show _ ≠ _; omega)))
      replace hq2 := f4
      obtain ⟨M5, hM5, f5, hn5, kp5⟩ := hM4.retag hq2 (20 + c)
      replace hca := kp5 _ _ _ hca (by show _ ≠ _; omega)
      replace hpr := rws_kp hpr kp5 (by first | trivial | (show _ ≠ _; omega)) (by first | trivial | (show _ ≠ _; omega))
      replace hse := rws_kp hse kp5 (by first | trivial | (show _ ≠ _; omega)) (by first | trivial | (show _ ≠ _; omega))
      replace how := rws_kp how kp5 (by first | trivial | (show _ ≠ _; omega)) (by first | trivial | (show _ ≠ _; omega))
      replace hk := hk.tr (kp5.of (fun r (h : r ≠ 10 + c ∧ r ≠ 20 + c ∧ r ≠ 900) => by first | trivial | (show _ ≠ _; omega)))
      replace hq2 := f5
      obtain ⟨g0, hg0, hge⟩ := rws_he how
      refine V_callSq hx (z_more l hM5 hg0 hge hq2 (by have := slp_8 hwl; omega)) cw_X3_33 (RMa (by dsimp only [rmA, rmN]; omega) (by dsimp only [rmA, rmN]; omega) (by dsimp only [rmA, rmN]; omega) (by dsimp only [rmA, rmN]; omega)) rfl rfl (Nat.le_of_ble_eq_true rfl) dX3_write_54 _ _ rfl rfl (fun r6 w6 e6 => ?_)
      obtain ⟨q6, M6, f9, rfl, hM6, fr6, hn6, hq6, hf9, hf9m⟩ := e6
      have kp6 := kp_new fr6 hn6
      replace hca := kp6 _ _ _ hca trivial
      replace hq2 := kp6 _ _ _ hq2 trivial
      replace hpr := rws_kp hpr kp6 (by first | trivial | (show _ ≠ _; omega)) (by first | trivial | (show _ ≠ _; omega))
      replace hse := rws_kp hse kp6 (by first | trivial | (show _ ≠ _; omega)) (by first | trivial | (show _ ≠ _; omega))
      replace how := rws_kp how kp6 (by first | trivial | (show _ ≠ _; omega)) (by first | trivial | (show _ ≠ _; omega))
      replace hk := hk.tr (kp6.of (fun r (h : r ≠ 10 + c ∧ r ≠ 20 + c ∧ r ≠ 900) => by first | trivial | (show _ ≠ _; omega)))
      replace hg0 := kp6 _ _ _ hg0 (by first | trivial | (show _ ≠ _; omega))
      refine M_put (e' := .inr (3, [.ref (pr), .int (iZ (T (7 + 8 * c) 1)), .int (iZ (T (7 + 8 * c) 2)), .int (iZ (T (7 + 8 * c) 3)), .ref (se), .ref (q6)])) hM6 hca (fun i9 hi9 ws7 M7 e9 hM7 f7 hn7 kp7 => ?_)
      refine pf_X3_18 hx i9 hi9 (Nat.le_of_ble_eq_true rfl) ws7 e9 dX3_write_57 ?_
      replace hq2 := kp7 _ _ _ hq2 (by show _ ≠ _; omega)
      replace hq6 := kp7 _ _ _ hq6 (by show _ ≠ _; omega)
      replace hpr := rws_kp hpr kp7 (by first | trivial | (show _ ≠ _; omega)) (by first | trivial | (show _ ≠ _; omega))
      replace hse := rws_kp hse kp7 (by first | trivial | (show _ ≠ _; omega)) (by first | trivial | (show _ ≠ _; omega))
      replace how := rws_kp how kp7 (by first | trivial | (show _ ≠ _; omega)) (by first | trivial | (show _ ≠ _; omega))
      replace hk := hk.tr (kp7.of (fun r (h : r ≠ 10 + c ∧ r ≠ 20 + c ∧ r ≠ 900) => by first | trivial | (show _ ≠ _; omega)))
      replace hg0 := kp7 _ _ _ hg0 (by first | trivial | (show _ ≠ _; omega))
      replace hca := f7
      refine V_goto hx dX3_write_60 68 (by decide) ?_
      refine hE _ _ _ _ _ dX3_write_68 (by dsimp only [rmA]; omega) (by dsimp only [rmA]; omega) ⟨M7, hM7, ck_w hca hpr hse hsl (rws_add (c' := cO (pt T (7 + 8 * c + 7) d.toNat (hl to)) (7 + 8 * c) (adx dw mo d.toNat)) how hg0 (KP.rf (S := ALL)) trivial hq2 (fun j hj => ?_) hq6 hf9 hf9m (fun i j hi hj => ?_)) (slp_add hwl (by omega) n1 (by rw [pt7, if_pos rfl]; omega) (fun i hi => by rw [pt7, if_neg hi])), hk⟩
      · unfold cO; rw [adx_e (by omega), pt7, if_pos rfl]
        rcases (show j = 0 ∨ j = 1 by omega) with rfl | rfl
        · exact congrArg iZ (Int.toNat_of_nonneg hd0).symm
        · rfl
      · have hz : ¬ dw i = d.toNat := fun h => (hwl.1 i hi).2 (by rw [h]; exact n1)
        unfold cO; rw [adx_l hi, pt7, if_neg hz]
    · obtain ⟨v1, hv1, hvv1⟩ := how.2 i1 hi1
      refine V_astore hx dX3_write_31 [(4, .ref ((fo i1))), (3, .int (iZ (hl to))), (0, .ref (ca)), (1, .int (iZ (d))), (2, .int (iZ (to)))] (by decide) rfl ?_
      refine V_aload hx dX3_write_33 0 rfl ?_
      refine V_ifnonnull hx dX3_write_35 63 (by decide) ?_
      refine V_aload hx dX3_write_63 0 rfl ?_
      refine V_iconst hx dX3_write_65 ?_
      refine V_iload_n hx dX3_write_66 1 rfl ?_
      have how0 := how
      refine M_iast hx hM (by omega) (by omega) (by omega) hv1 dX3_write_67 (fun ws8 M8 hM8 f8 hn8 kp8 => ?_)
      replace hca := kp8 _ _ _ hca (by show _ ≠ _; omega)
      replace hpr := rws_kp hpr kp8 (by first | trivial | (show _ ≠ _; omega)) (by first | trivial | (show _ ≠ _; omega))
      replace hse := rws_kp hse kp8 (by first | trivial | (show _ ≠ _; omega)) (by first | trivial | (show _ ≠ _; omega))
      replace hk := hk.tr (kp8.of (fun r (h : r ≠ 10 + c ∧ r ≠ 20 + c ∧ r ≠ 900) => by first | trivial | (show _ ≠ _; omega)))
      replace hv1 := f8
      refine hE _ _ _ _ _ dX3_write_68 (by dsimp only [rmA]; omega) (by dsimp only [rmA]; omega) ⟨M8, hM8, ck_w hca hpr hse hsl (rws_set (c' := cO (pt T (7 + 8 * c + 7) d.toNat (hl to)) (7 + 8 * c) dw) how0 (by omega) hi1 (fun i hi hx h => hx (hwl.2.1 i i1 hi hi1 (wfo how0 hwl hi hi1 h))) hv1 hn8 (fun j hj => ?_) (fun i j hi hx hj => ?_)) (slp_upd (d := d.toNat) hwl y1 (by rw [pt7, if_pos rfl]; omega) (fun i hi => by rw [pt7, if_neg hi])), hk⟩
      · unfold cO; rw [pt7, if_pos d1.symm]
        rcases (show j = 0 ∨ j = 1 by omega) with rfl | rfl
        · exact (upd_ne v1 _ (by decide)).trans (hvv1 0 (by omega))
        · exact upd_at v1 1 _
      · have hz : ¬ dw i = d.toNat := fun h => hx (hwl.2.1 i i1 hi hi1 (by rw [h]; exact d1))
        unfold cO; rw [pt7, if_neg hz]
  refine V_iload_n hx dX3_write_0 2 rfl ?_
  refine V_sipush hx dX3_write_1 rfl ?_
  refine V_icmp_le hx dX3_write_4 13 (by decide) (by first | assumption | exact ⟨by omega, by omega⟩) ⟨by decide, by decide⟩ (fun h4 => ?_) (fun h4 => ?_)
  · refine V_iload_n hx dX3_write_13 2 rfl ?_
    refine V_if_ge hx dX3_write_14 21 (by decide) (by first | assumption | exact ⟨by omega, by omega⟩) (fun h14 => ?_) (fun h14 => ?_)
    · refine V_iload_n hx dX3_write_21 2 rfl ?_
      refine V_top (b := hl to) (by unfold hl; (repeat' split) <;> omega) ?_
      exact hW
    · refine V_iconst hx dX3_write_17 ?_
      refine V_goto hx dX3_write_18 22 (by decide) ?_
      refine V_top (b := hl to) (by unfold hl; (repeat' split) <;> omega) ?_
      exact hW
  · refine V_sipush hx dX3_write_7 rfl ?_
    refine V_goto hx dX3_write_10 22 (by decide) ?_
    refine V_top (b := hl to) (by unfold hl; (repeat' split) <;> omega) ?_
    exact hW
