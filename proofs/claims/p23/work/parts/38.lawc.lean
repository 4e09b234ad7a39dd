/-! the law: one clerk's turn -/
theorem bz_1 {p : Prop} (h : bz p = 1) : p := Classical.byContradiction (fun h9 => by rw [bz_f h9] at h; exact absurd h (by decide))
theorem bz_0 {p : Prop} (h : bz p ≠ 1) : ¬ p := fun h9 => h (bz_t h9)
noncomputable def chF (T : TS) (c d : Nat) : Int := bz (tkT T c 2 d ≠ T 2 d)
noncomputable def alT (T : TS) (c d : Nat) : Int := wal T c ((T (7 + 8 * c) 0).toNat + 1) 1 d
theorem ch_1 {T : TS} {M : Int} (h : IV T) (hw : WF T M) {c : Nat} (hc : (c : Int) < T 0 1) (h1 : tkV T c = 1) : sm (nd T) (chF T c) = sm 8 (wrF T (7 + 8 * c)) := by
  show sm (nd T) (fun d => bz (tkT T c 2 d ≠ T 2 d)) = _
  rw [(tk_1 h1).1]
  exact cl_cnt h hw hc
theorem ch_0 {T : TS} {c : Nat} (h1 : tkV T c ≠ 1) : ∀ n, sm n (chF T c) = 0
  | 0 => rfl
  | n + 1 => by
    show sm n (chF T c) + chF T c n = 0
    rw [ch_0 h1 n, show chF T c n = 0 from bz_f (fun h9 => h9 (tk_not1 h1).2)]
    rfl
theorem tk_same {T : TS} {M : Int} (h : IV T) (hw : WF T M) {c d : Nat} (hd : d < 8) (h2 : tkT T c 2 d = T 2 d) : tkT T c 1 d = T 1 d := by
  by_cases h1 : tkV T c = 1
  · rw [(tk_1 h1).1] at h2 ⊢
    rw [(cl_12 (by omega)).2] at h2
    rw [(cl_12 (by omega)).1]
    by_cases hp : d < nd T ∧ T (7 + 8 * c + 7) d ≠ -1
    · rw [if_pos hp] at h2
      have := (h.1 d hd).2
      omega
    · rw [if_neg hp]
  · exact (tk_not1 h1).1
theorem al_1 {T : TS} {M : Int} (h : IV T) (hw : WF T M) {c d : Nat} (hc : (c : Int) < T 0 1) (hd : d < 8) (ha : awP T c) (h1 : tkV T c = 1) : alT T c d = tkT T c 1 d := by
  obtain ⟨e, hp, ho⟩ := tk_1 h1
  have := (hw.2.2.2.2.2 c hc).2.1.2
  rw [e]
  exact al_cl h hw hc hd ha.1 (by omega) ho
theorem al_req {T T1 : TS} {M : Int} (h : WF T M) (hM : M < 2147390000) (h1 : RG T1) {c : Nat} (hc : (c : Int) < T 0 1) {t : Nat} (ht : t ≤ 9) : RG (wal (beT T1 T) c t) ∧ TKok (wal (beT T1 T) c t) (7 + 8 * c) := by
  obtain ⟨a, b, _⟩ := wf_wal (wf_be h1 h) (by omega) (c := c) (by rw [be_0 (by omega)]; exact hc) t (by omega)
  exact ⟨a.1, wf_tkok a (by omega) (by rw [b, be_0 (by omega)]; exact hc)⟩
theorem gr_req {T T1 : TS} {M : Int} (h : WF T M) (hM : M < 2147390000) (h1 : RG T1) {j : Nat} (hj : j ≤ 1000) : GRok (grs (beT T1 T) j).1 ∧ 0 ≤ (grs (beT T1 T) j).1 0 0 ∧ (grs (beT T1 T) j).1 0 0 ≤ 8 := by
  have a := wf_grs (wf_be h1 h) (by omega) j hj
  have b := a.2.1
  exact ⟨wf_grok a (by omega), by omega, b.2⟩
theorem wf_dn {T : TS} {M : Int} (h : WF T M) : ∀ c : Nat, (c : Int) < T 0 1 → T (7 + 8 * c) 2 = 0 ∨ T (7 + 8 * c) 2 = 1 := fun c hc => (h.2.2.2.2.2 c hc).2.2.1
theorem tv_0 {T : TS} {c : Nat} (h : T (7 + 8 * c) 1 < T (7 + 8 * c) 0) : tkV T c = 0 := by unfold tkV; rw [if_pos h]
theorem tv_2 {T : TS} {c : Nat} (h : ¬ T (7 + 8 * c) 1 < T (7 + 8 * c) 0) (h2 : odP T (7 + 8 * c) (nd T)) : tkV T c = 2 := by unfold tkV; rw [if_neg h, if_pos (bz_t h2)]
theorem tv_1 {T : TS} {c : Nat} (h : ¬ T (7 + 8 * c) 1 < T (7 + 8 * c) 0) (h2 : ¬ odP T (7 + 8 * c) (nd T)) : tkV T c = 1 := by unfold tkV; rw [if_neg h, if_neg (by rw [bz_f h2]; decide)]
/-- a row of the law's own, written up to i -/
def AR (g : GT) (t : Nat) (M : MM) (q n i : Nat) (f : Nat → Int) : Prop := ∃ u, M q = some (t, IA g n u) ∧ ∀ j, j < i → u j = iZ (f j)
def ZR (g : GT) (t : Nat) (M : MM) (q n i : Nat) (f : Nat → Prop) : Prop := ∃ u, M q = some (t, ZA g n u) ∧ ∀ j, j < i → u j = iZ (bz (f j))
theorem ar_kp {g : GT} {S : Nat → Prop} {M M' : MM} {t q n i : Nat} {f : Nat → Int} (h : AR g t M q n i f) (k : KP S M M') (hs : S t) : AR g t M' q n i f := by
  obtain ⟨u, a, b⟩ := h
  exact ⟨u, k _ _ _ a hs, b⟩
theorem zr_kp {g : GT} {S : Nat → Prop} {M M' : MM} {t q n i : Nat} {f : Nat → Prop} (h : ZR g t M q n i f) (k : KP S M M') (hs : S t) : ZR g t M' q n i f := by
  obtain ⟨u, a, b⟩ := h
  exact ⟨u, k _ _ _ a hs, b⟩
theorem ar_st {g : GT} {M : MM} {t q n i : Nat} {f : Nat → Int} {u : Nat → Int32} (h : ∀ j, j < i → u j = iZ (f j)) (a : M q = some (t, IA g n (upd u ((i : Nat) : Int).toNat (iZ (f i))))) : AR g t M q n (i + 1) f := by
  refine ⟨_, a, fun j hj => ?_⟩
  by_cases hx : j = i
  · subst hx; exact upd_at u j _
  · exact (upd_ne u _ hx).trans (h j (by omega))
theorem zr_st {g : GT} {M : MM} {t q n i : Nat} {f : Nat → Prop} {u : Nat → Int32} (h : ∀ j, j < i → u j = iZ (bz (f j))) (a : M q = some (t, ZA g n (upd u ((i : Nat) : Int).toNat (iZ (bz (f i)))))) : ZR g t M q n (i + 1) f := by
  refine ⟨_, a, fun j hj => ?_⟩
  by_cases hx : j = i
  · subst hx; exact upd_at u j _
  · exact (upd_ne u _ hx).trans (h j (by omega))
set_option maxHeartbeats 4000000 in
set_option maxRecDepth 100000 in
theorem z_lawC (l : Launch) (hst : l.stackTraces = false) {g : GT} {x : CT} (hx : FX x l room_1 g 24 cL_law RL) (hz : TXF x) {ad : Nat → Nat} (hA : AI ad) {sp qd b : Nat} {cl : Nat → Nat} {T : TS} {B : Int} (hw : WF T B) (hI : IV T) (hB : B ≤ 2170) {c : Nat} (hc : c < nc T) {nn mm kk rr z0 vv tm : Int} {dg : Int64} (hnn : T 0 0 = nn) (hmm : T 0 1 = mm) {ws : va_W} {N : MM} (hN : HM N ws) {P : Nat → TS} (hC : CWM g ad N P T) (hS : SIM g N sp cl T) (hP1 : RG (P 1)) {k0 n0 : Nat} (hk0 : k0 + 200 ≤ 1200086) (hn0 : n0 + 3300 ≤ 5501442)
    (hNext : ∀ (T9 : TS) (ws1 : va_W) (N1 : MM) (P1 : Nat → TS), ((¬ awP T c ∧ T9 = T) ∨ (awP T c ∧ T9 = tkT T c)) → HM N1 ws1 → CWM g ad N1 P1 T9 → SIM g N1 sp cl T9 → RG (P1 1) → KP (fun r => 2000 ≤ r) N N1 → V x (k0 + 200) (n0 + 3300) ws1 779 [(13, .int (iZ ((c : Int)))), (12, .int (iZ (kk))), (11, .ref (qd)), (10, .int (iZ (rr))), (9, .int (iZ (z0))), (7, .long dg), (6, .int (iZ (vv))), (5, .int (iZ (tm))), (4, .int (iZ (mm))), (3, .int (iZ (nn))), (2, .ref (sp)), (1, .ref ((ad 0))), (0, .ref (b))] []) : V x k0 n0 ws 347 [(13, .int (iZ ((c : Int)))), (12, .int (iZ (kk))), (11, .ref (qd)), (10, .int (iZ (rr))), (9, .int (iZ (z0))), (7, .long dg), (6, .int (iZ (vv))), (5, .int (iZ (tm))), (4, .int (iZ (mm))), (3, .int (iZ (nn))), (2, .ref (sp)), (1, .ref ((ad 0))), (0, .ref (b))] [] := by
  obtain ⟨hT, ⟨tn1, tn8⟩, ⟨hc0, hc9⟩, ⟨hz0, hz9⟩, ham1, hck9⟩ := id hw
  have hni := nc_i hw
  have h6 : nc T ≤ 6 := by omega
  have hci : (c : Int) < T 0 1 := by omega
  obtain ⟨⟨k1, k1b⟩, ⟨k2, k2b⟩, k3, ⟨k4, k4b⟩, k5, k6⟩ := hck9 c hci
  have hc6 : c < 6 := by omega
  have hnd : ((nd T : Nat) : Int) = T 0 0 := Int.toNat_of_nonneg (by omega)
  have hk : KP (fun r => 2000 ≤ r) N N := KP.rf
  have hT9 : WF (tkT T c) (B + 1) := wf_tk hw (by omega) hci
  have hT9g := hT9.1
  have e90 : tkT T c 0 0 = T 0 0 := tk_00 (by omega)
  have e91 : tkT T c 0 1 = T 0 1 := tk_00 (by omega)
  have h69 : nc (tkT T c) ≤ 6 := by rw [tk_nc]; exact h6
  refine V_aload_n hx dL_law_347 11 rfl ?_
  refine V_iload hx dL_law_348 0 rfl ?_
  refine V_iconst hx dL_law_350 ?_
  refine M_callX hx hz hN hC hA (x_told l hst T (wf_shp hw (by omega)) (c := ((c : Nat) : Int)) (what := 2) ⟨by omega, by omega⟩ ⟨by decide, by decide⟩) rfl cw_L_129 (RMa (by dsimp only [rmA, rmN, rmX, room_1]; omega) (by dsimp only [rmA, rmN, rmX, room_1]; omega) (by dsimp only [rmA, rmN, rmX, room_1]; omega) (by dsimp only [rmA, rmN, rmX, room_1]; omega)) rfl rfl (Nat.le_of_ble_eq_true rfl) dL_law_351 _ _ rfl rfl (fun E hE9 => absurd (show _ ∧ _ from ⟨⟨by omega, by omega⟩, ⟨by omega, by omega⟩⟩) hE9.2) (fun z1 w1 e1 => ?_)
  obtain ⟨-, rfl, rfl⟩ := e1
  refine ⟨P, T, rfl, fun ws1 M1 hM1 hC9 kp1 => ?_⟩
  replace hS := sim_kp hS h6 kp1 (fun r hr => by first | trivial | (show _ ≠ _; omega))
  replace hk := hk.tr (kp1.of (fun r (h : 2000 ≤ r) => by first | trivial | (show _ ≠ _; omega)))
  have hC := hC9
  refine V_top (b := bz (T (7 + 8 * c) 2 ≠ 0)) rfl ?_
  refine V_iconst hx dL_law_354 ?_
  refine V_icmp_eq hx dL_law_355 779 (by decide) (rg_bz _) ⟨by decide, by decide⟩ (fun h355 => ?_) (fun h355 => ?_)
  · refine V_widen (k' := k0 + 200) (n' := n0 + 3300) (by first | omega | (dsimp only [rmA, rmX, rmN]; omega)) (by first | omega | (dsimp only [rmA, rmX, rmN]; omega)) ?_
    exact V_sub [0, 1, 2, 3, 4, 5, 6, 7, 8, 9, 10, 11, 12] rfl (hNext _ _ _ _ (Or.inl ⟨fun h9 => by have := bz_1 h355; exact this h9.1, rfl⟩) hM1 hC hS hP1 hk)
  · refine V_aload_n hx dL_law_358 11 rfl ?_
    refine V_iload hx dL_law_359 0 rfl ?_
    refine V_iconst hx dL_law_361 ?_
    refine M_callX hx hz hM1 hC hA (x_told l hst T (wf_shp hw (by omega)) (c := ((c : Nat) : Int)) (what := 0) ⟨by omega, by omega⟩ ⟨by decide, by decide⟩) rfl cw_L_129 (RMa (by dsimp only [rmA, rmN, rmX, room_1]; omega) (by dsimp only [rmA, rmN, rmX, room_1]; omega) (by dsimp only [rmA, rmN, rmX, room_1]; omega) (by dsimp only [rmA, rmN, rmX, room_1]; omega)) rfl rfl (Nat.le_of_ble_eq_true rfl) dL_law_362 _ _ rfl rfl (fun E hE9 => absurd (show _ ∧ _ from ⟨⟨by omega, by omega⟩, ⟨by omega, by omega⟩⟩) hE9.2) (fun z2 w2 e2 => ?_)
    obtain ⟨-, rfl, rfl⟩ := e2
    refine ⟨P, T, rfl, fun ws2 M2 hM2 hC9 kp2 => ?_⟩
    replace hS := sim_kp hS h6 kp2 (fun r hr => by first | trivial | (show _ ≠ _; omega))
    replace hk := hk.tr (kp2.of (fun r (h : 2000 ≤ r) => by first | trivial | (show _ ≠ _; omega)))
    have hC := hC9
    refine V_top (b := T (7 + 8 * c) 0) rfl ?_
    refine V_if_ne hx dL_law_365 371 (by decide) (hT _ _) (fun h365 => ?_) (fun h365 => ?_)
    · have haw : awP T c := by
        have h9 : ¬ T (7 + 8 * c) 2 ≠ 0 := bz_0 h355
        have h8 := h365
        exact ⟨by omega, by omega⟩
      refine V_aload_n hx dL_law_371 11 rfl ?_
      refine V_iload hx dL_law_372 0 rfl ?_
      refine V_iconst hx dL_law_374 ?_
      refine M_callX hx hz hM2 hC hA (x_told l hst T (wf_shp hw (by omega)) (c := ((c : Nat) : Int)) (what := 1) ⟨by omega, by omega⟩ ⟨by decide, by decide⟩) rfl cw_L_129 (RMa (by dsimp only [rmA, rmN, rmX, room_1]; omega) (by dsimp only [rmA, rmN, rmX, room_1]; omega) (by dsimp only [rmA, rmN, rmX, room_1]; omega) (by dsimp only [rmA, rmN, rmX, room_1]; omega)) rfl rfl (Nat.le_of_ble_eq_true rfl) dL_law_375 _ _ rfl rfl (fun E hE9 => absurd (show _ ∧ _ from ⟨⟨by omega, by omega⟩, ⟨by omega, by omega⟩⟩) hE9.2) (fun z3 w3 e3 => ?_)
      obtain ⟨-, rfl, rfl⟩ := e3
      refine ⟨P, T, rfl, fun ws3 M3 hM3 hC9 kp3 => ?_⟩
      replace hS := sim_kp hS h6 kp3 (fun r hr => by first | trivial | (show _ ≠ _; omega))
      replace hk := hk.tr (kp3.of (fun r (h : 2000 ≤ r) => by first | trivial | (show _ ≠ _; omega)))
      have hC := hC9
      refine V_top (b := T (7 + 8 * c) 1) rfl ?_
      refine V_aload_n hx dL_law_378 11 rfl ?_
      refine V_iload hx dL_law_379 0 rfl ?_
      refine V_iconst hx dL_law_381 ?_
      refine M_callX hx hz hM3 hC hA (x_told l hst T (wf_shp hw (by omega)) (c := ((c : Nat) : Int)) (what := 0) ⟨by omega, by omega⟩ ⟨by decide, by decide⟩) rfl cw_L_129 (RMa (by dsimp only [rmA, rmN, rmX, room_1]; omega) (by dsimp only [rmA, rmN, rmX, room_1]; omega) (by dsimp only [rmA, rmN, rmX, room_1]; omega) (by dsimp only [rmA, rmN, rmX, room_1]; omega)) rfl rfl (Nat.le_of_ble_eq_true rfl) dL_law_382 _ _ rfl rfl (fun E hE9 => absurd (show _ ∧ _ from ⟨⟨by omega, by omega⟩, ⟨by omega, by omega⟩⟩) hE9.2) (fun z4 w4 e4 => ?_)
      obtain ⟨-, rfl, rfl⟩ := e4
      refine ⟨P, T, rfl, fun ws4 M4 hM4 hC9 kp4 => ?_⟩
      replace hS := sim_kp hS h6 kp4 (fun r hr => by first | trivial | (show _ ≠ _; omega))
      replace hk := hk.tr (kp4.of (fun r (h : 2000 ≤ r) => by first | trivial | (show _ ≠ _; omega)))
      have hC := hC9
      refine V_top (b := T (7 + 8 * c) 0) rfl ?_
      refine V_widen (k' := k0 + 8) (n' := n0 + 48) (by first | omega | (dsimp only [rmA, rmX, rmN]; omega)) (by first | omega | (dsimp only [rmA, rmX, rmN]; omega)) ?_
      have h393 : V x (k0 + 8) (n0 + 48) ws4 393 [(13, .int (iZ ((c : Int)))), (12, .int (iZ (kk))), (11, .ref (qd)), (10, .int (iZ (rr))), (9, .int (iZ (z0))), (7, .long dg), (6, .int (iZ (vv))), (5, .int (iZ (tm))), (4, .int (iZ (mm))), (3, .int (iZ (nn))), (2, .ref (sp)), (1, .ref ((ad 0))), (0, .ref (b))] [.int (iZ (bz (T (7 + 8 * c) 1 = T (7 + 8 * c) 0)))] := by
        refine V_istore hx dL_law_393 [(14, .int (iZ (bz (T (7 + 8 * c) 1 = T (7 + 8 * c) 0)))), (13, .int (iZ ((c : Int)))), (12, .int (iZ (kk))), (11, .ref (qd)), (10, .int (iZ (rr))), (9, .int (iZ (z0))), (7, .long dg), (6, .int (iZ (vv))), (5, .int (iZ (tm))), (4, .int (iZ (mm))), (3, .int (iZ (nn))), (2, .ref (sp)), (1, .ref ((ad 0))), (0, .ref (b))] (by decide) rfl ?_
        refine V_aload_n hx dL_law_395 12 rfl ?_
        refine V_iload hx dL_law_396 1 rfl ?_
        refine V_bipush hx dL_law_398 rfl ?_
        refine M_callX hx hz hM4 hC hA (x_told l hst T (wf_shp hw (by omega)) (c := ((c : Nat) : Int)) (what := 6) ⟨by omega, by omega⟩ ⟨by decide, by decide⟩) rfl cw_L_129 (RMa (by dsimp only [rmA, rmN, rmX, room_1]; omega) (by dsimp only [rmA, rmN, rmX, room_1]; omega) (by dsimp only [rmA, rmN, rmX, room_1]; omega) (by dsimp only [rmA, rmN, rmX, room_1]; omega)) rfl rfl (Nat.le_of_ble_eq_true rfl) dL_law_400 _ _ rfl rfl (fun E hE9 => absurd (show _ ∧ _ from ⟨⟨by omega, by omega⟩, ⟨by omega, by omega⟩⟩) hE9.2) (fun z5 w5 e5 => ?_)
        obtain ⟨-, rfl, rfl⟩ := e5
        refine ⟨P, T, rfl, fun ws5 M5 hM5 hC9 kp5 => ?_⟩
        replace hS := sim_kp hS h6 kp5 (fun r hr => by first | trivial | (show _ ≠ _; omega))
        replace hk := hk.tr (kp5.of (fun r (h : 2000 ≤ r) => by first | trivial | (show _ ≠ _; omega)))
        have hC := hC9
        refine V_top (b := loF T c) rfl ?_
        refine V_iconst hx dL_law_403 ?_
        refine V_widen (k' := k0 + 10) (n' := n0 + 60) (by first | omega | (dsimp only [rmA, rmX, rmN]; omega)) (by first | omega | (dsimp only [rmA, rmX, rmN]; omega)) ?_
        have h412 : V x (k0 + 10) (n0 + 60) ws5 412 [(14, .int (iZ (bz (T (7 + 8 * c) 1 = T (7 + 8 * c) 0)))), (13, .int (iZ ((c : Int)))), (12, .int (iZ (kk))), (11, .ref (qd)), (10, .int (iZ (rr))), (9, .int (iZ (z0))), (7, .long dg), (6, .int (iZ (vv))), (5, .int (iZ (tm))), (4, .int (iZ (mm))), (3, .int (iZ (nn))), (2, .ref (sp)), (1, .ref ((ad 0))), (0, .ref (b))] [.int (iZ (loF T c))] := by
          refine V_istore hx dL_law_412 [(15, .int (iZ (loF T c))), (14, .int (iZ (bz (T (7 + 8 * c) 1 = T (7 + 8 * c) 0)))), (13, .int (iZ ((c : Int)))), (12, .int (iZ (kk))), (11, .ref (qd)), (10, .int (iZ (rr))), (9, .int (iZ (z0))), (7, .long dg), (6, .int (iZ (vv))), (5, .int (iZ (tm))), (4, .int (iZ (mm))), (3, .int (iZ (nn))), (2, .ref (sp)), (1, .ref ((ad 0))), (0, .ref (b))] (by decide) rfl ?_
          refine V_iload_n hx dL_law_414 11 rfl ?_
          refine M_newa hx hM5 1001 (nd T) (by omega) (by omega) (by dsimp only [rmA, rmX, rmN, room_1]; omega) (by dsimp only [rmA, rmX, rmN, room_1]; omega) dL_law_415 (fun q6 ws6 M6 hM6 f6 fr6 hn6 kp6 => ?_)
          replace hS := sim_kp hS h6 kp6 (fun r hr => by first | trivial | (show _ ≠ _; omega))
          replace hk := hk.tr (kp6.of (fun r (h : 2000 ≤ r) => by first | trivial | (show _ ≠ _; omega)))
          replace hC := cwm_kp hC kp6 (by first | trivial | (show _ ≠ _; omega))
          have hq6 := f6
          refine V_astore hx dL_law_417 [(16, .ref (q6)), (15, .int (iZ (loF T c))), (14, .int (iZ (bz (T (7 + 8 * c) 1 = T (7 + 8 * c) 0)))), (13, .int (iZ ((c : Int)))), (12, .int (iZ (kk))), (11, .ref (qd)), (10, .int (iZ (rr))), (9, .int (iZ (z0))), (7, .long dg), (6, .int (iZ (vv))), (5, .int (iZ (tm))), (4, .int (iZ (mm))), (3, .int (iZ (nn))), (2, .ref (sp)), (1, .ref ((ad 0))), (0, .ref (b))] (by decide) rfl ?_
          refine V_iload_n hx dL_law_419 12 rfl ?_
          refine M_newa hx hM6 1002 (nd T) (by omega) (by omega) (by dsimp only [rmA, rmX, rmN, room_1]; omega) (by dsimp only [rmA, rmX, rmN, room_1]; omega) dL_law_420 (fun q7 ws7 M7 hM7 f7 fr7 hn7 kp7 => ?_)
          replace hq6 := kp7 _ _ _ hq6 trivial
          replace hS := sim_kp hS h6 kp7 (fun r hr => by first | trivial | (show _ ≠ _; omega))
          replace hk := hk.tr (kp7.of (fun r (h : 2000 ≤ r) => by first | trivial | (show _ ≠ _; omega)))
          replace hC := cwm_kp hC kp7 (by first | trivial | (show _ ≠ _; omega))
          have hq7 := f7
          refine V_astore hx dL_law_422 [(17, .ref (q7)), (16, .ref (q6)), (15, .int (iZ (loF T c))), (14, .int (iZ (bz (T (7 + 8 * c) 1 = T (7 + 8 * c) 0)))), (13, .int (iZ ((c : Int)))), (12, .int (iZ (kk))), (11, .ref (qd)), (10, .int (iZ (rr))), (9, .int (iZ (z0))), (7, .long dg), (6, .int (iZ (vv))), (5, .int (iZ (tm))), (4, .int (iZ (mm))), (3, .int (iZ (nn))), (2, .ref (sp)), (1, .ref ((ad 0))), (0, .ref (b))] (by decide) rfl ?_
          refine V_iload_n hx dL_law_424 13 rfl ?_
          refine M_newa hx hM7 1003 (nd T) (by omega) (by omega) (by dsimp only [rmA, rmX, rmN, room_1]; omega) (by dsimp only [rmA, rmX, rmN, room_1]; omega) dL_law_425 (fun q8 ws8 M8 hM8 f8 fr8 hn8 kp8 => ?_)
          replace hq6 := kp8 _ _ _ hq6 trivial
          replace hq7 := kp8 _ _ _ hq7 trivial
          replace hS := sim_kp hS h6 kp8 (fun r hr => by first | trivial | (show _ ≠ _; omega))
          replace hk := hk.tr (kp8.of (fun r (h : 2000 ≤ r) => by first | trivial | (show _ ≠ _; omega)))
          replace hC := cwm_kp hC kp8 (by first | trivial | (show _ ≠ _; omega))
          have hq8 := f8
          refine V_astore hx dL_law_427 [(18, .ref (q8)), (17, .ref (q7)), (16, .ref (q6)), (15, .int (iZ (loF T c))), (14, .int (iZ (bz (T (7 + 8 * c) 1 = T (7 + 8 * c) 0)))), (13, .int (iZ ((c : Int)))), (12, .int (iZ (kk))), (11, .ref (qd)), (10, .int (iZ (rr))), (9, .int (iZ (z0))), (7, .long dg), (6, .int (iZ (vv))), (5, .int (iZ (tm))), (4, .int (iZ (mm))), (3, .int (iZ (nn))), (2, .ref (sp)), (1, .ref ((ad 0))), (0, .ref (b))] (by decide) rfl ?_
          refine V_iload hx dL_law_429 13 rfl ?_
          refine M_newz hx hM8 1004 (nc T) (by omega) (by omega) (by dsimp only [rmA, rmX, rmN, room_1]; omega) (by dsimp only [rmA, rmX, rmN, room_1]; omega) dL_law_431 (fun q9 ws9 M9 hM9 f9 fr9 hn9 kp9 => ?_)
          replace hq6 := kp9 _ _ _ hq6 trivial
          replace hq7 := kp9 _ _ _ hq7 trivial
          replace hq8 := kp9 _ _ _ hq8 trivial
          replace hS := sim_kp hS h6 kp9 (fun r hr => by first | trivial | (show _ ≠ _; omega))
          replace hk := hk.tr (kp9.of (fun r (h : 2000 ≤ r) => by first | trivial | (show _ ≠ _; omega)))
          replace hC := cwm_kp hC kp9 (by first | trivial | (show _ ≠ _; omega))
          have hq9 := f9
          refine V_astore hx dL_law_433 [(19, .ref (q9)), (18, .ref (q8)), (17, .ref (q7)), (16, .ref (q6)), (15, .int (iZ (loF T c))), (14, .int (iZ (bz (T (7 + 8 * c) 1 = T (7 + 8 * c) 0)))), (13, .int (iZ ((c : Int)))), (12, .int (iZ (kk))), (11, .ref (qd)), (10, .int (iZ (rr))), (9, .int (iZ (z0))), (7, .long dg), (6, .int (iZ (vv))), (5, .int (iZ (tm))), (4, .int (iZ (mm))), (3, .int (iZ (nn))), (2, .ref (sp)), (1, .ref ((ad 0))), (0, .ref (b))] (by decide) rfl ?_
          refine V_aload_n hx dL_law_435 17 rfl ?_
          refine V_iload hx dL_law_436 6 rfl ?_
          refine V_iconst hx dL_law_438 ?_
          refine M_callX hx hz hM9 hC hA (x_told l hst T (wf_shp hw (by omega)) (c := ((c : Nat) : Int)) (what := 5) ⟨by omega, by omega⟩ ⟨by decide, by decide⟩) rfl cw_L_129 (RMa (by dsimp only [rmA, rmN, rmX, room_1]; omega) (by dsimp only [rmA, rmN, rmX, room_1]; omega) (by dsimp only [rmA, rmN, rmX, room_1]; omega) (by dsimp only [rmA, rmN, rmX, room_1]; omega)) rfl rfl (Nat.le_of_ble_eq_true rfl) dL_law_439 _ _ rfl rfl (fun E hE9 => absurd (show _ ∧ _ from ⟨⟨by omega, by omega⟩, ⟨by omega, by omega⟩⟩) hE9.2) (fun z10 w10 e10 => ?_)
          obtain ⟨-, rfl, rfl⟩ := e10
          refine ⟨P, T, rfl, fun ws10 M10 hM10 hC9 kp10 => ?_⟩
          replace hq6 := kp10 _ _ _ hq6 (by show _ ≠ _; omega)
          replace hq7 := kp10 _ _ _ hq7 (by show _ ≠ _; omega)
          replace hq8 := kp10 _ _ _ hq8 (by show _ ≠ _; omega)
          replace hq9 := kp10 _ _ _ hq9 (by show _ ≠ _; omega)
          replace hS := sim_kp hS h6 kp10 (fun r hr => by first | trivial | (show _ ≠ _; omega))
          replace hk := hk.tr (kp10.of (fun r (h : 2000 ≤ r) => by first | trivial | (show _ ≠ _; omega)))
          have hC := hC9
          refine V_top (b := sm 8 (wrF T (7 + 8 * c))) rfl ?_
          refine V_istore hx dL_law_442 [(20, .int (iZ (sm 8 (wrF T (7 + 8 * c))))), (19, .ref (q9)), (18, .ref (q8)), (17, .ref (q7)), (16, .ref (q6)), (15, .int (iZ (loF T c))), (14, .int (iZ (bz (T (7 + 8 * c) 1 = T (7 + 8 * c) 0)))), (13, .int (iZ ((c : Int)))), (12, .int (iZ (kk))), (11, .ref (qd)), (10, .int (iZ (rr))), (9, .int (iZ (z0))), (7, .long dg), (6, .int (iZ (vv))), (5, .int (iZ (tm))), (4, .int (iZ (mm))), (3, .int (iZ (nn))), (2, .ref (sp)), (1, .ref ((ad 0))), (0, .ref (b))] (by decide) rfl ?_
          refine V_iconst hx dL_law_444 ?_
          refine V_istore hx dL_law_445 [(21, .int (iZ (0))), (20, .int (iZ (sm 8 (wrF T (7 + 8 * c))))), (19, .ref (q9)), (18, .ref (q8)), (17, .ref (q7)), (16, .ref (q6)), (15, .int (iZ (loF T c))), (14, .int (iZ (bz (T (7 + 8 * c) 1 = T (7 + 8 * c) 0)))), (13, .int (iZ ((c : Int)))), (12, .int (iZ (kk))), (11, .ref (qd)), (10, .int (iZ (rr))), (9, .int (iZ (z0))), (7, .long dg), (6, .int (iZ (vv))), (5, .int (iZ (tm))), (4, .int (iZ (mm))), (3, .int (iZ (nn))), (2, .ref (sp)), (1, .ref ((ad 0))), (0, .ref (b))] (by decide) rfl ?_
          refine V_widen (k' := k0 + 22) (n' := n0 + 130) (by first | omega | (dsimp only [rmA, rmX, rmN]; omega)) (by first | omega | (dsimp only [rmA, rmX, rmN]; omega)) ?_
          have hL447 : ∀ (n d : Nat) (w1 : va_W) (N1 : MM) (P : Nat → TS), nd T < d + n → d ≤ nd T → HM N1 w1 → CWM g ad N1 P T → SIM g N1 sp cl T → RG (P 1) → KP (fun r => 2000 ≤ r) N N1 → AR g 1001 N1 q6 (nd T) d (alT T c) → AR g 1002 N1 q7 (nd T) d (T 1) → AR g 1003 N1 q8 (nd T) d (T 2) → ZR g 1004 N1 q9 (nc T) 0 (clP T c) → V x (k0 + 22 + 6 * d) (n0 + 130 + 36 * d) w1 447 [(21, .int (iZ ((d : Int)))), (20, .int (iZ (sm 8 (wrF T (7 + 8 * c))))), (19, .ref (q9)), (18, .ref (q8)), (17, .ref (q7)), (16, .ref (q6)), (15, .int (iZ (loF T c))), (14, .int (iZ (bz (T (7 + 8 * c) 1 = T (7 + 8 * c) 0)))), (13, .int (iZ ((c : Int)))), (12, .int (iZ (kk))), (11, .ref (qd)), (10, .int (iZ (rr))), (9, .int (iZ (z0))), (7, .long dg), (6, .int (iZ (vv))), (5, .int (iZ (tm))), (4, .int (iZ (mm))), (3, .int (iZ (nn))), (2, .ref (sp)), (1, .ref ((ad 0))), (0, .ref (b))] [] := by
            intro n; induction n with
            | zero => intro d w1 N1 P g1 g2; exact absurd g1 (by omega)
            | succ n ihd =>
              intro d w1 N1 P g1 g2 hN1 hC hS hP1 hk hA1 hA2 hA3 hA4
              refine V_iload hx dL_law_447 0 rfl ?_
              refine V_iload_n hx dL_law_449 17 rfl ?_
              refine V_icmp_ge hx dL_law_450 496 (by decide) ⟨by omega, by omega⟩ (by first | assumption | exact ⟨by omega, by omega⟩) (fun h450 => ?_) (fun h450 => ?_)
              · refine V_iconst hx dL_law_496 ?_
                refine V_istore hx dL_law_497 [(21, .int (iZ (0))), (20, .int (iZ (sm 8 (wrF T (7 + 8 * c))))), (19, .ref (q9)), (18, .ref (q8)), (17, .ref (q7)), (16, .ref (q6)), (15, .int (iZ (loF T c))), (14, .int (iZ (bz (T (7 + 8 * c) 1 = T (7 + 8 * c) 0)))), (13, .int (iZ ((c : Int)))), (12, .int (iZ (kk))), (11, .ref (qd)), (10, .int (iZ (rr))), (9, .int (iZ (z0))), (7, .long dg), (6, .int (iZ (vv))), (5, .int (iZ (tm))), (4, .int (iZ (mm))), (3, .int (iZ (nn))), (2, .ref (sp)), (1, .ref ((ad 0))), (0, .ref (b))] (by decide) rfl ?_
                refine V_widen (k' := k0 + 70 + 2 * 0) (n' := n0 + 418 + 12 * 0) (by first | omega | (dsimp only [rmA, rmX, rmN]; omega)) (by first | omega | (dsimp only [rmA, rmX, rmN]; omega)) ?_
                have hL499 : ∀ (n b9 : Nat) (w1 : va_W) (N1 : MM), nc T < b9 + n → b9 ≤ nc T → HM N1 w1 → CWM g ad N1 P T → SIM g N1 sp cl T → KP (fun r => 2000 ≤ r) N N1 → AR g 1001 N1 q6 (nd T) (nd T) (alT T c) → AR g 1002 N1 q7 (nd T) (nd T) (T 1) → AR g 1003 N1 q8 (nd T) (nd T) (T 2) → ZR g 1004 N1 q9 (nc T) b9 (clP T c) → V x (k0 + 70 + 2 * b9) (n0 + 418 + 12 * b9) w1 499 [(21, .int (iZ ((b9 : Int)))), (20, .int (iZ (sm 8 (wrF T (7 + 8 * c))))), (19, .ref (q9)), (18, .ref (q8)), (17, .ref (q7)), (16, .ref (q6)), (15, .int (iZ (loF T c))), (14, .int (iZ (bz (T (7 + 8 * c) 1 = T (7 + 8 * c) 0)))), (13, .int (iZ ((c : Int)))), (12, .int (iZ (kk))), (11, .ref (qd)), (10, .int (iZ (rr))), (9, .int (iZ (z0))), (7, .long dg), (6, .int (iZ (vv))), (5, .int (iZ (tm))), (4, .int (iZ (mm))), (3, .int (iZ (nn))), (2, .ref (sp)), (1, .ref ((ad 0))), (0, .ref (b))] [] := by
                  intro n; induction n with
                  | zero => intro b9 w1 N1 g1 g2; exact absurd g1 (by omega)
                  | succ n ihb =>
                    intro b9 w1 N1 g1 g2 hN1 hC hS hk hA1 hA2 hA3 hA4
                    refine V_iload hx dL_law_499 0 rfl ?_
                    refine V_iload hx dL_law_501 16 rfl ?_
                    refine V_icmp_ge hx dL_law_503 525 (by decide) ⟨by omega, by omega⟩ (by first | assumption | exact ⟨by omega, by omega⟩) (fun h503 => ?_) (fun h503 => ?_)
                    · have hbn : b9 = nc T := by omega
                      rw [hbn] at hA4
                      refine V_aload_n hx dL_law_525 19 rfl ?_
                      refine V_iload hx dL_law_526 8 rfl ?_
                      refine M_callX hx hz hN1 hC hA (x_turn l hst T (wf_shp hw (by omega)) (c := ((c : Nat) : Int)) ⟨by omega, by omega⟩ (fun _ _ => wf_tkok hw (by omega) hci)) rfl cw_L_93 (RMa (by dsimp only [rmA, rmN, rmX, room_1]; omega) (by dsimp only [rmA, rmN, rmX, room_1]; omega) (by dsimp only [rmA, rmN, rmX, room_1]; omega) (by dsimp only [rmA, rmN, rmX, room_1]; omega)) rfl rfl (Nat.le_of_ble_eq_true rfl) dL_law_528 _ _ rfl rfl (fun E hE9 => by rcases hE9 with ⟨-, h9⟩ | ⟨-, -, h9⟩; exact absurd (show _ ∧ _ from ⟨by omega, by omega⟩) h9; exact absurd haw h9) (fun z11 w11 e11 => ?_)
                      obtain ⟨-, rfl, rfl⟩ := e11
                      refine ⟨P, (tkT T c), rfl, fun ws11 M11 hM11 hC9 kp11 => ?_⟩
                      replace hS := sim_kp hS h6 kp11 (fun r hr => by first | trivial | (show _ ≠ _; omega))
                      replace hk := hk.tr (kp11.of (fun r (h : 2000 ≤ r) => by first | trivial | (show _ ≠ _; omega)))
                      replace hA1 := ar_kp hA1 kp11 (by first | trivial | (show _ ≠ _; omega))
                      replace hA2 := ar_kp hA2 kp11 (by first | trivial | (show _ ≠ _; omega))
                      replace hA3 := ar_kp hA3 kp11 (by first | trivial | (show _ ≠ _; omega))
                      replace hA4 := zr_kp hA4 kp11 (by first | trivial | (show _ ≠ _; omega))
                      have hC := hC9
                      refine V_top (b := tkV T c) rfl ?_
                      refine V_istore hx dL_law_531 [(21, .int (iZ (tkV T c))), (20, .int (iZ (sm 8 (wrF T (7 + 8 * c))))), (19, .ref (q9)), (18, .ref (q8)), (17, .ref (q7)), (16, .ref (q6)), (15, .int (iZ (loF T c))), (14, .int (iZ (bz (T (7 + 8 * c) 1 = T (7 + 8 * c) 0)))), (13, .int (iZ ((c : Int)))), (12, .int (iZ (kk))), (11, .ref (qd)), (10, .int (iZ (rr))), (9, .int (iZ (z0))), (7, .long dg), (6, .int (iZ (vv))), (5, .int (iZ (tm))), (4, .int (iZ (mm))), (3, .int (iZ (nn))), (2, .ref (sp)), (1, .ref ((ad 0))), (0, .ref (b))] (by decide) rfl ?_
                      refine V_aload_n hx dL_law_533 18 rfl ?_
                      refine V_iload hx dL_law_534 8 rfl ?_
                      obtain ⟨⟨am, sl, ck, co, h0⟩, -⟩ := id hS
                      obtain ⟨hsp, -⟩ := id h0
                      obtain ⟨i9, hi9⟩ := hM11.at hsp
                      refine V_calli hx (z_turn l hM11 hS hw (by omega) hc) cw_L_90 (RMa (by dsimp only [rmA, rmN, rmX, room_1]; omega) (by dsimp only [rmA, rmN, rmX, room_1]; omega) (by dsimp only [rmA, rmN, rmX, room_1]; omega) (by dsimp only [rmA, rmN, rmX, room_1]; omega)) rfl i9 hi9 rfl rfl (Nat.le_of_ble_eq_true rfl) dL_law_536 _ _ rfl rfl (fun z12 w12 e12 => ?_)
                      obtain ⟨rfl, M12, hM12, hS9, kp12⟩ := e12
                      replace hC := cwm_kp hC kp12 (Nat.le_refl 1000)
                      replace hk := hk.tr (kp12.of (fun r (h : 2000 ≤ r) => by show 1000 ≤ r; omega))
                      replace hA1 := ar_kp hA1 kp12 (by show 1000 ≤ _; omega)
                      replace hA2 := ar_kp hA2 kp12 (by show 1000 ≤ _; omega)
                      replace hA3 := ar_kp hA3 kp12 (by show 1000 ≤ _; omega)
                      replace hA4 := zr_kp hA4 kp12 (by show 1000 ≤ _; omega)
                      have hS := hS9
                      refine V_iload hx dL_law_539 0 rfl ?_
                      refine V_ineS hx dL_law_541 568 (by decide) ?_
                      refine V_widen (k' := k0 + 92) (n' := n0 + 2710) (by first | omega | (dsimp only [rmA, rmX, rmN]; omega)) (by first | omega | (dsimp only [rmA, rmX, rmN]; omega)) ?_
                      have h570 : V x (k0 + 92) (n0 + 2710) w12 570 [(21, .int (iZ (tkV T c))), (20, .int (iZ (sm 8 (wrF T (7 + 8 * c))))), (19, .ref (q9)), (18, .ref (q8)), (17, .ref (q7)), (16, .ref (q6)), (15, .int (iZ (loF T c))), (14, .int (iZ (bz (T (7 + 8 * c) 1 = T (7 + 8 * c) 0)))), (13, .int (iZ ((c : Int)))), (12, .int (iZ (kk))), (11, .ref (qd)), (10, .int (iZ (rr))), (9, .int (iZ (z0))), (7, .long dg), (6, .int (iZ (vv))), (5, .int (iZ (tm))), (4, .int (iZ (mm))), (3, .int (iZ (nn))), (2, .ref (sp)), (1, .ref ((ad 0))), (0, .ref (b))] [] := by
                        refine V_iconst hx dL_law_570 ?_
                        refine V_istore hx dL_law_571 [(22, .int (iZ (0))), (21, .int (iZ (tkV T c))), (20, .int (iZ (sm 8 (wrF T (7 + 8 * c))))), (19, .ref (q9)), (18, .ref (q8)), (17, .ref (q7)), (16, .ref (q6)), (15, .int (iZ (loF T c))), (14, .int (iZ (bz (T (7 + 8 * c) 1 = T (7 + 8 * c) 0)))), (13, .int (iZ ((c : Int)))), (12, .int (iZ (kk))), (11, .ref (qd)), (10, .int (iZ (rr))), (9, .int (iZ (z0))), (7, .long dg), (6, .int (iZ (vv))), (5, .int (iZ (tm))), (4, .int (iZ (mm))), (3, .int (iZ (nn))), (2, .ref (sp)), (1, .ref ((ad 0))), (0, .ref (b))] (by decide) rfl ?_
                        refine V_iconst hx dL_law_573 ?_
                        refine V_istore hx dL_law_574 [(23, .int (iZ (0))), (22, .int (iZ (0))), (21, .int (iZ (tkV T c))), (20, .int (iZ (sm 8 (wrF T (7 + 8 * c))))), (19, .ref (q9)), (18, .ref (q8)), (17, .ref (q7)), (16, .ref (q6)), (15, .int (iZ (loF T c))), (14, .int (iZ (bz (T (7 + 8 * c) 1 = T (7 + 8 * c) 0)))), (13, .int (iZ ((c : Int)))), (12, .int (iZ (kk))), (11, .ref (qd)), (10, .int (iZ (rr))), (9, .int (iZ (z0))), (7, .long dg), (6, .int (iZ (vv))), (5, .int (iZ (tm))), (4, .int (iZ (mm))), (3, .int (iZ (nn))), (2, .ref (sp)), (1, .ref ((ad 0))), (0, .ref (b))] (by decide) rfl ?_
                        refine V_widen (k' := k0 + 92 + 8 * 0) (n' := n0 + 2710 + 48 * 0) (by first | omega | (dsimp only [rmA, rmX, rmN]; omega)) (by first | omega | (dsimp only [rmA, rmX, rmN]; omega)) ?_
                        have hL576 : ∀ (n d : Nat) (w1 : va_W) (N1 : MM), nd T < d + n → d ≤ nd T → HM N1 w1 → CWM g ad N1 P (tkT T c) → SIM g N1 sp cl (tkT T c) → KP (fun r => 2000 ≤ r) N N1 → AR g 1001 N1 q6 (nd T) (nd T) (alT T c) → AR g 1002 N1 q7 (nd T) (nd T) (T 1) → AR g 1003 N1 q8 (nd T) (nd T) (T 2) → ZR g 1004 N1 q9 (nc T) (nc T) (clP T c) → V x (k0 + 92 + 8 * d) (n0 + 2710 + 48 * d) w1 576 [(23, .int (iZ ((d : Int)))), (22, .int (iZ (sm d (chF T c)))), (21, .int (iZ (tkV T c))), (20, .int (iZ (sm 8 (wrF T (7 + 8 * c))))), (19, .ref (q9)), (18, .ref (q8)), (17, .ref (q7)), (16, .ref (q6)), (13, .int (iZ ((c : Int)))), (12, .int (iZ (kk))), (11, .ref (qd)), (10, .int (iZ (rr))), (9, .int (iZ (z0))), (7, .long dg), (6, .int (iZ (vv))), (5, .int (iZ (tm))), (4, .int (iZ (mm))), (3, .int (iZ (nn))), (2, .ref (sp)), (1, .ref ((ad 0))), (0, .ref (b))] [] := by
                          intro n; induction n with
                          | zero => intro d w1 N1 g1 g2; exact absurd g1 (by omega)
                          | succ n ihd =>
                            intro d w1 N1 g1 g2 hN1 hC hS hk hA1 hA2 hA3 hA4
                            refine V_iload hx dL_law_576 0 rfl ?_
                            refine V_iload_n hx dL_law_578 17 rfl ?_
                            refine V_icmp_ge hx dL_law_579 674 (by decide) ⟨by omega, by omega⟩ (by first | assumption | exact ⟨by omega, by omega⟩) (fun h579 => ?_) (fun h579 => ?_)
                            · refine V_widen (k' := k0 + 156) (n' := n0 + 3094) (by first | omega | (dsimp only [rmA, rmX, rmN]; omega)) (by first | omega | (dsimp only [rmA, rmX, rmN]; omega)) ?_
                              have h691 : V x (k0 + 156) (n0 + 3094) w1 691 [(23, .int (iZ ((d : Int)))), (22, .int (iZ (sm d (chF T c)))), (21, .int (iZ (tkV T c))), (20, .int (iZ (sm 8 (wrF T (7 + 8 * c))))), (19, .ref (q9)), (18, .ref (q8)), (17, .ref (q7)), (16, .ref (q6)), (13, .int (iZ ((c : Int)))), (12, .int (iZ (kk))), (11, .ref (qd)), (10, .int (iZ (rr))), (9, .int (iZ (z0))), (7, .long dg), (6, .int (iZ (vv))), (5, .int (iZ (tm))), (4, .int (iZ (mm))), (3, .int (iZ (nn))), (2, .ref (sp)), (1, .ref ((ad 0))), (0, .ref (b))] [] := by
                                have h735 : ∀ (w1 : va_W) (N1 : MM), HM N1 w1 → CWM g ad N1 P (tkT T c) → SIM g N1 sp cl (tkT T c) → KP (fun r => 2000 ≤ r) N N1 → ZR g 1004 N1 q9 (nc T) (nc T) (clP T c) → V x (k0 + 163) (n0 + 3136) w1 735 [(21, .int (iZ (tkV T c))), (19, .ref (q9)), (13, .int (iZ ((c : Int)))), (12, .int (iZ (kk))), (11, .ref (qd)), (10, .int (iZ (rr))), (9, .int (iZ (z0))), (7, .long dg), (6, .int (iZ (vv))), (5, .int (iZ (tm))), (4, .int (iZ (mm))), (3, .int (iZ (nn))), (2, .ref (sp)), (1, .ref ((ad 0))), (0, .ref (b))] [] := by
                                  intro w1 N1 hN1 hC hS hk hA4
                                  refine V_iconst hx dL_law_735 ?_
                                  refine V_istore hx dL_law_736 [(23, .int (iZ (0))), (21, .int (iZ (tkV T c))), (19, .ref (q9)), (13, .int (iZ ((c : Int)))), (12, .int (iZ (kk))), (11, .ref (qd)), (10, .int (iZ (rr))), (9, .int (iZ (z0))), (7, .long dg), (6, .int (iZ (vv))), (5, .int (iZ (tm))), (4, .int (iZ (mm))), (3, .int (iZ (nn))), (2, .ref (sp)), (1, .ref ((ad 0))), (0, .ref (b))] (by decide) rfl ?_
                                  refine V_widen (k' := k0 + 163 + 2 * 0) (n' := n0 + 3136 + 12 * 0) (by first | omega | (dsimp only [rmA, rmX, rmN]; omega)) (by first | omega | (dsimp only [rmA, rmX, rmN]; omega)) ?_
                                  have hL738 : ∀ (n b9 : Nat) (w1 : va_W) (N1 : MM), nc T < b9 + n → b9 ≤ nc T → HM N1 w1 → CWM g ad N1 P (tkT T c) → SIM g N1 sp cl (tkT T c) → KP (fun r => 2000 ≤ r) N N1 → ZR g 1004 N1 q9 (nc T) (nc T) (clP T c) → V x (k0 + 163 + 2 * b9) (n0 + 3136 + 12 * b9) w1 738 [(23, .int (iZ ((b9 : Int)))), (21, .int (iZ (tkV T c))), (19, .ref (q9)), (13, .int (iZ ((c : Int)))), (12, .int (iZ (kk))), (11, .ref (qd)), (10, .int (iZ (rr))), (9, .int (iZ (z0))), (7, .long dg), (6, .int (iZ (vv))), (5, .int (iZ (tm))), (4, .int (iZ (mm))), (3, .int (iZ (nn))), (2, .ref (sp)), (1, .ref ((ad 0))), (0, .ref (b))] [] := by
                                    intro n; induction n with
                                    | zero => intro b9 w1 N1 g1 g2; exact absurd g1 (by omega)
                                    | succ n ihb =>
                                      intro b9 w1 N1 g1 g2 hN1 hC hS hk hA4
                                      refine V_iload hx dL_law_738 0 rfl ?_
                                      refine V_iload hx dL_law_740 11 rfl ?_
                                      refine V_icmp_ge hx dL_law_742 779 (by decide) ⟨by omega, by omega⟩ (by first | assumption | exact ⟨by omega, by omega⟩) (fun h742 => ?_) (fun h742 => ?_)
                                      · refine V_widen (k' := k0 + 200) (n' := n0 + 3300) (by first | omega | (dsimp only [rmA, rmX, rmN]; omega)) (by first | omega | (dsimp only [rmA, rmX, rmN]; omega)) ?_
                                        exact V_sub [3, 4, 5, 6, 7, 8, 9, 10, 11, 12, 13, 14, 15] rfl (hNext _ _ _ _ (Or.inr ⟨haw, rfl⟩) hN1 hC hS hP1 hk)
                                      · refine V_iload hx dL_law_745 1 rfl ?_
                                        refine V_iconst hx dL_law_747 ?_
                                        refine V_icmp_ne hx dL_law_748 773 (by decide) (rg_tkV _ _) ⟨by decide, by decide⟩ (fun h748 => ?_) (fun h748 => ?_)
                                        · refine V_iincN hx dL_law_773 0 rfl [(23, .int (iZ (((b9 + 1 : Nat) : Int)))), (21, .int (iZ (tkV T c))), (19, .ref (q9)), (13, .int (iZ ((c : Int)))), (12, .int (iZ (kk))), (11, .ref (qd)), (10, .int (iZ (rr))), (9, .int (iZ (z0))), (7, .long dg), (6, .int (iZ (vv))), (5, .int (iZ (tm))), (4, .int (iZ (mm))), (3, .int (iZ (nn))), (2, .ref (sp)), (1, .ref ((ad 0))), (0, .ref (b))] (by decide) rfl ?_
                                          refine V_goto hx dL_law_776 738 (by decide) ?_
                                          refine V_widen (k' := k0 + 163 + 2 * (b9 + 1)) (n' := n0 + 3136 + 12 * (b9 + 1)) (by first | omega | (dsimp only [rmA, rmX, rmN]; omega)) (by first | omega | (dsimp only [rmA, rmX, rmN]; omega)) ?_
                                          exact V_sub [0, 1, 2, 3, 4, 5, 6, 7, 8, 9, 10, 11, 12, 13, 14, 15] rfl (ihb (b9 + 1) _ _ (by omega) (by omega) hN1 hC hS hk hA4)
                                        · refine V_aload hx dL_law_751 2 rfl ?_
                                          refine V_iload hx dL_law_753 0 rfl ?_
                                          obtain ⟨ua, hqa, hua⟩ := id hA4
                                          obtain ⟨i9, hi9⟩ := hN1.at hqa
                                          refine V_zald hx (by omega) (by omega) (by omega) i9 hi9 (v := bz (clP T c b9)) (hua b9 (by omega)) dL_law_755 ?_
                                          refine V_ifb_eq hx dL_law_756 773 (by decide) (fun h756 => ?_) (fun h756 => ?_)
                                          · refine V_iincN hx dL_law_773 0 rfl [(23, .int (iZ (((b9 + 1 : Nat) : Int)))), (21, .int (iZ (tkV T c))), (19, .ref (q9)), (13, .int (iZ ((c : Int)))), (12, .int (iZ (kk))), (11, .ref (qd)), (10, .int (iZ (rr))), (9, .int (iZ (z0))), (7, .long dg), (6, .int (iZ (vv))), (5, .int (iZ (tm))), (4, .int (iZ (mm))), (3, .int (iZ (nn))), (2, .ref (sp)), (1, .ref ((ad 0))), (0, .ref (b))] (by decide) rfl ?_
                                            refine V_goto hx dL_law_776 738 (by decide) ?_
                                            refine V_widen (k' := k0 + 163 + 2 * (b9 + 1)) (n' := n0 + 3136 + 12 * (b9 + 1)) (by first | omega | (dsimp only [rmA, rmX, rmN]; omega)) (by first | omega | (dsimp only [rmA, rmX, rmN]; omega)) ?_
                                            exact V_sub [0, 1, 2, 3, 4, 5, 6, 7, 8, 9, 10, 11, 12, 13, 14, 15] rfl (ihb (b9 + 1) _ _ (by omega) (by omega) hN1 hC hS hk hA4)
                                          · have h1t := h748
                                            have hcb := h756
                                            refine V_aload_n hx dL_law_759 14 rfl ?_
                                            refine V_iload hx dL_law_760 0 rfl ?_
                                            refine V_bipush hx dL_law_762 rfl ?_
                                            refine M_callX hx hz hN1 hC hA (x_told l hst (tkT T c) (wf_shp hT9 (by omega)) (c := ((b9 : Nat) : Int)) (what := 6) ⟨by omega, by omega⟩ ⟨by decide, by decide⟩) rfl cw_L_129 (RMa (by dsimp only [rmA, rmN, rmX, room_1]; omega) (by dsimp only [rmA, rmN, rmX, room_1]; omega) (by dsimp only [rmA, rmN, rmX, room_1]; omega) (by dsimp only [rmA, rmN, rmX, room_1]; omega)) rfl rfl (Nat.le_of_ble_eq_true rfl) dL_law_764 _ _ rfl rfl (fun E hE9 => absurd (show _ ∧ _ from ⟨⟨by omega, by omega⟩, ⟨by omega, by omega⟩⟩) hE9.2) (fun z13 w13 e13 => ?_)
                                            obtain ⟨-, rfl, rfl⟩ := e13
                                            refine ⟨P, (tkT T c), rfl, fun ws13 M13 hM13 hC9 kp13 => ?_⟩
                                            replace hS := sim_kp hS h69 kp13 (fun r hr => by first | trivial | (show _ ≠ _; omega))
                                            replace hk := hk.tr (kp13.of (fun r (h : 2000 ≤ r) => by first | trivial | (show _ ≠ _; omega)))
                                            replace hA4 := zr_kp hA4 kp13 (by first | trivial | (show _ ≠ _; omega))
                                            have hC := hC9
                                            refine V_top (b := 1) (show loF (tkT T c) b9 = 1 from (by rw [(tk_1 h1t).1]; exact cl_lose hI hw (by omega) hcb)) ?_
                                            refine V_iconst hx dL_law_767 ?_
                                            refine V_ieqS hx dL_law_768 773 (by decide) ?_
                                            refine V_iincN hx dL_law_773 0 rfl [(23, .int (iZ (((b9 + 1 : Nat) : Int)))), (21, .int (iZ (tkV T c))), (19, .ref (q9)), (13, .int (iZ ((c : Int)))), (12, .int (iZ (kk))), (11, .ref (qd)), (10, .int (iZ (rr))), (9, .int (iZ (z0))), (7, .long dg), (6, .int (iZ (vv))), (5, .int (iZ (tm))), (4, .int (iZ (mm))), (3, .int (iZ (nn))), (2, .ref (sp)), (1, .ref ((ad 0))), (0, .ref (b))] (by decide) rfl ?_
                                            refine V_goto hx dL_law_776 738 (by decide) ?_
                                            refine V_widen (k' := k0 + 163 + 2 * (b9 + 1)) (n' := n0 + 3136 + 12 * (b9 + 1)) (by first | omega | (dsimp only [rmA, rmX, rmN]; omega)) (by first | omega | (dsimp only [rmA, rmX, rmN]; omega)) ?_
                                            exact V_sub [0, 1, 2, 3, 4, 5, 6, 7, 8, 9, 10, 11, 12, 13, 14, 15] rfl (ihb (b9 + 1) _ _ (by omega) (by omega) hM13 hC hS hk hA4)
                                  exact V_sub [0, 1, 2, 3, 4, 5, 6, 7, 8, 9, 10, 11, 12, 13, 14, 15] rfl (hL738 7 0 _ _ (by omega) (by omega) hN1 hC hS hk hA4)
                                refine V_iload hx dL_law_691 2 rfl ?_
                                refine V_iconst hx dL_law_693 ?_
                                refine V_icmp_ne hx dL_law_694 735 (by decide) (rg_tkV _ _) ⟨by decide, by decide⟩ (fun h694 => ?_) (fun h694 => ?_)
                                · refine V_widen (k' := k0 + 163) (n' := n0 + 3136) (by first | omega | (dsimp only [rmA, rmX, rmN]; omega)) (by first | omega | (dsimp only [rmA, rmX, rmN]; omega)) ?_
                                  exact V_sub [2, 4, 8, 9, 10, 11, 12, 13, 14, 15, 16, 17, 18, 19, 20] rfl (h735 _ _ hN1 hC hS hk hA4)
                                · have h1t := h694
                                  have hkp9 : (0 : Int) < kpV (tkT T c) := by have e : tkT T c 0 2 = T 0 2 + 1 := (by rw [(tk_1 h1t).1, cl_0 (by omega), if_pos rfl]); unfold kpV; rw [e]; split <;> omega
                                  refine V_aload_n hx dL_law_697 19 rfl ?_
                                  refine V_iconst hx dL_law_698 ?_
                                  refine V_iconst hx dL_law_699 ?_
                                  refine M_callX hx hz hN1 hC hA (x_closing l hst (tkT T c) (wf_shp hT9 (by omega)) (d := 0) (what := 0) ⟨by decide, by decide⟩ ⟨by decide, by decide⟩) rfl cw_L_139 (RMa (by dsimp only [rmA, rmN, rmX, room_1]; omega) (by dsimp only [rmA, rmN, rmX, room_1]; omega) (by dsimp only [rmA, rmN, rmX, room_1]; omega) (by dsimp only [rmA, rmN, rmX, room_1]; omega)) rfl rfl (Nat.le_of_ble_eq_true rfl) dL_law_700 _ _ rfl rfl (fun E hE9 => absurd (show _ ∧ _ from ⟨⟨by decide, hkp9⟩, ⟨by decide, by decide⟩⟩) hE9.2) (fun z14 w14 e14 => ?_)
                                  obtain ⟨-, rfl, rfl⟩ := e14
                                  refine ⟨P, (tkT T c), rfl, fun ws14 M14 hM14 hC9 kp14 => ?_⟩
                                  replace hS := sim_kp hS h69 kp14 (fun r hr => by first | trivial | (show _ ≠ _; omega))
                                  replace hk := hk.tr (kp14.of (fun r (h : 2000 ≤ r) => by first | trivial | (show _ ≠ _; omega)))
                                  replace hA1 := ar_kp hA1 kp14 (by first | trivial | (show _ ≠ _; omega))
                                  replace hA2 := ar_kp hA2 kp14 (by first | trivial | (show _ ≠ _; omega))
                                  replace hA3 := ar_kp hA3 kp14 (by first | trivial | (show _ ≠ _; omega))
                                  replace hA4 := zr_kp hA4 kp14 (by first | trivial | (show _ ≠ _; omega))
                                  have hC := hC9
                                  refine V_top (b := ((c : Nat) : Int)) (show tkT T c 4 0 = ((c : Nat) : Int) from (by rw [(tk_1 h1t).1]; exact (cl_45 (by omega)).1)) ?_
                                  refine V_iload hx dL_law_703 8 rfl ?_
                                  refine V_ineS hx dL_law_705 733 (by decide) ?_
                                  refine V_aload_n hx dL_law_708 19 rfl ?_
                                  refine V_iconst hx dL_law_709 ?_
                                  refine V_iconst hx dL_law_710 ?_
                                  refine M_callX hx hz hM14 hC hA (x_closing l hst (tkT T c) (wf_shp hT9 (by omega)) (d := 0) (what := 1) ⟨by decide, by decide⟩ ⟨by decide, by decide⟩) rfl cw_L_139 (RMa (by dsimp only [rmA, rmN, rmX, room_1]; omega) (by dsimp only [rmA, rmN, rmX, room_1]; omega) (by dsimp only [rmA, rmN, rmX, room_1]; omega) (by dsimp only [rmA, rmN, rmX, room_1]; omega)) rfl rfl (Nat.le_of_ble_eq_true rfl) dL_law_711 _ _ rfl rfl (fun E hE9 => absurd (show _ ∧ _ from ⟨⟨by decide, hkp9⟩, ⟨by decide, by decide⟩⟩) hE9.2) (fun z15 w15 e15 => ?_)
                                  obtain ⟨-, rfl, rfl⟩ := e15
                                  refine ⟨P, (tkT T c), rfl, fun ws15 M15 hM15 hC9 kp15 => ?_⟩
                                  replace hS := sim_kp hS h69 kp15 (fun r hr => by first | trivial | (show _ ≠ _; omega))
                                  replace hk := hk.tr (kp15.of (fun r (h : 2000 ≤ r) => by first | trivial | (show _ ≠ _; omega)))
                                  replace hA1 := ar_kp hA1 kp15 (by first | trivial | (show _ ≠ _; omega))
                                  replace hA2 := ar_kp hA2 kp15 (by first | trivial | (show _ ≠ _; omega))
                                  replace hA3 := ar_kp hA3 kp15 (by first | trivial | (show _ ≠ _; omega))
                                  replace hA4 := zr_kp hA4 kp15 (by first | trivial | (show _ ≠ _; omega))
                                  have hC := hC9
                                  refine V_top (b := sm 8 (wrF T (7 + 8 * c))) (show tkT T c 5 0 = _ from (by rw [(tk_1 h1t).1]; exact (cl_45 (by omega)).2.1)) ?_
                                  refine V_iload hx dL_law_714 3 rfl ?_
                                  refine V_ineS hx dL_law_716 733 (by decide) ?_
                                  refine V_aload_n hx dL_law_719 19 rfl ?_
                                  refine V_iconst hx dL_law_720 ?_
                                  refine V_iconst hx dL_law_721 ?_
                                  refine M_callX hx hz hM15 hC hA (x_closing l hst (tkT T c) (wf_shp hT9 (by omega)) (d := 0) (what := 2) ⟨by decide, by decide⟩ ⟨by decide, by decide⟩) rfl cw_L_139 (RMa (by dsimp only [rmA, rmN, rmX, room_1]; omega) (by dsimp only [rmA, rmN, rmX, room_1]; omega) (by dsimp only [rmA, rmN, rmX, room_1]; omega) (by dsimp only [rmA, rmN, rmX, room_1]; omega)) rfl rfl (Nat.le_of_ble_eq_true rfl) dL_law_722 _ _ rfl rfl (fun E hE9 => absurd (show _ ∧ _ from ⟨⟨by decide, hkp9⟩, ⟨by decide, by decide⟩⟩) hE9.2) (fun z16 w16 e16 => ?_)
                                  obtain ⟨-, rfl, rfl⟩ := e16
                                  refine ⟨P, (tkT T c), rfl, fun ws16 M16 hM16 hC9 kp16 => ?_⟩
                                  replace hS := sim_kp hS h69 kp16 (fun r hr => by first | trivial | (show _ ≠ _; omega))
                                  replace hk := hk.tr (kp16.of (fun r (h : 2000 ≤ r) => by first | trivial | (show _ ≠ _; omega)))
                                  replace hA1 := ar_kp hA1 kp16 (by first | trivial | (show _ ≠ _; omega))
                                  replace hA2 := ar_kp hA2 kp16 (by first | trivial | (show _ ≠ _; omega))
                                  replace hA3 := ar_kp hA3 kp16 (by first | trivial | (show _ ≠ _; omega))
                                  replace hA4 := zr_kp hA4 kp16 (by first | trivial | (show _ ≠ _; omega))
                                  have hC := hC9
                                  refine V_top (b := sm (nd (tkT T c)) (tkT T c 1)) (show tkT T c 6 0 = _ from (by rw [(tk_1 h1t).1]; exact (cl_45 (by omega)).2.2)) ?_
                                  refine V_aload_n hx dL_law_725 19 rfl ?_
                                  refine V_iconst hx dL_law_726 ?_
                                  refine M_callX hx hz hM16 hC hA (x_count l hst (tkT T c) (wf_shp hT9 (by omega)) (what := 5) ⟨by decide, by decide⟩) rfl cw_L_116 (RMa (by dsimp only [rmA, rmN, rmX, room_1]; omega) (by dsimp only [rmA, rmN, rmX, room_1]; omega) (by dsimp only [rmA, rmN, rmX, room_1]; omega) (by dsimp only [rmA, rmN, rmX, room_1]; omega)) rfl rfl (Nat.le_of_ble_eq_true rfl) dL_law_727 _ _ rfl rfl (fun E hE9 => absurd (show _ ∧ _ from ⟨by decide, by decide⟩) hE9.2) (fun z17 w17 e17 => ?_)
                                  obtain ⟨-, rfl, rfl⟩ := e17
                                  refine ⟨P, (tkT T c), rfl, fun ws17 M17 hM17 hC9 kp17 => ?_⟩
                                  replace hS := sim_kp hS h69 kp17 (fun r hr => by first | trivial | (show _ ≠ _; omega))
                                  replace hk := hk.tr (kp17.of (fun r (h : 2000 ≤ r) => by first | trivial | (show _ ≠ _; omega)))
                                  replace hA1 := ar_kp hA1 kp17 (by first | trivial | (show _ ≠ _; omega))
                                  replace hA2 := ar_kp hA2 kp17 (by first | trivial | (show _ ≠ _; omega))
                                  replace hA3 := ar_kp hA3 kp17 (by first | trivial | (show _ ≠ _; omega))
                                  replace hA4 := zr_kp hA4 kp17 (by first | trivial | (show _ ≠ _; omega))
                                  have hC := hC9
                                  refine V_top (b := sm (nd (tkT T c)) (tkT T c 1)) rfl ?_
                                  refine V_ieqS hx dL_law_730 735 (by decide) ?_
                                  refine V_widen (k' := k0 + 163) (n' := n0 + 3136) (by first | omega | (dsimp only [rmA, rmX, rmN]; omega)) (by first | omega | (dsimp only [rmA, rmX, rmN]; omega)) ?_
                                  exact V_sub [2, 4, 8, 9, 10, 11, 12, 13, 14, 15, 16, 17, 18, 19, 20] rfl (h735 _ _ hM17 hC hS hk hA4)
                              refine V_iload hx dL_law_674 1 rfl ?_
                              refine V_iload hx dL_law_676 2 rfl ?_
                              refine V_iconst hx dL_law_678 ?_
                              refine V_icmp_ne hx dL_law_679 687 (by decide) (rg_tkV _ _) ⟨by decide, by decide⟩ (fun h679 => ?_) (fun h679 => ?_)
                              · refine V_iconst hx dL_law_687 ?_
                                refine V_top (b := sm d (chF T c)) (ch_0 h679 d).symm ?_
                                refine V_ineS hx dL_law_688 733 (by decide) ?_
                                exact h691
                              · refine V_iload hx dL_law_682 3 rfl ?_
                                refine V_goto hx dL_law_684 688 (by decide) ?_
                                refine V_top (b := sm d (chF T c)) (by rw [show d = nd T by omega]; exact (ch_1 hI hw hci h679).symm) ?_
                                refine V_ineS hx dL_law_688 733 (by decide) ?_
                                exact h691
                            · refine V_iload hx dL_law_582 1 rfl ?_
                              refine V_aload_n hx dL_law_584 19 rfl ?_
                              refine V_iload hx dL_law_585 0 rfl ?_
                              refine V_iconst hx dL_law_587 ?_
                              refine M_callX hx hz hN1 hC hA (x_drawer l hst (tkT T c) (wf_shp hT9 (by omega)) (d := ((d : Nat) : Int)) (what := 1) ⟨by omega, by omega⟩ ⟨by decide, by decide⟩) rfl cw_L_113 (RMa (by dsimp only [rmA, rmN, rmX, room_1]; omega) (by dsimp only [rmA, rmN, rmX, room_1]; omega) (by dsimp only [rmA, rmN, rmX, room_1]; omega) (by dsimp only [rmA, rmN, rmX, room_1]; omega)) rfl rfl (Nat.le_of_ble_eq_true rfl) dL_law_588 _ _ rfl rfl (fun E hE9 => absurd (show _ ∧ _ from ⟨⟨by omega, by omega⟩, ⟨by omega, by omega⟩⟩) hE9.2) (fun z18 w18 e18 => ?_)
                              obtain ⟨-, rfl, rfl⟩ := e18
                              refine ⟨P, (tkT T c), rfl, fun ws18 M18 hM18 hC9 kp18 => ?_⟩
                              replace hS := sim_kp hS h69 kp18 (fun r hr => by first | trivial | (show _ ≠ _; omega))
                              replace hk := hk.tr (kp18.of (fun r (h : 2000 ≤ r) => by first | trivial | (show _ ≠ _; omega)))
                              replace hA1 := ar_kp hA1 kp18 (by first | trivial | (show _ ≠ _; omega))
                              replace hA2 := ar_kp hA2 kp18 (by first | trivial | (show _ ≠ _; omega))
                              replace hA3 := ar_kp hA3 kp18 (by first | trivial | (show _ ≠ _; omega))
                              replace hA4 := zr_kp hA4 kp18 (by first | trivial | (show _ ≠ _; omega))
                              have hC := hC9
                              refine V_top (b := (tkT T c) 2 d) rfl ?_
                              refine V_aload hx dL_law_591 5 rfl ?_
                              refine V_iload hx dL_law_593 0 rfl ?_
                              obtain ⟨ua, hqa, hua⟩ := id hA3
                              obtain ⟨i9, hi9⟩ := hM18.at hqa
                              refine V_iald hx (by omega) (by omega) (by omega) i9 hi9 (v := T 2 d) (hua d (by omega)) dL_law_595 ?_
                              refine V_widen (k' := k0 + 94 + 8 * d) (n' := n0 + 2722 + 48 * d) (by first | omega | (dsimp only [rmA, rmX, rmN]; omega)) (by first | omega | (dsimp only [rmA, rmX, rmN]; omega)) ?_
                              have h604 : V x (k0 + 94 + 8 * d) (n0 + 2722 + 48 * d) ws18 604 [(23, .int (iZ ((d : Int)))), (22, .int (iZ (sm d (chF T c)))), (21, .int (iZ (tkV T c))), (20, .int (iZ (sm 8 (wrF T (7 + 8 * c))))), (19, .ref (q9)), (18, .ref (q8)), (17, .ref (q7)), (16, .ref (q6)), (13, .int (iZ ((c : Int)))), (12, .int (iZ (kk))), (11, .ref (qd)), (10, .int (iZ (rr))), (9, .int (iZ (z0))), (7, .long dg), (6, .int (iZ (vv))), (5, .int (iZ (tm))), (4, .int (iZ (mm))), (3, .int (iZ (nn))), (2, .ref (sp)), (1, .ref ((ad 0))), (0, .ref (b))] [.int (iZ (chF T c d)), .int (iZ (sm d (chF T c)))] := by
                                refine V_iadd hx dL_law_604 ?_
                                refine V_top (b := sm (d + 1) (chF T c)) rfl ?_
                                refine V_istore hx dL_law_605 [(22, .int (iZ (sm (d + 1) (chF T c)))), (23, .int (iZ ((d : Int)))), (21, .int (iZ (tkV T c))), (20, .int (iZ (sm 8 (wrF T (7 + 8 * c))))), (19, .ref (q9)), (18, .ref (q8)), (17, .ref (q7)), (16, .ref (q6)), (13, .int (iZ ((c : Int)))), (12, .int (iZ (kk))), (11, .ref (qd)), (10, .int (iZ (rr))), (9, .int (iZ (z0))), (7, .long dg), (6, .int (iZ (vv))), (5, .int (iZ (tm))), (4, .int (iZ (mm))), (3, .int (iZ (nn))), (2, .ref (sp)), (1, .ref ((ad 0))), (0, .ref (b))] (by decide) rfl ?_
                                refine V_aload_n hx dL_law_607 19 rfl ?_
                                refine V_iload hx dL_law_608 1 rfl ?_
                                refine V_iconst hx dL_law_610 ?_
                                refine M_callX hx hz hM18 hC hA (x_drawer l hst (tkT T c) (wf_shp hT9 (by omega)) (d := ((d : Nat) : Int)) (what := 0) ⟨by omega, by omega⟩ ⟨by decide, by decide⟩) rfl cw_L_113 (RMa (by dsimp only [rmA, rmN, rmX, room_1]; omega) (by dsimp only [rmA, rmN, rmX, room_1]; omega) (by dsimp only [rmA, rmN, rmX, room_1]; omega) (by dsimp only [rmA, rmN, rmX, room_1]; omega)) rfl rfl (Nat.le_of_ble_eq_true rfl) dL_law_611 _ _ rfl rfl (fun E hE9 => absurd (show _ ∧ _ from ⟨⟨by omega, by omega⟩, ⟨by omega, by omega⟩⟩) hE9.2) (fun z19 w19 e19 => ?_)
                                obtain ⟨-, rfl, rfl⟩ := e19
                                refine ⟨P, (tkT T c), rfl, fun ws19 M19 hM19 hC9 kp19 => ?_⟩
                                replace hS := sim_kp hS h69 kp19 (fun r hr => by first | trivial | (show _ ≠ _; omega))
                                replace hk := hk.tr (kp19.of (fun r (h : 2000 ≤ r) => by first | trivial | (show _ ≠ _; omega)))
                                replace hA1 := ar_kp hA1 kp19 (by first | trivial | (show _ ≠ _; omega))
                                replace hA2 := ar_kp hA2 kp19 (by first | trivial | (show _ ≠ _; omega))
                                replace hA3 := ar_kp hA3 kp19 (by first | trivial | (show _ ≠ _; omega))
                                replace hA4 := zr_kp hA4 kp19 (by first | trivial | (show _ ≠ _; omega))
                                have hC := hC9
                                refine V_top (b := (tkT T c) 1 d) rfl ?_
                                refine V_widen (k' := k0 + 96 + 8 * d) (n' := n0 + 2734 + 48 * d) (by first | omega | (dsimp only [rmA, rmX, rmN]; omega)) (by first | omega | (dsimp only [rmA, rmX, rmN]; omega)) ?_
                                have h636 : V x (k0 + 96 + 8 * d) (n0 + 2734 + 48 * d) ws19 636 [(22, .int (iZ (sm (d + 1) (chF T c)))), (23, .int (iZ ((d : Int)))), (21, .int (iZ (tkV T c))), (20, .int (iZ (sm 8 (wrF T (7 + 8 * c))))), (19, .ref (q9)), (18, .ref (q8)), (17, .ref (q7)), (16, .ref (q6)), (13, .int (iZ ((c : Int)))), (12, .int (iZ (kk))), (11, .ref (qd)), (10, .int (iZ (rr))), (9, .int (iZ (z0))), (7, .long dg), (6, .int (iZ (vv))), (5, .int (iZ (tm))), (4, .int (iZ (mm))), (3, .int (iZ (nn))), (2, .ref (sp)), (1, .ref ((ad 0))), (0, .ref (b))] [] := by
                                  refine V_aload_n hx dL_law_636 19 rfl ?_
                                  refine V_iload hx dL_law_637 1 rfl ?_
                                  refine V_iconst hx dL_law_639 ?_
                                  refine M_callX hx hz hM19 hC hA (x_drawer l hst (tkT T c) (wf_shp hT9 (by omega)) (d := ((d : Nat) : Int)) (what := 1) ⟨by omega, by omega⟩ ⟨by decide, by decide⟩) rfl cw_L_113 (RMa (by dsimp only [rmA, rmN, rmX, room_1]; omega) (by dsimp only [rmA, rmN, rmX, room_1]; omega) (by dsimp only [rmA, rmN, rmX, room_1]; omega) (by dsimp only [rmA, rmN, rmX, room_1]; omega)) rfl rfl (Nat.le_of_ble_eq_true rfl) dL_law_640 _ _ rfl rfl (fun E hE9 => absurd (show _ ∧ _ from ⟨⟨by omega, by omega⟩, ⟨by omega, by omega⟩⟩) hE9.2) (fun z20 w20 e20 => ?_)
                                  obtain ⟨-, rfl, rfl⟩ := e20
                                  refine ⟨P, (tkT T c), rfl, fun ws20 M20 hM20 hC9 kp20 => ?_⟩
                                  replace hS := sim_kp hS h69 kp20 (fun r hr => by first | trivial | (show _ ≠ _; omega))
                                  replace hk := hk.tr (kp20.of (fun r (h : 2000 ≤ r) => by first | trivial | (show _ ≠ _; omega)))
                                  replace hA1 := ar_kp hA1 kp20 (by first | trivial | (show _ ≠ _; omega))
                                  replace hA2 := ar_kp hA2 kp20 (by first | trivial | (show _ ≠ _; omega))
                                  replace hA3 := ar_kp hA3 kp20 (by first | trivial | (show _ ≠ _; omega))
                                  replace hA4 := zr_kp hA4 kp20 (by first | trivial | (show _ ≠ _; omega))
                                  have hC := hC9
                                  refine V_top (b := (tkT T c) 2 d) rfl ?_
                                  refine V_aload hx dL_law_643 5 rfl ?_
                                  refine V_iload hx dL_law_645 1 rfl ?_
                                  obtain ⟨ua, hqa, hua⟩ := id hA3
                                  obtain ⟨i9, hi9⟩ := hM20.at hqa
                                  refine V_iald hx (by omega) (by omega) (by omega) i9 hi9 (v := T 2 d) (hua d (by omega)) dL_law_647 ?_
                                  refine V_icmp_ne hx dL_law_648 668 (by decide) (hT9g _ _) (hT _ _) (fun h648 => ?_) (fun h648 => ?_)
                                  · refine V_iincN hx dL_law_668 1 rfl [(23, .int (iZ (((d + 1 : Nat) : Int)))), (22, .int (iZ (sm (d + 1) (chF T c)))), (21, .int (iZ (tkV T c))), (20, .int (iZ (sm 8 (wrF T (7 + 8 * c))))), (19, .ref (q9)), (18, .ref (q8)), (17, .ref (q7)), (16, .ref (q6)), (13, .int (iZ ((c : Int)))), (12, .int (iZ (kk))), (11, .ref (qd)), (10, .int (iZ (rr))), (9, .int (iZ (z0))), (7, .long dg), (6, .int (iZ (vv))), (5, .int (iZ (tm))), (4, .int (iZ (mm))), (3, .int (iZ (nn))), (2, .ref (sp)), (1, .ref ((ad 0))), (0, .ref (b))] (by decide) rfl ?_
                                    refine V_goto hx dL_law_671 576 (by decide) ?_
                                    refine V_widen (k' := k0 + 92 + 8 * (d + 1)) (n' := n0 + 2710 + 48 * (d + 1)) (by first | omega | (dsimp only [rmA, rmX, rmN]; omega)) (by first | omega | (dsimp only [rmA, rmX, rmN]; omega)) ?_
                                    exact V_sub [0, 1, 2, 3, 4, 5, 6, 7, 8, 9, 10, 11, 12, 13, 14, 15, 16, 17, 18, 19, 20] rfl (ihd (d + 1) _ _ (by omega) (by omega) hM20 hC hS hk hA1 hA2 hA3 hA4)
                                  · refine V_aload_n hx dL_law_651 19 rfl ?_
                                    refine V_iload hx dL_law_652 1 rfl ?_
                                    refine V_iconst hx dL_law_654 ?_
                                    refine M_callX hx hz hM20 hC hA (x_drawer l hst (tkT T c) (wf_shp hT9 (by omega)) (d := ((d : Nat) : Int)) (what := 0) ⟨by omega, by omega⟩ ⟨by decide, by decide⟩) rfl cw_L_113 (RMa (by dsimp only [rmA, rmN, rmX, room_1]; omega) (by dsimp only [rmA, rmN, rmX, room_1]; omega) (by dsimp only [rmA, rmN, rmX, room_1]; omega) (by dsimp only [rmA, rmN, rmX, room_1]; omega)) rfl rfl (Nat.le_of_ble_eq_true rfl) dL_law_655 _ _ rfl rfl (fun E hE9 => absurd (show _ ∧ _ from ⟨⟨by omega, by omega⟩, ⟨by omega, by omega⟩⟩) hE9.2) (fun z21 w21 e21 => ?_)
                                    obtain ⟨-, rfl, rfl⟩ := e21
                                    refine ⟨P, (tkT T c), rfl, fun ws21 M21 hM21 hC9 kp21 => ?_⟩
                                    replace hS := sim_kp hS h69 kp21 (fun r hr => by first | trivial | (show _ ≠ _; omega))
                                    replace hk := hk.tr (kp21.of (fun r (h : 2000 ≤ r) => by first | trivial | (show _ ≠ _; omega)))
                                    replace hA1 := ar_kp hA1 kp21 (by first | trivial | (show _ ≠ _; omega))
                                    replace hA2 := ar_kp hA2 kp21 (by first | trivial | (show _ ≠ _; omega))
                                    replace hA3 := ar_kp hA3 kp21 (by first | trivial | (show _ ≠ _; omega))
                                    replace hA4 := zr_kp hA4 kp21 (by first | trivial | (show _ ≠ _; omega))
                                    have hC := hC9
                                    refine V_top (b := (tkT T c) 1 d) rfl ?_
                                    refine V_aload hx dL_law_658 6 rfl ?_
                                    refine V_iload hx dL_law_660 1 rfl ?_
                                    obtain ⟨ua, hqa, hua⟩ := id hA2
                                    obtain ⟨i9, hi9⟩ := hM21.at hqa
                                    refine V_iald hx (by omega) (by omega) (by omega) i9 hi9 (v := T 1 d) (hua d (by omega)) dL_law_662 ?_
                                    refine V_top (b := tkT T c 1 d) (tk_same hI hw (by omega) h648).symm ?_
                                    refine V_ieqS hx dL_law_663 668 (by decide) ?_
                                    refine V_iincN hx dL_law_668 1 rfl [(23, .int (iZ (((d + 1 : Nat) : Int)))), (22, .int (iZ (sm (d + 1) (chF T c)))), (21, .int (iZ (tkV T c))), (20, .int (iZ (sm 8 (wrF T (7 + 8 * c))))), (19, .ref (q9)), (18, .ref (q8)), (17, .ref (q7)), (16, .ref (q6)), (13, .int (iZ ((c : Int)))), (12, .int (iZ (kk))), (11, .ref (qd)), (10, .int (iZ (rr))), (9, .int (iZ (z0))), (7, .long dg), (6, .int (iZ (vv))), (5, .int (iZ (tm))), (4, .int (iZ (mm))), (3, .int (iZ (nn))), (2, .ref (sp)), (1, .ref ((ad 0))), (0, .ref (b))] (by decide) rfl ?_
                                    refine V_goto hx dL_law_671 576 (by decide) ?_
                                    refine V_widen (k' := k0 + 92 + 8 * (d + 1)) (n' := n0 + 2710 + 48 * (d + 1)) (by first | omega | (dsimp only [rmA, rmX, rmN]; omega)) (by first | omega | (dsimp only [rmA, rmX, rmN]; omega)) ?_
                                    exact V_sub [0, 1, 2, 3, 4, 5, 6, 7, 8, 9, 10, 11, 12, 13, 14, 15, 16, 17, 18, 19, 20] rfl (ihd (d + 1) _ _ (by omega) (by omega) hM21 hC hS hk hA1 hA2 hA3 hA4)
                                refine V_iload hx dL_law_614 2 rfl ?_
                                refine V_iconst hx dL_law_616 ?_
                                refine V_icmp_ne hx dL_law_617 628 (by decide) (rg_tkV _ _) ⟨by decide, by decide⟩ (fun h617 => ?_) (fun h617 => ?_)
                                · refine V_aload hx dL_law_628 6 rfl ?_
                                  refine V_iload hx dL_law_630 1 rfl ?_
                                  obtain ⟨ua, hqa, hua⟩ := id hA2
                                  obtain ⟨i9, hi9⟩ := hM19.at hqa
                                  refine V_iald hx (by omega) (by omega) (by omega) i9 hi9 (v := T 1 d) (hua d (by omega)) dL_law_632 ?_
                                  refine V_top (b := tkT T c 1 d) (tk_not1 h617).1.symm ?_
                                  refine V_ineS hx dL_law_633 666 (by decide) ?_
                                  exact h636
                                · refine V_aload hx dL_law_620 7 rfl ?_
                                  refine V_iload hx dL_law_622 1 rfl ?_
                                  obtain ⟨ua, hqa, hua⟩ := id hA1
                                  obtain ⟨i9, hi9⟩ := hM19.at hqa
                                  refine V_iald hx (by omega) (by omega) (by omega) i9 hi9 (v := alT T c d) (hua d (by omega)) dL_law_624 ?_
                                  refine V_goto hx dL_law_625 633 (by decide) ?_
                                  refine V_top (b := tkT T c 1 d) (al_1 hI hw hci (by omega) haw h617) ?_
                                  refine V_ineS hx dL_law_633 666 (by decide) ?_
                                  exact h636
                              refine V_icmp_eq hx dL_law_596 603 (by decide) (hT9g _ _) (hT _ _) (fun h596 => ?_) (fun h596 => ?_)
                              · refine V_iconst hx dL_law_603 ?_
                                refine V_top (b := chF T c d) (show (0 : Int) = chF T c d from (bz_f (fun h9 => h9 h596)).symm) ?_
                                exact h604
                              · refine V_iconst hx dL_law_599 ?_
                                refine V_goto hx dL_law_600 604 (by decide) ?_
                                refine V_top (b := chF T c d) (show (1 : Int) = chF T c d from (bz_t h596).symm) ?_
                                exact h604
                        exact V_sub [0, 1, 2, 3, 4, 5, 6, 7, 10, 11, 12, 13, 14, 15, 16, 17, 18, 19, 20, 21, 22] rfl (hL576 9 0 _ _ (by omega) (by omega) hM12 hC hS hk hA1 hA2 hA3 hA4)
                      refine V_iload hx dL_law_544 0 rfl ?_
                      refine V_iload hx dL_law_546 7 rfl ?_
                      refine V_ifb_ne hx dL_law_548 555 (by decide) (fun h548 => ?_) (fun h548 => ?_)
                      · refine V_iload hx dL_law_555 6 rfl ?_
                        refine V_if_eq hx dL_law_557 564 (by decide) (rg_bz _) (fun h557 => ?_) (fun h557 => ?_)
                        · refine V_iconst hx dL_law_564 ?_
                          refine V_top (b := tkV T c) (tv_1 (by have := h548; omega) (fun h9 => absurd (show loF T c = 1 from bz_t ⟨haw.1, h9⟩) (by rw [h557]; decide))).symm ?_
                          refine V_ieqS hx dL_law_565 570 (by decide) ?_
                          exact h570
                        · refine V_iconst hx dL_law_560 ?_
                          refine V_goto hx dL_law_561 565 (by decide) ?_
                          refine V_top (b := tkV T c) (tv_2 (by have := h548; omega) (Classical.byContradiction (fun h9 => h557 (show loF T c = 0 from bz_f (fun h8 => h9 h8.2))))).symm ?_
                          refine V_ieqS hx dL_law_565 570 (by decide) ?_
                          exact h570
                      · refine V_iconst hx dL_law_551 ?_
                        refine V_goto hx dL_law_552 565 (by decide) ?_
                        refine V_top (b := tkV T c) (tv_0 (by have := h548; omega)).symm ?_
                        refine V_ieqS hx dL_law_565 570 (by decide) ?_
                        exact h570
                    · refine V_aload hx dL_law_506 2 rfl ?_
                      refine V_iload hx dL_law_508 0 rfl ?_
                      refine V_aload_n hx dL_law_510 19 rfl ?_
                      refine V_iload hx dL_law_511 8 rfl ?_
                      refine V_iload hx dL_law_513 0 rfl ?_
                      refine M_callX hx hz hN1 hC hA (x_clash l hst T (wf_shp hw (by omega)) (c := ((c : Nat) : Int)) (d := ((b9 : Nat) : Int)) ⟨by omega, by omega⟩ ⟨by omega, by omega⟩) rfl cw_L_135 (RMa (by dsimp only [rmA, rmN, rmX, room_1]; omega) (by dsimp only [rmA, rmN, rmX, room_1]; omega) (by dsimp only [rmA, rmN, rmX, room_1]; omega) (by dsimp only [rmA, rmN, rmX, room_1]; omega)) rfl rfl (Nat.le_of_ble_eq_true rfl) dL_law_515 _ _ rfl rfl (fun E hE9 => absurd (show _ ∧ _ from ⟨⟨by omega, by omega⟩, ⟨by omega, by omega⟩⟩) hE9.2) (fun z22 w22 e22 => ?_)
                      obtain ⟨-, rfl, rfl⟩ := e22
                      refine ⟨P, T, rfl, fun ws22 M22 hM22 hC9 kp22 => ?_⟩
                      replace hS := sim_kp hS h6 kp22 (fun r hr => by first | trivial | (show _ ≠ _; omega))
                      replace hk := hk.tr (kp22.of (fun r (h : 2000 ≤ r) => by first | trivial | (show _ ≠ _; omega)))
                      replace hA1 := ar_kp hA1 kp22 (by first | trivial | (show _ ≠ _; omega))
                      replace hA2 := ar_kp hA2 kp22 (by first | trivial | (show _ ≠ _; omega))
                      replace hA3 := ar_kp hA3 kp22 (by first | trivial | (show _ ≠ _; omega))
                      replace hA4 := zr_kp hA4 kp22 (by first | trivial | (show _ ≠ _; omega))
                      have hC := hC9
                      refine V_top (b := bz (clP T c b9)) rfl ?_
                      obtain ⟨ua, hqa, hua⟩ := id hA4
                      refine M_zast hx hM22 (by omega) (by omega) (by omega) hqa dL_law_518 (fun ws23 M23 hM23 f23 hn23 kp23 => ?_)
                      replace hS := sim_kp hS h6 kp23 (fun r hr => by first | trivial | (show _ ≠ _; omega))
                      replace hk := hk.tr (kp23.of (fun r (h : 2000 ≤ r) => by first | trivial | (show _ ≠ _; omega)))
                      replace hA1 := ar_kp hA1 kp23 (by first | trivial | (show _ ≠ _; omega))
                      replace hA2 := ar_kp hA2 kp23 (by first | trivial | (show _ ≠ _; omega))
                      replace hA3 := ar_kp hA3 kp23 (by first | trivial | (show _ ≠ _; omega))
                      replace hC := cwm_kp hC kp23 (by first | trivial | (show _ ≠ _; omega))
                      replace hA4 := zr_st hua f23
                      refine V_iincN hx dL_law_519 0 rfl [(21, .int (iZ (((b9 + 1 : Nat) : Int)))), (20, .int (iZ (sm 8 (wrF T (7 + 8 * c))))), (19, .ref (q9)), (18, .ref (q8)), (17, .ref (q7)), (16, .ref (q6)), (15, .int (iZ (loF T c))), (14, .int (iZ (bz (T (7 + 8 * c) 1 = T (7 + 8 * c) 0)))), (13, .int (iZ ((c : Int)))), (12, .int (iZ (kk))), (11, .ref (qd)), (10, .int (iZ (rr))), (9, .int (iZ (z0))), (7, .long dg), (6, .int (iZ (vv))), (5, .int (iZ (tm))), (4, .int (iZ (mm))), (3, .int (iZ (nn))), (2, .ref (sp)), (1, .ref ((ad 0))), (0, .ref (b))] (by decide) rfl ?_
                      refine V_goto hx dL_law_522 499 (by decide) ?_
                      refine V_widen (k' := k0 + 70 + 2 * (b9 + 1)) (n' := n0 + 418 + 12 * (b9 + 1)) (by first | omega | (dsimp only [rmA, rmX, rmN]; omega)) (by first | omega | (dsimp only [rmA, rmX, rmN]; omega)) ?_
                      exact V_sub [0, 1, 2, 3, 4, 5, 6, 7, 8, 9, 10, 11, 12, 13, 14, 15, 16, 17, 18, 19, 20] rfl (ihb (b9 + 1) _ _ (by omega) (by omega) hM23 hC hS hk hA1 hA2 hA3 hA4)
                have hdn : d = nd T := by omega
                rw [hdn] at hA1 hA2 hA3
                exact V_sub [0, 1, 2, 3, 4, 5, 6, 7, 8, 9, 10, 11, 12, 13, 14, 15, 16, 17, 18, 19, 20] rfl (hL499 7 0 _ _ (by omega) (by omega) hN1 hC hS hk hA1 hA2 hA3 hA4)
              · refine V_aload hx dL_law_453 5 rfl ?_
                refine V_iload hx dL_law_455 0 rfl ?_
                refine V_aload_n hx dL_law_457 19 rfl ?_
                refine V_iload hx dL_law_458 8 rfl ?_
                refine V_iload hx dL_law_460 0 rfl ?_
                refine M_callX hx hz hN1 hC hA (x_alone l hst T (wf_shp hw (by omega)) (c := ((c : Nat) : Int)) (d := ((d : Nat) : Int)) ⟨by omega, by omega⟩ ⟨by omega, by omega⟩ hP1 (wf_dn hw) (fun _ _ T1 hT1 t ht => (al_req hw (by omega) hT1 hci ht).1) (fun _ _ T1 hT1 t ht => al_req hw (by omega) hT1 hci (by omega))) rfl cw_L_132 (RMa (by dsimp only [rmA, rmN, rmX, room_1]; omega) (by dsimp only [rmA, rmN, rmX, room_1]; omega) (by dsimp only [rmA, rmN, rmX, room_1]; omega) (by dsimp only [rmA, rmN, rmX, room_1]; omega)) rfl rfl (Nat.le_of_ble_eq_true rfl) dL_law_462 _ _ rfl rfl (fun E hE9 => absurd (show _ ∧ _ from ⟨⟨by omega, by omega⟩, ⟨by omega, by omega⟩⟩) hE9.2) (fun z24 w24 e24 => ?_)
                obtain ⟨⟨-, -⟩, ⟨T1, i, hT1, hi, a1, a2, rfl⟩, P9, hP9, rfl⟩ := e24
                refine ⟨P9, T, rfl, fun ws24 M24 hM24 hC9 kp24 => ?_⟩
                replace hS := sim_kp hS h6 kp24 (fun r hr => by first | trivial | (show _ ≠ _; omega))
                replace hk := hk.tr (kp24.of (fun r (h : 2000 ≤ r) => by first | trivial | (show _ ≠ _; omega)))
                replace hA1 := ar_kp hA1 kp24 (by first | trivial | (show _ ≠ _; omega))
                replace hA2 := ar_kp hA2 kp24 (by first | trivial | (show _ ≠ _; omega))
                replace hA3 := ar_kp hA3 kp24 (by first | trivial | (show _ ≠ _; omega))
                replace hA4 := zr_kp hA4 kp24 (by first | trivial | (show _ ≠ _; omega))
                have hC := hC9
                refine V_top (b := alT T c d) (al_fin hw (by omega) hT1 hci (by omega) hi a1 a2) ?_
                obtain ⟨ua, hqa, hua⟩ := id hA1
                refine M_iast hx hM24 (by omega) (by omega) (by omega) hqa dL_law_465 (fun ws25 M25 hM25 f25 hn25 kp25 => ?_)
                replace hS := sim_kp hS h6 kp25 (fun r hr => by first | trivial | (show _ ≠ _; omega))
                replace hk := hk.tr (kp25.of (fun r (h : 2000 ≤ r) => by first | trivial | (show _ ≠ _; omega)))
                replace hA2 := ar_kp hA2 kp25 (by first | trivial | (show _ ≠ _; omega))
                replace hA3 := ar_kp hA3 kp25 (by first | trivial | (show _ ≠ _; omega))
                replace hA4 := zr_kp hA4 kp25 (by first | trivial | (show _ ≠ _; omega))
                replace hC := cwm_kp hC kp25 (by first | trivial | (show _ ≠ _; omega))
                replace hA1 := ar_st hua f25
                refine V_aload hx dL_law_466 4 rfl ?_
                refine V_iload hx dL_law_468 0 rfl ?_
                refine V_aload_n hx dL_law_470 19 rfl ?_
                refine V_iload hx dL_law_471 0 rfl ?_
                refine V_iconst hx dL_law_473 ?_
                refine M_callX hx hz hM25 hC hA (x_drawer l hst T (wf_shp hw (by omega)) (d := ((d : Nat) : Int)) (what := 0) ⟨by omega, by omega⟩ ⟨by decide, by decide⟩) rfl cw_L_113 (RMa (by dsimp only [rmA, rmN, rmX, room_1]; omega) (by dsimp only [rmA, rmN, rmX, room_1]; omega) (by dsimp only [rmA, rmN, rmX, room_1]; omega) (by dsimp only [rmA, rmN, rmX, room_1]; omega)) rfl rfl (Nat.le_of_ble_eq_true rfl) dL_law_474 _ _ rfl rfl (fun E hE9 => absurd (show _ ∧ _ from ⟨⟨by omega, by omega⟩, ⟨by omega, by omega⟩⟩) hE9.2) (fun z26 w26 e26 => ?_)
                obtain ⟨-, rfl, rfl⟩ := e26
                refine ⟨P9, T, rfl, fun ws26 M26 hM26 hC9 kp26 => ?_⟩
                replace hS := sim_kp hS h6 kp26 (fun r hr => by first | trivial | (show _ ≠ _; omega))
                replace hk := hk.tr (kp26.of (fun r (h : 2000 ≤ r) => by first | trivial | (show _ ≠ _; omega)))
                replace hA1 := ar_kp hA1 kp26 (by first | trivial | (show _ ≠ _; omega))
                replace hA2 := ar_kp hA2 kp26 (by first | trivial | (show _ ≠ _; omega))
                replace hA3 := ar_kp hA3 kp26 (by first | trivial | (show _ ≠ _; omega))
                replace hA4 := zr_kp hA4 kp26 (by first | trivial | (show _ ≠ _; omega))
                have hC := hC9
                refine V_top (b := T 1 d) rfl ?_
                obtain ⟨ua, hqa, hua⟩ := id hA2
                refine M_iast hx hM26 (by omega) (by omega) (by omega) hqa dL_law_477 (fun ws27 M27 hM27 f27 hn27 kp27 => ?_)
                replace hS := sim_kp hS h6 kp27 (fun r hr => by first | trivial | (show _ ≠ _; omega))
                replace hk := hk.tr (kp27.of (fun r (h : 2000 ≤ r) => by first | trivial | (show _ ≠ _; omega)))
                replace hA1 := ar_kp hA1 kp27 (by first | trivial | (show _ ≠ _; omega))
                replace hA3 := ar_kp hA3 kp27 (by first | trivial | (show _ ≠ _; omega))
                replace hA4 := zr_kp hA4 kp27 (by first | trivial | (show _ ≠ _; omega))
                replace hC := cwm_kp hC kp27 (by first | trivial | (show _ ≠ _; omega))
                replace hA2 := ar_st hua f27
                refine V_aload hx dL_law_478 3 rfl ?_
                refine V_iload hx dL_law_480 0 rfl ?_
                refine V_aload_n hx dL_law_482 19 rfl ?_
                refine V_iload hx dL_law_483 0 rfl ?_
                refine V_iconst hx dL_law_485 ?_
                refine M_callX hx hz hM27 hC hA (x_drawer l hst T (wf_shp hw (by omega)) (d := ((d : Nat) : Int)) (what := 1) ⟨by omega, by omega⟩ ⟨by decide, by decide⟩) rfl cw_L_113 (RMa (by dsimp only [rmA, rmN, rmX, room_1]; omega) (by dsimp only [rmA, rmN, rmX, room_1]; omega) (by dsimp only [rmA, rmN, rmX, room_1]; omega) (by dsimp only [rmA, rmN, rmX, room_1]; omega)) rfl rfl (Nat.le_of_ble_eq_true rfl) dL_law_486 _ _ rfl rfl (fun E hE9 => absurd (show _ ∧ _ from ⟨⟨by omega, by omega⟩, ⟨by omega, by omega⟩⟩) hE9.2) (fun z28 w28 e28 => ?_)
                obtain ⟨-, rfl, rfl⟩ := e28
                refine ⟨P9, T, rfl, fun ws28 M28 hM28 hC9 kp28 => ?_⟩
                replace hS := sim_kp hS h6 kp28 (fun r hr => by first | trivial | (show _ ≠ _; omega))
                replace hk := hk.tr (kp28.of (fun r (h : 2000 ≤ r) => by first | trivial | (show _ ≠ _; omega)))
                replace hA1 := ar_kp hA1 kp28 (by first | trivial | (show _ ≠ _; omega))
                replace hA2 := ar_kp hA2 kp28 (by first | trivial | (show _ ≠ _; omega))
                replace hA3 := ar_kp hA3 kp28 (by first | trivial | (show _ ≠ _; omega))
                replace hA4 := zr_kp hA4 kp28 (by first | trivial | (show _ ≠ _; omega))
                have hC := hC9
                refine V_top (b := T 2 d) rfl ?_
                obtain ⟨ua, hqa, hua⟩ := id hA3
                refine M_iast hx hM28 (by omega) (by omega) (by omega) hqa dL_law_489 (fun ws29 M29 hM29 f29 hn29 kp29 => ?_)
                replace hS := sim_kp hS h6 kp29 (fun r hr => by first | trivial | (show _ ≠ _; omega))
                replace hk := hk.tr (kp29.of (fun r (h : 2000 ≤ r) => by first | trivial | (show _ ≠ _; omega)))
                replace hA1 := ar_kp hA1 kp29 (by first | trivial | (show _ ≠ _; omega))
                replace hA2 := ar_kp hA2 kp29 (by first | trivial | (show _ ≠ _; omega))
                replace hA4 := zr_kp hA4 kp29 (by first | trivial | (show _ ≠ _; omega))
                replace hC := cwm_kp hC kp29 (by first | trivial | (show _ ≠ _; omega))
                replace hA3 := ar_st hua f29
                refine V_iincN hx dL_law_490 0 rfl [(21, .int (iZ (((d + 1 : Nat) : Int)))), (20, .int (iZ (sm 8 (wrF T (7 + 8 * c))))), (19, .ref (q9)), (18, .ref (q8)), (17, .ref (q7)), (16, .ref (q6)), (15, .int (iZ (loF T c))), (14, .int (iZ (bz (T (7 + 8 * c) 1 = T (7 + 8 * c) 0)))), (13, .int (iZ ((c : Int)))), (12, .int (iZ (kk))), (11, .ref (qd)), (10, .int (iZ (rr))), (9, .int (iZ (z0))), (7, .long dg), (6, .int (iZ (vv))), (5, .int (iZ (tm))), (4, .int (iZ (mm))), (3, .int (iZ (nn))), (2, .ref (sp)), (1, .ref ((ad 0))), (0, .ref (b))] (by decide) rfl ?_
                refine V_goto hx dL_law_493 447 (by decide) ?_
                refine V_widen (k' := k0 + 22 + 6 * (d + 1)) (n' := n0 + 130 + 36 * (d + 1)) (by first | omega | (dsimp only [rmA, rmX, rmN]; omega)) (by first | omega | (dsimp only [rmA, rmX, rmN]; omega)) ?_
                exact V_sub [0, 1, 2, 3, 4, 5, 6, 7, 8, 9, 10, 11, 12, 13, 14, 15, 16, 17, 18, 19, 20] rfl (ihd (d + 1) _ _ _ (by omega) (by omega) hM29 hC hS hP9 hk hA1 hA2 hA3 hA4)
          exact V_sub [0, 1, 2, 3, 4, 5, 6, 7, 8, 9, 10, 11, 12, 13, 14, 15, 16, 17, 18, 19, 20] rfl (hL447 9 0 _ _ P (by omega) (by omega) hM10 hC hS hP1 hk ⟨_, hq6, fun j hj => absurd hj (by omega)⟩ ⟨_, hq7, fun j hj => absurd hj (by omega)⟩ ⟨_, hq8, fun j hj => absurd hj (by omega)⟩ ⟨_, hq9, fun j hj => absurd hj (by omega)⟩)
        refine V_icmp_ne hx dL_law_404 411 (by decide) (rg_bz _) ⟨by decide, by decide⟩ (fun h404 => ?_) (fun h404 => ?_)
        · refine V_iconst hx dL_law_411 ?_
          refine V_top (b := loF T c) (show (0 : Int) = loF T c from (bz_f (bz_0 h404)).symm) ?_
          exact h412
        · refine V_iconst hx dL_law_407 ?_
          refine V_goto hx dL_law_408 412 (by decide) ?_
          refine V_top (b := loF T c) (show (1 : Int) = loF T c from h404.symm) ?_
          exact h412
      refine V_icmp_ne hx dL_law_385 392 (by decide) (hT _ _) (hT _ _) (fun h385 => ?_) (fun h385 => ?_)
      · refine V_iconst hx dL_law_392 ?_
        refine V_top (b := bz (T (7 + 8 * c) 1 = T (7 + 8 * c) 0)) (bz_f h385).symm ?_
        exact h393
      · refine V_iconst hx dL_law_388 ?_
        refine V_goto hx dL_law_389 393 (by decide) ?_
        refine V_top (b := bz (T (7 + 8 * c) 1 = T (7 + 8 * c) 0)) (bz_t h385).symm ?_
        exact h393
    · refine V_goto hx dL_law_368 779 (by decide) ?_
      refine V_widen (k' := k0 + 200) (n' := n0 + 3300) (by first | omega | (dsimp only [rmA, rmX, rmN]; omega)) (by first | omega | (dsimp only [rmA, rmX, rmN]; omega)) ?_
      exact V_sub [0, 1, 2, 3, 4, 5, 6, 7, 8, 9, 10, 11, 12] rfl (hNext _ _ _ _ (Or.inl ⟨fun h9 => by have := h9.2; have := h365; omega, rfl⟩) hM2 hC hS hP1 hk)
