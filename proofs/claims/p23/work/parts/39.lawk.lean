/-! the law: its rounds -/
theorem gr_nc {T : TS} (c : Nat) : nc (gr T c).1 = nc T := by unfold nc; rw [grz_0 (by omega)]
/-- what is foreseen, written up to i -/
def DU (g : GT) (M : MM) (q i : Nat) (f : Nat → Int) : Prop := ∃ u, M q = some (2000, IA g 7 u) ∧ ∀ j, 2 ≤ j → j < i → u j = iZ (f j)
theorem du_kp {g : GT} {S : Nat → Prop} {M M' : MM} {q i : Nat} {f : Nat → Int} (h : DU g M q i f) (k : KP S M M') (hs : S 2000) : DU g M' q i f := by
  obtain ⟨u, a, b⟩ := h
  exact ⟨u, k _ _ _ a hs, b⟩
theorem du_st {g : GT} {M : MM} {q i : Nat} {f : Nat → Int} {u : Nat → Int32} (h : ∀ j, 2 ≤ j → j < i → u j = iZ (f j)) (a : M q = some (2000, IA g 7 (upd u ((i : Nat) : Int).toNat (iZ (f i))))) : DU g M q (i + 1) f := by
  refine ⟨_, a, fun j h2 hj => ?_⟩
  by_cases hx : j = i
  · subst hx; exact upd_at u j _
  · exact (upd_ne u _ hx).trans (h j h2 (by omega))
noncomputable def dueF (T : TS) (r : Nat) (j : Nat) : Int := cnV (grs T r).1 ((j : Nat) : Int)
set_option maxHeartbeats 4000000 in
set_option maxRecDepth 100000 in
theorem z_lawK (l : Launch) (hst : l.stackTraces = false) {g : GT} {x : CT} (hx : FX x l room_1 g 24 cL_law RL) (hz : TXF x) {ad : Nat → Nat} (hA : AI ad) {sp qd b : Nat} {cl : Nat → Nat} {T : TS} {B : Int} (hw : WF T B) (hI : IV T) (hB : B ≤ 2130) {nn mm z0 vv : Int} {tm r : Nat} (htm : tm < 100) {dg : Int64} (hnn : T 0 0 = nn) (hmm : T 0 1 = mm) (hr1 : 1 ≤ r) (hr5 : r ≤ 5) (hun : UNT T z0) {ws : va_W} {N : MM} (hN : HM N ws) {P : Nat → TS} (hC : CWM g ad N P T) (hS : SIM g N sp cl T) (hP1 : RG (P 1)) (hD : DU g N qd 7 (dueF T r)) {k0 n0 : Nat} (hk0 : k0 + 6010 ≤ 1200086) (hn0 : n0 + 99100 ≤ 5501442)
    (hNext : ∀ (T9 : TS) (ws1 : va_W) (N1 : MM) (P1 : Nat → TS), HM N1 ws1 → STT g ad N1 sp cl P1 T9 (B + 30) → T9 0 0 = nn → T9 0 1 = mm → V x (k0 + 6010) (n0 + 99100) ws1 36 [(5, .int (iZ (((tm + 1) : Int)))), (4, .int (iZ (mm))), (3, .int (iZ (nn))), (2, .ref (sp)), (1, .ref ((ad 0))), (0, .ref (b))] []) : V x k0 n0 ws 327 [(11, .ref (qd)), (10, .int (iZ ((r : Int)))), (9, .int (iZ (z0))), (7, .long dg), (6, .int (iZ (vv))), (5, .int (iZ ((tm : Int)))), (4, .int (iZ (mm))), (3, .int (iZ (nn))), (2, .ref (sp)), (1, .ref ((ad 0))), (0, .ref (b))] [] := by
  obtain ⟨hT, ⟨tn1, tn8⟩, ⟨hc0, hc9⟩, ⟨hz0, hz9⟩, ham1, hck9⟩ := id hw
  have hni := nc_i hw
  have h6 : nc T ≤ 6 := by omega
  have hnd : ((nd T : Nat) : Int) = T 0 0 := Int.toNat_of_nonneg (by omega)
  have huz := un_rg hun
  refine V_iconst hx dL_law_327 ?_
  refine V_istore hx dL_law_328 [(12, .int (iZ (0))), (11, .ref (qd)), (10, .int (iZ ((r : Int)))), (9, .int (iZ (z0))), (7, .long dg), (6, .int (iZ (vv))), (5, .int (iZ ((tm : Int)))), (4, .int (iZ (mm))), (3, .int (iZ (nn))), (2, .ref (sp)), (1, .ref ((ad 0))), (0, .ref (b))] (by decide) rfl ?_
  refine V_widen (k' := k0 + 1200 * 0) (n' := n0 + 19800 * 0) (by first | omega | (dsimp only [rmA, rmX, rmN]; omega)) (by first | omega | (dsimp only [rmA, rmX, rmN]; omega)) ?_
  have hL330 : ∀ (n k : Nat) (w1 : va_W) (N1 : MM) (P : Nat → TS), r < k + n → k ≤ r → HM N1 w1 → CWM g ad N1 P (grs T k).1 → SIM g N1 sp cl (grs T k).1 → RG (P 1) → DU g N1 qd 7 (dueF T r) → V x (k0 + 1200 * k) (n0 + 19800 * k) w1 330 [(12, .int (iZ ((k : Int)))), (11, .ref (qd)), (10, .int (iZ ((r : Int)))), (9, .int (iZ (z0))), (7, .long dg), (6, .int (iZ (vv))), (5, .int (iZ ((tm : Int)))), (4, .int (iZ (mm))), (3, .int (iZ (nn))), (2, .ref (sp)), (1, .ref ((ad 0))), (0, .ref (b))] [] := by
    intro n; induction n with
    | zero => intro k w1 N1 P g1 g2; exact absurd g1 (by omega)
    | succ n ihk =>
      intro k w1 N1 P g1 g2 hN1 hC hS hP1 hD
      have hwk := wf_grs hw (by omega) k (by omega)
      have hIk := iv_grs hI hw (by omega) k (by omega)
      have e00 : (grs T k).1 0 0 = T 0 0 := grs_0 (by omega) k
      have e01 : (grs T k).1 0 1 = T 0 1 := grs_0 (by omega) k
      have ek := grs_nc (T := T) k
      have h6k : nc (grs T k).1 ≤ 6 := by omega
      refine V_iload hx dL_law_330 0 rfl ?_
      refine V_iload hx dL_law_332 2 rfl ?_
      refine V_icmp_ge hx dL_law_334 814 (by decide) ⟨by omega, by omega⟩ ⟨by omega, by omega⟩ (fun h334 => ?_) (fun h334 => ?_)
      · have hkr : k = r := by omega
        rw [hkr] at hC hS hwk hIk e00 e01 ek h6k
        refine V_iconst hx dL_law_814 ?_
        refine V_istore hx dL_law_815 [(12, .int (iZ (2))), (11, .ref (qd)), (10, .int (iZ ((r : Int)))), (9, .int (iZ (z0))), (7, .long dg), (6, .int (iZ (vv))), (5, .int (iZ ((tm : Int)))), (4, .int (iZ (mm))), (3, .int (iZ (nn))), (2, .ref (sp)), (1, .ref ((ad 0))), (0, .ref (b))] (by decide) rfl ?_
        refine V_widen (k' := k0 + 6000 + 2) (n' := n0 + 99000 + 6 * 2) (by first | omega | (dsimp only [rmA, rmX, rmN]; omega)) (by first | omega | (dsimp only [rmA, rmX, rmN]; omega)) ?_
        have hL817 : ∀ (n j : Nat) (w1 : va_W) (N1 : MM), 7 < j + n → j ≤ 7 → 2 ≤ j → HM N1 w1 → CWM g ad N1 P (grs T r).1 → SIM g N1 sp cl (grs T r).1 → DU g N1 qd 7 (dueF T r) → V x (k0 + 6000 + j) (n0 + 99000 + 6 * j) w1 817 [(12, .int (iZ ((j : Int)))), (11, .ref (qd)), (10, .int (iZ ((r : Int)))), (9, .int (iZ (z0))), (7, .long dg), (6, .int (iZ (vv))), (5, .int (iZ ((tm : Int)))), (4, .int (iZ (mm))), (3, .int (iZ (nn))), (2, .ref (sp)), (1, .ref ((ad 0))), (0, .ref (b))] [] := by
          intro n; induction n with
          | zero => intro j w1 N1 g1 g2; exact absurd g1 (by omega)
          | succ n ihj =>
            intro j w1 N1 g1 g2 g3 hN1 hC hS hD
            refine V_iload hx dL_law_817 0 rfl ?_
            refine V_bipush hx dL_law_819 rfl ?_
            refine V_icmp_ge hx dL_law_821 846 (by decide) ⟨by omega, by omega⟩ ⟨by decide, by decide⟩ (fun h821 => ?_) (fun h821 => ?_)
            · refine V_iincN hx dL_law_846 6 rfl [(5, .int (iZ (((tm + 1 : Nat) : Int)))), (12, .int (iZ ((j : Int)))), (11, .ref (qd)), (10, .int (iZ ((r : Int)))), (9, .int (iZ (z0))), (7, .long dg), (6, .int (iZ (vv))), (4, .int (iZ (mm))), (3, .int (iZ (nn))), (2, .ref (sp)), (1, .ref ((ad 0))), (0, .ref (b))] (by decide) rfl ?_
              refine V_goto hx dL_law_849 36 (by decide) ?_
              refine V_widen (k' := k0 + 6010) (n' := n0 + 99100) (by first | omega | (dsimp only [rmA, rmX, rmN]; omega)) (by first | omega | (dsimp only [rmA, rmX, rmN]; omega)) ?_
              exact V_sub [0, 7, 8, 9, 10, 11] rfl (hNext _ _ _ _ hN1 ⟨hC, hS, wf_mono hwk (by omega), hIk, hP1⟩ (by omega) (by omega))
            · refine V_aload_n hx dL_law_824 10 rfl ?_
              refine V_iload hx dL_law_825 0 rfl ?_
              refine M_callX hx hz hN1 hC hA (x_count l hst (grs T r).1 (wf_shp hwk (by omega)) (what := ((j : Nat) : Int)) ⟨by omega, by omega⟩) rfl cw_L_116 (RMa (by dsimp only [rmA, rmN, rmX, room_1]; omega) (by dsimp only [rmA, rmN, rmX, room_1]; omega) (by dsimp only [rmA, rmN, rmX, room_1]; omega) (by dsimp only [rmA, rmN, rmX, room_1]; omega)) rfl rfl (Nat.le_of_ble_eq_true rfl) dL_law_827 _ _ rfl rfl (fun E hE9 => absurd (show _ ∧ _ from ⟨by omega, by omega⟩) hE9.2) (fun z1 w1 e1 => ?_)
              obtain ⟨-, rfl, rfl⟩ := e1
              refine ⟨P, (grs T r).1, rfl, fun ws1 M1 hM1 hC9 kp1 => ?_⟩
              replace hS := sim_kp hS h6k kp1 (fun r hr => by first | trivial | (show _ ≠ _; omega))
              replace hD := du_kp hD kp1 (by first | trivial | (show _ ≠ _; omega) | (show 2000 ≤ 2000; omega))
              have hC := hC9
              refine V_top (b := dueF T r j) rfl ?_
              refine V_aload hx dL_law_830 1 rfl ?_
              refine V_iload hx dL_law_832 0 rfl ?_
              obtain ⟨ua, hqa, hua⟩ := id hD
              obtain ⟨i9, hi9⟩ := hM1.at hqa
              refine V_iald hx (by omega) (by omega) (by omega) i9 hi9 (v := dueF T r j) (hua j (by omega) (by omega)) dL_law_834 ?_
              refine V_ieqS hx dL_law_835 840 (by decide) ?_
              refine V_iincN hx dL_law_840 0 rfl [(12, .int (iZ (((j + 1 : Nat) : Int)))), (11, .ref (qd)), (10, .int (iZ ((r : Int)))), (9, .int (iZ (z0))), (7, .long dg), (6, .int (iZ (vv))), (5, .int (iZ ((tm : Int)))), (4, .int (iZ (mm))), (3, .int (iZ (nn))), (2, .ref (sp)), (1, .ref ((ad 0))), (0, .ref (b))] (by decide) rfl ?_
              refine V_goto hx dL_law_843 817 (by decide) ?_
              refine V_widen (k' := k0 + 6000 + (j + 1)) (n' := n0 + 99000 + 6 * (j + 1)) (by first | omega | (dsimp only [rmA, rmX, rmN]; omega)) (by first | omega | (dsimp only [rmA, rmX, rmN]; omega)) ?_
              exact V_sub [0, 1, 2, 3, 4, 5, 6, 7, 8, 9, 10, 11] rfl (ihj (j + 1) _ _ (by omega) (by omega) (by omega) hM1 hC hS hD)
        exact V_sub [0, 1, 2, 3, 4, 5, 6, 7, 8, 9, 10, 11] rfl (hL817 7 2 _ _ (by omega) (by omega) (by omega) hN1 hC hS hD)
      · refine V_iconst hx dL_law_337 ?_
        refine V_istore hx dL_law_338 [(13, .int (iZ (0))), (12, .int (iZ ((k : Int)))), (11, .ref (qd)), (10, .int (iZ ((r : Int)))), (9, .int (iZ (z0))), (7, .long dg), (6, .int (iZ (vv))), (5, .int (iZ ((tm : Int)))), (4, .int (iZ (mm))), (3, .int (iZ (nn))), (2, .ref (sp)), (1, .ref ((ad 0))), (0, .ref (b))] (by decide) rfl ?_
        refine V_widen (k' := k0 + 1200 * k + 200 * 0) (n' := n0 + 19800 * k + 3300 * 0) (by first | omega | (dsimp only [rmA, rmX, rmN]; omega)) (by first | omega | (dsimp only [rmA, rmX, rmN]; omega)) ?_
        have hL340 : ∀ (n c : Nat) (w1 : va_W) (N1 : MM) (P : Nat → TS), nc T < c + n → c ≤ nc T → HM N1 w1 → CWM g ad N1 P (gr (grs T k).1 c).1 → SIM g N1 sp cl (gr (grs T k).1 c).1 → RG (P 1) → DU g N1 qd 7 (dueF T r) → V x (k0 + 1200 * k + 200 * c) (n0 + 19800 * k + 3300 * c) w1 340 [(13, .int (iZ ((c : Int)))), (12, .int (iZ ((k : Int)))), (11, .ref (qd)), (10, .int (iZ ((r : Int)))), (9, .int (iZ (z0))), (7, .long dg), (6, .int (iZ (vv))), (5, .int (iZ ((tm : Int)))), (4, .int (iZ (mm))), (3, .int (iZ (nn))), (2, .ref (sp)), (1, .ref ((ad 0))), (0, .ref (b))] [] := by
          intro n; induction n with
          | zero => intro c w1 N1 P g1 g2; exact absurd g1 (by omega)
          | succ n ihc =>
            intro c w1 N1 P g1 g2 hN1 hC hS hP1 hD
            have hwc := wf_gr hwk (by omega) c (by omega)
            have hIc := iv_gr hIk hwk (by omega) c (by omega)
            have f00 : (gr (grs T k).1 c).1 0 0 = T 0 0 := (grz_0 (by omega) c).trans e00
            have f01 : (gr (grs T k).1 c).1 0 1 = T 0 1 := (grz_0 (by omega) c).trans e01
            have fk := gr_nc (T := (grs T k).1) c
            have h6c : nc (gr (grs T k).1 c).1 ≤ 6 := by omega
            refine V_iload hx dL_law_340 0 rfl ?_
            refine V_iload hx dL_law_342 8 rfl ?_
            refine V_icmp_ge hx dL_law_344 785 (by decide) ⟨by omega, by omega⟩ (by first | assumption | exact ⟨by omega, by omega⟩) (fun h344 => ?_) (fun h344 => ?_)
            · have hcn : c = nc (grs T k).1 := by omega
              rw [hcn] at hC hS
              replace hC : CWM g ad N1 P (grs T (k + 1)).1 := hC
              replace hS : SIM g N1 sp cl (grs T (k + 1)).1 := hS
              have hw1 := wf_grs hw (by omega) (k + 1) (by omega)
              have h61 : nc (grs T (k + 1)).1 ≤ 6 := by rw [grs_nc]; exact h6
              refine V_iload hx dL_law_785 4 rfl ?_
              refine V_if_le hx dL_law_787 808 (by decide) (by first | assumption | exact ⟨by omega, by omega⟩) (fun h787 => ?_) (fun h787 => ?_)
              · refine V_iincN hx dL_law_808 1 rfl [(12, .int (iZ (((k + 1 : Nat) : Int)))), (13, .int (iZ ((c : Int)))), (11, .ref (qd)), (10, .int (iZ ((r : Int)))), (9, .int (iZ (z0))), (7, .long dg), (6, .int (iZ (vv))), (5, .int (iZ ((tm : Int)))), (4, .int (iZ (mm))), (3, .int (iZ (nn))), (2, .ref (sp)), (1, .ref ((ad 0))), (0, .ref (b))] (by decide) rfl ?_
                refine V_goto hx dL_law_811 330 (by decide) ?_
                refine V_widen (k' := k0 + 1200 * (k + 1)) (n' := n0 + 19800 * (k + 1)) (by first | omega | (dsimp only [rmA, rmX, rmN]; omega)) (by first | omega | (dsimp only [rmA, rmX, rmN]; omega)) ?_
                exact V_sub [0, 2, 3, 4, 5, 6, 7, 8, 9, 10, 11, 12] rfl (ihk (k + 1) _ _ P (by omega) (by omega) hN1 hC hS hP1 hD)
              · refine V_iload hx dL_law_790 4 rfl ?_
                refine V_iload hx dL_law_792 1 rfl ?_
                refine V_iconst hx dL_law_794 ?_
                refine V_iadd hx dL_law_795 ?_
                refine V_top (b := ((k + 1 : Nat) : Int)) (by omega) ?_
                refine V_icmp_ne hx dL_law_796 808 (by decide) (by first | assumption | exact ⟨by omega, by omega⟩) ⟨by omega, by omega⟩ (fun h796 => ?_) (fun h796 => ?_)
                · refine V_iincN hx dL_law_808 1 rfl [(12, .int (iZ (((k + 1 : Nat) : Int)))), (13, .int (iZ ((c : Int)))), (11, .ref (qd)), (10, .int (iZ ((r : Int)))), (9, .int (iZ (z0))), (7, .long dg), (6, .int (iZ (vv))), (5, .int (iZ ((tm : Int)))), (4, .int (iZ (mm))), (3, .int (iZ (nn))), (2, .ref (sp)), (1, .ref ((ad 0))), (0, .ref (b))] (by decide) rfl ?_
                  refine V_goto hx dL_law_811 330 (by decide) ?_
                  refine V_widen (k' := k0 + 1200 * (k + 1)) (n' := n0 + 19800 * (k + 1)) (by first | omega | (dsimp only [rmA, rmX, rmN]; omega)) (by first | omega | (dsimp only [rmA, rmX, rmN]; omega)) ?_
                  exact V_sub [0, 2, 3, 4, 5, 6, 7, 8, 9, 10, 11, 12] rfl (ihk (k + 1) _ _ P (by omega) (by omega) hN1 hC hS hP1 hD)
                · refine V_aload_n hx dL_law_799 11 rfl ?_
                  refine M_callI hx hN1 hC hA (x_until l (grs T (k + 1)).1 (wf_shp hw1 (by omega)) hP1 (wf_dn hw1) (fun T1 hT1 j hj => (gr_req hw1 (by omega) hT1 (by omega)).1)) rfl cw_L_123 (RMa (by dsimp only [rmA, rmN, rmX, room_1]; omega) (by dsimp only [rmA, rmN, rmX, room_1]; omega) (by dsimp only [rmA, rmN, rmX, room_1]; omega) (by dsimp only [rmA, rmN, rmX, room_1]; omega)) rfl rfl (Nat.le_of_ble_eq_true rfl) dL_law_800 _ _ rfl rfl (fun z2 w2 e2 => ?_)
                  obtain ⟨hu9, P9, hP9, rfl⟩ := e2
                  refine ⟨P9, (grs T (k + 1)).1, rfl, fun ws2 M2 hM2 hC9 kp2 => ?_⟩
                  replace hS := sim_kp hS h61 kp2 (fun r hr => by first | trivial | (show _ ≠ _; omega))
                  replace hD := du_kp hD kp2 (by first | trivial | (show _ ≠ _; omega) | (show 2000 ≤ 2000; omega))
                  have hC := hC9
                  refine V_top (b := 0) (un_2 hw1 (by omega) hu9 (un_1 hw (by omega) hun (k := k + 1) (by have := h796; omega))) ?_
                  refine V_if_eq hx dL_law_803 808 (by decide) ⟨by decide, by decide⟩ (fun h803 => ?_) (fun h803 => absurd h803 (by decide))
                  refine V_iincN hx dL_law_808 1 rfl [(12, .int (iZ (((k + 1 : Nat) : Int)))), (13, .int (iZ ((c : Int)))), (11, .ref (qd)), (10, .int (iZ ((r : Int)))), (9, .int (iZ (z0))), (7, .long dg), (6, .int (iZ (vv))), (5, .int (iZ ((tm : Int)))), (4, .int (iZ (mm))), (3, .int (iZ (nn))), (2, .ref (sp)), (1, .ref ((ad 0))), (0, .ref (b))] (by decide) rfl ?_
                  refine V_goto hx dL_law_811 330 (by decide) ?_
                  refine V_widen (k' := k0 + 1200 * (k + 1)) (n' := n0 + 19800 * (k + 1)) (by first | omega | (dsimp only [rmA, rmX, rmN]; omega)) (by first | omega | (dsimp only [rmA, rmX, rmN]; omega)) ?_
                  exact V_sub [0, 2, 3, 4, 5, 6, 7, 8, 9, 10, 11, 12] rfl (ihk (k + 1) _ _ P9 (by omega) (by omega) hM2 hC hS hP9 hD)
            · refine z_lawC l hst hx hz hA hwc hIc (by omega) (c := c) (by omega) (by omega) (by omega) hN1 hC hS hP1 (k0 := k0 + 1200 * k + 200 * c) (n0 := n0 + 19800 * k + 3300 * c) (by omega) (by omega) (fun T9 w2 N2 P2 h9 hN2 hC2 hS2 hP2 hk2 => ?_)
              have e9 : T9 = (gr (grs T k).1 (c + 1)).1 := by
                rcases h9 with ⟨h8, rfl⟩ | ⟨h8, rfl⟩
                · rw [gr_no h8]
                · rw [gr_yes h8]
              subst e9
              refine V_iincN hx dL_law_779 0 rfl [(13, .int (iZ (((c + 1 : Nat) : Int)))), (12, .int (iZ ((k : Int)))), (11, .ref (qd)), (10, .int (iZ ((r : Int)))), (9, .int (iZ (z0))), (7, .long dg), (6, .int (iZ (vv))), (5, .int (iZ ((tm : Int)))), (4, .int (iZ (mm))), (3, .int (iZ (nn))), (2, .ref (sp)), (1, .ref ((ad 0))), (0, .ref (b))] (by decide) rfl ?_
              refine V_goto hx dL_law_782 340 (by decide) ?_
              refine V_widen (k' := k0 + 1200 * k + 200 * (c + 1)) (n' := n0 + 19800 * k + 3300 * (c + 1)) (by first | omega | (dsimp only [rmA, rmX, rmN]; omega)) (by first | omega | (dsimp only [rmA, rmX, rmN]; omega)) ?_
              exact V_sub [0, 1, 2, 3, 4, 5, 6, 7, 8, 9, 10, 11, 12] rfl (ihc (c + 1) _ _ P2 (by omega) (by omega) hN2 hC2 hS2 hP2 (du_kp hD hk2 (Nat.le_refl 2000)))
        exact V_sub [0, 1, 2, 3, 4, 5, 6, 7, 8, 9, 10, 11, 12] rfl (hL340 7 0 _ _ _ (by omega) (by omega) hN1 hC hS hP1 hD)
  exact V_sub [0, 1, 2, 3, 4, 5, 6, 7, 8, 9, 10, 11] rfl (hL330 7 0 _ _ _ (by omega) (by omega) hN hC hS hP1 hD)
