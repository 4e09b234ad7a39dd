/-! the law: one time, behind its deed -/
section VLT
variable {x : CT} {l : Launch} {R : Room} {g : GT} {nL : Nat} {cc : ByteArray} {own : String} {k n : Nat} {ws : va_W} {pc : Nat} {lv : List (Nat × Value)} {st : List Value}
theorem V_lcmpE (hx : FX x l R g nL cc own) {a c9 : Int64} (he : a = c9) (hd : decode cc pc = .ok (.lcmp, 1)) (kk : V x k n ws (pc + 1) lv (.int (iZ 0) :: st)) : V x k n ws pc lv (.long c9 :: .long a :: st) := by
  subst he
  obtain ⟨p, l', e, R', s, m, args, below, meth, c, g', nL', A, H0, Q⟩ := x
  obtain ⟨rfl, rfl, rfl, rfl, hx, hb, hml, hown, hts, hK, hlk9, hA⟩ := hx
  intro H locs ls hP hD hS h
  refine W.lcmp hx hb hd ?_
  rw [show lg_cmp a a = iZ 0 by unfold lg_cmp; simp; rfl]
  exact kk H locs ls hP hD hS h
theorem V_lload (hx : FX x l R g nL cc own) {i : Nat} {v : Int64} (hd : decode cc pc = .ok (.lload i, 2)) (j : Nat) (hl : lv[j]? = some (i, .long v)) (kk : V x k n ws (pc + 2) lv (.long v :: st)) : V x k n ws pc lv st := by
  obtain ⟨p, l', e, R', s, m, args, below, meth, c, g', nL', A, H0, Q⟩ := x
  obtain ⟨rfl, rfl, rfl, rfl, hx, hb, hml, hown, hts, hK, hlk, hA⟩ := hx
  intro H locs ls hP hD hS h
  exact lv_lload hx hb hd (lv_at h j hl) (kk H locs ls hP hD hS h)
theorem V_lstore (hx : FX x l R g nL cc own) {i : Nat} {v : Int64} (hd : decode cc pc = .ok (.lstore i, 2)) (lv' : List (Nat × Value)) (hn : i + 1 < nL) (hl : (i, Value.long v) :: lv.filter (fun q => !(q.1 == i) && (!(q.1 == i + 1) && !(q.1 + 1 == i && q.2.category == 2))) = lv') (kk : V x k n ws (pc + 2) lv' st) : V x k n ws pc lv (.long v :: st) := by
  obtain ⟨p, l', e, R', s, m, args, below, meth, c, g', nL', A, H0, Q⟩ := x
  obtain ⟨rfl, rfl, rfl, rfl, hx, hb, hml, hown, hts, hK, hlk, hA⟩ := hx
  intro H locs ls hP hD hS h
  exact lv_lstore hx hb hd h hn hl (fun ls' h' => kk H locs ls' hP hD hS h')
end VLT
set_option maxHeartbeats 4000000 in
set_option maxRecDepth 100000 in
theorem z_lawT (l : Launch) (hst : l.stackTraces = false) {g : GT} {x : CT} (hx : FX x l room_1 g 24 cL_law RL) (hz : TXF x) {ad : Nat → Nat} (hA : AI ad) {sp b : Nat} {cl : Nat → Nat} {T : TS} {B : Int} (hw : WF T B) (hI : IV T) (hB : B ≤ 2130) {nn mm vv : Int} {tm : Nat} (htm : tm < 100) (hnn : T 0 0 = nn) (hmm : T 0 1 = mm) {ws : va_W} {N : MM} (hN : HM N ws) {P : Nat → TS} (hC : CWM g ad N P T) (hS : SIM g N sp cl T) (hP1 : RG (P 1)) {k0 n0 : Nat} (hk0 : k0 + 7000 ≤ 1200086) (hn0 : n0 + 104970 ≤ 5501442)
    (hNext : ∀ (T9 : TS) (ws1 : va_W) (N1 : MM) (P1 : Nat → TS), HM N1 ws1 → STT g ad N1 sp cl P1 T9 (B + 30) → T9 0 0 = nn → T9 0 1 = mm → V x (k0 + 7000) (n0 + 104970) ws1 36 [(5, .int (iZ (((tm + 1) : Int)))), (4, .int (iZ (mm))), (3, .int (iZ (nn))), (2, .ref (sp)), (1, .ref ((ad 0))), (0, .ref (b))] []) : V x k0 n0 ws 74 [(6, .int (iZ (vv))), (5, .int (iZ ((tm : Int)))), (4, .int (iZ (mm))), (3, .int (iZ (nn))), (2, .ref (sp)), (1, .ref ((ad 0))), (0, .ref (b))] [] := by
  obtain ⟨hT, ⟨tn1, tn8⟩, ⟨hc0, hc9⟩, ⟨hz0, hz9⟩, ham1, hck9⟩ := id hw
  have hni := nc_i hw
  have h6 : nc T ≤ 6 := by omega
  have hnd : ((nd T : Nat) : Int) = T 0 0 := Int.toNat_of_nonneg (by omega)
  refine V_aload_n hx dL_law_74 5 rfl ?_
  refine M_callL hx hN hC hA (x_digest l T (wf_shp hw (by omega))) rfl cw_L_109 (RMa (by dsimp only [rmA, rmN, rmX, room_1]; omega) (by dsimp only [rmA, rmN, rmX, room_1]; omega) (by dsimp only [rmA, rmN, rmX, room_1]; omega) (by dsimp only [rmA, rmN, rmX, room_1]; omega)) rfl rfl (Nat.le_of_ble_eq_true rfl) dL_law_75 _ _ rfl rfl (fun z1 w1 e1 => ?_)
  obtain ⟨rfl, rfl⟩ := e1
  refine ⟨P, T, rfl, fun ws1 M1 hM1 hC9 kp1 => ?_⟩
  replace hS := sim_kp hS h6 kp1 (fun r hr => by first | trivial | (show _ ≠ _; omega))
  have hC := hC9
  refine V_lstore hx dL_law_78 [(7, .long (dgV T)), (6, .int (iZ (vv))), (5, .int (iZ ((tm : Int)))), (4, .int (iZ (mm))), (3, .int (iZ (nn))), (2, .ref (sp)), (1, .ref ((ad 0))), (0, .ref (b))] (by decide) rfl ?_
  refine V_iconst hx dL_law_80 ?_
  refine V_istore hx dL_law_81 [(9, .int (iZ (0))), (7, .long (dgV T)), (6, .int (iZ (vv))), (5, .int (iZ ((tm : Int)))), (4, .int (iZ (mm))), (3, .int (iZ (nn))), (2, .ref (sp)), (1, .ref ((ad 0))), (0, .ref (b))] (by decide) rfl ?_
  refine V_widen (k' := k0 + 120 * 0) (n' := n0 + 720 * 0) (by first | omega | (dsimp only [rmA, rmX, rmN]; omega)) (by first | omega | (dsimp only [rmA, rmX, rmN]; omega)) ?_
  have hL83 : ∀ (n d : Nat) (w1 : va_W) (N1 : MM), nd T < d + n → d ≤ nd T → HM N1 w1 → CWM g ad N1 P T → SIM g N1 sp cl T → V x (k0 + 120 * d) (n0 + 720 * d) w1 83 [(9, .int (iZ ((d : Int)))), (7, .long (dgV T)), (6, .int (iZ (vv))), (5, .int (iZ ((tm : Int)))), (4, .int (iZ (mm))), (3, .int (iZ (nn))), (2, .ref (sp)), (1, .ref ((ad 0))), (0, .ref (b))] [] := by
    intro n; induction n with
    | zero => intro d w1 N1 g1 g2; exact absurd g1 (by omega)
    | succ n ihd =>
      intro d w1 N1 g1 g2 hN1 hC hS
      refine V_iload hx dL_law_83 0 rfl ?_
      refine V_iload_n hx dL_law_85 5 rfl ?_
      refine V_icmp_ge hx dL_law_86 262 (by decide) ⟨by omega, by omega⟩ (by first | assumption | exact ⟨by omega, by omega⟩) (fun h86 => ?_) (fun h86 => ?_)
      · refine V_aload_n hx dL_law_262 7 rfl ?_
        refine M_callI hx hN1 hC hA (x_until l T (wf_shp hw (by omega)) hP1 (wf_dn hw) (fun T1 hT1 j hj => (gr_req hw (by omega) hT1 (by omega)).1)) rfl cw_L_123 (RMa (by dsimp only [rmA, rmN, rmX, room_1]; omega) (by dsimp only [rmA, rmN, rmX, room_1]; omega) (by dsimp only [rmA, rmN, rmX, room_1]; omega) (by dsimp only [rmA, rmN, rmX, room_1]; omega)) rfl rfl (Nat.le_of_ble_eq_true rfl) dL_law_263 _ _ rfl rfl (fun z2 w2 e2 => ?_)
        obtain ⟨hun, P8, hP8, rfl⟩ := e2
        refine ⟨P8, T, rfl, fun ws2 M2 hM2 hC9 kp2 => ?_⟩
        replace hS := sim_kp hS h6 kp2 (fun r hr => by first | trivial | (show _ ≠ _; omega))
        have hC := hC9
        refine V_istore hx dL_law_266 [(9, .int (iZ (z2))), (7, .long (dgV T)), (6, .int (iZ (vv))), (5, .int (iZ ((tm : Int)))), (4, .int (iZ (mm))), (3, .int (iZ (nn))), (2, .ref (sp)), (1, .ref ((ad 0))), (0, .ref (b))] (by decide) rfl ?_
        refine V_iconst hx dL_law_268 ?_
        refine V_iload hx dL_law_269 2 rfl ?_
        refine V_iconst hx dL_law_271 ?_
        refine V_ishr hx dL_law_272 (fun z3 r3 => ?_)
        refine V_iconst hx dL_law_273 ?_
        refine V_callSi hx (z_below l (v := z3) (n := 5) (by omega) (by omega)) cw_L_15 (RMa (by dsimp only [rmA, rmN, rmX, room_1]; omega) (by dsimp only [rmA, rmN, rmX, room_1]; omega) (by dsimp only [rmA, rmN, rmX, room_1]; omega) (by dsimp only [rmA, rmN, rmX, room_1]; omega)) rfl rfl (Nat.le_of_ble_eq_true rfl) dL_law_274 _ _ rfl rfl (fun b4 w4 e4 => ?_)
        obtain ⟨⟨b4l, b4h⟩, e4⟩ := e4
        replace e4 := e4.symm
        subst e4
        refine V_iadd hx dL_law_277 ?_
        obtain ⟨r, hr⟩ := Int.eq_ofNat_of_zero_le (show 0 ≤ 1 + b4 by omega)
        refine V_top (b := ((r : Nat) : Int)) hr ?_
        refine V_istore hx dL_law_278 [(10, .int (iZ ((r : Int)))), (9, .int (iZ (z2))), (7, .long (dgV T)), (6, .int (iZ (vv))), (5, .int (iZ ((tm : Int)))), (4, .int (iZ (mm))), (3, .int (iZ (nn))), (2, .ref (sp)), (1, .ref ((ad 0))), (0, .ref (b))] (by decide) rfl ?_
        refine V_bipush hx dL_law_280 rfl ?_
        refine M_newa hx hM2 2000 (7) rfl (by omega) (by dsimp only [rmA, rmX, rmN, room_1]; omega) (by dsimp only [rmA, rmX, rmN, room_1]; omega) dL_law_282 (fun q5 ws5 M5 hM5 f5 fr5 hn5 kp5 => ?_)
        replace hS := sim_kp hS h6 kp5 (fun r hr => by first | trivial | (show _ ≠ _; omega))
        replace hC := cwm_kp hC kp5 (by first | trivial | (show _ ≠ _; omega))
        have hq5 := f5
        refine V_astore hx dL_law_284 [(11, .ref (q5)), (10, .int (iZ ((r : Int)))), (9, .int (iZ (z2))), (7, .long (dgV T)), (6, .int (iZ (vv))), (5, .int (iZ ((tm : Int)))), (4, .int (iZ (mm))), (3, .int (iZ (nn))), (2, .ref (sp)), (1, .ref ((ad 0))), (0, .ref (b))] (by decide) rfl ?_
        refine V_iconst hx dL_law_286 ?_
        refine V_istore hx dL_law_287 [(12, .int (iZ (2))), (11, .ref (q5)), (10, .int (iZ ((r : Int)))), (9, .int (iZ (z2))), (7, .long (dgV T)), (6, .int (iZ (vv))), (5, .int (iZ ((tm : Int)))), (4, .int (iZ (mm))), (3, .int (iZ (nn))), (2, .ref (sp)), (1, .ref ((ad 0))), (0, .ref (b))] (by decide) rfl ?_
        refine V_widen (k' := k0 + 970 + 2 * 2) (n' := n0 + 5780 + 12 * 2) (by first | omega | (dsimp only [rmA, rmX, rmN]; omega)) (by first | omega | (dsimp only [rmA, rmX, rmN]; omega)) ?_
        have hL289 : ∀ (n j : Nat) (w1 : va_W) (N1 : MM) (P : Nat → TS), 7 < j + n → j ≤ 7 → 2 ≤ j → HM N1 w1 → CWM g ad N1 P T → SIM g N1 sp cl T → RG (P 1) → DU g N1 q5 j (dueF T r) → V x (k0 + 970 + 2 * j) (n0 + 5780 + 12 * j) w1 289 [(12, .int (iZ ((j : Int)))), (11, .ref (q5)), (10, .int (iZ ((r : Int)))), (9, .int (iZ (z2))), (7, .long (dgV T)), (6, .int (iZ (vv))), (5, .int (iZ ((tm : Int)))), (4, .int (iZ (mm))), (3, .int (iZ (nn))), (2, .ref (sp)), (1, .ref ((ad 0))), (0, .ref (b))] [] := by
          intro n; induction n with
          | zero => intro j w1 N1 P g1 g2; exact absurd g1 (by omega)
          | succ n ihj =>
            intro j w1 N1 P g1 g2 g3 hN1 hC hS hP1 hD
            refine V_iload hx dL_law_289 0 rfl ?_
            refine V_bipush hx dL_law_291 rfl ?_
            refine V_icmp_ge hx dL_law_293 315 (by decide) ⟨by omega, by omega⟩ ⟨by decide, by decide⟩ (fun h293 => ?_) (fun h293 => ?_)
            · refine V_aload_n hx dL_law_315 10 rfl ?_
              refine M_callL hx hN1 hC hA (x_digest l T (wf_shp hw (by omega))) rfl cw_L_109 (RMa (by dsimp only [rmA, rmN, rmX, room_1]; omega) (by dsimp only [rmA, rmN, rmX, room_1]; omega) (by dsimp only [rmA, rmN, rmX, room_1]; omega) (by dsimp only [rmA, rmN, rmX, room_1]; omega)) rfl rfl (Nat.le_of_ble_eq_true rfl) dL_law_316 _ _ rfl rfl (fun z6 w6 e6 => ?_)
              obtain ⟨rfl, rfl⟩ := e6
              refine ⟨P, T, rfl, fun ws6 M6 hM6 hC9 kp6 => ?_⟩
              replace hS := sim_kp hS h6 kp6 (fun r hr => by first | trivial | (show _ ≠ _; omega))
              replace hD := du_kp hD kp6 (by first | trivial | (show _ ≠ _; omega))
              have hC := hC9
              refine V_lload hx dL_law_319 4 rfl ?_
              refine V_lcmpE hx rfl dL_law_321 ?_
              refine V_if_eq hx dL_law_322 327 (by decide) ⟨by decide, by decide⟩ (fun h322 => ?_) (fun h322 => absurd h322 (by decide))
              have hj7 : j = 7 := by omega
              rw [hj7] at hD
              refine V_widen (k' := k0 + 990) (n' := n0 + 5870) (by first | omega | (dsimp only [rmA, rmX, rmN]; omega)) (by first | omega | (dsimp only [rmA, rmX, rmN]; omega)) ?_
              exact V_sub [1, 2, 3, 4, 5, 6, 7, 8, 9, 10, 11] rfl (z_lawK l hst hx hz hA hw hI hB htm hnn hmm (r := r) (by omega) (by omega) hun hM6 hC hS hP1 hD (k0 := k0 + 990) (n0 := n0 + 5870) (by omega) (by omega) (fun T9 w9 N9 P9 a1 a2 a3 a4 => hNext T9 w9 N9 P9 a1 a2 a3 a4))
            · refine V_aload hx dL_law_296 1 rfl ?_
              refine V_iload hx dL_law_298 0 rfl ?_
              refine V_aload_n hx dL_law_300 10 rfl ?_
              refine V_iload hx dL_law_301 2 rfl ?_
              refine V_iload hx dL_law_303 0 rfl ?_
              refine M_callX hx hz hN1 hC hA (x_foresee l hst T (wf_shp hw (by omega)) (r := ((r : Nat) : Int)) (what := ((j : Nat) : Int)) ⟨by omega, by omega⟩ ⟨by omega, by omega⟩ hP1 (wf_dn hw) (fun T1 hT1 j hj => gr_req hw (by omega) hT1 (by omega))) rfl cw_L_126 (RMa (by dsimp only [rmA, rmN, rmX, room_1]; omega) (by dsimp only [rmA, rmN, rmX, room_1]; omega) (by dsimp only [rmA, rmN, rmX, room_1]; omega) (by dsimp only [rmA, rmN, rmX, room_1]; omega)) rfl rfl (Nat.le_of_ble_eq_true rfl) dL_law_305 _ _ rfl rfl (fun E hE9 => by rcases hE9 with ⟨-, h9⟩ | ⟨-, -, h9⟩ <;> exact absurd (show _ ∧ _ from ⟨by omega, by omega⟩) h9) (fun z7 w7 e7 => ?_)
              obtain ⟨⟨-, -⟩, ⟨T1, hT1, rfl⟩, P9, hP9, rfl⟩ := e7
              refine ⟨P9, T, rfl, fun ws7 M7 hM7 hC9 kp7 => ?_⟩
              replace hS := sim_kp hS h6 kp7 (fun r hr => by first | trivial | (show _ ≠ _; omega))
              replace hD := du_kp hD kp7 (by first | trivial | (show _ ≠ _; omega))
              have hC := hC9
              refine V_top (b := dueF T r j) (fo_eq hw (by omega) (by omega)) ?_
              obtain ⟨ua, hqa, hua⟩ := id hD
              refine M_iast hx hM7 (by omega) (by omega) (by omega) hqa dL_law_308 (fun ws8 M8 hM8 f8 hn8 kp8 => ?_)
              replace hS := sim_kp hS h6 kp8 (fun r hr => by first | trivial | (show _ ≠ _; omega))
              replace hC := cwm_kp hC kp8 (by first | trivial | (show _ ≠ _; omega))
              replace hD := du_st hua f8
              refine V_iincN hx dL_law_309 0 rfl [(12, .int (iZ (((j + 1 : Nat) : Int)))), (11, .ref (q5)), (10, .int (iZ ((r : Int)))), (9, .int (iZ (z2))), (7, .long (dgV T)), (6, .int (iZ (vv))), (5, .int (iZ ((tm : Int)))), (4, .int (iZ (mm))), (3, .int (iZ (nn))), (2, .ref (sp)), (1, .ref ((ad 0))), (0, .ref (b))] (by decide) rfl ?_
              refine V_goto hx dL_law_312 289 (by decide) ?_
              refine V_widen (k' := k0 + 970 + 2 * (j + 1)) (n' := n0 + 5780 + 12 * (j + 1)) (by first | omega | (dsimp only [rmA, rmX, rmN]; omega)) (by first | omega | (dsimp only [rmA, rmX, rmN]; omega)) ?_
              exact V_sub [0, 1, 2, 3, 4, 5, 6, 7, 8, 9, 10, 11] rfl (ihj (j + 1) _ _ P9 (by omega) (by omega) (by omega) hM8 hC hS hP9 hD)
        exact V_sub [0, 1, 2, 3, 4, 5, 6, 7, 8, 9, 10, 11] rfl (hL289 7 2 _ _ _ (by omega) (by omega) (by omega) hM5 hC hS hP8 ⟨_, hq5, fun j h2 hj => absurd hj (by omega)⟩)
      · have ha9 := ham1 d (by omega)
        have hs9 := hI.1 d (by omega)
        refine V_aload_n hx dL_law_89 7 rfl ?_
        refine V_iload hx dL_law_90 0 rfl ?_
        refine V_iconst hx dL_law_92 ?_
        refine M_callX hx hz hN1 hC hA (x_drawer l hst T (wf_shp hw (by omega)) (d := ((d : Nat) : Int)) (what := 0) ⟨by omega, by omega⟩ ⟨by decide, by decide⟩) rfl cw_L_113 (RMa (by dsimp only [rmA, rmN, rmX, room_1]; omega) (by dsimp only [rmA, rmN, rmX, room_1]; omega) (by dsimp only [rmA, rmN, rmX, room_1]; omega) (by dsimp only [rmA, rmN, rmX, room_1]; omega)) rfl rfl (Nat.le_of_ble_eq_true rfl) dL_law_93 _ _ rfl rfl (fun E hE9 => absurd (show _ ∧ _ from ⟨⟨by omega, by omega⟩, ⟨by omega, by omega⟩⟩) hE9.2) (fun z9 w9 e9 => ?_)
        obtain ⟨-, rfl, rfl⟩ := e9
        refine ⟨P, T, rfl, fun ws9 M9 hM9 hC9 kp9 => ?_⟩
        replace hS := sim_kp hS h6 kp9 (fun r hr => by first | trivial | (show _ ≠ _; omega))
        have hC := hC9
        refine V_top (b := T 1 d) rfl ?_
        refine V_if_lt hx dL_law_96 137 (by decide) (hT _ _) (fun h96 => absurd h96 (by omega)) (fun h96 => ?_)
        refine V_aload_n hx dL_law_99 7 rfl ?_
        refine V_iload hx dL_law_100 0 rfl ?_
        refine V_iconst hx dL_law_102 ?_
        refine M_callX hx hz hM9 hC hA (x_drawer l hst T (wf_shp hw (by omega)) (d := ((d : Nat) : Int)) (what := 0) ⟨by omega, by omega⟩ ⟨by decide, by decide⟩) rfl cw_L_113 (RMa (by dsimp only [rmA, rmN, rmX, room_1]; omega) (by dsimp only [rmA, rmN, rmX, room_1]; omega) (by dsimp only [rmA, rmN, rmX, room_1]; omega) (by dsimp only [rmA, rmN, rmX, room_1]; omega)) rfl rfl (Nat.le_of_ble_eq_true rfl) dL_law_103 _ _ rfl rfl (fun E hE9 => absurd (show _ ∧ _ from ⟨⟨by omega, by omega⟩, ⟨by omega, by omega⟩⟩) hE9.2) (fun z10 w10 e10 => ?_)
        obtain ⟨-, rfl, rfl⟩ := e10
        refine ⟨P, T, rfl, fun ws10 M10 hM10 hC9 kp10 => ?_⟩
        replace hS := sim_kp hS h6 kp10 (fun r hr => by first | trivial | (show _ ≠ _; omega))
        have hC := hC9
        refine V_top (b := T 1 d) rfl ?_
        refine V_sipush hx dL_law_106 rfl ?_
        refine V_icmp_gt hx dL_law_109 137 (by decide) (hT _ _) ⟨by decide, by decide⟩ (fun h109 => absurd h109 (by omega)) (fun h109 => ?_)
        refine V_aload_n hx dL_law_112 7 rfl ?_
        refine V_iload hx dL_law_113 0 rfl ?_
        refine V_iconst hx dL_law_115 ?_
        refine M_callX hx hz hM10 hC hA (x_drawer l hst T (wf_shp hw (by omega)) (d := ((d : Nat) : Int)) (what := 1) ⟨by omega, by omega⟩ ⟨by decide, by decide⟩) rfl cw_L_113 (RMa (by dsimp only [rmA, rmN, rmX, room_1]; omega) (by dsimp only [rmA, rmN, rmX, room_1]; omega) (by dsimp only [rmA, rmN, rmX, room_1]; omega) (by dsimp only [rmA, rmN, rmX, room_1]; omega)) rfl rfl (Nat.le_of_ble_eq_true rfl) dL_law_116 _ _ rfl rfl (fun E hE9 => absurd (show _ ∧ _ from ⟨⟨by omega, by omega⟩, ⟨by omega, by omega⟩⟩) hE9.2) (fun z11 w11 e11 => ?_)
        obtain ⟨-, rfl, rfl⟩ := e11
        refine ⟨P, T, rfl, fun ws11 M11 hM11 hC9 kp11 => ?_⟩
        replace hS := sim_kp hS h6 kp11 (fun r hr => by first | trivial | (show _ ≠ _; omega))
        have hC := hC9
        refine V_top (b := T 2 d) rfl ?_
        refine V_if_lt hx dL_law_119 137 (by decide) (hT _ _) (fun h119 => absurd h119 (by omega)) (fun h119 => ?_)
        refine V_aload_n hx dL_law_122 7 rfl ?_
        refine V_iload hx dL_law_123 0 rfl ?_
        refine V_iconst hx dL_law_125 ?_
        refine M_callX hx hz hM11 hC hA (x_drawer l hst T (wf_shp hw (by omega)) (d := ((d : Nat) : Int)) (what := 1) ⟨by omega, by omega⟩ ⟨by decide, by decide⟩) rfl cw_L_113 (RMa (by dsimp only [rmA, rmN, rmX, room_1]; omega) (by dsimp only [rmA, rmN, rmX, room_1]; omega) (by dsimp only [rmA, rmN, rmX, room_1]; omega) (by dsimp only [rmA, rmN, rmX, room_1]; omega)) rfl rfl (Nat.le_of_ble_eq_true rfl) dL_law_126 _ _ rfl rfl (fun E hE9 => absurd (show _ ∧ _ from ⟨⟨by omega, by omega⟩, ⟨by omega, by omega⟩⟩) hE9.2) (fun z12 w12 e12 => ?_)
        obtain ⟨-, rfl, rfl⟩ := e12
        refine ⟨P, T, rfl, fun ws12 M12 hM12 hC9 kp12 => ?_⟩
        replace hS := sim_kp hS h6 kp12 (fun r hr => by first | trivial | (show _ ≠ _; omega))
        have hC := hC9
        refine V_top (b := T 2 d) rfl ?_
        refine V_aload_n hx dL_law_129 7 rfl ?_
        refine V_iconst hx dL_law_130 ?_
        refine M_callX hx hz hM12 hC hA (x_count l hst T (wf_shp hw (by omega)) (what := 3) ⟨by decide, by decide⟩) rfl cw_L_116 (RMa (by dsimp only [rmA, rmN, rmX, room_1]; omega) (by dsimp only [rmA, rmN, rmX, room_1]; omega) (by dsimp only [rmA, rmN, rmX, room_1]; omega) (by dsimp only [rmA, rmN, rmX, room_1]; omega)) rfl rfl (Nat.le_of_ble_eq_true rfl) dL_law_131 _ _ rfl rfl (fun E hE9 => absurd (show _ ∧ _ from ⟨by decide, by decide⟩) hE9.2) (fun z13 w13 e13 => ?_)
        obtain ⟨-, rfl, rfl⟩ := e13
        refine ⟨P, T, rfl, fun ws13 M13 hM13 hC9 kp13 => ?_⟩
        replace hS := sim_kp hS h6 kp13 (fun r hr => by first | trivial | (show _ ≠ _; omega))
        have hC := hC9
        refine V_top (b := T 0 2) rfl ?_
        refine V_icmp_le hx dL_law_134 139 (by decide) (hT _ _) (hT _ _) (fun h134 => ?_) (fun h134 => absurd h134 (fun h9 => absurd hs9.2 (by omega)))
        refine V_iconst hx dL_law_139 ?_
        refine V_istore hx dL_law_140 [(10, .int (iZ (0))), (9, .int (iZ ((d : Int)))), (7, .long (dgV T)), (6, .int (iZ (vv))), (5, .int (iZ ((tm : Int)))), (4, .int (iZ (mm))), (3, .int (iZ (nn))), (2, .ref (sp)), (1, .ref ((ad 0))), (0, .ref (b))] (by decide) rfl ?_
        refine V_widen (k' := k0 + 120 * d + 9 + 18 * 0) (n' := n0 + 720 * d + 54 + 108 * 0) (by first | omega | (dsimp only [rmA, rmX, rmN]; omega)) (by first | omega | (dsimp only [rmA, rmX, rmN]; omega)) ?_
        have hL142 : ∀ (n c : Nat) (w1 : va_W) (N1 : MM), nc T < c + n → c ≤ nc T → HM N1 w1 → CWM g ad N1 P T → SIM g N1 sp cl T → V x (k0 + 120 * d + 9 + 18 * c) (n0 + 720 * d + 54 + 108 * c) w1 142 [(10, .int (iZ ((c : Int)))), (9, .int (iZ ((d : Int)))), (7, .long (dgV T)), (6, .int (iZ (vv))), (5, .int (iZ ((tm : Int)))), (4, .int (iZ (mm))), (3, .int (iZ (nn))), (2, .ref (sp)), (1, .ref ((ad 0))), (0, .ref (b))] [] := by
          intro n; induction n with
          | zero => intro c w1 N1 g1 g2; exact absurd g1 (by omega)
          | succ n ihc =>
            intro c w1 N1 g1 g2 hN1 hC hS
            refine V_iload hx dL_law_142 0 rfl ?_
            refine V_iload hx dL_law_144 5 rfl ?_
            refine V_icmp_ge hx dL_law_146 256 (by decide) ⟨by omega, by omega⟩ (by first | assumption | exact ⟨by omega, by omega⟩) (fun h146 => ?_) (fun h146 => ?_)
            · refine V_iincN hx dL_law_256 1 rfl [(9, .int (iZ (((d + 1 : Nat) : Int)))), (10, .int (iZ ((c : Int)))), (7, .long (dgV T)), (6, .int (iZ (vv))), (5, .int (iZ ((tm : Int)))), (4, .int (iZ (mm))), (3, .int (iZ (nn))), (2, .ref (sp)), (1, .ref ((ad 0))), (0, .ref (b))] (by decide) rfl ?_
              refine V_goto hx dL_law_259 83 (by decide) ?_
              refine V_widen (k' := k0 + 120 * (d + 1)) (n' := n0 + 720 * (d + 1)) (by first | omega | (dsimp only [rmA, rmX, rmN]; omega)) (by first | omega | (dsimp only [rmA, rmX, rmN]; omega)) ?_
              exact V_sub [0, 2, 3, 4, 5, 6, 7, 8, 9] rfl (ihd (d + 1) _ _ (by omega) (by omega) hN1 hC hS)
            · have hci : (c : Int) < T 0 1 := by omega
              obtain ⟨⟨k1, k1b⟩, ⟨k2, k2b⟩, k3, ⟨k4, k4b⟩, k5, k6⟩ := hck9 c hci
              have hc6 : c < 6 := by omega
              have hb9 := k6 d (by omega)
              have hli := (hI.2 c hci).1 d (by omega)
              have hs1 : (T (7 + 8 * c + 5) d = -1 ∧ T (7 + 8 * c + 6) d = -1) ∨ (0 ≤ T (7 + 8 * c + 5) d ∧ 0 ≤ T (7 + 8 * c + 6) d ∧ T (7 + 8 * c + 6) d ≤ T 2 d ∧ (T (7 + 8 * c + 6) d ≠ T 2 d ∨ T (7 + 8 * c + 5) d = T 1 d)) := by
                by_cases h5 : T (7 + 8 * c + 5) d = -1
                · exact Or.inl ⟨h5, hli.1 h5⟩
                · obtain ⟨y1, y2, y3⟩ := hli.2 h5
                  refine Or.inr ⟨by omega, y1, y2, ?_⟩
                  by_cases h6 : T (7 + 8 * c + 6) d = T 2 d
                  · exact Or.inr (y3 h6)
                  · exact Or.inl h6
              refine V_aload_n hx dL_law_149 8 rfl ?_
              refine V_iload hx dL_law_150 0 rfl ?_
              refine V_iload hx dL_law_152 1 rfl ?_
              refine V_iconst hx dL_law_154 ?_
              refine M_callX hx hz hN1 hC hA (x_slip l hst T (wf_shp hw (by omega)) (c := ((c : Nat) : Int)) (d := ((d : Nat) : Int)) (what := 1) ⟨by omega, by omega⟩ ⟨by omega, by omega⟩ ⟨by decide, by decide⟩) rfl cw_L_119 (RMa (by dsimp only [rmA, rmN, rmX, room_1]; omega) (by dsimp only [rmA, rmN, rmX, room_1]; omega) (by dsimp only [rmA, rmN, rmX, room_1]; omega) (by dsimp only [rmA, rmN, rmX, room_1]; omega)) rfl rfl (Nat.le_of_ble_eq_true rfl) dL_law_155 _ _ rfl rfl (fun E hE9 => absurd (show _ ∧ _ from ⟨⟨by omega, by omega⟩, ⟨by omega, by omega⟩, ⟨by omega, by omega⟩⟩) hE9.2) (fun z14 w14 e14 => ?_)
              obtain ⟨-, rfl, rfl⟩ := e14
              refine ⟨P, T, rfl, fun ws14 M14 hM14 hC9 kp14 => ?_⟩
              replace hS := sim_kp hS h6 kp14 (fun r hr => by first | trivial | (show _ ≠ _; omega))
              have hC := hC9
              refine V_top (b := T (7 + 8 * c + 6) d) rfl ?_
              refine V_istore hx dL_law_158 [(11, .int (iZ (T (7 + 8 * c + 6) d))), (10, .int (iZ ((c : Int)))), (9, .int (iZ ((d : Int)))), (7, .long (dgV T)), (6, .int (iZ (vv))), (5, .int (iZ ((tm : Int)))), (4, .int (iZ (mm))), (3, .int (iZ (nn))), (2, .ref (sp)), (1, .ref ((ad 0))), (0, .ref (b))] (by decide) rfl ?_
              refine V_iload hx dL_law_160 0 rfl ?_
              refine V_if_ge hx dL_law_162 169 (by decide) (hT _ _) (fun h162 => ?_) (fun h162 => ?_)
              · refine V_iconst hx dL_law_169 ?_
                refine V_aload_n hx dL_law_170 9 rfl ?_
                refine V_iload hx dL_law_171 1 rfl ?_
                refine V_iload hx dL_law_173 2 rfl ?_
                refine V_iconst hx dL_law_175 ?_
                refine M_callX hx hz hM14 hC hA (x_slip l hst T (wf_shp hw (by omega)) (c := ((c : Nat) : Int)) (d := ((d : Nat) : Int)) (what := 0) ⟨by omega, by omega⟩ ⟨by omega, by omega⟩ ⟨by decide, by decide⟩) rfl cw_L_119 (RMa (by dsimp only [rmA, rmN, rmX, room_1]; omega) (by dsimp only [rmA, rmN, rmX, room_1]; omega) (by dsimp only [rmA, rmN, rmX, room_1]; omega) (by dsimp only [rmA, rmN, rmX, room_1]; omega)) rfl rfl (Nat.le_of_ble_eq_true rfl) dL_law_176 _ _ rfl rfl (fun E hE9 => absurd (show _ ∧ _ from ⟨⟨by omega, by omega⟩, ⟨by omega, by omega⟩, ⟨by omega, by omega⟩⟩) hE9.2) (fun z15 w15 e15 => ?_)
                obtain ⟨-, rfl, rfl⟩ := e15
                refine ⟨P, T, rfl, fun ws15 M15 hM15 hC9 kp15 => ?_⟩
                replace hS := sim_kp hS h6 kp15 (fun r hr => by first | trivial | (show _ ≠ _; omega))
                have hC := hC9
                refine V_top (b := T (7 + 8 * c + 5) d) rfl ?_
                refine V_if_ge hx dL_law_179 186 (by decide) (hT _ _) (fun h179 => ?_) (fun h179 => ?_)
                · refine V_iconst hx dL_law_186 ?_
                  refine V_ineS hx dL_law_187 248 (by decide) ?_
                  refine V_iload hx dL_law_190 0 rfl ?_
                  refine V_aload_n hx dL_law_192 9 rfl ?_
                  refine V_iload hx dL_law_193 2 rfl ?_
                  refine V_iconst hx dL_law_195 ?_
                  refine M_callX hx hz hM15 hC hA (x_drawer l hst T (wf_shp hw (by omega)) (d := ((d : Nat) : Int)) (what := 1) ⟨by omega, by omega⟩ ⟨by decide, by decide⟩) rfl cw_L_113 (RMa (by dsimp only [rmA, rmN, rmX, room_1]; omega) (by dsimp only [rmA, rmN, rmX, room_1]; omega) (by dsimp only [rmA, rmN, rmX, room_1]; omega) (by dsimp only [rmA, rmN, rmX, room_1]; omega)) rfl rfl (Nat.le_of_ble_eq_true rfl) dL_law_196 _ _ rfl rfl (fun E hE9 => absurd (show _ ∧ _ from ⟨⟨by omega, by omega⟩, ⟨by omega, by omega⟩⟩) hE9.2) (fun z16 w16 e16 => ?_)
                  obtain ⟨-, rfl, rfl⟩ := e16
                  refine ⟨P, T, rfl, fun ws16 M16 hM16 hC9 kp16 => ?_⟩
                  replace hS := sim_kp hS h6 kp16 (fun r hr => by first | trivial | (show _ ≠ _; omega))
                  have hC := hC9
                  refine V_top (b := T 2 d) rfl ?_
                  refine V_icmp_gt hx dL_law_199 248 (by decide) (hT _ _) (hT _ _) (fun h199 => absurd h199 (by omega)) (fun h199 => ?_)
                  refine V_iload hx dL_law_202 0 rfl ?_
                  refine V_aload_n hx dL_law_204 9 rfl ?_
                  refine V_iload hx dL_law_205 2 rfl ?_
                  refine V_iconst hx dL_law_207 ?_
                  refine M_callX hx hz hM16 hC hA (x_drawer l hst T (wf_shp hw (by omega)) (d := ((d : Nat) : Int)) (what := 1) ⟨by omega, by omega⟩ ⟨by decide, by decide⟩) rfl cw_L_113 (RMa (by dsimp only [rmA, rmN, rmX, room_1]; omega) (by dsimp only [rmA, rmN, rmX, room_1]; omega) (by dsimp only [rmA, rmN, rmX, room_1]; omega) (by dsimp only [rmA, rmN, rmX, room_1]; omega)) rfl rfl (Nat.le_of_ble_eq_true rfl) dL_law_208 _ _ rfl rfl (fun E hE9 => absurd (show _ ∧ _ from ⟨⟨by omega, by omega⟩, ⟨by omega, by omega⟩⟩) hE9.2) (fun z17 w17 e17 => ?_)
                  obtain ⟨-, rfl, rfl⟩ := e17
                  refine ⟨P, T, rfl, fun ws17 M17 hM17 hC9 kp17 => ?_⟩
                  replace hS := sim_kp hS h6 kp17 (fun r hr => by first | trivial | (show _ ≠ _; omega))
                  have hC := hC9
                  refine V_top (b := T 2 d) rfl ?_
                  refine V_icmp_ne hx dL_law_211 233 (by decide) (hT _ _) (hT _ _) (fun h211 => ?_) (fun h211 => ?_)
                  · refine V_aload_n hx dL_law_233 9 rfl ?_
                    refine V_iload hx dL_law_234 1 rfl ?_
                    refine V_iload hx dL_law_236 2 rfl ?_
                    refine V_iconst hx dL_law_238 ?_
                    refine M_callX hx hz hM17 hC hA (x_slip l hst T (wf_shp hw (by omega)) (c := ((c : Nat) : Int)) (d := ((d : Nat) : Int)) (what := 2) ⟨by omega, by omega⟩ ⟨by omega, by omega⟩ ⟨by decide, by decide⟩) rfl cw_L_119 (RMa (by dsimp only [rmA, rmN, rmX, room_1]; omega) (by dsimp only [rmA, rmN, rmX, room_1]; omega) (by dsimp only [rmA, rmN, rmX, room_1]; omega) (by dsimp only [rmA, rmN, rmX, room_1]; omega)) rfl rfl (Nat.le_of_ble_eq_true rfl) dL_law_239 _ _ rfl rfl (fun E hE9 => absurd (show _ ∧ _ from ⟨⟨by omega, by omega⟩, ⟨by omega, by omega⟩, ⟨by omega, by omega⟩⟩) hE9.2) (fun z18 w18 e18 => ?_)
                    obtain ⟨-, rfl, rfl⟩ := e18
                    refine ⟨P, T, rfl, fun ws18 M18 hM18 hC9 kp18 => ?_⟩
                    replace hS := sim_kp hS h6 kp18 (fun r hr => by first | trivial | (show _ ≠ _; omega))
                    have hC := hC9
                    refine V_top (b := T (7 + 8 * c + 7) d) rfl ?_
                    refine V_sipush hx dL_law_242 rfl ?_
                    refine V_icmp_le hx dL_law_245 250 (by decide) (hT _ _) ⟨by decide, by decide⟩ (fun h245 => ?_) (fun h245 => absurd h245 (fun h9 => by omega))
                    refine V_iincN hx dL_law_250 1 rfl [(10, .int (iZ (((c + 1 : Nat) : Int)))), (11, .int (iZ (T (7 + 8 * c + 6) d))), (9, .int (iZ ((d : Int)))), (7, .long (dgV T)), (6, .int (iZ (vv))), (5, .int (iZ ((tm : Int)))), (4, .int (iZ (mm))), (3, .int (iZ (nn))), (2, .ref (sp)), (1, .ref ((ad 0))), (0, .ref (b))] (by decide) rfl ?_
                    refine V_goto hx dL_law_253 142 (by decide) ?_
                    refine V_widen (k' := k0 + 120 * d + 9 + 18 * (c + 1)) (n' := n0 + 720 * d + 54 + 108 * (c + 1)) (by first | omega | (dsimp only [rmA, rmX, rmN]; omega)) (by first | omega | (dsimp only [rmA, rmX, rmN]; omega)) ?_
                    exact V_sub [0, 2, 3, 4, 5, 6, 7, 8, 9, 10] rfl (ihc (c + 1) _ _ (by omega) (by omega) hM18 hC hS)
                  · refine V_aload_n hx dL_law_214 9 rfl ?_
                    refine V_iload hx dL_law_215 1 rfl ?_
                    refine V_iload hx dL_law_217 2 rfl ?_
                    refine V_iconst hx dL_law_219 ?_
                    refine M_callX hx hz hM17 hC hA (x_slip l hst T (wf_shp hw (by omega)) (c := ((c : Nat) : Int)) (d := ((d : Nat) : Int)) (what := 0) ⟨by omega, by omega⟩ ⟨by omega, by omega⟩ ⟨by decide, by decide⟩) rfl cw_L_119 (RMa (by dsimp only [rmA, rmN, rmX, room_1]; omega) (by dsimp only [rmA, rmN, rmX, room_1]; omega) (by dsimp only [rmA, rmN, rmX, room_1]; omega) (by dsimp only [rmA, rmN, rmX, room_1]; omega)) rfl rfl (Nat.le_of_ble_eq_true rfl) dL_law_220 _ _ rfl rfl (fun E hE9 => absurd (show _ ∧ _ from ⟨⟨by omega, by omega⟩, ⟨by omega, by omega⟩, ⟨by omega, by omega⟩⟩) hE9.2) (fun z19 w19 e19 => ?_)
                    obtain ⟨-, rfl, rfl⟩ := e19
                    refine ⟨P, T, rfl, fun ws19 M19 hM19 hC9 kp19 => ?_⟩
                    replace hS := sim_kp hS h6 kp19 (fun r hr => by first | trivial | (show _ ≠ _; omega))
                    have hC := hC9
                    refine V_top (b := T (7 + 8 * c + 5) d) rfl ?_
                    refine V_aload_n hx dL_law_223 9 rfl ?_
                    refine V_iload hx dL_law_224 2 rfl ?_
                    refine V_iconst hx dL_law_226 ?_
                    refine M_callX hx hz hM19 hC hA (x_drawer l hst T (wf_shp hw (by omega)) (d := ((d : Nat) : Int)) (what := 0) ⟨by omega, by omega⟩ ⟨by decide, by decide⟩) rfl cw_L_113 (RMa (by dsimp only [rmA, rmN, rmX, room_1]; omega) (by dsimp only [rmA, rmN, rmX, room_1]; omega) (by dsimp only [rmA, rmN, rmX, room_1]; omega) (by dsimp only [rmA, rmN, rmX, room_1]; omega)) rfl rfl (Nat.le_of_ble_eq_true rfl) dL_law_227 _ _ rfl rfl (fun E hE9 => absurd (show _ ∧ _ from ⟨⟨by omega, by omega⟩, ⟨by omega, by omega⟩⟩) hE9.2) (fun z20 w20 e20 => ?_)
                    obtain ⟨-, rfl, rfl⟩ := e20
                    refine ⟨P, T, rfl, fun ws20 M20 hM20 hC9 kp20 => ?_⟩
                    replace hS := sim_kp hS h6 kp20 (fun r hr => by first | trivial | (show _ ≠ _; omega))
                    have hC := hC9
                    refine V_top (b := T 1 d) rfl ?_
                    refine V_icmp_ne hx dL_law_230 248 (by decide) (hT _ _) (hT _ _) (fun h230 => absurd h230 (fun h9 => by omega)) (fun h230 => ?_)
                    refine V_aload_n hx dL_law_233 9 rfl ?_
                    refine V_iload hx dL_law_234 1 rfl ?_
                    refine V_iload hx dL_law_236 2 rfl ?_
                    refine V_iconst hx dL_law_238 ?_
                    refine M_callX hx hz hM20 hC hA (x_slip l hst T (wf_shp hw (by omega)) (c := ((c : Nat) : Int)) (d := ((d : Nat) : Int)) (what := 2) ⟨by omega, by omega⟩ ⟨by omega, by omega⟩ ⟨by decide, by decide⟩) rfl cw_L_119 (RMa (by dsimp only [rmA, rmN, rmX, room_1]; omega) (by dsimp only [rmA, rmN, rmX, room_1]; omega) (by dsimp only [rmA, rmN, rmX, room_1]; omega) (by dsimp only [rmA, rmN, rmX, room_1]; omega)) rfl rfl (Nat.le_of_ble_eq_true rfl) dL_law_239 _ _ rfl rfl (fun E hE9 => absurd (show _ ∧ _ from ⟨⟨by omega, by omega⟩, ⟨by omega, by omega⟩, ⟨by omega, by omega⟩⟩) hE9.2) (fun z21 w21 e21 => ?_)
                    obtain ⟨-, rfl, rfl⟩ := e21
                    refine ⟨P, T, rfl, fun ws21 M21 hM21 hC9 kp21 => ?_⟩
                    replace hS := sim_kp hS h6 kp21 (fun r hr => by first | trivial | (show _ ≠ _; omega))
                    have hC := hC9
                    refine V_top (b := T (7 + 8 * c + 7) d) rfl ?_
                    refine V_sipush hx dL_law_242 rfl ?_
                    refine V_icmp_le hx dL_law_245 250 (by decide) (hT _ _) ⟨by decide, by decide⟩ (fun h245_2 => ?_) (fun h245_2 => absurd h245_2 (fun h9 => by omega))
                    refine V_iincN hx dL_law_250 1 rfl [(10, .int (iZ (((c + 1 : Nat) : Int)))), (11, .int (iZ (T (7 + 8 * c + 6) d))), (9, .int (iZ ((d : Int)))), (7, .long (dgV T)), (6, .int (iZ (vv))), (5, .int (iZ ((tm : Int)))), (4, .int (iZ (mm))), (3, .int (iZ (nn))), (2, .ref (sp)), (1, .ref ((ad 0))), (0, .ref (b))] (by decide) rfl ?_
                    refine V_goto hx dL_law_253 142 (by decide) ?_
                    refine V_widen (k' := k0 + 120 * d + 9 + 18 * (c + 1)) (n' := n0 + 720 * d + 54 + 108 * (c + 1)) (by first | omega | (dsimp only [rmA, rmX, rmN]; omega)) (by first | omega | (dsimp only [rmA, rmX, rmN]; omega)) ?_
                    exact V_sub [0, 2, 3, 4, 5, 6, 7, 8, 9, 10] rfl (ihc (c + 1) _ _ (by omega) (by omega) hM21 hC hS)
                · refine V_iconst hx dL_law_182 ?_
                  refine V_goto hx dL_law_183 187 (by decide) ?_
                  exact absurd hs1 (by have := h162; have := h179; omega)
              · refine V_iconst hx dL_law_165 ?_
                refine V_goto hx dL_law_166 170 (by decide) ?_
                refine V_aload_n hx dL_law_170 9 rfl ?_
                refine V_iload hx dL_law_171 1 rfl ?_
                refine V_iload hx dL_law_173 2 rfl ?_
                refine V_iconst hx dL_law_175 ?_
                refine M_callX hx hz hM14 hC hA (x_slip l hst T (wf_shp hw (by omega)) (c := ((c : Nat) : Int)) (d := ((d : Nat) : Int)) (what := 0) ⟨by omega, by omega⟩ ⟨by omega, by omega⟩ ⟨by decide, by decide⟩) rfl cw_L_119 (RMa (by dsimp only [rmA, rmN, rmX, room_1]; omega) (by dsimp only [rmA, rmN, rmX, room_1]; omega) (by dsimp only [rmA, rmN, rmX, room_1]; omega) (by dsimp only [rmA, rmN, rmX, room_1]; omega)) rfl rfl (Nat.le_of_ble_eq_true rfl) dL_law_176 _ _ rfl rfl (fun E hE9 => absurd (show _ ∧ _ from ⟨⟨by omega, by omega⟩, ⟨by omega, by omega⟩, ⟨by omega, by omega⟩⟩) hE9.2) (fun z22 w22 e22 => ?_)
                obtain ⟨-, rfl, rfl⟩ := e22
                refine ⟨P, T, rfl, fun ws22 M22 hM22 hC9 kp22 => ?_⟩
                replace hS := sim_kp hS h6 kp22 (fun r hr => by first | trivial | (show _ ≠ _; omega))
                have hC := hC9
                refine V_top (b := T (7 + 8 * c + 5) d) rfl ?_
                refine V_if_ge hx dL_law_179 186 (by decide) (hT _ _) (fun h179_2 => ?_) (fun h179_2 => ?_)
                · refine V_iconst hx dL_law_186 ?_
                  exact absurd hs1 (by have := h162; have := h179_2; omega)
                · refine V_iconst hx dL_law_182 ?_
                  refine V_goto hx dL_law_183 187 (by decide) ?_
                  refine V_ineS hx dL_law_187 248 (by decide) ?_
                  refine V_iload hx dL_law_190 0 rfl ?_
                  refine V_aload_n hx dL_law_192 9 rfl ?_
                  refine V_iload hx dL_law_193 2 rfl ?_
                  refine V_iconst hx dL_law_195 ?_
                  refine M_callX hx hz hM22 hC hA (x_drawer l hst T (wf_shp hw (by omega)) (d := ((d : Nat) : Int)) (what := 1) ⟨by omega, by omega⟩ ⟨by decide, by decide⟩) rfl cw_L_113 (RMa (by dsimp only [rmA, rmN, rmX, room_1]; omega) (by dsimp only [rmA, rmN, rmX, room_1]; omega) (by dsimp only [rmA, rmN, rmX, room_1]; omega) (by dsimp only [rmA, rmN, rmX, room_1]; omega)) rfl rfl (Nat.le_of_ble_eq_true rfl) dL_law_196 _ _ rfl rfl (fun E hE9 => absurd (show _ ∧ _ from ⟨⟨by omega, by omega⟩, ⟨by omega, by omega⟩⟩) hE9.2) (fun z23 w23 e23 => ?_)
                  obtain ⟨-, rfl, rfl⟩ := e23
                  refine ⟨P, T, rfl, fun ws23 M23 hM23 hC9 kp23 => ?_⟩
                  replace hS := sim_kp hS h6 kp23 (fun r hr => by first | trivial | (show _ ≠ _; omega))
                  have hC := hC9
                  refine V_top (b := T 2 d) rfl ?_
                  refine V_icmp_gt hx dL_law_199 248 (by decide) (hT _ _) (hT _ _) (fun h199_2 => absurd h199_2 (by omega)) (fun h199_2 => ?_)
                  refine V_iload hx dL_law_202 0 rfl ?_
                  refine V_aload_n hx dL_law_204 9 rfl ?_
                  refine V_iload hx dL_law_205 2 rfl ?_
                  refine V_iconst hx dL_law_207 ?_
                  refine M_callX hx hz hM23 hC hA (x_drawer l hst T (wf_shp hw (by omega)) (d := ((d : Nat) : Int)) (what := 1) ⟨by omega, by omega⟩ ⟨by decide, by decide⟩) rfl cw_L_113 (RMa (by dsimp only [rmA, rmN, rmX, room_1]; omega) (by dsimp only [rmA, rmN, rmX, room_1]; omega) (by dsimp only [rmA, rmN, rmX, room_1]; omega) (by dsimp only [rmA, rmN, rmX, room_1]; omega)) rfl rfl (Nat.le_of_ble_eq_true rfl) dL_law_208 _ _ rfl rfl (fun E hE9 => absurd (show _ ∧ _ from ⟨⟨by omega, by omega⟩, ⟨by omega, by omega⟩⟩) hE9.2) (fun z24 w24 e24 => ?_)
                  obtain ⟨-, rfl, rfl⟩ := e24
                  refine ⟨P, T, rfl, fun ws24 M24 hM24 hC9 kp24 => ?_⟩
                  replace hS := sim_kp hS h6 kp24 (fun r hr => by first | trivial | (show _ ≠ _; omega))
                  have hC := hC9
                  refine V_top (b := T 2 d) rfl ?_
                  refine V_icmp_ne hx dL_law_211 233 (by decide) (hT _ _) (hT _ _) (fun h211_2 => ?_) (fun h211_2 => ?_)
                  · refine V_aload_n hx dL_law_233 9 rfl ?_
                    refine V_iload hx dL_law_234 1 rfl ?_
                    refine V_iload hx dL_law_236 2 rfl ?_
                    refine V_iconst hx dL_law_238 ?_
                    refine M_callX hx hz hM24 hC hA (x_slip l hst T (wf_shp hw (by omega)) (c := ((c : Nat) : Int)) (d := ((d : Nat) : Int)) (what := 2) ⟨by omega, by omega⟩ ⟨by omega, by omega⟩ ⟨by decide, by decide⟩) rfl cw_L_119 (RMa (by dsimp only [rmA, rmN, rmX, room_1]; omega) (by dsimp only [rmA, rmN, rmX, room_1]; omega) (by dsimp only [rmA, rmN, rmX, room_1]; omega) (by dsimp only [rmA, rmN, rmX, room_1]; omega)) rfl rfl (Nat.le_of_ble_eq_true rfl) dL_law_239 _ _ rfl rfl (fun E hE9 => absurd (show _ ∧ _ from ⟨⟨by omega, by omega⟩, ⟨by omega, by omega⟩, ⟨by omega, by omega⟩⟩) hE9.2) (fun z25 w25 e25 => ?_)
                    obtain ⟨-, rfl, rfl⟩ := e25
                    refine ⟨P, T, rfl, fun ws25 M25 hM25 hC9 kp25 => ?_⟩
                    replace hS := sim_kp hS h6 kp25 (fun r hr => by first | trivial | (show _ ≠ _; omega))
                    have hC := hC9
                    refine V_top (b := T (7 + 8 * c + 7) d) rfl ?_
                    refine V_sipush hx dL_law_242 rfl ?_
                    refine V_icmp_le hx dL_law_245 250 (by decide) (hT _ _) ⟨by decide, by decide⟩ (fun h245_3 => ?_) (fun h245_3 => absurd h245_3 (fun h9 => by omega))
                    refine V_iincN hx dL_law_250 1 rfl [(10, .int (iZ (((c + 1 : Nat) : Int)))), (11, .int (iZ (T (7 + 8 * c + 6) d))), (9, .int (iZ ((d : Int)))), (7, .long (dgV T)), (6, .int (iZ (vv))), (5, .int (iZ ((tm : Int)))), (4, .int (iZ (mm))), (3, .int (iZ (nn))), (2, .ref (sp)), (1, .ref ((ad 0))), (0, .ref (b))] (by decide) rfl ?_
                    refine V_goto hx dL_law_253 142 (by decide) ?_
                    refine V_widen (k' := k0 + 120 * d + 9 + 18 * (c + 1)) (n' := n0 + 720 * d + 54 + 108 * (c + 1)) (by first | omega | (dsimp only [rmA, rmX, rmN]; omega)) (by first | omega | (dsimp only [rmA, rmX, rmN]; omega)) ?_
                    exact V_sub [0, 2, 3, 4, 5, 6, 7, 8, 9, 10] rfl (ihc (c + 1) _ _ (by omega) (by omega) hM25 hC hS)
                  · refine V_aload_n hx dL_law_214 9 rfl ?_
                    refine V_iload hx dL_law_215 1 rfl ?_
                    refine V_iload hx dL_law_217 2 rfl ?_
                    refine V_iconst hx dL_law_219 ?_
                    refine M_callX hx hz hM24 hC hA (x_slip l hst T (wf_shp hw (by omega)) (c := ((c : Nat) : Int)) (d := ((d : Nat) : Int)) (what := 0) ⟨by omega, by omega⟩ ⟨by omega, by omega⟩ ⟨by decide, by decide⟩) rfl cw_L_119 (RMa (by dsimp only [rmA, rmN, rmX, room_1]; omega) (by dsimp only [rmA, rmN, rmX, room_1]; omega) (by dsimp only [rmA, rmN, rmX, room_1]; omega) (by dsimp only [rmA, rmN, rmX, room_1]; omega)) rfl rfl (Nat.le_of_ble_eq_true rfl) dL_law_220 _ _ rfl rfl (fun E hE9 => absurd (show _ ∧ _ from ⟨⟨by omega, by omega⟩, ⟨by omega, by omega⟩, ⟨by omega, by omega⟩⟩) hE9.2) (fun z26 w26 e26 => ?_)
                    obtain ⟨-, rfl, rfl⟩ := e26
                    refine ⟨P, T, rfl, fun ws26 M26 hM26 hC9 kp26 => ?_⟩
                    replace hS := sim_kp hS h6 kp26 (fun r hr => by first | trivial | (show _ ≠ _; omega))
                    have hC := hC9
                    refine V_top (b := T (7 + 8 * c + 5) d) rfl ?_
                    refine V_aload_n hx dL_law_223 9 rfl ?_
                    refine V_iload hx dL_law_224 2 rfl ?_
                    refine V_iconst hx dL_law_226 ?_
                    refine M_callX hx hz hM26 hC hA (x_drawer l hst T (wf_shp hw (by omega)) (d := ((d : Nat) : Int)) (what := 0) ⟨by omega, by omega⟩ ⟨by decide, by decide⟩) rfl cw_L_113 (RMa (by dsimp only [rmA, rmN, rmX, room_1]; omega) (by dsimp only [rmA, rmN, rmX, room_1]; omega) (by dsimp only [rmA, rmN, rmX, room_1]; omega) (by dsimp only [rmA, rmN, rmX, room_1]; omega)) rfl rfl (Nat.le_of_ble_eq_true rfl) dL_law_227 _ _ rfl rfl (fun E hE9 => absurd (show _ ∧ _ from ⟨⟨by omega, by omega⟩, ⟨by omega, by omega⟩⟩) hE9.2) (fun z27 w27 e27 => ?_)
                    obtain ⟨-, rfl, rfl⟩ := e27
                    refine ⟨P, T, rfl, fun ws27 M27 hM27 hC9 kp27 => ?_⟩
                    replace hS := sim_kp hS h6 kp27 (fun r hr => by first | trivial | (show _ ≠ _; omega))
                    have hC := hC9
                    refine V_top (b := T 1 d) rfl ?_
                    refine V_icmp_ne hx dL_law_230 248 (by decide) (hT _ _) (hT _ _) (fun h230_2 => absurd h230_2 (fun h9 => by omega)) (fun h230_2 => ?_)
                    refine V_aload_n hx dL_law_233 9 rfl ?_
                    refine V_iload hx dL_law_234 1 rfl ?_
                    refine V_iload hx dL_law_236 2 rfl ?_
                    refine V_iconst hx dL_law_238 ?_
                    refine M_callX hx hz hM27 hC hA (x_slip l hst T (wf_shp hw (by omega)) (c := ((c : Nat) : Int)) (d := ((d : Nat) : Int)) (what := 2) ⟨by omega, by omega⟩ ⟨by omega, by omega⟩ ⟨by decide, by decide⟩) rfl cw_L_119 (RMa (by dsimp only [rmA, rmN, rmX, room_1]; omega) (by dsimp only [rmA, rmN, rmX, room_1]; omega) (by dsimp only [rmA, rmN, rmX, room_1]; omega) (by dsimp only [rmA, rmN, rmX, room_1]; omega)) rfl rfl (Nat.le_of_ble_eq_true rfl) dL_law_239 _ _ rfl rfl (fun E hE9 => absurd (show _ ∧ _ from ⟨⟨by omega, by omega⟩, ⟨by omega, by omega⟩, ⟨by omega, by omega⟩⟩) hE9.2) (fun z28 w28 e28 => ?_)
                    obtain ⟨-, rfl, rfl⟩ := e28
                    refine ⟨P, T, rfl, fun ws28 M28 hM28 hC9 kp28 => ?_⟩
                    replace hS := sim_kp hS h6 kp28 (fun r hr => by first | trivial | (show _ ≠ _; omega))
                    have hC := hC9
                    refine V_top (b := T (7 + 8 * c + 7) d) rfl ?_
                    refine V_sipush hx dL_law_242 rfl ?_
                    refine V_icmp_le hx dL_law_245 250 (by decide) (hT _ _) ⟨by decide, by decide⟩ (fun h245_4 => ?_) (fun h245_4 => absurd h245_4 (fun h9 => by omega))
                    refine V_iincN hx dL_law_250 1 rfl [(10, .int (iZ (((c + 1 : Nat) : Int)))), (11, .int (iZ (T (7 + 8 * c + 6) d))), (9, .int (iZ ((d : Int)))), (7, .long (dgV T)), (6, .int (iZ (vv))), (5, .int (iZ ((tm : Int)))), (4, .int (iZ (mm))), (3, .int (iZ (nn))), (2, .ref (sp)), (1, .ref ((ad 0))), (0, .ref (b))] (by decide) rfl ?_
                    refine V_goto hx dL_law_253 142 (by decide) ?_
                    refine V_widen (k' := k0 + 120 * d + 9 + 18 * (c + 1)) (n' := n0 + 720 * d + 54 + 108 * (c + 1)) (by first | omega | (dsimp only [rmA, rmX, rmN]; omega)) (by first | omega | (dsimp only [rmA, rmX, rmN]; omega)) ?_
                    exact V_sub [0, 2, 3, 4, 5, 6, 7, 8, 9, 10] rfl (ihc (c + 1) _ _ (by omega) (by omega) hM28 hC hS)
        exact V_sub [0, 1, 2, 3, 4, 5, 6, 7, 8, 9] rfl (hL142 7 0 _ _ (by omega) (by omega) hM13 hC hS)
  exact V_sub [0, 1, 2, 3, 4, 5, 6, 7, 8] rfl (hL83 9 0 _ _ (by omega) (by omega) hM1 hC hS)
