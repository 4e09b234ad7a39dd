/-! the law's till: isSame, without its mean -/
section VLS
variable {x : CT} {l : Launch} {R : Room} {g : GT} {nL : Nat} {cc : ByteArray} {own : String} {k n : Nat} {ws : va_W} {pc : Nat} {lv : List (Nat × Value)} {st : List Value}
theorem V_ieqS (hx : FX x l R g nL cc own) {v : Int} {off : Int} (hd : decode cc pc = .ok (.if_icmp .eq off, 3)) (tgt : Nat) (ht : (pc : Int) + off = (tgt : Int)) (kk : V x k n ws tgt lv st) : V x k n ws pc lv (.int (iZ v) :: .int (iZ v) :: st) := by
  rw [← iZ_of (iZ v)]
  exact V_icmp_eq hx hd tgt ht (rg_toInt _) (rg_toInt _) (fun _ => kk) (fun h => absurd rfl h)
theorem V_ineS (hx : FX x l R g nL cc own) {v : Int} {off : Int} (hd : decode cc pc = .ok (.if_icmp .ne off, 3)) (tgt : Nat) (ht : (pc : Int) + off = (tgt : Int)) (kk : V x k n ws (pc + 3) lv st) : V x k n ws pc lv (.int (iZ v) :: .int (iZ v) :: st) := by
  rw [← iZ_of (iZ v)]
  exact V_icmp_ne hx hd tgt ht (rg_toInt _) (rg_toInt _) (fun h => absurd rfl h) (fun _ => kk)
end VLS
theorem cl2_kp {g : GT} {Z : Nat → Prop} {M M' : MM} {n : Nat} {fc : Nat → Option Nat} {Q : Nat → (Nat → Int32) → Prop} (h : ∀ i, i < n → ∃ r v, fc i = some r ∧ M r = some (4, IA g 3 v) ∧ Q i v) (k : KP Z M M') (hs : Z 4) : ∀ i, i < n → ∃ r v, fc i = some r ∧ M' r = some (4, IA g 3 v) ∧ Q i v := fun i hi => by
  obtain ⟨r, v, a1, a2, a3⟩ := h i hi
  exact ⟨r, v, a1, k _ _ _ a2 hs, a3⟩
theorem st_eq {T : TS} {q k w : Nat} (hw : w < 4) : cP T q k w = stV T q (k : Int) (w : Int) := by
  rcases (show w = 0 ∨ w = 1 ∨ w = 2 ∨ w = 3 by omega) with h | h | h | h <;> subst h <;> rfl
set_option maxHeartbeats 4000000 in
set_option maxRecDepth 100000 in
theorem z_sameP (l : Launch) (hst : l.stackTraces = false) {g : GT} {x : CT} (hx : FX x l (rmA 9 1500 9000) g 9 cX4_isSame RX4) (hz : TXF x) {ws : va_W} {M : MM} (hM : HM M ws) {ad : Nat → Nat} (hA : AI ad) {sp : Nat} {cl : Nat → Nat} {P : Nat → TS} {T : TS} {B : Int} (hSt : STT g ad M sp cl P T B) (hB : B ≤ 3000) (hEnd : ∀ (ws1 : va_W) (M1 : MM), HM M1 ws1 → CWM g ad M1 P T → SIM g M1 sp cl T → V x 1400 8200 ws1 610 [(0, .ref sp), (1, .ref (ad 0))] []) : V x 0 0 ws 0 [(0, .ref sp), (1, .ref (ad 0))] [] := by
  obtain ⟨hC, hS, hw, hI, hP1⟩ := id hSt
  obtain ⟨hT, ⟨tn1, tn8⟩, ⟨hc0, hc9⟩, ⟨hz0, hz9⟩, ham1, hck9⟩ := id hw
  have hni := nc_i hw
  have h6 : nc T ≤ 6 := by omega
  have hnd : ((nd T : Nat) : Int) = T 0 0 := Int.toNat_of_nonneg (by omega)
  refine V_iconst hx dX4_isSame_0 ?_
  refine V_istore_n hx dX4_isSame_1 [(2, .int (iZ (0))), (0, .ref (sp)), (1, .ref ((ad 0)))] (by decide) rfl ?_
  refine V_widen (k' := 2 * 0) (n' := 13 * 0) (by first | omega | (dsimp only [rmA, rmX, rmN]; omega)) (by first | omega | (dsimp only [rmA, rmX, rmN]; omega)) ?_
  have hLA : ∀ (n i : Nat) (w1 : va_W) (N1 : MM), 7 < i + n → i ≤ 7 → HM N1 w1 → CWM g ad N1 P T → SIM g N1 sp cl T → V x (2 * i) (13 * i) w1 2 [(2, .int (iZ ((i : Int)))), (0, .ref (sp)), (1, .ref ((ad 0)))] [] := by
    intro n; induction n with
    | zero => intro i w1 N1 g1 g2; exact absurd g1 (by omega)
    | succ n ihA =>
      intro i w1 N1 g1 g2 hN1 hC hS 
      obtain ⟨⟨am, sl, ck, co, h0⟩, hCK⟩ := id hS
      obtain ⟨hsp, ⟨va, ham, hva⟩, ⟨vs, hsv, hvs⟩, ⟨fk, hck, hfk⟩, hcl⟩ := id h0
      refine V_iload_n hx dX4_isSame_2 0 rfl ?_
      refine V_bipush hx dX4_isSame_3 rfl ?_
      refine V_icmp_ge hx dX4_isSame_5 29 (by decide) ⟨by omega, by omega⟩ ⟨by decide, by decide⟩ (fun h5 => ?_) (fun h5 => ?_)
      · refine V_iconst hx dX4_isSame_29 ?_
        refine V_istore_n hx dX4_isSame_30 [(2, .int (iZ (0))), (0, .ref (sp)), (1, .ref ((ad 0)))] (by decide) rfl ?_
        refine V_widen (k' := 20 + 8 * 0) (n' := 100 + 48 * 0) (by first | omega | (dsimp only [rmA, rmX, rmN]; omega)) (by first | omega | (dsimp only [rmA, rmX, rmN]; omega)) ?_
        have hLB : ∀ (n d : Nat) (w1 : va_W) (N1 : MM), nd T < d + n → d ≤ nd T → HM N1 w1 → CWM g ad N1 P T → SIM g N1 sp cl T → V x (20 + 8 * d) (100 + 48 * d) w1 31 [(2, .int (iZ ((d : Int)))), (0, .ref (sp)), (1, .ref ((ad 0)))] [] := by
          intro n; induction n with
          | zero => intro d w1 N1 g1 g2; exact absurd g1 (by omega)
          | succ n ihB =>
            intro d w1 N1 g1 g2 hN1 hC hS 
            obtain ⟨⟨am, sl, ck, co, h0⟩, hCK⟩ := id hS
            obtain ⟨hsp, ⟨va, ham, hva⟩, ⟨vs, hsv, hvs⟩, ⟨fk, hck, hfk⟩, hcl⟩ := id h0
            refine V_iload_n hx dX4_isSame_31 0 rfl ?_
            refine V_aload_n hx dX4_isSame_32 1 rfl ?_
            obtain ⟨i9, hi9⟩ := hN1.at hsp
            refine gf_X4_21 hx i9 hi9 rfl dX4_isSame_33 ?_
            obtain ⟨i9, hi9⟩ := hN1.at ham
            refine V_alenK hx (t0 := 0) i9 hi9 rfl (v := T 0 0) hnd dX4_isSame_36 ?_
            refine V_icmp_ge hx dX4_isSame_37 196 (by decide) ⟨by omega, by omega⟩ (by first | assumption | exact ⟨by omega, by omega⟩) (fun h37 => ?_) (fun h37 => ?_)
            · refine V_iconst hx dX4_isSame_196 ?_
              refine V_istore_n hx dX4_isSame_197 [(2, .int (iZ (0))), (0, .ref (sp)), (1, .ref ((ad 0)))] (by decide) rfl ?_
              refine V_widen (k' := 100 + 200 * 0) (n' := 500 + 1200 * 0) (by first | omega | (dsimp only [rmA, rmX, rmN]; omega)) (by first | omega | (dsimp only [rmA, rmX, rmN]; omega)) ?_
              have hLC : ∀ (n c : Nat) (w1 : va_W) (N1 : MM), nc T < c + n → c ≤ nc T → HM N1 w1 → CWM g ad N1 P T → SIM g N1 sp cl T → V x (100 + 200 * c) (500 + 1200 * c) w1 198 [(2, .int (iZ ((c : Int)))), (0, .ref (sp)), (1, .ref ((ad 0)))] [] := by
                intro n; induction n with
                | zero => intro c w1 N1 g1 g2; exact absurd g1 (by omega)
                | succ n ihC =>
                  intro c w1 N1 g1 g2 hN1 hC hS 
                  obtain ⟨⟨am, sl, ck, co, h0⟩, hCK⟩ := id hS
                  obtain ⟨hsp, ⟨va, ham, hva⟩, ⟨vs, hsv, hvs⟩, ⟨fk, hck, hfk⟩, hcl⟩ := id h0
                  refine V_iload_n hx dX4_isSame_198 0 rfl ?_
                  refine V_aload_n hx dX4_isSame_199 1 rfl ?_
                  obtain ⟨i9, hi9⟩ := hN1.at hsp
                  refine gf_X4_9 hx i9 hi9 rfl dX4_isSame_200 ?_
                  obtain ⟨i9, hi9⟩ := hN1.at hck
                  refine V_alenK hx (t0 := 3) i9 hi9 rfl (v := T 0 1) hni dX4_isSame_203 ?_
                  refine V_icmp_ge hx dX4_isSame_204 547 (by decide) ⟨by omega, by omega⟩ (by first | assumption | exact ⟨by omega, by omega⟩) (fun h204 => ?_) (fun h204 => ?_)
                  · refine V_iconst hx dX4_isSame_547 ?_
                    refine V_istore_n hx dX4_isSame_548 [(2, .int (iZ (0))), (0, .ref (sp)), (1, .ref ((ad 0)))] (by decide) rfl ?_
                    refine V_widen (k' := 1310 + 6 * 0) (n' := 7710 + 36 * 0) (by first | omega | (dsimp only [rmA, rmX, rmN]; omega)) (by first | omega | (dsimp only [rmA, rmX, rmN]; omega)) ?_
                    have hLD : ∀ (n b : Nat) (w1 : va_W) (N1 : MM), 10 < b + n → b ≤ 10 → HM N1 w1 → CWM g ad N1 P T → SIM g N1 sp cl T → V x (1310 + 6 * b) (7710 + 36 * b) w1 549 [(2, .int (iZ ((b : Int)))), (0, .ref (sp)), (1, .ref ((ad 0)))] [] := by
                      intro n; induction n with
                      | zero => intro b w1 N1 g1 g2; exact absurd g1 (by omega)
                      | succ n ihD =>
                        intro b w1 N1 g1 g2 hN1 hC hS 
                        obtain ⟨⟨am, sl, ck, co, h0⟩, hCK⟩ := id hS
                        obtain ⟨hsp, ⟨va, ham, hva⟩, ⟨vs, hsv, hvs⟩, ⟨fk, hck, hfk⟩, hcl⟩ := id h0
                        obtain ⟨fc, hco, hcl2⟩ := id hcl
                        refine V_iload_n hx dX4_isSame_549 0 rfl ?_
                        refine V_bipush hx dX4_isSame_550 rfl ?_
                        refine V_icmp_ge hx dX4_isSame_552 610 (by decide) ⟨by omega, by omega⟩ ⟨by decide, by decide⟩ (fun h552 => ?_) (fun h552 => ?_)
                        · refine V_widen (k' := 1400) (n' := 8200) (by first | omega | (dsimp only [rmA, rmX, rmN]; omega)) (by first | omega | (dsimp only [rmA, rmX, rmN]; omega)) ?_
                          exact V_sub [1, 2] rfl (hEnd _ _ hN1 hC hS)
                        · refine V_iload_n hx dX4_isSame_555 0 rfl ?_
                          refine V_aload_n hx dX4_isSame_556 1 rfl ?_
                          obtain ⟨i9, hi9⟩ := hN1.at hsp
                          refine gf_X4_17 hx i9 hi9 rfl dX4_isSame_557 ?_
                          obtain ⟨i9, hi9⟩ := hN1.at hco
                          refine V_alenK hx (t0 := 2) i9 hi9 rfl (v := T 0 2) (Int.toNat_of_nonneg hz0) dX4_isSame_560 ?_
                          refine V_icmp_ge hx dX4_isSame_561 610 (by decide) ⟨by omega, by omega⟩ (by first | assumption | exact ⟨by omega, by omega⟩) (fun h561 => ?_) (fun h561 => ?_)
                          · refine V_widen (k' := 1400) (n' := 8200) (by first | omega | (dsimp only [rmA, rmX, rmN]; omega)) (by first | omega | (dsimp only [rmA, rmX, rmN]; omega)) ?_
                            exact V_sub [1, 2] rfl (hEnd _ _ hN1 hC hS)
                          · refine V_iconst hx dX4_isSame_564 ?_
                            refine V_istore_n hx dX4_isSame_565 [(3, .int (iZ (0))), (2, .int (iZ ((b : Int)))), (0, .ref (sp)), (1, .ref ((ad 0)))] (by decide) rfl ?_
                            refine V_widen (k' := 1310 + 6 * b + 2 * 0) (n' := 7710 + 36 * b + 12 * 0) (by first | omega | (dsimp only [rmA, rmX, rmN]; omega)) (by first | omega | (dsimp only [rmA, rmX, rmN]; omega)) ?_
                            have hL566 : ∀ (n w : Nat) (w1 : va_W) (N1 : MM), 3 < w + n → w ≤ 3 → HM N1 w1 → CWM g ad N1 P T → SIM g N1 sp cl T → V x (1310 + 6 * b + 2 * w) (7710 + 36 * b + 12 * w) w1 566 [(3, .int (iZ ((w : Int)))), (2, .int (iZ ((b : Int)))), (0, .ref (sp)), (1, .ref ((ad 0)))] [] := by
                              intro n; induction n with
                              | zero => intro w w1 N1 g1 g2; exact absurd g1 (by omega)
                              | succ n ihw =>
                                intro w w1 N1 g1 g2 hN1 hC hS 
                                obtain ⟨⟨am, sl, ck, co, h0⟩, hCK⟩ := id hS
                                obtain ⟨hsp, ⟨va, ham, hva⟩, ⟨vs, hsv, hvs⟩, ⟨fk, hck, hfk⟩, hcl⟩ := id h0
                                obtain ⟨fc, hco, hcl2⟩ := id hcl
                                refine V_iload_n hx dX4_isSame_566 0 rfl ?_
                                refine V_iconst hx dX4_isSame_567 ?_
                                refine V_icmp_ge hx dX4_isSame_568 604 (by decide) ⟨by omega, by omega⟩ ⟨by decide, by decide⟩ (fun h568 => ?_) (fun h568 => ?_)
                                · refine V_iincN hx dX4_isSame_604 1 rfl [(2, .int (iZ (((b + 1 : Nat) : Int)))), (3, .int (iZ ((w : Int)))), (0, .ref (sp)), (1, .ref ((ad 0)))] (by decide) rfl ?_
                                  refine V_goto hx dX4_isSame_607 549 (by decide) ?_
                                  refine V_widen (k' := 1310 + 6 * (b + 1)) (n' := 7710 + 36 * (b + 1)) (by first | omega | (dsimp only [rmA, rmX, rmN]; omega)) (by first | omega | (dsimp only [rmA, rmX, rmN]; omega)) ?_
                                  exact V_sub [0, 2, 3] rfl (ihD (b + 1) _ _ (by omega) (by omega) hN1 hC hS)
                                · refine V_aload_n hx dX4_isSame_571 3 rfl ?_
                                  refine V_iload_n hx dX4_isSame_572 1 rfl ?_
                                  refine V_iload_n hx dX4_isSame_573 0 rfl ?_
                                  have hkp : ((b : Nat) : Int) < kpV T := by unfold kpV; split <;> omega
                                  refine M_callX hx hz hN1 hC hA (x_closing l hst T (wf_shp hw (by omega)) (d := ((b : Nat) : Int)) (what := ((w : Nat) : Int)) ⟨by omega, by omega⟩ ⟨by omega, by omega⟩) rfl cw_X4_123 (RMa (by dsimp only [rmA, rmN, rmX]; omega) (by dsimp only [rmA, rmN, rmX]; omega) (by dsimp only [rmA, rmN, rmX]; omega) (by dsimp only [rmA, rmN, rmX]; omega)) rfl rfl (Nat.le_of_ble_eq_true rfl) dX4_isSame_574 _ _ rfl rfl (fun E hE9 => absurd (show _ ∧ _ from ⟨⟨by omega, hkp⟩, ⟨by omega, by omega⟩⟩) hE9.2) (fun z1 w1 e1 => ?_)
                                  obtain ⟨-, rfl, rfl⟩ := e1
                                  refine ⟨P, T, rfl, fun ws1 M1 hM1 hC9 kp1 => ?_⟩
                                  replace hsp := kp1 _ _ _ hsp (by show _ ≠ _; omega)
                                  replace hck := kp1 _ _ _ hck (by show _ ≠ _; omega)
                                  replace ham := kp1 _ _ _ ham (by show _ ≠ _; omega)
                                  replace hsv := kp1 _ _ _ hsv (by show _ ≠ _; omega)
                                  replace hco := kp1 _ _ _ hco (by show _ ≠ _; omega)
                                  replace hS := sim_kp hS h6 kp1 (fun r hr => by first | trivial | (show _ ≠ _; omega))
                                  replace hcl2 := cl2_kp hcl2 kp1 (by first | trivial | (show _ ≠ _; omega))
                                  have hC := hC9
                                  refine V_top (b := cfV T ((b : Nat) : Int) ((w : Nat) : Int)) rfl ?_
                                  refine V_aload_n hx dX4_isSame_577 2 rfl ?_
                                  obtain ⟨i9, hi9⟩ := hM1.at hsp
                                  refine gf_X4_17 hx i9 hi9 rfl dX4_isSame_578 ?_
                                  refine V_aload_n hx dX4_isSame_581 2 rfl ?_
                                  obtain ⟨i9, hi9⟩ := hM1.at hsp
                                  refine gf_X4_17 hx i9 hi9 rfl dX4_isSame_582 ?_
                                  obtain ⟨i9, hi9⟩ := hM1.at hco
                                  refine V_alenK hx (t0 := 2) i9 hi9 rfl (v := T 0 2) (Int.toNat_of_nonneg hz0) dX4_isSame_585 ?_
                                  refine V_iconst hx dX4_isSame_586 ?_
                                  refine V_isub hx dX4_isSame_587 ?_
                                  refine V_iload_n hx dX4_isSame_588 1 rfl ?_
                                  refine V_isub hx dX4_isSame_589 ?_
                                  obtain ⟨r0, v0, f0r, hr0, hv0⟩ := hcl2 (((T 0 2) - 1) - (b : Int)).toNat (by omega)
                                  obtain ⟨hv1, hv2, hv3⟩ := hv0 b (by omega) (by omega)
                                  obtain ⟨i9, hi9⟩ := hM1.at hco
                                  refine V_aaldA hx (by omega) (by omega) (by omega) i9 hi9 (r := r0) f0r dX4_isSame_590 ?_
                                  refine V_iload_n hx dX4_isSame_591 0 rfl ?_
                                  obtain ⟨i9, hi9⟩ := hM1.at hr0
                                  refine V_iald hx (by omega) (by omega) (by omega) i9 hi9 (v := cfV T ((b : Nat) : Int) ((w : Nat) : Int)) (by rcases (show w = 0 ∨ w = 1 ∨ w = 2 by omega) with h | h | h <;> subst h; exact hv1; exact hv2; exact hv3) dX4_isSame_592 ?_
                                  refine V_ieqS hx dX4_isSame_593 598 (by decide) ?_
                                  refine V_iincN hx dX4_isSame_598 0 rfl [(3, .int (iZ (((w + 1 : Nat) : Int)))), (2, .int (iZ ((b : Int)))), (0, .ref (sp)), (1, .ref ((ad 0)))] (by decide) rfl ?_
                                  refine V_goto hx dX4_isSame_601 566 (by decide) ?_
                                  refine V_widen (k' := 1310 + 6 * b + 2 * (w + 1)) (n' := 7710 + 36 * b + 12 * (w + 1)) (by first | omega | (dsimp only [rmA, rmX, rmN]; omega)) (by first | omega | (dsimp only [rmA, rmX, rmN]; omega)) ?_
                                  exact V_sub [0, 1, 2, 3] rfl (ihw (w + 1) _ _ (by omega) (by omega) hM1 hC hS)
                            exact V_sub [0, 1, 2, 3] rfl (hL566 9 0 _ _ (by omega) (by omega) hN1 hC hS)
                    exact V_sub [0, 1, 2] rfl (hLD 19 0 _ _ (by omega) (by omega) hN1 hC hS)
                  · refine V_aload_n hx dX4_isSame_207 1 rfl ?_
                    obtain ⟨i9, hi9⟩ := hN1.at hsp
                    refine gf_X4_9 hx i9 hi9 rfl dX4_isSame_208 ?_
                    refine V_iload_n hx dX4_isSame_211 0 rfl ?_
                    have hc : c < nc T := by omega
                    have hci : (c : Int) < T 0 1 := by omega
                    obtain ⟨⟨k1, k1b⟩, ⟨k2, k2b⟩, k3, ⟨k4, k4b⟩, k5, k6⟩ := hck9 c hci
                    have hc6 : c < 6 := by omega
                    obtain ⟨pr, se, ow, fp, fs, fo, ms, mo, ds, dw, hca, hpr, ⟨hse, hsl⟩, ⟨how, hwl⟩⟩ := id (hCK c hc)
                    obtain ⟨fq, hpr1, hpr2⟩ := id hpr.1
                    obtain ⟨fs0, hse1, hse2⟩ := id hse.1
                    obtain ⟨fo0, how1, how2⟩ := id how.1
                    have hms := slp_8 hsl
                    have hmo := slp_8 hwl
                    obtain ⟨i9, hi9⟩ := hN1.at hck
                    refine V_aaldL hx (by omega) (by omega) (by omega) i9 hi9 (r := (cl c)) (hfk c hc) dX4_isSame_212 ?_
                    refine V_astore_n hx dX4_isSame_213 [(3, .ref ((cl c))), (2, .int (iZ ((c : Int)))), (0, .ref (sp)), (1, .ref ((ad 0)))] (by decide) rfl ?_
                    refine V_bipush hx dX4_isSame_214 rfl ?_
                    refine M_newa hx hN1 900 (7) rfl (by omega) (by dsimp only [rmA, rmX, rmN]; omega) (by dsimp only [rmA, rmX, rmN]; omega) dX4_isSame_216 (fun q2 ws2 M2 hM2 f2 fr2 hn2 kp2 => ?_)
                    replace hsp := kp2 _ _ _ hsp trivial
                    replace hck := kp2 _ _ _ hck trivial
                    replace ham := kp2 _ _ _ ham trivial
                    replace hsv := kp2 _ _ _ hsv trivial
                    replace hca := kp2 _ _ _ hca trivial
                    replace hpr1 := kp2 _ _ _ hpr1 trivial
                    replace hse1 := kp2 _ _ _ hse1 trivial
                    replace how1 := kp2 _ _ _ how1 trivial
                    replace hC := cwm_kp hC kp2 (by first | trivial | (show _ ≠ _; omega))
                    replace hS := sim_kp hS h6 kp2 (fun r hr => by first | trivial | (show _ ≠ _; omega))
                    replace hpr := rws_kp hpr kp2 (by first | trivial | (show _ ≠ _; omega)) (by first | trivial | (show _ ≠ _; omega))
                    replace hse := rws_kp hse kp2 (by first | trivial | (show _ ≠ _; omega)) (by first | trivial | (show _ ≠ _; omega))
                    replace how := rws_kp how kp2 (by first | trivial | (show _ ≠ _; omega)) (by first | trivial | (show _ ≠ _; omega))
                    have hq2 := f2
                    refine V_dup hx dX4_isSame_218 rfl ?_
                    refine V_iconst hx dX4_isSame_219 ?_
                    refine V_aload_n hx dX4_isSame_220 0 rfl ?_
                    obtain ⟨i9, hi9⟩ := hM2.at hca
                    refine gf_X4_53 hx i9 hi9 rfl dX4_isSame_221 ?_
                    obtain ⟨i9, hi9⟩ := hM2.at hpr1
                    refine V_alenK hx (t0 := 2) i9 hi9 rfl (v := T (7 + 8 * c) 0) (Int.toNat_of_nonneg k1) dX4_isSame_224 ?_
                    refine M_iast hx hM2 (by omega) (by omega) (by omega) hq2 dX4_isSame_225 (fun ws3 M3 hM3 f3 hn3 kp3 => ?_)
                    replace hsp := kp3 _ _ _ hsp (by show _ ≠ _; omega)
                    replace hck := kp3 _ _ _ hck (by show _ ≠ _; omega)
                    replace ham := kp3 _ _ _ ham (by show _ ≠ _; omega)
                    replace hsv := kp3 _ _ _ hsv (by show _ ≠ _; omega)
                    replace hca := kp3 _ _ _ hca (by show _ ≠ _; omega)
                    replace hpr1 := kp3 _ _ _ hpr1 (by show _ ≠ _; omega)
                    replace hse1 := kp3 _ _ _ hse1 (by show _ ≠ _; omega)
                    replace how1 := kp3 _ _ _ how1 (by show _ ≠ _; omega)
                    replace hC := cwm_kp hC kp3 (by first | trivial | (show _ ≠ _; omega))
                    replace hS := sim_kp hS h6 kp3 (fun r hr => by first | trivial | (show _ ≠ _; omega))
                    replace hpr := rws_kp hpr kp3 (by first | trivial | (show _ ≠ _; omega)) (by first | trivial | (show _ ≠ _; omega))
                    replace hse := rws_kp hse kp3 (by first | trivial | (show _ ≠ _; omega)) (by first | trivial | (show _ ≠ _; omega))
                    replace how := rws_kp how kp3 (by first | trivial | (show _ ≠ _; omega)) (by first | trivial | (show _ ≠ _; omega))
                    replace hq2 := f3
                    refine V_dup hx dX4_isSame_226 rfl ?_
                    refine V_iconst hx dX4_isSame_227 ?_
                    refine V_aload_n hx dX4_isSame_228 0 rfl ?_
                    obtain ⟨i9, hi9⟩ := hM3.at hca
                    refine gf_X4_56 hx i9 hi9 rfl dX4_isSame_229 ?_
                    refine M_iast hx hM3 (by omega) (by omega) (by omega) hq2 dX4_isSame_232 (fun ws4 M4 hM4 f4 hn4 kp4 => ?_)
                    replace hsp := kp4 _ _ _ hsp (by show _ ≠ _; omega)
                    replace hck := kp4 _ _ _ hck (by show _ ≠ _; omega)
                    replace ham := kp4 _ _ _ ham (by show _ ≠ _; omega)
                    replace hsv := kp4 _ _ _ hsv (by show _ ≠ _; omega)
                    replace hca := kp4 _ _ _ hca (by show _ ≠ _; omega)
                    replace hpr1 := kp4 _ _ _ hpr1 (by show _ ≠ _; omega)
                    replace hse1 := kp4 _ _ _ hse1 (by show _ ≠ _; omega)
                    replace how1 := kp4 _ _ _ how1 (by show _ ≠ _; omega)
                    replace hC := cwm_kp hC kp4 (by first | trivial | (show _ ≠ _; omega))
                    replace hS := sim_kp hS h6 kp4 (fun r hr => by first | trivial | (show _ ≠ _; omega))
                    replace hpr := rws_kp hpr kp4 (by first | trivial | (show _ ≠ _; omega)) (by first | trivial | (show _ ≠ _; omega))
                    replace hse := rws_kp hse kp4 (by first | trivial | (show _ ≠ _; omega)) (by first | trivial | (show _ ≠ _; omega))
                    replace how := rws_kp how kp4 (by first | trivial | (show _ ≠ _; omega)) (by first | trivial | (show _ ≠ _; omega))
                    replace hq2 := f4
                    refine V_dup hx dX4_isSame_233 rfl ?_
                    refine V_iconst hx dX4_isSame_234 ?_
                    refine V_aload_n hx dX4_isSame_235 0 rfl ?_
                    obtain ⟨i9, hi9⟩ := hM4.at hca
                    refine gf_X4_49 hx i9 hi9 rfl dX4_isSame_236 ?_
                    refine V_widen (k' := 101 + 200 * c) (n' := 507 + 1200 * c) (by first | omega | (dsimp only [rmA, rmX, rmN]; omega)) (by first | omega | (dsimp only [rmA, rmX, rmN]; omega)) ?_
                    have h247 : V x (101 + 200 * c) (507 + 1200 * c) ws4 247 [(3, .ref ((cl c))), (2, .int (iZ ((c : Int)))), (0, .ref (sp)), (1, .ref ((ad 0)))] [.int (iZ (bz (T (7 + 8 * c) 2 ≠ 0))), .int (iZ (2)), .ref (q2), .ref (q2)] := by
                      refine M_iast hx hM4 (by omega) (by omega) (by omega) hq2 dX4_isSame_247 (fun ws5 M5 hM5 f5 hn5 kp5 => ?_)
                      replace hsp := kp5 _ _ _ hsp (by show _ ≠ _; omega)
                      replace hck := kp5 _ _ _ hck (by show _ ≠ _; omega)
                      replace ham := kp5 _ _ _ ham (by show _ ≠ _; omega)
                      replace hsv := kp5 _ _ _ hsv (by show _ ≠ _; omega)
                      replace hca := kp5 _ _ _ hca (by show _ ≠ _; omega)
                      replace hpr1 := kp5 _ _ _ hpr1 (by show _ ≠ _; omega)
                      replace hse1 := kp5 _ _ _ hse1 (by show _ ≠ _; omega)
                      replace how1 := kp5 _ _ _ how1 (by show _ ≠ _; omega)
                      replace hC := cwm_kp hC kp5 (by first | trivial | (show _ ≠ _; omega))
                      replace hS := sim_kp hS h6 kp5 (fun r hr => by first | trivial | (show _ ≠ _; omega))
                      replace hpr := rws_kp hpr kp5 (by first | trivial | (show _ ≠ _; omega)) (by first | trivial | (show _ ≠ _; omega))
                      replace hse := rws_kp hse kp5 (by first | trivial | (show _ ≠ _; omega)) (by first | trivial | (show _ ≠ _; omega))
                      replace how := rws_kp how kp5 (by first | trivial | (show _ ≠ _; omega)) (by first | trivial | (show _ ≠ _; omega))
                      replace hq2 := f5
                      refine V_dup hx dX4_isSame_248 rfl ?_
                      refine V_iconst hx dX4_isSame_249 ?_
                      refine V_aload_n hx dX4_isSame_250 0 rfl ?_
                      obtain ⟨i9, hi9⟩ := hM5.at hca
                      refine gf_X4_71 hx i9 hi9 rfl dX4_isSame_251 ?_
                      refine M_iast hx hM5 (by omega) (by omega) (by omega) hq2 dX4_isSame_254 (fun ws6 M6 hM6 f6 hn6 kp6 => ?_)
                      replace hsp := kp6 _ _ _ hsp (by show _ ≠ _; omega)
                      replace hck := kp6 _ _ _ hck (by show _ ≠ _; omega)
                      replace ham := kp6 _ _ _ ham (by show _ ≠ _; omega)
                      replace hsv := kp6 _ _ _ hsv (by show _ ≠ _; omega)
                      replace hca := kp6 _ _ _ hca (by show _ ≠ _; omega)
                      replace hpr1 := kp6 _ _ _ hpr1 (by show _ ≠ _; omega)
                      replace hse1 := kp6 _ _ _ hse1 (by show _ ≠ _; omega)
                      replace how1 := kp6 _ _ _ how1 (by show _ ≠ _; omega)
                      replace hC := cwm_kp hC kp6 (by first | trivial | (show _ ≠ _; omega))
                      replace hS := sim_kp hS h6 kp6 (fun r hr => by first | trivial | (show _ ≠ _; omega))
                      replace hpr := rws_kp hpr kp6 (by first | trivial | (show _ ≠ _; omega)) (by first | trivial | (show _ ≠ _; omega))
                      replace hse := rws_kp hse kp6 (by first | trivial | (show _ ≠ _; omega)) (by first | trivial | (show _ ≠ _; omega))
                      replace how := rws_kp how kp6 (by first | trivial | (show _ ≠ _; omega)) (by first | trivial | (show _ ≠ _; omega))
                      replace hq2 := f6
                      refine V_dup hx dX4_isSame_255 rfl ?_
                      refine V_iconst hx dX4_isSame_256 ?_
                      refine V_aload_n hx dX4_isSame_257 0 rfl ?_
                      obtain ⟨i9, hi9⟩ := hM6.at hca
                      refine gf_X4_89 hx i9 hi9 rfl dX4_isSame_258 ?_
                      obtain ⟨i9, hi9⟩ := hM6.at hse1
                      refine V_alenK hx (t0 := 2) i9 hi9 rfl (v := sm 8 (rmF T (7 + 8 * c))) hsl.2.2.2 dX4_isSame_261 ?_
                      refine M_iast hx hM6 (by omega) (by omega) (by omega) hq2 dX4_isSame_262 (fun ws7 M7 hM7 f7 hn7 kp7 => ?_)
                      replace hsp := kp7 _ _ _ hsp (by show _ ≠ _; omega)
                      replace hck := kp7 _ _ _ hck (by show _ ≠ _; omega)
                      replace ham := kp7 _ _ _ ham (by show _ ≠ _; omega)
                      replace hsv := kp7 _ _ _ hsv (by show _ ≠ _; omega)
                      replace hca := kp7 _ _ _ hca (by show _ ≠ _; omega)
                      replace hpr1 := kp7 _ _ _ hpr1 (by show _ ≠ _; omega)
                      replace hse1 := kp7 _ _ _ hse1 (by show _ ≠ _; omega)
                      replace how1 := kp7 _ _ _ how1 (by show _ ≠ _; omega)
                      replace hC := cwm_kp hC kp7 (by first | trivial | (show _ ≠ _; omega))
                      replace hS := sim_kp hS h6 kp7 (fun r hr => by first | trivial | (show _ ≠ _; omega))
                      replace hpr := rws_kp hpr kp7 (by first | trivial | (show _ ≠ _; omega)) (by first | trivial | (show _ ≠ _; omega))
                      replace hse := rws_kp hse kp7 (by first | trivial | (show _ ≠ _; omega)) (by first | trivial | (show _ ≠ _; omega))
                      replace how := rws_kp how kp7 (by first | trivial | (show _ ≠ _; omega)) (by first | trivial | (show _ ≠ _; omega))
                      replace hq2 := f7
                      refine V_dup hx dX4_isSame_263 rfl ?_
                      refine V_iconst hx dX4_isSame_264 ?_
                      refine V_aload_n hx dX4_isSame_265 0 rfl ?_
                      obtain ⟨i9, hi9⟩ := hM7.at hca
                      refine gf_X4_74 hx i9 hi9 rfl dX4_isSame_266 ?_
                      obtain ⟨i9, hi9⟩ := hM7.at how1
                      refine V_alenK hx (t0 := 2) i9 hi9 rfl (v := sm 8 (wrF T (7 + 8 * c))) hwl.2.2.2 dX4_isSame_269 ?_
                      refine M_iast hx hM7 (by omega) (by omega) (by omega) hq2 dX4_isSame_270 (fun ws8 M8 hM8 f8 hn8 kp8 => ?_)
                      replace hsp := kp8 _ _ _ hsp (by show _ ≠ _; omega)
                      replace hck := kp8 _ _ _ hck (by show _ ≠ _; omega)
                      replace ham := kp8 _ _ _ ham (by show _ ≠ _; omega)
                      replace hsv := kp8 _ _ _ hsv (by show _ ≠ _; omega)
                      replace hca := kp8 _ _ _ hca (by show _ ≠ _; omega)
                      replace hpr1 := kp8 _ _ _ hpr1 (by show _ ≠ _; omega)
                      replace hse1 := kp8 _ _ _ hse1 (by show _ ≠ _; omega)
                      replace how1 := kp8 _ _ _ how1 (by show _ ≠ _; omega)
                      replace hC := cwm_kp hC kp8 (by first | trivial | (show _ ≠ _; omega))
                      replace hS := sim_kp hS h6 kp8 (fun r hr => by first | trivial | (show _ ≠ _; omega))
                      replace hpr := rws_kp hpr kp8 (by first | trivial | (show _ ≠ _; omega)) (by first | trivial | (show _ ≠ _; omega))
                      replace hse := rws_kp hse kp8 (by first | trivial | (show _ ≠ _; omega)) (by first | trivial | (show _ ≠ _; omega))
                      replace how := rws_kp how kp8 (by first | trivial | (show _ ≠ _; omega)) (by first | trivial | (show _ ≠ _; omega))
                      replace hq2 := f8
                      refine V_dup hx dX4_isSame_271 rfl ?_
                      refine V_bipush hx dX4_isSame_272 rfl ?_
                      refine V_aload_n hx dX4_isSame_274 0 rfl ?_
                      obtain ⟨i9, hi9⟩ := hM8.at hca
                      refine gf_X4_49 hx i9 hi9 rfl dX4_isSame_275 ?_
                      refine V_widen (k' := 101 + 200 * c) (n' := 507 + 1200 * c) (by first | omega | (dsimp only [rmA, rmX, rmN]; omega)) (by first | omega | (dsimp only [rmA, rmX, rmN]; omega)) ?_
                      have h294 : V x (101 + 200 * c) (507 + 1200 * c) ws8 294 [(3, .ref ((cl c))), (2, .int (iZ ((c : Int)))), (0, .ref (sp)), (1, .ref ((ad 0)))] [.int (iZ (loF T c)), .int (iZ (6)), .ref (q2), .ref (q2)] := by
                        refine M_iast hx hM8 (by omega) (by omega) (by omega) hq2 dX4_isSame_294 (fun ws9 M9 hM9 f9 hn9 kp9 => ?_)
                        replace hsp := kp9 _ _ _ hsp (by show _ ≠ _; omega)
                        replace hck := kp9 _ _ _ hck (by show _ ≠ _; omega)
                        replace ham := kp9 _ _ _ ham (by show _ ≠ _; omega)
                        replace hsv := kp9 _ _ _ hsv (by show _ ≠ _; omega)
                        replace hca := kp9 _ _ _ hca (by show _ ≠ _; omega)
                        replace hpr1 := kp9 _ _ _ hpr1 (by show _ ≠ _; omega)
                        replace hse1 := kp9 _ _ _ hse1 (by show _ ≠ _; omega)
                        replace how1 := kp9 _ _ _ how1 (by show _ ≠ _; omega)
                        replace hC := cwm_kp hC kp9 (by first | trivial | (show _ ≠ _; omega))
                        replace hS := sim_kp hS h6 kp9 (fun r hr => by first | trivial | (show _ ≠ _; omega))
                        replace hpr := rws_kp hpr kp9 (by first | trivial | (show _ ≠ _; omega)) (by first | trivial | (show _ ≠ _; omega))
                        replace hse := rws_kp hse kp9 (by first | trivial | (show _ ≠ _; omega)) (by first | trivial | (show _ ≠ _; omega))
                        replace how := rws_kp how kp9 (by first | trivial | (show _ ≠ _; omega)) (by first | trivial | (show _ ≠ _; omega))
                        replace hq2 := f9
                        refine V_astore hx dX4_isSame_295 [(4, .ref (q2)), (3, .ref ((cl c))), (2, .int (iZ ((c : Int)))), (0, .ref (sp)), (1, .ref ((ad 0)))] (by decide) rfl ?_
                        refine V_iconst hx dX4_isSame_297 ?_
                        refine V_istore hx dX4_isSame_298 [(5, .int (iZ (0))), (4, .ref (q2)), (3, .ref ((cl c))), (2, .int (iZ ((c : Int)))), (0, .ref (sp)), (1, .ref ((ad 0)))] (by decide) rfl ?_
                        obtain ⟨u, hqu, hu⟩ : ∃ u : Nat → Int32, M9 q2 = some (900, IA g 7 u) ∧ ∀ k, k < 7 → u k = iZ (ckV T ((c : Nat) : Int) ((k : Nat) : Int)) := ⟨_, hq2, fun k hk => by rcases (show k = 0 ∨ k = 1 ∨ k = 2 ∨ k = 3 ∨ k = 4 ∨ k = 5 ∨ k = 6 by omega) with h | h | h | h | h | h | h <;> subst h <;> rfl⟩
                        refine V_widen (k' := 101 + 200 * c + 2 * 0) (n' := 507 + 1200 * c + 12 * 0) (by first | omega | (dsimp only [rmA, rmX, rmN]; omega)) (by first | omega | (dsimp only [rmA, rmX, rmN]; omega)) ?_
                        have hL300 : ∀ (n w : Nat) (w1 : va_W) (N1 : MM), 7 < w + n → w ≤ 7 → HM N1 w1 → CWM g ad N1 P T → SIM g N1 sp cl T → N1 q2 = some (900, IA g 7 u) → V x (101 + 200 * c + 2 * w) (507 + 1200 * c + 12 * w) w1 300 [(5, .int (iZ ((w : Int)))), (4, .ref (q2)), (3, .ref ((cl c))), (2, .int (iZ ((c : Int)))), (0, .ref (sp)), (1, .ref ((ad 0)))] [] := by
                          intro n; induction n with
                          | zero => intro w w1 N1 g1 g2; exact absurd g1 (by omega)
                          | succ n ihw =>
                            intro w w1 N1 g1 g2 hN1 hC hS hqu
                            refine V_iload hx dX4_isSame_300 0 rfl ?_
                            refine V_bipush hx dX4_isSame_302 rfl ?_
                            refine V_icmp_ge hx dX4_isSame_304 330 (by decide) ⟨by omega, by omega⟩ ⟨by decide, by decide⟩ (fun h304 => ?_) (fun h304 => ?_)
                            · refine V_iconst hx dX4_isSame_330 ?_
                              refine V_istore hx dX4_isSame_331 [(5, .int (iZ (0))), (4, .ref (q2)), (3, .ref ((cl c))), (2, .int (iZ ((c : Int)))), (0, .ref (sp)), (1, .ref ((ad 0)))] (by decide) rfl ?_
                              refine V_widen (k' := 115 + 200 * c + 9 * 0) (n' := 591 + 1200 * c + 54 * 0) (by first | omega | (dsimp only [rmA, rmX, rmN]; omega)) (by first | omega | (dsimp only [rmA, rmX, rmN]; omega)) ?_
                              have hL333 : ∀ (n d : Nat) (w1 : va_W) (N1 : MM), nd T < d + n → d ≤ nd T → HM N1 w1 → CWM g ad N1 P T → SIM g N1 sp cl T → V x (115 + 200 * c + 9 * d) (591 + 1200 * c + 54 * d) w1 333 [(5, .int (iZ ((d : Int)))), (3, .ref ((cl c))), (2, .int (iZ ((c : Int)))), (0, .ref (sp)), (1, .ref ((ad 0)))] [] := by
                                intro n; induction n with
                                | zero => intro d w1 N1 g1 g2; exact absurd g1 (by omega)
                                | succ n ihd =>
                                  intro d w1 N1 g1 g2 hN1 hC hS 
                                  obtain ⟨⟨am, sl, ck, co, h0⟩, hCK⟩ := id hS
                                  obtain ⟨hsp, ⟨va, ham, hva⟩, ⟨vs, hsv, hvs⟩, ⟨fk, hck, hfk⟩, hcl⟩ := id h0
                                  obtain ⟨pr, se, ow, fp, fs, fo, ms, mo, ds, dw, hca, hpr, ⟨hse, hsl⟩, ⟨how, hwl⟩⟩ := id (hCK c hc)
                                  obtain ⟨fq, hpr1, hpr2⟩ := id hpr.1
                                  obtain ⟨fs0, hse1, hse2⟩ := id hse.1
                                  obtain ⟨fo0, how1, how2⟩ := id how.1
                                  have hms := slp_8 hsl
                                  have hmo := slp_8 hwl
                                  refine V_iload hx dX4_isSame_333 0 rfl ?_
                                  refine V_aload_n hx dX4_isSame_335 3 rfl ?_
                                  obtain ⟨i9, hi9⟩ := hN1.at hsp
                                  refine gf_X4_21 hx i9 hi9 rfl dX4_isSame_336 ?_
                                  obtain ⟨i9, hi9⟩ := hN1.at ham
                                  refine V_alenK hx (t0 := 0) i9 hi9 rfl (v := T 0 0) hnd dX4_isSame_339 ?_
                                  refine V_icmp_ge hx dX4_isSame_340 445 (by decide) ⟨by omega, by omega⟩ (by first | assumption | exact ⟨by omega, by omega⟩) (fun h340 => ?_) (fun h340 => ?_)
                                  · refine V_iconst hx dX4_isSame_445 ?_
                                    refine V_istore hx dX4_isSame_446 [(5, .int (iZ (0))), (3, .ref ((cl c))), (2, .int (iZ ((c : Int)))), (0, .ref (sp)), (1, .ref ((ad 0)))] (by decide) rfl ?_
                                    refine V_widen (k' := 187 + 200 * c + 12 * 0) (n' := 1023 + 1200 * c + 72 * 0) (by first | omega | (dsimp only [rmA, rmX, rmN]; omega)) (by first | omega | (dsimp only [rmA, rmX, rmN]; omega)) ?_
                                    have hL448 : ∀ (n k : Nat) (w1 : va_W) (N1 : MM), T (7 + 8 * c) 0 < (k : Int) + n → (k : Int) ≤ T (7 + 8 * c) 0 → HM N1 w1 → CWM g ad N1 P T → SIM g N1 sp cl T → V x (187 + 200 * c + 12 * k) (1023 + 1200 * c + 72 * k) w1 448 [(5, .int (iZ ((k : Int)))), (3, .ref ((cl c))), (2, .int (iZ ((c : Int)))), (0, .ref (sp)), (1, .ref ((ad 0)))] [] := by
                                      intro n; induction n with
                                      | zero => intro k w1 N1 g1 g2; exact absurd g1 (by omega)
                                      | succ n ihk =>
                                        intro k w1 N1 g1 g2 hN1 hC hS 
                                        obtain ⟨⟨am, sl, ck, co, h0⟩, hCK⟩ := id hS
                                        obtain ⟨hsp, ⟨va, ham, hva⟩, ⟨vs, hsv, hvs⟩, ⟨fk, hck, hfk⟩, hcl⟩ := id h0
                                        obtain ⟨pr, se, ow, fp, fs, fo, ms, mo, ds, dw, hca, hpr, ⟨hse, hsl⟩, ⟨how, hwl⟩⟩ := id (hCK c hc)
                                        obtain ⟨fq, hpr1, hpr2⟩ := id hpr.1
                                        obtain ⟨fs0, hse1, hse2⟩ := id hse.1
                                        obtain ⟨fo0, how1, how2⟩ := id how.1
                                        have hms := slp_8 hsl
                                        have hmo := slp_8 hwl
                                        refine V_iload hx dX4_isSame_448 0 rfl ?_
                                        refine V_aload_n hx dX4_isSame_450 1 rfl ?_
                                        obtain ⟨i9, hi9⟩ := hN1.at hca
                                        refine gf_X4_53 hx i9 hi9 rfl dX4_isSame_451 ?_
                                        obtain ⟨i9, hi9⟩ := hN1.at hpr1
                                        refine V_alenK hx (t0 := 2) i9 hi9 rfl (v := T (7 + 8 * c) 0) (Int.toNat_of_nonneg k1) dX4_isSame_454 ?_
                                        refine V_icmp_ge hx dX4_isSame_455 503 (by decide) ⟨by omega, by omega⟩ (by first | assumption | exact ⟨by omega, by omega⟩) (fun h455 => ?_) (fun h455 => ?_)
                                        · refine V_iconst hx dX4_isSame_503 ?_
                                          refine V_istore hx dX4_isSame_504 [(5, .int (iZ (0))), (3, .ref ((cl c))), (2, .int (iZ ((c : Int)))), (0, .ref (sp)), (1, .ref ((ad 0)))] (by decide) rfl ?_
                                          refine V_widen (k' := 283 + 200 * c + 2 * 0) (n' := 1599 + 1200 * c + 12 * 0) (by first | omega | (dsimp only [rmA, rmX, rmN]; omega)) (by first | omega | (dsimp only [rmA, rmX, rmN]; omega)) ?_
                                          have hL506 : ∀ (n b : Nat) (w1 : va_W) (N1 : MM), nc T < b + n → b ≤ nc T → HM N1 w1 → CWM g ad N1 P T → SIM g N1 sp cl T → V x (283 + 200 * c + 2 * b) (1599 + 1200 * c + 12 * b) w1 506 [(5, .int (iZ ((b : Int)))), (3, .ref ((cl c))), (2, .int (iZ ((c : Int)))), (0, .ref (sp)), (1, .ref ((ad 0)))] [] := by
                                            intro n; induction n with
                                            | zero => intro b w1 N1 g1 g2; exact absurd g1 (by omega)
                                            | succ n ihb =>
                                              intro b w1 N1 g1 g2 hN1 hC hS 
                                              obtain ⟨⟨am, sl, ck, co, h0⟩, hCK⟩ := id hS
                                              obtain ⟨hsp, ⟨va, ham, hva⟩, ⟨vs, hsv, hvs⟩, ⟨fk, hck, hfk⟩, hcl⟩ := id h0
                                              obtain ⟨pr, se, ow, fp, fs, fo, ms, mo, ds, dw, hca, hpr, ⟨hse, hsl⟩, ⟨how, hwl⟩⟩ := id (hCK c hc)
                                              obtain ⟨fq, hpr1, hpr2⟩ := id hpr.1
                                              obtain ⟨fs0, hse1, hse2⟩ := id hse.1
                                              obtain ⟨fo0, how1, how2⟩ := id how.1
                                              have hms := slp_8 hsl
                                              have hmo := slp_8 hwl
                                              refine V_iload hx dX4_isSame_506 0 rfl ?_
                                              refine V_aload_n hx dX4_isSame_508 3 rfl ?_
                                              obtain ⟨i9, hi9⟩ := hN1.at hsp
                                              refine gf_X4_9 hx i9 hi9 rfl dX4_isSame_509 ?_
                                              obtain ⟨i9, hi9⟩ := hN1.at hck
                                              refine V_alenK hx (t0 := 3) i9 hi9 rfl (v := T 0 1) hni dX4_isSame_512 ?_
                                              refine V_icmp_ge hx dX4_isSame_513 541 (by decide) ⟨by omega, by omega⟩ (by first | assumption | exact ⟨by omega, by omega⟩) (fun h513 => ?_) (fun h513 => ?_)
                                              · refine V_iincN hx dX4_isSame_541 2 rfl [(2, .int (iZ (((c + 1 : Nat) : Int)))), (5, .int (iZ ((b : Int)))), (3, .ref ((cl c))), (0, .ref (sp)), (1, .ref ((ad 0)))] (by decide) rfl ?_
                                                refine V_goto hx dX4_isSame_544 198 (by decide) ?_
                                                refine V_widen (k' := 100 + 200 * (c + 1)) (n' := 500 + 1200 * (c + 1)) (by first | omega | (dsimp only [rmA, rmX, rmN]; omega)) (by first | omega | (dsimp only [rmA, rmX, rmN]; omega)) ?_
                                                exact V_sub [0, 3, 4] rfl (ihC (c + 1) _ _ (by omega) (by omega) hN1 hC hS)
                                              · refine V_aload_n hx dX4_isSame_516 4 rfl ?_
                                                refine V_iload_n hx dX4_isSame_517 2 rfl ?_
                                                refine V_iload hx dX4_isSame_518 0 rfl ?_
                                                refine M_callX hx hz hN1 hC hA (x_clash l hst T (wf_shp hw (by omega)) (c := ((c : Nat) : Int)) (d := ((b : Nat) : Int)) ⟨by omega, by omega⟩ ⟨by omega, by omega⟩) rfl cw_X4_118 (RMa (by dsimp only [rmA, rmN, rmX]; omega) (by dsimp only [rmA, rmN, rmX]; omega) (by dsimp only [rmA, rmN, rmX]; omega) (by dsimp only [rmA, rmN, rmX]; omega)) rfl rfl (Nat.le_of_ble_eq_true rfl) dX4_isSame_520 _ _ rfl rfl (fun E hE9 => absurd (show _ ∧ _ from ⟨⟨by omega, by omega⟩, ⟨by omega, by omega⟩⟩) hE9.2) (fun z10 w10 e10 => ?_)
                                                obtain ⟨-, rfl, rfl⟩ := e10
                                                refine ⟨P, T, rfl, fun ws10 M10 hM10 hC9 kp10 => ?_⟩
                                                replace hsp := kp10 _ _ _ hsp (by show _ ≠ _; omega)
                                                replace hck := kp10 _ _ _ hck (by show _ ≠ _; omega)
                                                replace ham := kp10 _ _ _ ham (by show _ ≠ _; omega)
                                                replace hsv := kp10 _ _ _ hsv (by show _ ≠ _; omega)
                                                replace hca := kp10 _ _ _ hca (by show _ ≠ _; omega)
                                                replace hpr1 := kp10 _ _ _ hpr1 (by show _ ≠ _; omega)
                                                replace hse1 := kp10 _ _ _ hse1 (by show _ ≠ _; omega)
                                                replace how1 := kp10 _ _ _ how1 (by show _ ≠ _; omega)
                                                replace hS := sim_kp hS h6 kp10 (fun r hr => by first | trivial | (show _ ≠ _; omega))
                                                replace hpr := rws_kp hpr kp10 (by first | trivial | (show _ ≠ _; omega)) (by first | trivial | (show _ ≠ _; omega))
                                                replace hse := rws_kp hse kp10 (by first | trivial | (show _ ≠ _; omega)) (by first | trivial | (show _ ≠ _; omega))
                                                replace how := rws_kp how kp10 (by first | trivial | (show _ ≠ _; omega)) (by first | trivial | (show _ ≠ _; omega))
                                                have hC := hC9
                                                refine V_top (b := bz (clP T c b)) rfl ?_
                                                refine V_aload_n hx dX4_isSame_523 3 rfl ?_
                                                refine V_iload_n hx dX4_isSame_524 2 rfl ?_
                                                refine V_iload hx dX4_isSame_525 0 rfl ?_
                                                obtain ⟨i9, hi9⟩ := hM10.at hsp
                                                refine V_calli hx (z_clash l hM10 hS hw hc (b := b) (by omega)) cw_X4_122 (RMa (by dsimp only [rmA, rmN, rmX]; omega) (by dsimp only [rmA, rmN, rmX]; omega) (by dsimp only [rmA, rmN, rmX]; omega) (by dsimp only [rmA, rmN, rmX]; omega)) rfl i9 hi9 rfl rfl (Nat.le_of_ble_eq_true rfl) dX4_isSame_527 _ _ rfl rfl (fun z11 w11 e11 => ?_)
                                                obtain ⟨rfl, rfl⟩ := e11
                                                refine V_ieqS hx dX4_isSame_530 535 (by decide) ?_
                                                refine V_iincN hx dX4_isSame_535 0 rfl [(5, .int (iZ (((b + 1 : Nat) : Int)))), (3, .ref ((cl c))), (2, .int (iZ ((c : Int)))), (0, .ref (sp)), (1, .ref ((ad 0)))] (by decide) rfl ?_
                                                refine V_goto hx dX4_isSame_538 506 (by decide) ?_
                                                refine V_widen (k' := 283 + 200 * c + 2 * (b + 1)) (n' := 1599 + 1200 * c + 12 * (b + 1)) (by first | omega | (dsimp only [rmA, rmX, rmN]; omega)) (by first | omega | (dsimp only [rmA, rmX, rmN]; omega)) ?_
                                                exact V_sub [0, 1, 2, 3, 4] rfl (ihb (b + 1) _ _ (by omega) (by omega) hM10 hC hS)
                                          exact V_sub [0, 1, 2, 3, 4] rfl (hL506 9 0 _ _ (by omega) (by omega) hN1 hC hS)
                                        · refine V_iconst hx dX4_isSame_458 ?_
                                          refine V_istore hx dX4_isSame_459 [(6, .int (iZ (0))), (5, .int (iZ ((k : Int)))), (3, .ref ((cl c))), (2, .int (iZ ((c : Int)))), (0, .ref (sp)), (1, .ref ((ad 0)))] (by decide) rfl ?_
                                          refine V_widen (k' := 187 + 200 * c + 12 * k + 3 * 0) (n' := 1023 + 1200 * c + 72 * k + 18 * 0) (by first | omega | (dsimp only [rmA, rmX, rmN]; omega)) (by first | omega | (dsimp only [rmA, rmX, rmN]; omega)) ?_
                                          have hL461 : ∀ (n w : Nat) (w1 : va_W) (N1 : MM), 4 < w + n → w ≤ 4 → HM N1 w1 → CWM g ad N1 P T → SIM g N1 sp cl T → V x (187 + 200 * c + 12 * k + 3 * w) (1023 + 1200 * c + 72 * k + 18 * w) w1 461 [(6, .int (iZ ((w : Int)))), (5, .int (iZ ((k : Int)))), (3, .ref ((cl c))), (2, .int (iZ ((c : Int)))), (0, .ref (sp)), (1, .ref ((ad 0)))] [] := by
                                            intro n; induction n with
                                            | zero => intro w w1 N1 g1 g2; exact absurd g1 (by omega)
                                            | succ n ihw =>
                                              intro w w1 N1 g1 g2 hN1 hC hS 
                                              obtain ⟨⟨am, sl, ck, co, h0⟩, hCK⟩ := id hS
                                              obtain ⟨hsp, ⟨va, ham, hva⟩, ⟨vs, hsv, hvs⟩, ⟨fk, hck, hfk⟩, hcl⟩ := id h0
                                              obtain ⟨pr, se, ow, fp, fs, fo, ms, mo, ds, dw, hca, hpr, ⟨hse, hsl⟩, ⟨how, hwl⟩⟩ := id (hCK c hc)
                                              obtain ⟨fq, hpr1, hpr2⟩ := id hpr.1
                                              obtain ⟨fs0, hse1, hse2⟩ := id hse.1
                                              obtain ⟨fo0, how1, how2⟩ := id how.1
                                              have hms := slp_8 hsl
                                              have hmo := slp_8 hwl
                                              refine V_iload hx dX4_isSame_461 0 rfl ?_
                                              refine V_iconst hx dX4_isSame_463 ?_
                                              refine V_icmp_ge hx dX4_isSame_464 497 (by decide) ⟨by omega, by omega⟩ ⟨by decide, by decide⟩ (fun h464 => ?_) (fun h464 => ?_)
                                              · refine V_iincN hx dX4_isSame_497 1 rfl [(5, .int (iZ (((k + 1 : Nat) : Int)))), (6, .int (iZ ((w : Int)))), (3, .ref ((cl c))), (2, .int (iZ ((c : Int)))), (0, .ref (sp)), (1, .ref ((ad 0)))] (by decide) rfl ?_
                                                refine V_goto hx dX4_isSame_500 448 (by decide) ?_
                                                refine V_widen (k' := 187 + 200 * c + 12 * (k + 1)) (n' := 1023 + 1200 * c + 72 * (k + 1)) (by first | omega | (dsimp only [rmA, rmX, rmN]; omega)) (by first | omega | (dsimp only [rmA, rmX, rmN]; omega)) ?_
                                                exact V_sub [0, 2, 3, 4, 5] rfl (ihk (k + 1) _ _ (by omega) (by omega) hN1 hC hS)
                                              · refine V_aload_n hx dX4_isSame_467 5 rfl ?_
                                                refine V_iload_n hx dX4_isSame_468 3 rfl ?_
                                                refine V_iload hx dX4_isSame_469 1 rfl ?_
                                                refine V_iload hx dX4_isSame_471 0 rfl ?_
                                                refine M_callX hx hz hN1 hC hA (x_step l hst T (wf_shp hw (by omega)) (c := ((c : Nat) : Int)) (d := ((k : Nat) : Int)) (what := ((w : Nat) : Int)) ⟨by omega, by omega⟩ ⟨by omega, by omega⟩ ⟨by omega, by omega⟩ (fun _ _ => k1b)) rfl cw_X4_115 (RMa (by dsimp only [rmA, rmN, rmX]; omega) (by dsimp only [rmA, rmN, rmX]; omega) (by dsimp only [rmA, rmN, rmX]; omega) (by dsimp only [rmA, rmN, rmX]; omega)) rfl rfl (Nat.le_of_ble_eq_true rfl) dX4_isSame_473 _ _ rfl rfl (fun E hE9 => absurd (show _ ∧ _ from ⟨⟨by omega, by omega⟩, ⟨by omega, by show ((k : Nat) : Int) < T (7 + 8 * c) 0; omega⟩, ⟨by omega, by omega⟩⟩) hE9.2) (fun z12 w12 e12 => ?_)
                                                obtain ⟨-, rfl, rfl⟩ := e12
                                                refine ⟨P, T, rfl, fun ws12 M12 hM12 hC9 kp12 => ?_⟩
                                                replace hsp := kp12 _ _ _ hsp (by show _ ≠ _; omega)
                                                replace hck := kp12 _ _ _ hck (by show _ ≠ _; omega)
                                                replace ham := kp12 _ _ _ ham (by show _ ≠ _; omega)
                                                replace hsv := kp12 _ _ _ hsv (by show _ ≠ _; omega)
                                                replace hca := kp12 _ _ _ hca (by show _ ≠ _; omega)
                                                replace hpr1 := kp12 _ _ _ hpr1 (by show _ ≠ _; omega)
                                                replace hse1 := kp12 _ _ _ hse1 (by show _ ≠ _; omega)
                                                replace how1 := kp12 _ _ _ how1 (by show _ ≠ _; omega)
                                                replace hS := sim_kp hS h6 kp12 (fun r hr => by first | trivial | (show _ ≠ _; omega))
                                                replace hpr := rws_kp hpr kp12 (by first | trivial | (show _ ≠ _; omega)) (by first | trivial | (show _ ≠ _; omega))
                                                replace hse := rws_kp hse kp12 (by first | trivial | (show _ ≠ _; omega)) (by first | trivial | (show _ ≠ _; omega))
                                                replace how := rws_kp how kp12 (by first | trivial | (show _ ≠ _; omega)) (by first | trivial | (show _ ≠ _; omega))
                                                have hC := hC9
                                                refine V_top (b := stV T (7 + 8 * c) ((k : Nat) : Int) ((w : Nat) : Int)) rfl ?_
                                                refine V_aload_n hx dX4_isSame_476 2 rfl ?_
                                                obtain ⟨i9, hi9⟩ := hM12.at hca
                                                refine gf_X4_53 hx i9 hi9 rfl dX4_isSame_477 ?_
                                                refine V_iload hx dX4_isSame_480 1 rfl ?_
                                                obtain ⟨vo, hoa, hvo⟩ := hpr.2 k (by omega)
                                                obtain ⟨i9, hi9⟩ := hM12.at hpr1
                                                refine V_aaldA hx (by omega) (by omega) (by omega) i9 hi9 (r := (fp k)) (hpr2 _ (by omega)) dX4_isSame_482 ?_
                                                refine V_iload hx dX4_isSame_483 0 rfl ?_
                                                obtain ⟨i9, hi9⟩ := hM12.at hoa
                                                refine V_iald hx (by omega) (by omega) (by omega) i9 hi9 (v := stV T (7 + 8 * c) ((k : Nat) : Int) ((w : Nat) : Int)) (by rw [Int.toNat_natCast, hvo _ (by omega)]; exact congrArg iZ (st_eq (by omega))) dX4_isSame_485 ?_
                                                refine V_ieqS hx dX4_isSame_486 491 (by decide) ?_
                                                refine V_iincN hx dX4_isSame_491 0 rfl [(6, .int (iZ (((w + 1 : Nat) : Int)))), (5, .int (iZ ((k : Int)))), (3, .ref ((cl c))), (2, .int (iZ ((c : Int)))), (0, .ref (sp)), (1, .ref ((ad 0)))] (by decide) rfl ?_
                                                refine V_goto hx dX4_isSame_494 461 (by decide) ?_
                                                refine V_widen (k' := 187 + 200 * c + 12 * k + 3 * (w + 1)) (n' := 1023 + 1200 * c + 72 * k + 18 * (w + 1)) (by first | omega | (dsimp only [rmA, rmX, rmN]; omega)) (by first | omega | (dsimp only [rmA, rmX, rmN]; omega)) ?_
                                                exact V_sub [0, 1, 2, 3, 4, 5] rfl (ihw (w + 1) _ _ (by omega) (by omega) hM12 hC hS)
                                          exact V_sub [0, 1, 2, 3, 4, 5] rfl (hL461 9 0 _ _ (by omega) (by omega) hN1 hC hS)
                                    exact V_sub [0, 1, 2, 3, 4] rfl (hL448 9 0 _ _ (by omega) (by omega) hN1 hC hS)
                                  · refine V_aload_n hx dX4_isSame_343 1 rfl ?_
                                    obtain ⟨i9, hi9⟩ := hN1.at hca
                                    refine gf_X4_89 hx i9 hi9 rfl dX4_isSame_344 ?_
                                    refine V_iload hx dX4_isSame_347 0 rfl ?_
                                    refine V_callSq hx (z_find' l hN1 hse (by decide) (by decide) (by omega) (fun i hi => slp_rg hsl hi) (d := ((d : Nat) : Int)) ⟨by omega, by omega⟩) cw_X4_92 (RMa (by dsimp only [rmA, rmN, rmX]; omega) (by dsimp only [rmA, rmN, rmX]; omega) (by dsimp only [rmA, rmN, rmX]; omega) (by dsimp only [rmA, rmN, rmX]; omega)) rfl rfl (Nat.le_of_ble_eq_true rfl) dX4_isSame_349 _ _ rfl rfl (fun r13 w13 e13 => ?_)
                                    obtain ⟨rfl, e13⟩ := e13
                                    rcases fd_cases (c := cS T (7 + 8 * c) ds) hsl (fun i hi => rfl) (by omega) (by omega) e13 with ⟨rfl, n13⟩ | ⟨i13, hi13, rfl, d13, y13⟩
                                    · rw [Int.toNat_natCast] at n13
                                      refine V_astoreN hx dX4_isSame_352 [(6, .null), (5, .int (iZ ((d : Int)))), (3, .ref ((cl c))), (2, .int (iZ ((c : Int)))), (0, .ref (sp)), (1, .ref ((ad 0)))] (by decide) rfl ?_
                                      refine V_aload_n hx dX4_isSame_354 2 rfl ?_
                                      obtain ⟨i9, hi9⟩ := hN1.at hca
                                      refine gf_X4_74 hx i9 hi9 rfl dX4_isSame_355 ?_
                                      refine V_iload hx dX4_isSame_358 1 rfl ?_
                                      refine V_callSq hx (z_find' l hN1 how (by decide) (by decide) (by omega) (fun i hi => slp_rg hwl hi) (d := ((d : Nat) : Int)) ⟨by omega, by omega⟩) cw_X4_92 (RMa (by dsimp only [rmA, rmN, rmX]; omega) (by dsimp only [rmA, rmN, rmX]; omega) (by dsimp only [rmA, rmN, rmX]; omega) (by dsimp only [rmA, rmN, rmX]; omega)) rfl rfl (Nat.le_of_ble_eq_true rfl) dX4_isSame_360 _ _ rfl rfl (fun r14 w14 e14 => ?_)
                                      obtain ⟨rfl, e14⟩ := e14
                                      rcases fd_cases (c := cO T (7 + 8 * c) dw) hwl (fun i hi => rfl) (by omega) (by omega) e14 with ⟨rfl, n14⟩ | ⟨i14, hi14, rfl, d14, y14⟩
                                      · rw [Int.toNat_natCast] at n14
                                        refine V_astoreN hx dX4_isSame_363 [(7, .null), (6, .null), (5, .int (iZ ((d : Int)))), (3, .ref ((cl c))), (2, .int (iZ ((c : Int)))), (0, .ref (sp)), (1, .ref ((ad 0)))] (by decide) rfl ?_
                                        refine V_aload_n hx dX4_isSame_365 6 rfl ?_
                                        refine V_iload_n hx dX4_isSame_366 4 rfl ?_
                                        refine V_iload hx dX4_isSame_367 2 rfl ?_
                                        refine V_iconst hx dX4_isSame_369 ?_
                                        refine M_callX hx hz hN1 hC hA (x_slip l hst T (wf_shp hw (by omega)) (c := ((c : Nat) : Int)) (d := ((d : Nat) : Int)) (what := 0) ⟨by omega, by omega⟩ ⟨by omega, by omega⟩ ⟨by decide, by decide⟩) rfl cw_X4_111 (RMa (by dsimp only [rmA, rmN, rmX]; omega) (by dsimp only [rmA, rmN, rmX]; omega) (by dsimp only [rmA, rmN, rmX]; omega) (by dsimp only [rmA, rmN, rmX]; omega)) rfl rfl (Nat.le_of_ble_eq_true rfl) dX4_isSame_370 _ _ rfl rfl (fun E hE9 => absurd (show _ ∧ _ from ⟨⟨by omega, by omega⟩, ⟨by omega, by omega⟩, ⟨by omega, by omega⟩⟩) hE9.2) (fun z15 w15 e15 => ?_)
                                        obtain ⟨-, rfl, rfl⟩ := e15
                                        refine ⟨P, T, rfl, fun ws15 M15 hM15 hC9 kp15 => ?_⟩
                                        replace hsp := kp15 _ _ _ hsp (by show _ ≠ _; omega)
                                        replace hck := kp15 _ _ _ hck (by show _ ≠ _; omega)
                                        replace ham := kp15 _ _ _ ham (by show _ ≠ _; omega)
                                        replace hsv := kp15 _ _ _ hsv (by show _ ≠ _; omega)
                                        replace hca := kp15 _ _ _ hca (by show _ ≠ _; omega)
                                        replace hpr1 := kp15 _ _ _ hpr1 (by show _ ≠ _; omega)
                                        replace hse1 := kp15 _ _ _ hse1 (by show _ ≠ _; omega)
                                        replace how1 := kp15 _ _ _ how1 (by show _ ≠ _; omega)
                                        replace hS := sim_kp hS h6 kp15 (fun r hr => by first | trivial | (show _ ≠ _; omega))
                                        replace hpr := rws_kp hpr kp15 (by first | trivial | (show _ ≠ _; omega)) (by first | trivial | (show _ ≠ _; omega))
                                        replace hse := rws_kp hse kp15 (by first | trivial | (show _ ≠ _; omega)) (by first | trivial | (show _ ≠ _; omega))
                                        replace how := rws_kp how kp15 (by first | trivial | (show _ ≠ _; omega)) (by first | trivial | (show _ ≠ _; omega))
                                        have hC := hC9
                                        refine V_top (b := -1) (show T (7 + 8 * c + 5) d = -1 from n13) ?_
                                        refine V_aloadN hx dX4_isSame_373 1 rfl ?_
                                        refine V_ifnonnullN hx dX4_isSame_375 ?_
                                        refine V_iconst hx dX4_isSame_378 ?_
                                        refine V_goto hx dX4_isSame_379 386 (by decide) ?_
                                        refine V_ineS hx dX4_isSame_386 437 (by decide) ?_
                                        refine V_aload_n hx dX4_isSame_389 6 rfl ?_
                                        refine V_iload_n hx dX4_isSame_390 4 rfl ?_
                                        refine V_iload hx dX4_isSame_391 2 rfl ?_
                                        refine V_iconst hx dX4_isSame_393 ?_
                                        refine M_callX hx hz hM15 hC hA (x_slip l hst T (wf_shp hw (by omega)) (c := ((c : Nat) : Int)) (d := ((d : Nat) : Int)) (what := 1) ⟨by omega, by omega⟩ ⟨by omega, by omega⟩ ⟨by decide, by decide⟩) rfl cw_X4_111 (RMa (by dsimp only [rmA, rmN, rmX]; omega) (by dsimp only [rmA, rmN, rmX]; omega) (by dsimp only [rmA, rmN, rmX]; omega) (by dsimp only [rmA, rmN, rmX]; omega)) rfl rfl (Nat.le_of_ble_eq_true rfl) dX4_isSame_394 _ _ rfl rfl (fun E hE9 => absurd (show _ ∧ _ from ⟨⟨by omega, by omega⟩, ⟨by omega, by omega⟩, ⟨by omega, by omega⟩⟩) hE9.2) (fun z16 w16 e16 => ?_)
                                        obtain ⟨-, rfl, rfl⟩ := e16
                                        refine ⟨P, T, rfl, fun ws16 M16 hM16 hC9 kp16 => ?_⟩
                                        replace hsp := kp16 _ _ _ hsp (by show _ ≠ _; omega)
                                        replace hck := kp16 _ _ _ hck (by show _ ≠ _; omega)
                                        replace ham := kp16 _ _ _ ham (by show _ ≠ _; omega)
                                        replace hsv := kp16 _ _ _ hsv (by show _ ≠ _; omega)
                                        replace hca := kp16 _ _ _ hca (by show _ ≠ _; omega)
                                        replace hpr1 := kp16 _ _ _ hpr1 (by show _ ≠ _; omega)
                                        replace hse1 := kp16 _ _ _ hse1 (by show _ ≠ _; omega)
                                        replace how1 := kp16 _ _ _ how1 (by show _ ≠ _; omega)
                                        replace hS := sim_kp hS h6 kp16 (fun r hr => by first | trivial | (show _ ≠ _; omega))
                                        replace hpr := rws_kp hpr kp16 (by first | trivial | (show _ ≠ _; omega)) (by first | trivial | (show _ ≠ _; omega))
                                        replace hse := rws_kp hse kp16 (by first | trivial | (show _ ≠ _; omega)) (by first | trivial | (show _ ≠ _; omega))
                                        replace how := rws_kp how kp16 (by first | trivial | (show _ ≠ _; omega)) (by first | trivial | (show _ ≠ _; omega))
                                        have hC := hC9
                                        refine V_top (b := -1) (show T (7 + 8 * c + 6) d = -1 from ((hI.2 c hci).1 d (by omega)).1 n13) ?_
                                        refine V_aloadN hx dX4_isSame_397 1 rfl ?_
                                        refine V_ifnonnullN hx dX4_isSame_399 ?_
                                        refine V_iconst hx dX4_isSame_402 ?_
                                        refine V_goto hx dX4_isSame_403 410 (by decide) ?_
                                        refine V_ineS hx dX4_isSame_410 437 (by decide) ?_
                                        refine V_aload_n hx dX4_isSame_413 6 rfl ?_
                                        refine V_iload_n hx dX4_isSame_414 4 rfl ?_
                                        refine V_iload hx dX4_isSame_415 2 rfl ?_
                                        refine V_iconst hx dX4_isSame_417 ?_
                                        refine M_callX hx hz hM16 hC hA (x_slip l hst T (wf_shp hw (by omega)) (c := ((c : Nat) : Int)) (d := ((d : Nat) : Int)) (what := 2) ⟨by omega, by omega⟩ ⟨by omega, by omega⟩ ⟨by decide, by decide⟩) rfl cw_X4_111 (RMa (by dsimp only [rmA, rmN, rmX]; omega) (by dsimp only [rmA, rmN, rmX]; omega) (by dsimp only [rmA, rmN, rmX]; omega) (by dsimp only [rmA, rmN, rmX]; omega)) rfl rfl (Nat.le_of_ble_eq_true rfl) dX4_isSame_418 _ _ rfl rfl (fun E hE9 => absurd (show _ ∧ _ from ⟨⟨by omega, by omega⟩, ⟨by omega, by omega⟩, ⟨by omega, by omega⟩⟩) hE9.2) (fun z17 w17 e17 => ?_)
                                        obtain ⟨-, rfl, rfl⟩ := e17
                                        refine ⟨P, T, rfl, fun ws17 M17 hM17 hC9 kp17 => ?_⟩
                                        replace hsp := kp17 _ _ _ hsp (by show _ ≠ _; omega)
                                        replace hck := kp17 _ _ _ hck (by show _ ≠ _; omega)
                                        replace ham := kp17 _ _ _ ham (by show _ ≠ _; omega)
                                        replace hsv := kp17 _ _ _ hsv (by show _ ≠ _; omega)
                                        replace hca := kp17 _ _ _ hca (by show _ ≠ _; omega)
                                        replace hpr1 := kp17 _ _ _ hpr1 (by show _ ≠ _; omega)
                                        replace hse1 := kp17 _ _ _ hse1 (by show _ ≠ _; omega)
                                        replace how1 := kp17 _ _ _ how1 (by show _ ≠ _; omega)
                                        replace hS := sim_kp hS h6 kp17 (fun r hr => by first | trivial | (show _ ≠ _; omega))
                                        replace hpr := rws_kp hpr kp17 (by first | trivial | (show _ ≠ _; omega)) (by first | trivial | (show _ ≠ _; omega))
                                        replace hse := rws_kp hse kp17 (by first | trivial | (show _ ≠ _; omega)) (by first | trivial | (show _ ≠ _; omega))
                                        replace how := rws_kp how kp17 (by first | trivial | (show _ ≠ _; omega)) (by first | trivial | (show _ ≠ _; omega))
                                        have hC := hC9
                                        refine V_top (b := -1) (show T (7 + 8 * c + 7) d = -1 from n14) ?_
                                        refine V_aloadN hx dX4_isSame_421 0 rfl ?_
                                        refine V_ifnonnullN hx dX4_isSame_423 ?_
                                        refine V_iconst hx dX4_isSame_426 ?_
                                        refine V_goto hx dX4_isSame_427 434 (by decide) ?_
                                        refine V_ieqS hx dX4_isSame_434 439 (by decide) ?_
                                        refine V_iincN hx dX4_isSame_439 2 rfl [(5, .int (iZ (((d + 1 : Nat) : Int)))), (7, .null), (6, .null), (3, .ref ((cl c))), (2, .int (iZ ((c : Int)))), (0, .ref (sp)), (1, .ref ((ad 0)))] (by decide) rfl ?_
                                        refine V_goto hx dX4_isSame_442 333 (by decide) ?_
                                        refine V_widen (k' := 115 + 200 * c + 9 * (d + 1)) (n' := 591 + 1200 * c + 54 * (d + 1)) (by first | omega | (dsimp only [rmA, rmX, rmN]; omega)) (by first | omega | (dsimp only [rmA, rmX, rmN]; omega)) ?_
                                        exact V_sub [0, 3, 4, 5, 6] rfl (ihd (d + 1) _ _ (by omega) (by omega) hM17 hC hS)
                                      · rw [Int.toNat_natCast] at d14 y14
                                        obtain ⟨vv14, hv14, hvv14⟩ := how.2 i14 hi14
                                        refine V_astore hx dX4_isSame_363 [(7, .ref ((fo i14))), (6, .null), (5, .int (iZ ((d : Int)))), (3, .ref ((cl c))), (2, .int (iZ ((c : Int)))), (0, .ref (sp)), (1, .ref ((ad 0)))] (by decide) rfl ?_
                                        refine V_aload_n hx dX4_isSame_365 6 rfl ?_
                                        refine V_iload_n hx dX4_isSame_366 4 rfl ?_
                                        refine V_iload hx dX4_isSame_367 2 rfl ?_
                                        refine V_iconst hx dX4_isSame_369 ?_
                                        refine M_callX hx hz hN1 hC hA (x_slip l hst T (wf_shp hw (by omega)) (c := ((c : Nat) : Int)) (d := ((d : Nat) : Int)) (what := 0) ⟨by omega, by omega⟩ ⟨by omega, by omega⟩ ⟨by decide, by decide⟩) rfl cw_X4_111 (RMa (by dsimp only [rmA, rmN, rmX]; omega) (by dsimp only [rmA, rmN, rmX]; omega) (by dsimp only [rmA, rmN, rmX]; omega) (by dsimp only [rmA, rmN, rmX]; omega)) rfl rfl (Nat.le_of_ble_eq_true rfl) dX4_isSame_370 _ _ rfl rfl (fun E hE9 => absurd (show _ ∧ _ from ⟨⟨by omega, by omega⟩, ⟨by omega, by omega⟩, ⟨by omega, by omega⟩⟩) hE9.2) (fun z18 w18 e18 => ?_)
                                        obtain ⟨-, rfl, rfl⟩ := e18
                                        refine ⟨P, T, rfl, fun ws18 M18 hM18 hC9 kp18 => ?_⟩
                                        replace hsp := kp18 _ _ _ hsp (by show _ ≠ _; omega)
                                        replace hck := kp18 _ _ _ hck (by show _ ≠ _; omega)
                                        replace ham := kp18 _ _ _ ham (by show _ ≠ _; omega)
                                        replace hsv := kp18 _ _ _ hsv (by show _ ≠ _; omega)
                                        replace hca := kp18 _ _ _ hca (by show _ ≠ _; omega)
                                        replace hpr1 := kp18 _ _ _ hpr1 (by show _ ≠ _; omega)
                                        replace hse1 := kp18 _ _ _ hse1 (by show _ ≠ _; omega)
                                        replace how1 := kp18 _ _ _ how1 (by show _ ≠ _; omega)
                                        replace hv14 := kp18 _ _ _ hv14 (by show _ ≠ _; omega)
                                        replace hS := sim_kp hS h6 kp18 (fun r hr => by first | trivial | (show _ ≠ _; omega))
                                        replace hpr := rws_kp hpr kp18 (by first | trivial | (show _ ≠ _; omega)) (by first | trivial | (show _ ≠ _; omega))
                                        replace hse := rws_kp hse kp18 (by first | trivial | (show _ ≠ _; omega)) (by first | trivial | (show _ ≠ _; omega))
                                        replace how := rws_kp how kp18 (by first | trivial | (show _ ≠ _; omega)) (by first | trivial | (show _ ≠ _; omega))
                                        have hC := hC9
                                        refine V_top (b := -1) (show T (7 + 8 * c + 5) d = -1 from n13) ?_
                                        refine V_aloadN hx dX4_isSame_373 1 rfl ?_
                                        refine V_ifnonnullN hx dX4_isSame_375 ?_
                                        refine V_iconst hx dX4_isSame_378 ?_
                                        refine V_goto hx dX4_isSame_379 386 (by decide) ?_
                                        refine V_ineS hx dX4_isSame_386 437 (by decide) ?_
                                        refine V_aload_n hx dX4_isSame_389 6 rfl ?_
                                        refine V_iload_n hx dX4_isSame_390 4 rfl ?_
                                        refine V_iload hx dX4_isSame_391 2 rfl ?_
                                        refine V_iconst hx dX4_isSame_393 ?_
                                        refine M_callX hx hz hM18 hC hA (x_slip l hst T (wf_shp hw (by omega)) (c := ((c : Nat) : Int)) (d := ((d : Nat) : Int)) (what := 1) ⟨by omega, by omega⟩ ⟨by omega, by omega⟩ ⟨by decide, by decide⟩) rfl cw_X4_111 (RMa (by dsimp only [rmA, rmN, rmX]; omega) (by dsimp only [rmA, rmN, rmX]; omega) (by dsimp only [rmA, rmN, rmX]; omega) (by dsimp only [rmA, rmN, rmX]; omega)) rfl rfl (Nat.le_of_ble_eq_true rfl) dX4_isSame_394 _ _ rfl rfl (fun E hE9 => absurd (show _ ∧ _ from ⟨⟨by omega, by omega⟩, ⟨by omega, by omega⟩, ⟨by omega, by omega⟩⟩) hE9.2) (fun z19 w19 e19 => ?_)
                                        obtain ⟨-, rfl, rfl⟩ := e19
                                        refine ⟨P, T, rfl, fun ws19 M19 hM19 hC9 kp19 => ?_⟩
                                        replace hsp := kp19 _ _ _ hsp (by show _ ≠ _; omega)
                                        replace hck := kp19 _ _ _ hck (by show _ ≠ _; omega)
                                        replace ham := kp19 _ _ _ ham (by show _ ≠ _; omega)
                                        replace hsv := kp19 _ _ _ hsv (by show _ ≠ _; omega)
                                        replace hca := kp19 _ _ _ hca (by show _ ≠ _; omega)
                                        replace hpr1 := kp19 _ _ _ hpr1 (by show _ ≠ _; omega)
                                        replace hse1 := kp19 _ _ _ hse1 (by show _ ≠ _; omega)
                                        replace how1 := kp19 _ _ _ how1 (by show _ ≠ _; omega)
                                        replace hv14 := kp19 _ _ _ hv14 (by show _ ≠ _; omega)
                                        replace hS := sim_kp hS h6 kp19 (fun r hr => by first | trivial | (show _ ≠ _; omega))
                                        replace hpr := rws_kp hpr kp19 (by first | trivial | (show _ ≠ _; omega)) (by first | trivial | (show _ ≠ _; omega))
                                        replace hse := rws_kp hse kp19 (by first | trivial | (show _ ≠ _; omega)) (by first | trivial | (show _ ≠ _; omega))
                                        replace how := rws_kp how kp19 (by first | trivial | (show _ ≠ _; omega)) (by first | trivial | (show _ ≠ _; omega))
                                        have hC := hC9
                                        refine V_top (b := -1) (show T (7 + 8 * c + 6) d = -1 from ((hI.2 c hci).1 d (by omega)).1 n13) ?_
                                        refine V_aloadN hx dX4_isSame_397 1 rfl ?_
                                        refine V_ifnonnullN hx dX4_isSame_399 ?_
                                        refine V_iconst hx dX4_isSame_402 ?_
                                        refine V_goto hx dX4_isSame_403 410 (by decide) ?_
                                        refine V_ineS hx dX4_isSame_410 437 (by decide) ?_
                                        refine V_aload_n hx dX4_isSame_413 6 rfl ?_
                                        refine V_iload_n hx dX4_isSame_414 4 rfl ?_
                                        refine V_iload hx dX4_isSame_415 2 rfl ?_
                                        refine V_iconst hx dX4_isSame_417 ?_
                                        refine M_callX hx hz hM19 hC hA (x_slip l hst T (wf_shp hw (by omega)) (c := ((c : Nat) : Int)) (d := ((d : Nat) : Int)) (what := 2) ⟨by omega, by omega⟩ ⟨by omega, by omega⟩ ⟨by decide, by decide⟩) rfl cw_X4_111 (RMa (by dsimp only [rmA, rmN, rmX]; omega) (by dsimp only [rmA, rmN, rmX]; omega) (by dsimp only [rmA, rmN, rmX]; omega) (by dsimp only [rmA, rmN, rmX]; omega)) rfl rfl (Nat.le_of_ble_eq_true rfl) dX4_isSame_418 _ _ rfl rfl (fun E hE9 => absurd (show _ ∧ _ from ⟨⟨by omega, by omega⟩, ⟨by omega, by omega⟩, ⟨by omega, by omega⟩⟩) hE9.2) (fun z20 w20 e20 => ?_)
                                        obtain ⟨-, rfl, rfl⟩ := e20
                                        refine ⟨P, T, rfl, fun ws20 M20 hM20 hC9 kp20 => ?_⟩
                                        replace hsp := kp20 _ _ _ hsp (by show _ ≠ _; omega)
                                        replace hck := kp20 _ _ _ hck (by show _ ≠ _; omega)
                                        replace ham := kp20 _ _ _ ham (by show _ ≠ _; omega)
                                        replace hsv := kp20 _ _ _ hsv (by show _ ≠ _; omega)
                                        replace hca := kp20 _ _ _ hca (by show _ ≠ _; omega)
                                        replace hpr1 := kp20 _ _ _ hpr1 (by show _ ≠ _; omega)
                                        replace hse1 := kp20 _ _ _ hse1 (by show _ ≠ _; omega)
                                        replace how1 := kp20 _ _ _ how1 (by show _ ≠ _; omega)
                                        replace hv14 := kp20 _ _ _ hv14 (by show _ ≠ _; omega)
                                        replace hS := sim_kp hS h6 kp20 (fun r hr => by first | trivial | (show _ ≠ _; omega))
                                        replace hpr := rws_kp hpr kp20 (by first | trivial | (show _ ≠ _; omega)) (by first | trivial | (show _ ≠ _; omega))
                                        replace hse := rws_kp hse kp20 (by first | trivial | (show _ ≠ _; omega)) (by first | trivial | (show _ ≠ _; omega))
                                        replace how := rws_kp how kp20 (by first | trivial | (show _ ≠ _; omega)) (by first | trivial | (show _ ≠ _; omega))
                                        have hC := hC9
                                        refine V_top (b := T (7 + 8 * c + 7) d) rfl ?_
                                        refine V_aload hx dX4_isSame_421 0 rfl ?_
                                        refine V_ifnonnull hx dX4_isSame_423 430 (by decide) ?_
                                        refine V_aload hx dX4_isSame_430 0 rfl ?_
                                        refine V_iconst hx dX4_isSame_432 ?_
                                        obtain ⟨i9, hi9⟩ := hM20.at hv14
                                        refine V_iald hx (by omega) (by omega) (by omega) i9 hi9 (v := T (7 + 8 * c + 7) d) (by rw [show (1 : Int).toNat = 1 from rfl, hvv14 1 (by omega)]; show iZ (T (7 + 8 * c + 7) (dw i14)) = _; rw [← d14]) dX4_isSame_433 ?_
                                        refine V_ieqS hx dX4_isSame_434 439 (by decide) ?_
                                        refine V_iincN hx dX4_isSame_439 2 rfl [(5, .int (iZ (((d + 1 : Nat) : Int)))), (7, .ref ((fo i14))), (6, .null), (3, .ref ((cl c))), (2, .int (iZ ((c : Int)))), (0, .ref (sp)), (1, .ref ((ad 0)))] (by decide) rfl ?_
                                        refine V_goto hx dX4_isSame_442 333 (by decide) ?_
                                        refine V_widen (k' := 115 + 200 * c + 9 * (d + 1)) (n' := 591 + 1200 * c + 54 * (d + 1)) (by first | omega | (dsimp only [rmA, rmX, rmN]; omega)) (by first | omega | (dsimp only [rmA, rmX, rmN]; omega)) ?_
                                        exact V_sub [0, 3, 4, 5, 6] rfl (ihd (d + 1) _ _ (by omega) (by omega) hM20 hC hS)
                                    · rw [Int.toNat_natCast] at d13 y13
                                      obtain ⟨vv13, hv13, hvv13⟩ := hse.2 i13 hi13
                                      refine V_astore hx dX4_isSame_352 [(6, .ref ((fs i13))), (5, .int (iZ ((d : Int)))), (3, .ref ((cl c))), (2, .int (iZ ((c : Int)))), (0, .ref (sp)), (1, .ref ((ad 0)))] (by decide) rfl ?_
                                      refine V_aload_n hx dX4_isSame_354 2 rfl ?_
                                      obtain ⟨i9, hi9⟩ := hN1.at hca
                                      refine gf_X4_74 hx i9 hi9 rfl dX4_isSame_355 ?_
                                      refine V_iload hx dX4_isSame_358 1 rfl ?_
                                      refine V_callSq hx (z_find' l hN1 how (by decide) (by decide) (by omega) (fun i hi => slp_rg hwl hi) (d := ((d : Nat) : Int)) ⟨by omega, by omega⟩) cw_X4_92 (RMa (by dsimp only [rmA, rmN, rmX]; omega) (by dsimp only [rmA, rmN, rmX]; omega) (by dsimp only [rmA, rmN, rmX]; omega) (by dsimp only [rmA, rmN, rmX]; omega)) rfl rfl (Nat.le_of_ble_eq_true rfl) dX4_isSame_360 _ _ rfl rfl (fun r21 w21 e21 => ?_)
                                      obtain ⟨rfl, e21⟩ := e21
                                      rcases fd_cases (c := cO T (7 + 8 * c) dw) hwl (fun i hi => rfl) (by omega) (by omega) e21 with ⟨rfl, n21⟩ | ⟨i21, hi21, rfl, d21, y21⟩
                                      · rw [Int.toNat_natCast] at n21
                                        refine V_astoreN hx dX4_isSame_363 [(7, .null), (6, .ref ((fs i13))), (5, .int (iZ ((d : Int)))), (3, .ref ((cl c))), (2, .int (iZ ((c : Int)))), (0, .ref (sp)), (1, .ref ((ad 0)))] (by decide) rfl ?_
                                        refine V_aload_n hx dX4_isSame_365 6 rfl ?_
                                        refine V_iload_n hx dX4_isSame_366 4 rfl ?_
                                        refine V_iload hx dX4_isSame_367 2 rfl ?_
                                        refine V_iconst hx dX4_isSame_369 ?_
                                        refine M_callX hx hz hN1 hC hA (x_slip l hst T (wf_shp hw (by omega)) (c := ((c : Nat) : Int)) (d := ((d : Nat) : Int)) (what := 0) ⟨by omega, by omega⟩ ⟨by omega, by omega⟩ ⟨by decide, by decide⟩) rfl cw_X4_111 (RMa (by dsimp only [rmA, rmN, rmX]; omega) (by dsimp only [rmA, rmN, rmX]; omega) (by dsimp only [rmA, rmN, rmX]; omega) (by dsimp only [rmA, rmN, rmX]; omega)) rfl rfl (Nat.le_of_ble_eq_true rfl) dX4_isSame_370 _ _ rfl rfl (fun E hE9 => absurd (show _ ∧ _ from ⟨⟨by omega, by omega⟩, ⟨by omega, by omega⟩, ⟨by omega, by omega⟩⟩) hE9.2) (fun z22 w22 e22 => ?_)
                                        obtain ⟨-, rfl, rfl⟩ := e22
                                        refine ⟨P, T, rfl, fun ws22 M22 hM22 hC9 kp22 => ?_⟩
                                        replace hsp := kp22 _ _ _ hsp (by show _ ≠ _; omega)
                                        replace hck := kp22 _ _ _ hck (by show _ ≠ _; omega)
                                        replace ham := kp22 _ _ _ ham (by show _ ≠ _; omega)
                                        replace hsv := kp22 _ _ _ hsv (by show _ ≠ _; omega)
                                        replace hca := kp22 _ _ _ hca (by show _ ≠ _; omega)
                                        replace hpr1 := kp22 _ _ _ hpr1 (by show _ ≠ _; omega)
                                        replace hse1 := kp22 _ _ _ hse1 (by show _ ≠ _; omega)
                                        replace how1 := kp22 _ _ _ how1 (by show _ ≠ _; omega)
                                        replace hv13 := kp22 _ _ _ hv13 (by show _ ≠ _; omega)
                                        replace hS := sim_kp hS h6 kp22 (fun r hr => by first | trivial | (show _ ≠ _; omega))
                                        replace hpr := rws_kp hpr kp22 (by first | trivial | (show _ ≠ _; omega)) (by first | trivial | (show _ ≠ _; omega))
                                        replace hse := rws_kp hse kp22 (by first | trivial | (show _ ≠ _; omega)) (by first | trivial | (show _ ≠ _; omega))
                                        replace how := rws_kp how kp22 (by first | trivial | (show _ ≠ _; omega)) (by first | trivial | (show _ ≠ _; omega))
                                        have hC := hC9
                                        refine V_top (b := T (7 + 8 * c + 5) d) rfl ?_
                                        refine V_aload hx dX4_isSame_373 1 rfl ?_
                                        refine V_ifnonnull hx dX4_isSame_375 382 (by decide) ?_
                                        refine V_aload hx dX4_isSame_382 1 rfl ?_
                                        refine V_iconst hx dX4_isSame_384 ?_
                                        obtain ⟨i9, hi9⟩ := hM22.at hv13
                                        refine V_iald hx (by omega) (by omega) (by omega) i9 hi9 (v := T (7 + 8 * c + 5) d) (by rw [show (1 : Int).toNat = 1 from rfl, hvv13 1 (by omega)]; show iZ (T (7 + 8 * c + 5) (ds i13)) = _; rw [← d13]) dX4_isSame_385 ?_
                                        refine V_ineS hx dX4_isSame_386 437 (by decide) ?_
                                        refine V_aload_n hx dX4_isSame_389 6 rfl ?_
                                        refine V_iload_n hx dX4_isSame_390 4 rfl ?_
                                        refine V_iload hx dX4_isSame_391 2 rfl ?_
                                        refine V_iconst hx dX4_isSame_393 ?_
                                        refine M_callX hx hz hM22 hC hA (x_slip l hst T (wf_shp hw (by omega)) (c := ((c : Nat) : Int)) (d := ((d : Nat) : Int)) (what := 1) ⟨by omega, by omega⟩ ⟨by omega, by omega⟩ ⟨by decide, by decide⟩) rfl cw_X4_111 (RMa (by dsimp only [rmA, rmN, rmX]; omega) (by dsimp only [rmA, rmN, rmX]; omega) (by dsimp only [rmA, rmN, rmX]; omega) (by dsimp only [rmA, rmN, rmX]; omega)) rfl rfl (Nat.le_of_ble_eq_true rfl) dX4_isSame_394 _ _ rfl rfl (fun E hE9 => absurd (show _ ∧ _ from ⟨⟨by omega, by omega⟩, ⟨by omega, by omega⟩, ⟨by omega, by omega⟩⟩) hE9.2) (fun z23 w23 e23 => ?_)
                                        obtain ⟨-, rfl, rfl⟩ := e23
                                        refine ⟨P, T, rfl, fun ws23 M23 hM23 hC9 kp23 => ?_⟩
                                        replace hsp := kp23 _ _ _ hsp (by show _ ≠ _; omega)
                                        replace hck := kp23 _ _ _ hck (by show _ ≠ _; omega)
                                        replace ham := kp23 _ _ _ ham (by show _ ≠ _; omega)
                                        replace hsv := kp23 _ _ _ hsv (by show _ ≠ _; omega)
                                        replace hca := kp23 _ _ _ hca (by show _ ≠ _; omega)
                                        replace hpr1 := kp23 _ _ _ hpr1 (by show _ ≠ _; omega)
                                        replace hse1 := kp23 _ _ _ hse1 (by show _ ≠ _; omega)
                                        replace how1 := kp23 _ _ _ how1 (by show _ ≠ _; omega)
                                        replace hv13 := kp23 _ _ _ hv13 (by show _ ≠ _; omega)
                                        replace hS := sim_kp hS h6 kp23 (fun r hr => by first | trivial | (show _ ≠ _; omega))
                                        replace hpr := rws_kp hpr kp23 (by first | trivial | (show _ ≠ _; omega)) (by first | trivial | (show _ ≠ _; omega))
                                        replace hse := rws_kp hse kp23 (by first | trivial | (show _ ≠ _; omega)) (by first | trivial | (show _ ≠ _; omega))
                                        replace how := rws_kp how kp23 (by first | trivial | (show _ ≠ _; omega)) (by first | trivial | (show _ ≠ _; omega))
                                        have hC := hC9
                                        refine V_top (b := T (7 + 8 * c + 6) d) rfl ?_
                                        refine V_aload hx dX4_isSame_397 1 rfl ?_
                                        refine V_ifnonnull hx dX4_isSame_399 406 (by decide) ?_
                                        refine V_aload hx dX4_isSame_406 1 rfl ?_
                                        refine V_iconst hx dX4_isSame_408 ?_
                                        obtain ⟨i9, hi9⟩ := hM23.at hv13
                                        refine V_iald hx (by omega) (by omega) (by omega) i9 hi9 (v := T (7 + 8 * c + 6) d) (by rw [show (2 : Int).toNat = 2 from rfl, hvv13 2 (by omega)]; show iZ (T (7 + 8 * c + 6) (ds i13)) = _; rw [← d13]) dX4_isSame_409 ?_
                                        refine V_ineS hx dX4_isSame_410 437 (by decide) ?_
                                        refine V_aload_n hx dX4_isSame_413 6 rfl ?_
                                        refine V_iload_n hx dX4_isSame_414 4 rfl ?_
                                        refine V_iload hx dX4_isSame_415 2 rfl ?_
                                        refine V_iconst hx dX4_isSame_417 ?_
                                        refine M_callX hx hz hM23 hC hA (x_slip l hst T (wf_shp hw (by omega)) (c := ((c : Nat) : Int)) (d := ((d : Nat) : Int)) (what := 2) ⟨by omega, by omega⟩ ⟨by omega, by omega⟩ ⟨by decide, by decide⟩) rfl cw_X4_111 (RMa (by dsimp only [rmA, rmN, rmX]; omega) (by dsimp only [rmA, rmN, rmX]; omega) (by dsimp only [rmA, rmN, rmX]; omega) (by dsimp only [rmA, rmN, rmX]; omega)) rfl rfl (Nat.le_of_ble_eq_true rfl) dX4_isSame_418 _ _ rfl rfl (fun E hE9 => absurd (show _ ∧ _ from ⟨⟨by omega, by omega⟩, ⟨by omega, by omega⟩, ⟨by omega, by omega⟩⟩) hE9.2) (fun z24 w24 e24 => ?_)
                                        obtain ⟨-, rfl, rfl⟩ := e24
                                        refine ⟨P, T, rfl, fun ws24 M24 hM24 hC9 kp24 => ?_⟩
                                        replace hsp := kp24 _ _ _ hsp (by show _ ≠ _; omega)
                                        replace hck := kp24 _ _ _ hck (by show _ ≠ _; omega)
                                        replace ham := kp24 _ _ _ ham (by show _ ≠ _; omega)
                                        replace hsv := kp24 _ _ _ hsv (by show _ ≠ _; omega)
                                        replace hca := kp24 _ _ _ hca (by show _ ≠ _; omega)
                                        replace hpr1 := kp24 _ _ _ hpr1 (by show _ ≠ _; omega)
                                        replace hse1 := kp24 _ _ _ hse1 (by show _ ≠ _; omega)
                                        replace how1 := kp24 _ _ _ how1 (by show _ ≠ _; omega)
                                        replace hv13 := kp24 _ _ _ hv13 (by show _ ≠ _; omega)
                                        replace hS := sim_kp hS h6 kp24 (fun r hr => by first | trivial | (show _ ≠ _; omega))
                                        replace hpr := rws_kp hpr kp24 (by first | trivial | (show _ ≠ _; omega)) (by first | trivial | (show _ ≠ _; omega))
                                        replace hse := rws_kp hse kp24 (by first | trivial | (show _ ≠ _; omega)) (by first | trivial | (show _ ≠ _; omega))
                                        replace how := rws_kp how kp24 (by first | trivial | (show _ ≠ _; omega)) (by first | trivial | (show _ ≠ _; omega))
                                        have hC := hC9
                                        refine V_top (b := -1) (show T (7 + 8 * c + 7) d = -1 from n21) ?_
                                        refine V_aloadN hx dX4_isSame_421 0 rfl ?_
                                        refine V_ifnonnullN hx dX4_isSame_423 ?_
                                        refine V_iconst hx dX4_isSame_426 ?_
                                        refine V_goto hx dX4_isSame_427 434 (by decide) ?_
                                        refine V_ieqS hx dX4_isSame_434 439 (by decide) ?_
                                        refine V_iincN hx dX4_isSame_439 2 rfl [(5, .int (iZ (((d + 1 : Nat) : Int)))), (7, .null), (6, .ref ((fs i13))), (3, .ref ((cl c))), (2, .int (iZ ((c : Int)))), (0, .ref (sp)), (1, .ref ((ad 0)))] (by decide) rfl ?_
                                        refine V_goto hx dX4_isSame_442 333 (by decide) ?_
                                        refine V_widen (k' := 115 + 200 * c + 9 * (d + 1)) (n' := 591 + 1200 * c + 54 * (d + 1)) (by first | omega | (dsimp only [rmA, rmX, rmN]; omega)) (by first | omega | (dsimp only [rmA, rmX, rmN]; omega)) ?_
                                        exact V_sub [0, 3, 4, 5, 6] rfl (ihd (d + 1) _ _ (by omega) (by omega) hM24 hC hS)
                                      · rw [Int.toNat_natCast] at d21 y21
                                        obtain ⟨vv21, hv21, hvv21⟩ := how.2 i21 hi21
                                        refine V_astore hx dX4_isSame_363 [(7, .ref ((fo i21))), (6, .ref ((fs i13))), (5, .int (iZ ((d : Int)))), (3, .ref ((cl c))), (2, .int (iZ ((c : Int)))), (0, .ref (sp)), (1, .ref ((ad 0)))] (by decide) rfl ?_
                                        refine V_aload_n hx dX4_isSame_365 6 rfl ?_
                                        refine V_iload_n hx dX4_isSame_366 4 rfl ?_
                                        refine V_iload hx dX4_isSame_367 2 rfl ?_
                                        refine V_iconst hx dX4_isSame_369 ?_
                                        refine M_callX hx hz hN1 hC hA (x_slip l hst T (wf_shp hw (by omega)) (c := ((c : Nat) : Int)) (d := ((d : Nat) : Int)) (what := 0) ⟨by omega, by omega⟩ ⟨by omega, by omega⟩ ⟨by decide, by decide⟩) rfl cw_X4_111 (RMa (by dsimp only [rmA, rmN, rmX]; omega) (by dsimp only [rmA, rmN, rmX]; omega) (by dsimp only [rmA, rmN, rmX]; omega) (by dsimp only [rmA, rmN, rmX]; omega)) rfl rfl (Nat.le_of_ble_eq_true rfl) dX4_isSame_370 _ _ rfl rfl (fun E hE9 => absurd (show _ ∧ _ from ⟨⟨by omega, by omega⟩, ⟨by omega, by omega⟩, ⟨by omega, by omega⟩⟩) hE9.2) (fun z25 w25 e25 => ?_)
                                        obtain ⟨-, rfl, rfl⟩ := e25
                                        refine ⟨P, T, rfl, fun ws25 M25 hM25 hC9 kp25 => ?_⟩
                                        replace hsp := kp25 _ _ _ hsp (by show _ ≠ _; omega)
                                        replace hck := kp25 _ _ _ hck (by show _ ≠ _; omega)
                                        replace ham := kp25 _ _ _ ham (by show _ ≠ _; omega)
                                        replace hsv := kp25 _ _ _ hsv (by show _ ≠ _; omega)
                                        replace hca := kp25 _ _ _ hca (by show _ ≠ _; omega)
                                        replace hpr1 := kp25 _ _ _ hpr1 (by show _ ≠ _; omega)
                                        replace hse1 := kp25 _ _ _ hse1 (by show _ ≠ _; omega)
                                        replace how1 := kp25 _ _ _ how1 (by show _ ≠ _; omega)
                                        replace hv13 := kp25 _ _ _ hv13 (by show _ ≠ _; omega)
                                        replace hv21 := kp25 _ _ _ hv21 (by show _ ≠ _; omega)
                                        replace hS := sim_kp hS h6 kp25 (fun r hr => by first | trivial | (show _ ≠ _; omega))
                                        replace hpr := rws_kp hpr kp25 (by first | trivial | (show _ ≠ _; omega)) (by first | trivial | (show _ ≠ _; omega))
                                        replace hse := rws_kp hse kp25 (by first | trivial | (show _ ≠ _; omega)) (by first | trivial | (show _ ≠ _; omega))
                                        replace how := rws_kp how kp25 (by first | trivial | (show _ ≠ _; omega)) (by first | trivial | (show _ ≠ _; omega))
                                        have hC := hC9
                                        refine V_top (b := T (7 + 8 * c + 5) d) rfl ?_
                                        refine V_aload hx dX4_isSame_373 1 rfl ?_
                                        refine V_ifnonnull hx dX4_isSame_375 382 (by decide) ?_
                                        refine V_aload hx dX4_isSame_382 1 rfl ?_
                                        refine V_iconst hx dX4_isSame_384 ?_
                                        obtain ⟨i9, hi9⟩ := hM25.at hv13
                                        refine V_iald hx (by omega) (by omega) (by omega) i9 hi9 (v := T (7 + 8 * c + 5) d) (by rw [show (1 : Int).toNat = 1 from rfl, hvv13 1 (by omega)]; show iZ (T (7 + 8 * c + 5) (ds i13)) = _; rw [← d13]) dX4_isSame_385 ?_
                                        refine V_ineS hx dX4_isSame_386 437 (by decide) ?_
                                        refine V_aload_n hx dX4_isSame_389 6 rfl ?_
                                        refine V_iload_n hx dX4_isSame_390 4 rfl ?_
                                        refine V_iload hx dX4_isSame_391 2 rfl ?_
                                        refine V_iconst hx dX4_isSame_393 ?_
                                        refine M_callX hx hz hM25 hC hA (x_slip l hst T (wf_shp hw (by omega)) (c := ((c : Nat) : Int)) (d := ((d : Nat) : Int)) (what := 1) ⟨by omega, by omega⟩ ⟨by omega, by omega⟩ ⟨by decide, by decide⟩) rfl cw_X4_111 (RMa (by dsimp only [rmA, rmN, rmX]; omega) (by dsimp only [rmA, rmN, rmX]; omega) (by dsimp only [rmA, rmN, rmX]; omega) (by dsimp only [rmA, rmN, rmX]; omega)) rfl rfl (Nat.le_of_ble_eq_true rfl) dX4_isSame_394 _ _ rfl rfl (fun E hE9 => absurd (show _ ∧ _ from ⟨⟨by omega, by omega⟩, ⟨by omega, by omega⟩, ⟨by omega, by omega⟩⟩) hE9.2) (fun z26 w26 e26 => ?_)
                                        obtain ⟨-, rfl, rfl⟩ := e26
                                        refine ⟨P, T, rfl, fun ws26 M26 hM26 hC9 kp26 => ?_⟩
                                        replace hsp := kp26 _ _ _ hsp (by show _ ≠ _; omega)
                                        replace hck := kp26 _ _ _ hck (by show _ ≠ _; omega)
                                        replace ham := kp26 _ _ _ ham (by show _ ≠ _; omega)
                                        replace hsv := kp26 _ _ _ hsv (by show _ ≠ _; omega)
                                        replace hca := kp26 _ _ _ hca (by show _ ≠ _; omega)
                                        replace hpr1 := kp26 _ _ _ hpr1 (by show _ ≠ _; omega)
                                        replace hse1 := kp26 _ _ _ hse1 (by show _ ≠ _; omega)
                                        replace how1 := kp26 _ _ _ how1 (by show _ ≠ _; omega)
                                        replace hv13 := kp26 _ _ _ hv13 (by show _ ≠ _; omega)
                                        replace hv21 := kp26 _ _ _ hv21 (by show _ ≠ _; omega)
                                        replace hS := sim_kp hS h6 kp26 (fun r hr => by first | trivial | (show _ ≠ _; omega))
                                        replace hpr := rws_kp hpr kp26 (by first | trivial | (show _ ≠ _; omega)) (by first | trivial | (show _ ≠ _; omega))
                                        replace hse := rws_kp hse kp26 (by first | trivial | (show _ ≠ _; omega)) (by first | trivial | (show _ ≠ _; omega))
                                        replace how := rws_kp how kp26 (by first | trivial | (show _ ≠ _; omega)) (by first | trivial | (show _ ≠ _; omega))
                                        have hC := hC9
                                        refine V_top (b := T (7 + 8 * c + 6) d) rfl ?_
                                        refine V_aload hx dX4_isSame_397 1 rfl ?_
                                        refine V_ifnonnull hx dX4_isSame_399 406 (by decide) ?_
                                        refine V_aload hx dX4_isSame_406 1 rfl ?_
                                        refine V_iconst hx dX4_isSame_408 ?_
                                        obtain ⟨i9, hi9⟩ := hM26.at hv13
                                        refine V_iald hx (by omega) (by omega) (by omega) i9 hi9 (v := T (7 + 8 * c + 6) d) (by rw [show (2 : Int).toNat = 2 from rfl, hvv13 2 (by omega)]; show iZ (T (7 + 8 * c + 6) (ds i13)) = _; rw [← d13]) dX4_isSame_409 ?_
                                        refine V_ineS hx dX4_isSame_410 437 (by decide) ?_
                                        refine V_aload_n hx dX4_isSame_413 6 rfl ?_
                                        refine V_iload_n hx dX4_isSame_414 4 rfl ?_
                                        refine V_iload hx dX4_isSame_415 2 rfl ?_
                                        refine V_iconst hx dX4_isSame_417 ?_
                                        refine M_callX hx hz hM26 hC hA (x_slip l hst T (wf_shp hw (by omega)) (c := ((c : Nat) : Int)) (d := ((d : Nat) : Int)) (what := 2) ⟨by omega, by omega⟩ ⟨by omega, by omega⟩ ⟨by decide, by decide⟩) rfl cw_X4_111 (RMa (by dsimp only [rmA, rmN, rmX]; omega) (by dsimp only [rmA, rmN, rmX]; omega) (by dsimp only [rmA, rmN, rmX]; omega) (by dsimp only [rmA, rmN, rmX]; omega)) rfl rfl (Nat.le_of_ble_eq_true rfl) dX4_isSame_418 _ _ rfl rfl (fun E hE9 => absurd (show _ ∧ _ from ⟨⟨by omega, by omega⟩, ⟨by omega, by omega⟩, ⟨by omega, by omega⟩⟩) hE9.2) (fun z27 w27 e27 => ?_)
                                        obtain ⟨-, rfl, rfl⟩ := e27
                                        refine ⟨P, T, rfl, fun ws27 M27 hM27 hC9 kp27 => ?_⟩
                                        replace hsp := kp27 _ _ _ hsp (by show _ ≠ _; omega)
                                        replace hck := kp27 _ _ _ hck (by show _ ≠ _; omega)
                                        replace ham := kp27 _ _ _ ham (by show _ ≠ _; omega)
                                        replace hsv := kp27 _ _ _ hsv (by show _ ≠ _; omega)
                                        replace hca := kp27 _ _ _ hca (by show _ ≠ _; omega)
                                        replace hpr1 := kp27 _ _ _ hpr1 (by show _ ≠ _; omega)
                                        replace hse1 := kp27 _ _ _ hse1 (by show _ ≠ _; omega)
                                        replace how1 := kp27 _ _ _ how1 (by show _ ≠ _; omega)
                                        replace hv13 := kp27 _ _ _ hv13 (by show _ ≠ _; omega)
                                        replace hv21 := kp27 _ _ _ hv21 (by show _ ≠ _; omega)
                                        replace hS := sim_kp hS h6 kp27 (fun r hr => by first | trivial | (show _ ≠ _; omega))
                                        replace hpr := rws_kp hpr kp27 (by first | trivial | (show _ ≠ _; omega)) (by first | trivial | (show _ ≠ _; omega))
                                        replace hse := rws_kp hse kp27 (by first | trivial | (show _ ≠ _; omega)) (by first | trivial | (show _ ≠ _; omega))
                                        replace how := rws_kp how kp27 (by first | trivial | (show _ ≠ _; omega)) (by first | trivial | (show _ ≠ _; omega))
                                        have hC := hC9
                                        refine V_top (b := T (7 + 8 * c + 7) d) rfl ?_
                                        refine V_aload hx dX4_isSame_421 0 rfl ?_
                                        refine V_ifnonnull hx dX4_isSame_423 430 (by decide) ?_
                                        refine V_aload hx dX4_isSame_430 0 rfl ?_
                                        refine V_iconst hx dX4_isSame_432 ?_
                                        obtain ⟨i9, hi9⟩ := hM27.at hv21
                                        refine V_iald hx (by omega) (by omega) (by omega) i9 hi9 (v := T (7 + 8 * c + 7) d) (by rw [show (1 : Int).toNat = 1 from rfl, hvv21 1 (by omega)]; show iZ (T (7 + 8 * c + 7) (dw i21)) = _; rw [← d21]) dX4_isSame_433 ?_
                                        refine V_ieqS hx dX4_isSame_434 439 (by decide) ?_
                                        refine V_iincN hx dX4_isSame_439 2 rfl [(5, .int (iZ (((d + 1 : Nat) : Int)))), (7, .ref ((fo i21))), (6, .ref ((fs i13))), (3, .ref ((cl c))), (2, .int (iZ ((c : Int)))), (0, .ref (sp)), (1, .ref ((ad 0)))] (by decide) rfl ?_
                                        refine V_goto hx dX4_isSame_442 333 (by decide) ?_
                                        refine V_widen (k' := 115 + 200 * c + 9 * (d + 1)) (n' := 591 + 1200 * c + 54 * (d + 1)) (by first | omega | (dsimp only [rmA, rmX, rmN]; omega)) (by first | omega | (dsimp only [rmA, rmX, rmN]; omega)) ?_
                                        exact V_sub [0, 3, 4, 5, 6] rfl (ihd (d + 1) _ _ (by omega) (by omega) hM27 hC hS)
                              exact V_sub [0, 2, 3, 4, 5] rfl (hL333 9 0 _ _ (by omega) (by omega) hN1 hC hS)
                            · refine V_aload_n hx dX4_isSame_307 5 rfl ?_
                              refine V_iload_n hx dX4_isSame_308 3 rfl ?_
                              refine V_iload hx dX4_isSame_309 0 rfl ?_
                              refine M_callX hx hz hN1 hC hA (x_told l hst T (wf_shp hw (by omega)) (c := ((c : Nat) : Int)) (what := ((w : Nat) : Int)) ⟨by omega, by omega⟩ ⟨by omega, by omega⟩) rfl cw_X4_108 (RMa (by dsimp only [rmA, rmN, rmX]; omega) (by dsimp only [rmA, rmN, rmX]; omega) (by dsimp only [rmA, rmN, rmX]; omega) (by dsimp only [rmA, rmN, rmX]; omega)) rfl rfl (Nat.le_of_ble_eq_true rfl) dX4_isSame_311 _ _ rfl rfl (fun E hE9 => absurd (show _ ∧ _ from ⟨⟨by omega, by omega⟩, ⟨by omega, by omega⟩⟩) hE9.2) (fun z28 w28 e28 => ?_)
                              obtain ⟨-, rfl, rfl⟩ := e28
                              refine ⟨P, T, rfl, fun ws28 M28 hM28 hC9 kp28 => ?_⟩
                              replace hqu := kp28 _ _ _ hqu (by show _ ≠ _; omega)
                              replace hS := sim_kp hS h6 kp28 (fun r hr => by first | trivial | (show _ ≠ _; omega))
                              have hC := hC9
                              refine V_top (b := ckV T ((c : Nat) : Int) ((w : Nat) : Int)) rfl ?_
                              refine V_aload hx dX4_isSame_314 1 rfl ?_
                              refine V_iload hx dX4_isSame_316 0 rfl ?_
                              obtain ⟨i9, hi9⟩ := hM28.at hqu
                              refine V_iald hx (by omega) (by omega) (by omega) i9 hi9 (v := ckV T ((c : Nat) : Int) ((w : Nat) : Int)) (hu w (by omega)) dX4_isSame_318 ?_
                              refine V_ieqS hx dX4_isSame_319 324 (by decide) ?_
                              refine V_iincN hx dX4_isSame_324 0 rfl [(5, .int (iZ (((w + 1 : Nat) : Int)))), (4, .ref (q2)), (3, .ref ((cl c))), (2, .int (iZ ((c : Int)))), (0, .ref (sp)), (1, .ref ((ad 0)))] (by decide) rfl ?_
                              refine V_goto hx dX4_isSame_327 300 (by decide) ?_
                              refine V_widen (k' := 101 + 200 * c + 2 * (w + 1)) (n' := 507 + 1200 * c + 12 * (w + 1)) (by first | omega | (dsimp only [rmA, rmX, rmN]; omega)) (by first | omega | (dsimp only [rmA, rmX, rmN]; omega)) ?_
                              exact V_sub [0, 1, 2, 3, 4, 5] rfl (ihw (w + 1) _ _ (by omega) (by omega) hM28 hC hS hqu)
                        exact V_sub [0, 1, 2, 3, 4, 5] rfl (hL300 9 0 _ _ (by omega) (by omega) hM9 hC hS hqu)
                      refine V_if_ne hx dX4_isSame_278 293 (by decide) (hT _ _) (fun h278 => ?_) (fun h278 => ?_)
                      · refine V_iconst hx dX4_isSame_293 ?_
                        refine V_widen (k' := 101 + 200 * c) (n' := 507 + 1200 * c) (by first | omega | (dsimp only [rmA, rmX, rmN]; omega)) (by first | omega | (dsimp only [rmA, rmX, rmN]; omega)) ?_
                        refine V_top (b := loF T c) (show (0 : Int) = loF T c from (bz_f (fun (h9 : T (7 + 8 * c) 2 = 0 ∧ odP T (7 + 8 * c) (nd T)) => h278 h9.1)).symm) ?_
                        exact h294
                      · refine V_aload_n hx dX4_isSame_281 0 rfl ?_
                        refine V_aload_n hx dX4_isSame_282 2 rfl ?_
                        obtain ⟨i9, hi9⟩ := hM8.at hca
                        obtain ⟨⟨am7, sl7, ck7, co7, h07⟩, hCK7⟩ := id hS
                        refine V_calli hx (z_losing l hM8 h07 (hCK7 c hc) hc6 tn1 tn8 hT k6) cw_X4_64 (RMa (by dsimp only [rmA, rmN, rmX]; omega) (by dsimp only [rmA, rmN, rmX]; omega) (by dsimp only [rmA, rmN, rmX]; omega) (by dsimp only [rmA, rmN, rmX]; omega)) rfl i9 hi9 rfl rfl (Nat.le_of_ble_eq_true rfl) dX4_isSame_283 _ _ rfl rfl (fun z29 w29 e29 => ?_)
                        obtain ⟨rfl, rfl⟩ := e29
                        refine V_ifb_eq hx dX4_isSame_286 293 (by decide) (fun h286 => ?_) (fun h286 => ?_)
                        · refine V_iconst hx dX4_isSame_293 ?_
                          refine V_widen (k' := 101 + 200 * c) (n' := 507 + 1200 * c) (by first | omega | (dsimp only [rmA, rmX, rmN]; omega)) (by first | omega | (dsimp only [rmA, rmX, rmN]; omega)) ?_
                          refine V_top (b := loF T c) (show (0 : Int) = loF T c from (bz_f (fun (h9 : T (7 + 8 * c) 2 = 0 ∧ odP T (7 + 8 * c) (nd T)) => h286 h9.2)).symm) ?_
                          exact h294
                        · refine V_iconst hx dX4_isSame_289 ?_
                          refine V_goto hx dX4_isSame_290 294 (by decide) ?_
                          refine V_widen (k' := 101 + 200 * c) (n' := 507 + 1200 * c) (by first | omega | (dsimp only [rmA, rmX, rmN]; omega)) (by first | omega | (dsimp only [rmA, rmX, rmN]; omega)) ?_
                          refine V_top (b := loF T c) (show (1 : Int) = loF T c from (bz_t (show T (7 + 8 * c) 2 = 0 ∧ odP T (7 + 8 * c) (nd T) from ⟨by omega, h286⟩)).symm) ?_
                          exact h294
                    refine V_if_eq hx dX4_isSame_239 246 (by decide) (hT _ _) (fun h239 => ?_) (fun h239 => ?_)
                    · refine V_iconst hx dX4_isSame_246 ?_
                      refine V_top (b := bz (T (7 + 8 * c) 2 ≠ 0)) (bz_f (fun h9 : T (7 + 8 * c) 2 ≠ 0 => by omega)).symm ?_
                      exact h247
                    · refine V_iconst hx dX4_isSame_242 ?_
                      refine V_goto hx dX4_isSame_243 247 (by decide) ?_
                      refine V_top (b := bz (T (7 + 8 * c) 2 ≠ 0)) (bz_t (show T (7 + 8 * c) 2 ≠ 0 by omega)).symm ?_
                      exact h247
              exact V_sub [0, 1, 2] rfl (hLC 9 0 _ _ (by omega) (by omega) hN1 hC hS)
            · refine V_iconst hx dX4_isSame_40 ?_
              refine V_istore_n hx dX4_isSame_41 [(3, .int (iZ (0))), (2, .int (iZ ((d : Int)))), (0, .ref (sp)), (1, .ref ((ad 0)))] (by decide) rfl ?_
              refine V_iconst hx dX4_isSame_42 ?_
              refine V_istore hx dX4_isSame_43 [(4, .int (iZ (0))), (3, .int (iZ (0))), (2, .int (iZ ((d : Int)))), (0, .ref (sp)), (1, .ref ((ad 0)))] (by decide) rfl ?_
              refine V_aload_n hx dX4_isSame_45 3 rfl ?_
              obtain ⟨i9, hi9⟩ := hN1.at hsp
              refine gf_X4_9 hx i9 hi9 rfl dX4_isSame_46 ?_
              refine V_astore hx dX4_isSame_49 [(5, .ref (ck)), (4, .int (iZ (0))), (3, .int (iZ (0))), (2, .int (iZ ((d : Int)))), (0, .ref (sp)), (1, .ref ((ad 0)))] (by decide) rfl ?_
              refine V_aload hx dX4_isSame_51 0 rfl ?_
              obtain ⟨i9, hi9⟩ := hN1.at hck
              refine V_alenK hx (t0 := 3) i9 hi9 rfl (v := T 0 1) hni dX4_isSame_53 ?_
              refine V_istore hx dX4_isSame_54 [(6, .int (iZ (T 0 1))), (5, .ref (ck)), (4, .int (iZ (0))), (3, .int (iZ (0))), (2, .int (iZ ((d : Int)))), (0, .ref (sp)), (1, .ref ((ad 0)))] (by decide) rfl ?_
              refine V_iconst hx dX4_isSame_56 ?_
              refine V_istore hx dX4_isSame_57 [(7, .int (iZ (0))), (6, .int (iZ (T 0 1))), (5, .ref (ck)), (4, .int (iZ (0))), (3, .int (iZ (0))), (2, .int (iZ ((d : Int)))), (0, .ref (sp)), (1, .ref ((ad 0)))] (by decide) rfl ?_
              refine V_widen (k' := 20 + 8 * d) (n' := 100 + 48 * d) (by first | omega | (dsimp only [rmA, rmX, rmN]; omega)) (by first | omega | (dsimp only [rmA, rmX, rmN]; omega)) ?_
              have hL59 : ∀ (n c : Nat), nc T < c + n → c ≤ nc T → V x (20 + 8 * d) (100 + 48 * d) w1 59 [(7, .int (iZ ((c : Int)))), (6, .int (iZ (T 0 1))), (5, .ref (ck)), (4, .int (iZ (sm c (wtF T d)))), (3, .int (iZ (sm c (reF T d)))), (2, .int (iZ ((d : Int)))), (0, .ref (sp)), (1, .ref ((ad 0)))] [] := by
                intro n; induction n with
                | zero => intro c g1 g2; exact absurd g1 (by omega)
                | succ n ihc =>
                  intro c g1 g2
                  refine V_iload hx dX4_isSame_59 0 rfl ?_
                  refine V_iload hx dX4_isSame_61 1 rfl ?_
                  refine V_icmp_ge hx dX4_isSame_63 137 (by decide) ⟨by omega, by omega⟩ (by first | assumption | exact ⟨by omega, by omega⟩) (fun h63 => ?_) (fun h63 => ?_)
                  · refine V_aload_n hx dX4_isSame_137 7 rfl ?_
                    refine V_iload_n hx dX4_isSame_138 5 rfl ?_
                    refine V_iconst hx dX4_isSame_139 ?_
                    refine M_callX hx hz hN1 hC hA (x_drawer l hst T (wf_shp hw (by omega)) (d := ((d : Nat) : Int)) (what := 0) ⟨by omega, by omega⟩ ⟨by decide, by decide⟩) rfl cw_X4_104 (RMa (by dsimp only [rmA, rmN, rmX]; omega) (by dsimp only [rmA, rmN, rmX]; omega) (by dsimp only [rmA, rmN, rmX]; omega) (by dsimp only [rmA, rmN, rmX]; omega)) rfl rfl (Nat.le_of_ble_eq_true rfl) dX4_isSame_140 _ _ rfl rfl (fun E hE9 => absurd (show _ ∧ _ from ⟨⟨by omega, by omega⟩, ⟨by omega, by omega⟩⟩) hE9.2) (fun z30 w30 e30 => ?_)
                    obtain ⟨-, rfl, rfl⟩ := e30
                    refine ⟨P, T, rfl, fun ws30 M30 hM30 hC9 kp30 => ?_⟩
                    replace hsp := kp30 _ _ _ hsp (by show _ ≠ _; omega)
                    replace hck := kp30 _ _ _ hck (by show _ ≠ _; omega)
                    replace ham := kp30 _ _ _ ham (by show _ ≠ _; omega)
                    replace hsv := kp30 _ _ _ hsv (by show _ ≠ _; omega)
                    replace hS := sim_kp hS h6 kp30 (fun r hr => by first | trivial | (show _ ≠ _; omega))
                    have hC := hC9
                    refine V_top (b := T 1 d) rfl ?_
                    refine V_aload_n hx dX4_isSame_143 6 rfl ?_
                    obtain ⟨i9, hi9⟩ := hM30.at hsp
                    refine gf_X4_21 hx i9 hi9 rfl dX4_isSame_144 ?_
                    refine V_iload_n hx dX4_isSame_147 5 rfl ?_
                    obtain ⟨i9, hi9⟩ := hM30.at ham
                    refine V_iald hx (by omega) (by omega) (by omega) i9 hi9 (v := T 1 d) (hva d (by omega)) dX4_isSame_148 ?_
                    refine V_ineS hx dX4_isSame_149 188 (by decide) ?_
                    refine V_aload_n hx dX4_isSame_152 7 rfl ?_
                    refine V_iload_n hx dX4_isSame_153 5 rfl ?_
                    refine V_iconst hx dX4_isSame_154 ?_
                    refine M_callX hx hz hM30 hC hA (x_drawer l hst T (wf_shp hw (by omega)) (d := ((d : Nat) : Int)) (what := 1) ⟨by omega, by omega⟩ ⟨by decide, by decide⟩) rfl cw_X4_104 (RMa (by dsimp only [rmA, rmN, rmX]; omega) (by dsimp only [rmA, rmN, rmX]; omega) (by dsimp only [rmA, rmN, rmX]; omega) (by dsimp only [rmA, rmN, rmX]; omega)) rfl rfl (Nat.le_of_ble_eq_true rfl) dX4_isSame_155 _ _ rfl rfl (fun E hE9 => absurd (show _ ∧ _ from ⟨⟨by omega, by omega⟩, ⟨by omega, by omega⟩⟩) hE9.2) (fun z31 w31 e31 => ?_)
                    obtain ⟨-, rfl, rfl⟩ := e31
                    refine ⟨P, T, rfl, fun ws31 M31 hM31 hC9 kp31 => ?_⟩
                    replace hsp := kp31 _ _ _ hsp (by show _ ≠ _; omega)
                    replace hck := kp31 _ _ _ hck (by show _ ≠ _; omega)
                    replace ham := kp31 _ _ _ ham (by show _ ≠ _; omega)
                    replace hsv := kp31 _ _ _ hsv (by show _ ≠ _; omega)
                    replace hS := sim_kp hS h6 kp31 (fun r hr => by first | trivial | (show _ ≠ _; omega))
                    have hC := hC9
                    refine V_top (b := T 2 d) rfl ?_
                    refine V_aload_n hx dX4_isSame_158 6 rfl ?_
                    obtain ⟨i9, hi9⟩ := hM31.at hsp
                    refine gf_X4_24 hx i9 hi9 rfl dX4_isSame_159 ?_
                    refine V_iload_n hx dX4_isSame_162 5 rfl ?_
                    obtain ⟨i9, hi9⟩ := hM31.at hsv
                    refine V_iald hx (by omega) (by omega) (by omega) i9 hi9 (v := T 2 d) (hvs d (by omega)) dX4_isSame_163 ?_
                    refine V_ineS hx dX4_isSame_164 188 (by decide) ?_
                    refine V_aload_n hx dX4_isSame_167 7 rfl ?_
                    refine V_iload_n hx dX4_isSame_168 5 rfl ?_
                    refine V_iconst hx dX4_isSame_169 ?_
                    refine M_callX hx hz hM31 hC hA (x_drawer l hst T (wf_shp hw (by omega)) (d := ((d : Nat) : Int)) (what := 2) ⟨by omega, by omega⟩ ⟨by decide, by decide⟩) rfl cw_X4_104 (RMa (by dsimp only [rmA, rmN, rmX]; omega) (by dsimp only [rmA, rmN, rmX]; omega) (by dsimp only [rmA, rmN, rmX]; omega) (by dsimp only [rmA, rmN, rmX]; omega)) rfl rfl (Nat.le_of_ble_eq_true rfl) dX4_isSame_170 _ _ rfl rfl (fun E hE9 => absurd (show _ ∧ _ from ⟨⟨by omega, by omega⟩, ⟨by omega, by omega⟩⟩) hE9.2) (fun z32 w32 e32 => ?_)
                    obtain ⟨-, rfl, rfl⟩ := e32
                    refine ⟨P, T, rfl, fun ws32 M32 hM32 hC9 kp32 => ?_⟩
                    replace hsp := kp32 _ _ _ hsp (by show _ ≠ _; omega)
                    replace hck := kp32 _ _ _ hck (by show _ ≠ _; omega)
                    replace ham := kp32 _ _ _ ham (by show _ ≠ _; omega)
                    replace hsv := kp32 _ _ _ hsv (by show _ ≠ _; omega)
                    replace hS := sim_kp hS h6 kp32 (fun r hr => by first | trivial | (show _ ≠ _; omega))
                    have hC := hC9
                    refine V_top (b := sm (nc T) (reF T d)) rfl ?_
                    refine V_iload_n hx dX4_isSame_173 4 rfl ?_
                    refine V_top (b := sm (nc T) (reF T d)) (by rw [show c = nc T by omega]) ?_
                    refine V_ineS hx dX4_isSame_174 188 (by decide) ?_
                    refine V_aload_n hx dX4_isSame_177 7 rfl ?_
                    refine V_iload_n hx dX4_isSame_178 5 rfl ?_
                    refine V_iconst hx dX4_isSame_179 ?_
                    refine M_callX hx hz hM32 hC hA (x_drawer l hst T (wf_shp hw (by omega)) (d := ((d : Nat) : Int)) (what := 3) ⟨by omega, by omega⟩ ⟨by decide, by decide⟩) rfl cw_X4_104 (RMa (by dsimp only [rmA, rmN, rmX]; omega) (by dsimp only [rmA, rmN, rmX]; omega) (by dsimp only [rmA, rmN, rmX]; omega) (by dsimp only [rmA, rmN, rmX]; omega)) rfl rfl (Nat.le_of_ble_eq_true rfl) dX4_isSame_180 _ _ rfl rfl (fun E hE9 => absurd (show _ ∧ _ from ⟨⟨by omega, by omega⟩, ⟨by omega, by omega⟩⟩) hE9.2) (fun z33 w33 e33 => ?_)
                    obtain ⟨-, rfl, rfl⟩ := e33
                    refine ⟨P, T, rfl, fun ws33 M33 hM33 hC9 kp33 => ?_⟩
                    replace hsp := kp33 _ _ _ hsp (by show _ ≠ _; omega)
                    replace hck := kp33 _ _ _ hck (by show _ ≠ _; omega)
                    replace ham := kp33 _ _ _ ham (by show _ ≠ _; omega)
                    replace hsv := kp33 _ _ _ hsv (by show _ ≠ _; omega)
                    replace hS := sim_kp hS h6 kp33 (fun r hr => by first | trivial | (show _ ≠ _; omega))
                    have hC := hC9
                    refine V_top (b := sm (nc T) (wtF T d)) rfl ?_
                    refine V_iload hx dX4_isSame_183 3 rfl ?_
                    refine V_top (b := sm (nc T) (wtF T d)) (by rw [show c = nc T by omega]) ?_
                    refine V_ieqS hx dX4_isSame_185 190 (by decide) ?_
                    refine V_iincN hx dX4_isSame_190 5 rfl [(2, .int (iZ (((d + 1 : Nat) : Int)))), (7, .int (iZ ((c : Int)))), (6, .int (iZ (T 0 1))), (5, .ref (ck)), (4, .int (iZ (sm c (wtF T d)))), (3, .int (iZ (sm c (reF T d)))), (0, .ref (sp)), (1, .ref ((ad 0)))] (by decide) rfl ?_
                    refine V_goto hx dX4_isSame_193 31 (by decide) ?_
                    refine V_widen (k' := 20 + 8 * (d + 1)) (n' := 100 + 48 * (d + 1)) (by first | omega | (dsimp only [rmA, rmX, rmN]; omega)) (by first | omega | (dsimp only [rmA, rmX, rmN]; omega)) ?_
                    exact V_sub [0, 6, 7] rfl (ihB (d + 1) _ _ (by omega) (by omega) hM33 hC hS)
                  · refine V_aload hx dX4_isSame_66 2 rfl ?_
                    refine V_iload hx dX4_isSame_68 0 rfl ?_
                    have hc : c < nc T := by omega
                    have hci : (c : Int) < T 0 1 := by omega
                    obtain ⟨⟨k1, k1b⟩, ⟨k2, k2b⟩, k3, ⟨k4, k4b⟩, k5, k6⟩ := hck9 c hci
                    have hc6 : c < 6 := by omega
                    obtain ⟨pr, se, ow, fp, fs, fo, ms, mo, ds, dw, hca, hpr, ⟨hse, hsl⟩, ⟨how, hwl⟩⟩ := id (hCK c hc)
                    obtain ⟨fq, hpr1, hpr2⟩ := id hpr.1
                    obtain ⟨fs0, hse1, hse2⟩ := id hse.1
                    obtain ⟨fo0, how1, how2⟩ := id how.1
                    have hms := slp_8 hsl
                    have hmo := slp_8 hwl
                    obtain ⟨i9, hi9⟩ := hN1.at hck
                    refine V_aaldL hx (by omega) (by omega) (by omega) i9 hi9 (r := (cl c)) (hfk c hc) dX4_isSame_70 ?_
                    refine V_astore hx dX4_isSame_71 [(8, .ref ((cl c))), (7, .int (iZ ((c : Int)))), (6, .int (iZ (T 0 1))), (5, .ref (ck)), (4, .int (iZ (sm c (wtF T d)))), (3, .int (iZ (sm c (reF T d)))), (2, .int (iZ ((d : Int)))), (0, .ref (sp)), (1, .ref ((ad 0)))] (by decide) rfl ?_
                    refine V_iload_n hx dX4_isSame_73 5 rfl ?_
                    refine V_aload hx dX4_isSame_74 0 rfl ?_
                    obtain ⟨i9, hi9⟩ := hN1.at hca
                    refine gf_X4_49 hx i9 hi9 rfl dX4_isSame_76 ?_
                    refine V_widen (k' := 20 + 8 * d) (n' := 100 + 48 * d) (by first | omega | (dsimp only [rmA, rmX, rmN]; omega)) (by first | omega | (dsimp only [rmA, rmX, rmN]; omega)) ?_
                    have h99 : V x (20 + 8 * d) (100 + 48 * d) w1 99 [(8, .ref ((cl c))), (7, .int (iZ ((c : Int)))), (6, .int (iZ (T 0 1))), (5, .ref (ck)), (4, .int (iZ (sm c (wtF T d)))), (3, .int (iZ (sm c (reF T d)))), (2, .int (iZ ((d : Int)))), (0, .ref (sp)), (1, .ref ((ad 0)))] [.int (iZ (reF T d c)), .int (iZ (sm c (reF T d)))] := by
                      refine V_iadd hx dX4_isSame_99 ?_
                      refine V_top (b := sm (c + 1) (reF T d)) rfl ?_
                      refine V_istore_n hx dX4_isSame_100 [(3, .int (iZ (sm (c + 1) (reF T d)))), (8, .ref ((cl c))), (7, .int (iZ ((c : Int)))), (6, .int (iZ (T 0 1))), (5, .ref (ck)), (4, .int (iZ (sm c (wtF T d)))), (2, .int (iZ ((d : Int)))), (0, .ref (sp)), (1, .ref ((ad 0)))] (by decide) rfl ?_
                      refine V_iload hx dX4_isSame_101 5 rfl ?_
                      refine V_aload hx dX4_isSame_103 1 rfl ?_
                      obtain ⟨i9, hi9⟩ := hN1.at hca
                      refine gf_X4_49 hx i9 hi9 rfl dX4_isSame_105 ?_
                      refine V_widen (k' := 20 + 8 * d) (n' := 100 + 48 * d) (by first | omega | (dsimp only [rmA, rmX, rmN]; omega)) (by first | omega | (dsimp only [rmA, rmX, rmN]; omega)) ?_
                      have h128 : V x (20 + 8 * d) (100 + 48 * d) w1 128 [(3, .int (iZ (sm (c + 1) (reF T d)))), (8, .ref ((cl c))), (7, .int (iZ ((c : Int)))), (6, .int (iZ (T 0 1))), (5, .ref (ck)), (4, .int (iZ (sm c (wtF T d)))), (2, .int (iZ ((d : Int)))), (0, .ref (sp)), (1, .ref ((ad 0)))] [.int (iZ (wtF T d c)), .int (iZ (sm c (wtF T d)))] := by
                        refine V_iadd hx dX4_isSame_128 ?_
                        refine V_top (b := sm (c + 1) (wtF T d)) rfl ?_
                        refine V_istore hx dX4_isSame_129 [(4, .int (iZ (sm (c + 1) (wtF T d)))), (3, .int (iZ (sm (c + 1) (reF T d)))), (8, .ref ((cl c))), (7, .int (iZ ((c : Int)))), (6, .int (iZ (T 0 1))), (5, .ref (ck)), (2, .int (iZ ((d : Int)))), (0, .ref (sp)), (1, .ref ((ad 0)))] (by decide) rfl ?_
                        refine V_iincN hx dX4_isSame_131 3 rfl [(7, .int (iZ (((c + 1 : Nat) : Int)))), (4, .int (iZ (sm (c + 1) (wtF T d)))), (3, .int (iZ (sm (c + 1) (reF T d)))), (8, .ref ((cl c))), (6, .int (iZ (T 0 1))), (5, .ref (ck)), (2, .int (iZ ((d : Int)))), (0, .ref (sp)), (1, .ref ((ad 0)))] (by decide) rfl ?_
                        refine V_goto hx dX4_isSame_134 59 (by decide) ?_
                        refine V_widen (k' := 20 + 8 * d) (n' := 100 + 48 * d) (by first | omega | (dsimp only [rmA, rmX, rmN]; omega)) (by first | omega | (dsimp only [rmA, rmX, rmN]; omega)) ?_
                        exact V_sub [0, 4, 5, 1, 2, 6, 7, 8] rfl (ihc (c + 1) (by omega) (by omega))
                      refine V_if_ne hx dX4_isSame_108 127 (by decide) (hT _ _) (fun h108 => ?_) (fun h108 => ?_)
                      · refine V_iconst hx dX4_isSame_127 ?_
                        refine V_widen (k' := 20 + 8 * d) (n' := 100 + 48 * d) (by first | omega | (dsimp only [rmA, rmX, rmN]; omega)) (by first | omega | (dsimp only [rmA, rmX, rmN]; omega)) ?_
                        refine V_top (b := wtF T d c) (show (0 : Int) = wtF T d c from (bz_f (fun (h9 : T (7 + 8 * c) 2 = 0 ∧ T (7 + 8 * c + 7) d ≠ -1) => h108 h9.1)).symm) ?_
                        exact h128
                      · refine V_aload hx dX4_isSame_111 1 rfl ?_
                        obtain ⟨i9, hi9⟩ := hN1.at hca
                        refine gf_X4_74 hx i9 hi9 rfl dX4_isSame_113 ?_
                        refine V_iload_n hx dX4_isSame_116 6 rfl ?_
                        refine V_callSq hx (z_find' l hN1 how (by decide) (by decide) (by omega) (fun i hi => slp_rg hwl hi) (d := ((d : Nat) : Int)) ⟨by omega, by omega⟩) cw_X4_92 (RMa (by dsimp only [rmA, rmN, rmX]; omega) (by dsimp only [rmA, rmN, rmX]; omega) (by dsimp only [rmA, rmN, rmX]; omega) (by dsimp only [rmA, rmN, rmX]; omega)) rfl rfl (Nat.le_of_ble_eq_true rfl) dX4_isSame_117 _ _ rfl rfl (fun r34 w34 e34 => ?_)
                        obtain ⟨rfl, e34⟩ := e34
                        rcases fd_cases (c := cO T (7 + 8 * c) dw) hwl (fun i hi => rfl) (by omega) (by omega) e34 with ⟨rfl, n34⟩ | ⟨i34, hi34, rfl, d34, y34⟩
                        · rw [Int.toNat_natCast] at n34
                          refine V_ifnullN hx dX4_isSame_120 127 (by decide) ?_
                          refine V_iconst hx dX4_isSame_127 ?_
                          refine V_widen (k' := 20 + 8 * d) (n' := 100 + 48 * d) (by first | omega | (dsimp only [rmA, rmX, rmN]; omega)) (by first | omega | (dsimp only [rmA, rmX, rmN]; omega)) ?_
                          refine V_top (b := wtF T d c) (show (0 : Int) = wtF T d c from (bz_f (fun (h9 : T (7 + 8 * c) 2 = 0 ∧ T (7 + 8 * c + 7) d ≠ -1) => h9.2 n34)).symm) ?_
                          exact h128
                        · rw [Int.toNat_natCast] at d34 y34
                          obtain ⟨vv34, hv34, hvv34⟩ := how.2 i34 hi34
                          refine V_ifnull hx dX4_isSame_120 ?_
                          refine V_iconst hx dX4_isSame_123 ?_
                          refine V_goto hx dX4_isSame_124 128 (by decide) ?_
                          refine V_widen (k' := 20 + 8 * d) (n' := 100 + 48 * d) (by first | omega | (dsimp only [rmA, rmX, rmN]; omega)) (by first | omega | (dsimp only [rmA, rmX, rmN]; omega)) ?_
                          refine V_top (b := wtF T d c) (show (1 : Int) = wtF T d c from (bz_t (show T (7 + 8 * c) 2 = 0 ∧ T (7 + 8 * c + 7) d ≠ -1 from ⟨by omega, y34⟩)).symm) ?_
                          exact h128
                    refine V_if_ne hx dX4_isSame_79 98 (by decide) (hT _ _) (fun h79 => ?_) (fun h79 => ?_)
                    · refine V_iconst hx dX4_isSame_98 ?_
                      refine V_widen (k' := 20 + 8 * d) (n' := 100 + 48 * d) (by first | omega | (dsimp only [rmA, rmX, rmN]; omega)) (by first | omega | (dsimp only [rmA, rmX, rmN]; omega)) ?_
                      refine V_top (b := reF T d c) (show (0 : Int) = reF T d c from (bz_f (fun (h9 : T (7 + 8 * c) 2 = 0 ∧ T (7 + 8 * c + 5) d ≠ -1) => h79 h9.1)).symm) ?_
                      exact h99
                    · refine V_aload hx dX4_isSame_82 0 rfl ?_
                      obtain ⟨i9, hi9⟩ := hN1.at hca
                      refine gf_X4_89 hx i9 hi9 rfl dX4_isSame_84 ?_
                      refine V_iload_n hx dX4_isSame_87 6 rfl ?_
                      refine V_callSq hx (z_find' l hN1 hse (by decide) (by decide) (by omega) (fun i hi => slp_rg hsl hi) (d := ((d : Nat) : Int)) ⟨by omega, by omega⟩) cw_X4_92 (RMa (by dsimp only [rmA, rmN, rmX]; omega) (by dsimp only [rmA, rmN, rmX]; omega) (by dsimp only [rmA, rmN, rmX]; omega) (by dsimp only [rmA, rmN, rmX]; omega)) rfl rfl (Nat.le_of_ble_eq_true rfl) dX4_isSame_88 _ _ rfl rfl (fun r35 w35 e35 => ?_)
                      obtain ⟨rfl, e35⟩ := e35
                      rcases fd_cases (c := cS T (7 + 8 * c) ds) hsl (fun i hi => rfl) (by omega) (by omega) e35 with ⟨rfl, n35⟩ | ⟨i35, hi35, rfl, d35, y35⟩
                      · rw [Int.toNat_natCast] at n35
                        refine V_ifnullN hx dX4_isSame_91 98 (by decide) ?_
                        refine V_iconst hx dX4_isSame_98 ?_
                        refine V_widen (k' := 20 + 8 * d) (n' := 100 + 48 * d) (by first | omega | (dsimp only [rmA, rmX, rmN]; omega)) (by first | omega | (dsimp only [rmA, rmX, rmN]; omega)) ?_
                        refine V_top (b := reF T d c) (show (0 : Int) = reF T d c from (bz_f (fun (h9 : T (7 + 8 * c) 2 = 0 ∧ T (7 + 8 * c + 5) d ≠ -1) => h9.2 n35)).symm) ?_
                        exact h99
                      · rw [Int.toNat_natCast] at d35 y35
                        obtain ⟨vv35, hv35, hvv35⟩ := hse.2 i35 hi35
                        refine V_ifnull hx dX4_isSame_91 ?_
                        refine V_iconst hx dX4_isSame_94 ?_
                        refine V_goto hx dX4_isSame_95 99 (by decide) ?_
                        refine V_widen (k' := 20 + 8 * d) (n' := 100 + 48 * d) (by first | omega | (dsimp only [rmA, rmX, rmN]; omega)) (by first | omega | (dsimp only [rmA, rmX, rmN]; omega)) ?_
                        refine V_top (b := reF T d c) (show (1 : Int) = reF T d c from (bz_t (show T (7 + 8 * c) 2 = 0 ∧ T (7 + 8 * c + 5) d ≠ -1 from ⟨by omega, y35⟩)).symm) ?_
                        exact h99
              exact V_sub [0, 1, 2, 3, 4, 5, 6, 7] rfl (hL59 9 0 (by omega) (by omega))
        exact V_sub [0, 1, 2] rfl (hLB 9 0 _ _ (by omega) (by omega) hN1 hC hS)
      · refine V_aload_n hx dX4_isSame_8 2 rfl ?_
        refine V_iload_n hx dX4_isSame_9 0 rfl ?_
        refine M_callX hx hz hN1 hC hA (x_count l hst T (wf_shp hw (by omega)) (what := (i : Int)) ⟨by omega, by omega⟩) rfl cw_X4_96 (RMa (by dsimp only [rmA, rmN, rmX]; omega) (by dsimp only [rmA, rmN, rmX]; omega) (by dsimp only [rmA, rmN, rmX]; omega) (by dsimp only [rmA, rmN, rmX]; omega)) rfl rfl (Nat.le_of_ble_eq_true rfl) dX4_isSame_10 _ _ rfl rfl (fun E hE9 => absurd (show _ ∧ _ from ⟨by omega, by omega⟩) hE9.2) (fun z36 w36 e36 => ?_)
        obtain ⟨-, rfl, rfl⟩ := e36
        refine ⟨P, T, rfl, fun ws36 M36 hM36 hC9 kp36 => ?_⟩
        replace hsp := kp36 _ _ _ hsp (by show _ ≠ _; omega)
        replace hck := kp36 _ _ _ hck (by show _ ≠ _; omega)
        replace ham := kp36 _ _ _ ham (by show _ ≠ _; omega)
        replace hsv := kp36 _ _ _ hsv (by show _ ≠ _; omega)
        replace hS := sim_kp hS h6 kp36 (fun r hr => by first | trivial | (show _ ≠ _; omega))
        have hC := hC9
        refine V_top (b := cnV T (i : Int)) rfl ?_
        refine V_aload_n hx dX4_isSame_13 1 rfl ?_
        refine V_iload_n hx dX4_isSame_14 0 rfl ?_
        obtain ⟨i9, hi9⟩ := hM36.at hsp
        refine V_calli hx (z_counted l hM36 hS hw (by omega) (wh := (i : Int)) (by omega) (by omega)) cw_X4_101 (RMa (by dsimp only [rmA, rmN, rmX]; omega) (by dsimp only [rmA, rmN, rmX]; omega) (by dsimp only [rmA, rmN, rmX]; omega) (by dsimp only [rmA, rmN, rmX]; omega)) rfl i9 hi9 rfl rfl (Nat.le_of_ble_eq_true rfl) dX4_isSame_15 _ _ rfl rfl (fun z37 w37 e37 => ?_)
        obtain ⟨rfl, M37, hM37, kp37⟩ := e37
        replace hsp := kp37 _ _ _ hsp (by show _ ≠ _; omega)
        replace hck := kp37 _ _ _ hck (by show _ ≠ _; omega)
        replace ham := kp37 _ _ _ ham (by show _ ≠ _; omega)
        replace hsv := kp37 _ _ _ hsv (by show _ ≠ _; omega)
        replace hS := sim_kp hS h6 kp37 (fun r hr => by first | trivial | (show _ ≠ _; omega))
        replace hC := cwm_kp hC kp37 (by first | trivial | (show _ ≠ _; omega))
        refine V_ieqS hx dX4_isSame_18 23 (by decide) ?_
        refine V_iincN hx dX4_isSame_23 0 rfl [(2, .int (iZ (((i + 1 : Nat) : Int)))), (0, .ref (sp)), (1, .ref ((ad 0)))] (by decide) rfl ?_
        refine V_goto hx dX4_isSame_26 2 (by decide) ?_
        refine V_widen (k' := 2 * (i + 1)) (n' := 13 * (i + 1)) (by first | omega | (dsimp only [rmA, rmX, rmN]; omega)) (by first | omega | (dsimp only [rmA, rmX, rmN]; omega)) ?_
        exact V_sub [0, 1, 2] rfl (ihA (i + 1) _ _ (by omega) (by omega) hM37 hC hS)
  exact V_sub [0, 1, 2] rfl (hLA 9 0 _ _ (by omega) (by omega) hM hC hS)
