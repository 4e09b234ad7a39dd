/-! the law: its cases -/
theorem pm4 {A B C : va_W} : ((C ++ (A ++ B)) ++ []).Perm (A ++ (B ++ C)) := by
  rw [List.append_nil, ← List.append_assoc A B C]
  exact List.perm_append_comm
theorem wf_G {T : TS} {M : Int} (h : WF T M) (hM : M < 2147300000) : ∀ j : Nat, j ≤ 1000 → GRok (grs T j).1 ∧ 0 ≤ (grs T j).1 0 2 ∧ ∀ c : Nat, (c : Int) < (grs T j).1 0 1 → MOK (gr (grs T j).1 c).1 (7 + 8 * c) := fun j hj => by
  have w := wf_grs h (by omega) j hj
  obtain ⟨a, b⟩ := wf_grok w (by omega)
  exact ⟨a, w.2.2.2.1.1, b⟩
theorem wf_Gd {T : TS} {M : Int} (h : WF T M) (hM : M < 2147300000) : ∀ j : Nat, j ≤ 1000 → (0 ≤ (grs T j).1 0 0 ∧ (grs T j).1 0 0 ≤ 8) ∧ ∀ c : Nat, (c : Int) < (grs T j).1 0 1 → (grs T j).1 (7 + 8 * c) 2 = 0 ∨ (grs T j).1 (7 + 8 * c) 2 = 1 := fun j hj => by
  have w := wf_grs h (by omega) j hj
  have w2 := w.2.1
  exact ⟨⟨by omega, by omega⟩, fun c hc => (w.2.2.2.2.2 c hc).2.2.1⟩
theorem wf_A {T : TS} {M : Int} (h : WF T M) (hM : M < 2147300000) {c : Nat} (hc : (c : Int) < T 0 1) : ∀ t : Nat, t ≤ 100 → RG (wal T c t) ∧ TKok (wal T c t) (7 + 8 * c) ∧ MOK (wal T c t) (7 + 8 * c) ∧ 0 ≤ wal T c t 0 2 ∧ wal T c t 0 1 = T 0 1 := fun t ht => by
  obtain ⟨w, w1, w0⟩ := wf_wal h (by omega) hc t (by omega)
  have hc1 : (c : Int) < wal T c t 0 1 := by rw [w1]; exact hc
  exact ⟨w.1, wf_tkok w (by omega) hc1, wf_mok w hc1, w.2.2.2.1.1, w1⟩
theorem until_eq {an : Nat → Prop} {y z : Int} (h1 : (∃ r : Nat, r ≤ 200 ∧ (∀ j, j < r → an j) ∧ ¬ an r ∧ y = r) ∨ ((∀ j, j ≤ 200 → an j) ∧ y = -1)) (h2 : (∃ r : Nat, r ≤ 200 ∧ (∀ j, j < r → an j) ∧ ¬ an r ∧ z = r) ∨ ((∀ j, j ≤ 200 → an j) ∧ z = -1)) : y = z ∧ rg y := by
  rcases h1 with ⟨r, a1, a2, a3, rfl⟩ | ⟨a1, rfl⟩
  · rcases h2 with ⟨q, b1, b2, b3, rfl⟩ | ⟨b1, rfl⟩
    · rcases Nat.lt_trichotomy r q with h | h | h
      · exact absurd (b2 r h) a3
      · subst h; exact ⟨rfl, ⟨by omega, by omega⟩⟩
      · exact absurd (a2 q h) b3
    · exact absurd (b1 r a1) a3
  · rcases h2 with ⟨q, b1, b2, b3, rfl⟩ | ⟨b1, rfl⟩
    · exact absurd (a1 q b1) b3
    · exact ⟨rfl, ⟨by decide, by decide⟩⟩
def INV (g : GT) (cJ : ClassId) (ad md : Nat → Nat) (o : Nat) (i : Nat) (ws : va_W) : Prop := ∃ (P Q : Nat → TS) (T R : TS) (h : Int) (f : Nat → Int64), WF T (50 * (i : Int)) ∧ REL R T ∧ RG (P 1) ∧ RG (Q 1) ∧ ws = SW g ad P 0 T ++ ([(o, LJ cJ f)] ++ RW g md h Q 0 R)
theorem ch_till : CHD 73 yL_till cL_till 4 [(0, 9, 12, 13)] 3 := ⟨tin 353 (by decide +kernel) rfl, tin 354 (by decide +kernel) rfl, tin 355 (by decide +kernel) rfl, tin 61 (by decide +kernel) rfl, ⟨by decide +kernel, by decide +kernel⟩, by decide +kernel⟩
theorem ch_pay : CHD 82 yL_pay cL_pay 5 [(0, 10, 13, 19), (0, 10, 17, 13)] 4 := ⟨tin 433 (by decide +kernel) rfl, tin 434 (by decide +kernel) rfl, tin 435 (by decide +kernel) rfl, tin 61 (by decide +kernel) rfl, ⟨by decide +kernel, by decide +kernel⟩, by decide +kernel⟩
theorem ch_clerk : CHD 86 yL_clerk cL_clerk 3 [(0, 8, 11, 25)] 2 := ⟨tin 466 (by decide +kernel) rfl, tin 467 (by decide +kernel) rfl, tin 468 (by decide +kernel) rfl, tin 61 (by decide +kernel) rfl, ⟨by decide +kernel, by decide +kernel⟩, by decide +kernel⟩
theorem ch_say : CHD 90 yL_say cL_say 8 [(0, 16, 19, 19), (0, 16, 23, 13), (0, 16, 27, 25)] 7 := ⟨tin 498 (by decide +kernel) rfl, tin 499 (by decide +kernel) rfl, tin 500 (by decide +kernel) rfl, tin 61 (by decide +kernel) rfl, ⟨by decide +kernel, by decide +kernel⟩, by decide +kernel⟩
theorem ch_turn : CHD 94 yL_turn cL_turn 4 [(0, 9, 12, 19), (0, 9, 15, 25)] 3 := ⟨tin 523 (by decide +kernel) rfl, tin 524 (by decide +kernel) rfl, tin 525 (by decide +kernel) rfl, tin 61 (by decide +kernel) rfl, ⟨by decide +kernel, by decide +kernel⟩, by decide +kernel⟩
theorem ch_drop : CHD 97 yL_drop cL_drop 4 [(0, 9, 12, 19)] 3 := ⟨tin 532 (by decide +kernel) rfl, tin 533 (by decide +kernel) rfl, tin 534 (by decide +kernel) rfl, tin 61 (by decide +kernel) rfl, ⟨by decide +kernel, by decide +kernel⟩, by decide +kernel⟩
theorem ch_pass : CHD 100 yL_pass cL_pass 4 [(0, 9, 12, 13)] 3 := ⟨tin 540 (by decide +kernel) rfl, tin 541 (by decide +kernel) rfl, tin 542 (by decide +kernel) rfl, tin 61 (by decide +kernel) rfl, ⟨by decide +kernel, by decide +kernel⟩, by decide +kernel⟩
theorem ch_drawer : CHD 103 yL_drawer cL_drawer 5 [(0, 10, 13, 19)] 4 := ⟨tin 556 (by decide +kernel) rfl, tin 557 (by decide +kernel) rfl, tin 558 (by decide +kernel) rfl, tin 61 (by decide +kernel) rfl, ⟨by decide +kernel, by decide +kernel⟩, by decide +kernel⟩
theorem ch_told : CHD 106 yL_told cL_told 5 [(0, 10, 13, 19)] 4 := ⟨tin 563 (by decide +kernel) rfl, tin 564 (by decide +kernel) rfl, tin 565 (by decide +kernel) rfl, tin 61 (by decide +kernel) rfl, ⟨by decide +kernel, by decide +kernel⟩, by decide +kernel⟩
theorem ch_slip : CHD 109 yL_slip cL_slip 6 [(0, 12, 15, 19)] 5 := ⟨tin 570 (by decide +kernel) rfl, tin 571 (by decide +kernel) rfl, tin 572 (by decide +kernel) rfl, tin 61 (by decide +kernel) rfl, ⟨by decide +kernel, by decide +kernel⟩, by decide +kernel⟩
theorem ch_step : CHD 113 yL_step cL_step 6 [(0, 12, 15, 19)] 5 := ⟨tin 577 (by decide +kernel) rfl, tin 578 (by decide +kernel) rfl, tin 579 (by decide +kernel) rfl, tin 61 (by decide +kernel) rfl, ⟨by decide +kernel, by decide +kernel⟩, by decide +kernel⟩
theorem ch_closing : CHD 116 yL_closing cL_closing 5 [(0, 10, 13, 19)] 4 := ⟨tin 589 (by decide +kernel) rfl, tin 590 (by decide +kernel) rfl, tin 591 (by decide +kernel) rfl, tin 61 (by decide +kernel) rfl, ⟨by decide +kernel, by decide +kernel⟩, by decide +kernel⟩
theorem ch_clash : CHD 119 yL_clash cL_clash 5 [(0, 17, 20, 19)] 4 := ⟨tin 597 (by decide +kernel) rfl, tin 598 (by decide +kernel) rfl, tin 599 (by decide +kernel) rfl, tin 61 (by decide +kernel) rfl, ⟨by decide +kernel, by decide +kernel⟩, by decide +kernel⟩
theorem ch_count : CHD 122 yL_count cL_count 4 [(0, 9, 12, 19)] 3 := ⟨tin 605 (by decide +kernel) rfl, tin 606 (by decide +kernel) rfl, tin 607 (by decide +kernel) rfl, tin 61 (by decide +kernel) rfl, ⟨by decide +kernel, by decide +kernel⟩, by decide +kernel⟩
theorem ch_alone : CHD 125 yL_alone cL_alone 5 [(0, 10, 13, 19)] 4 := ⟨tin 612 (by decide +kernel) rfl, tin 613 (by decide +kernel) rfl, tin 614 (by decide +kernel) rfl, tin 61 (by decide +kernel) rfl, ⟨by decide +kernel, by decide +kernel⟩, by decide +kernel⟩
theorem ch_foresee : CHD 132 yL_foresee cL_foresee 5 [(0, 10, 13, 13), (0, 10, 17, 19)] 4 := ⟨tin 623 (by decide +kernel) rfl, tin 624 (by decide +kernel) rfl, tin 625 (by decide +kernel) rfl, tin 61 (by decide +kernel) rfl, ⟨by decide +kernel, by decide +kernel⟩, by decide +kernel⟩
set_option maxHeartbeats 4000000 in
set_option maxRecDepth 100000 in
theorem lc_till {x0 : CT} {l : Launch} {g : GT} {cJ : ClassId} {b L : Nat} {xs : Nat → Int32} (hX : ∀ d, FX (XD x0 d) l room_1 g 9 cL_law RL) (hZ : ∀ d, FL2 (XD x0 d) cJ b L xs) (hst : l.stackTraces = false) {i : Nat} (hi : i + 6 ≤ L) (hL : L ≤ 3072) {ad md : Nat → Nat} {P Q : Nat → TS} {T R : TS} {h : Int} {f : Nat → Int64} (hw : WF T (50 * (i : Int))) (hr : REL R T) (hP : RG (P 1)) (hQ : RG (Q 1)) {d9 : Drawn} (hd : DRN x0 d9) {o : Nat} (hB : ∀ (d : Drawn) (ws : va_W), DRN x0 d → INV g cJ ad md o (i + 6) ws → V (XD x0 d) (200 + 2 * i + 8) (2000 + 10 * i + 48) ws 1288 [(4, .int (iZ (i : Int))), (3, .ref o), (2, .ref (md 0)), (1, .ref (ad 0)), (0, .ref b)] []) : V (XD x0 d9) (200 + 2 * i) (2000 + 10 * i) (SW g ad P 0 T ++ ([(o, LJ cJ f)] ++ RW g md h Q 0 R)) 136 [(4, .int (iZ (i : Int))), (3, .ref o), (2, .ref (md 0)), (1, .ref (ad 0)), (0, .ref b)] [] := by
  have hx := hX d9
  have hz := hZ d9
  have hSP := wf_shp hw (by omega)
  obtain ⟨-, ⟨hn1, hn8⟩, ⟨hc0, hc6⟩, ⟨hl0, hl8⟩, ham, hck⟩ := id hw
  have hl9 : T 0 2 < 2147483647 := by omega
  have hdn : ∀ c : Nat, (c : Int) < T 0 1 → T (7 + 8 * c) 2 = 0 ∨ T (7 + 8 * c) 2 = 1 := fun c hc => (hck c hc).2.2.1
  have hs8 : ∀ c : Nat, (c : Int) < T 0 1 → T (7 + 8 * c) 0 ≤ 8 := fun c hc => (hck c hc).1.2
  have hs0 : ∀ c : Nat, (c : Int) < T 0 1 → 0 ≤ T (7 + 8 * c) 0 := fun c hc => (hck c hc).1.1
  have hw8 : ∀ c : Nat, (c : Int) < T 0 1 → W8 T c := fun c hc => wf_w8 hw hc
  have hamm : ∀ d : Nat, d < 8 → -1 ≤ T 1 d ∧ T 1 d ≤ 9999 := fun d hd => by have := ham d hd; omega
  refine V_ws (ws' := (SW g ad P 0 T ++ [(o, LJ cJ f)]) ++ RW g md h Q 0 R) (List.append_assoc _ _ _).symm ?_
  refine V_aload_n hx dL_law_136 3 rfl ?_
  refine V_aload_n hx dL_law_137 4 rfl ?_
  refine V_iload hx dL_law_138 0 rfl ?_
  refine V_iconst hx dL_law_140 ?_
  refine V_iadd hx dL_law_141 ?_
  refine V_sld hx hz (i + 1) (by omega) (by omega) (by omega) (by omega) dL_law_142 ?_
  refine V_aload_n hx dL_law_143 1 rfl ?_
  refine V_callHF hx hz (h_till l (f0 := f) SW_tillx (x_till l hst (ad := ad) (P := P) T hSP (a := (xs (i + 1)).toInt) (rg_toInt (xs (i + 1)))) (fun E he => by first | exact he.1 | simp [he.1])) ch_till (RML (by decide) (by decide) (by show (200 + 2 * i + 1) ≤ 612619; omega) (by show (2000 + 10 * i + 6) ≤ 7258246; omega)) rfl rfl (Nat.le_of_ble_eq_true rfl) dL_law_144 (200 + 2 * i + 1) (2000 + 10 * i + 6) rfl rfl (fun z5 ws5 e5 => ?_)
  rcases e5 with ⟨y5, ws6, ⟨hc, rfl, rfl⟩, rfl, f5, hf5, rfl⟩ | ⟨he, rfl, rfl⟩
  · refine V_istore hx dL_law_147 [(5, .int (iZ 0)), (4, .int (iZ (i : Int))), (3, .ref o), (2, .ref (md 0)), (1, .ref (ad 0)), (0, .ref b)] (by decide) rfl ?_
    refine V_perm (ws' := RW g md h Q 0 R ++ (SW g ad P 0 (bgT T (xs (i + 1)).toInt 8) ++ [(o, LJ cJ f5)])) [] pm2 ?_
    refine V_aload_n hx dL_law_149 3 rfl ?_
    refine V_aload_n hx dL_law_150 5 rfl ?_
    refine V_iload hx dL_law_151 1 rfl ?_
    refine V_iconst hx dL_law_153 ?_
    refine V_iadd hx dL_law_154 ?_
    refine V_sld hx hz (i + 1) (by omega) (by omega) (by omega) (by omega) dL_law_155 ?_
    refine V_callFi hx (z_till l R T hr (a := (xs (i + 1)).toInt) (rg_toInt (xs (i + 1)))) cw_L_78 (RML (by decide) (by decide) (by show (200 + 2 * i + 1) ≤ 612619; omega) (by show (2000 + 10 * i + 6) ≤ 7258246; omega)) (hc := rfl) 0 RW_o rfl rfl (Nat.le_of_ble_eq_true rfl) dL_law_156 (200 + 2 * i + 1) (2000 + 10 * i + 6) rfl rfl (fun z7 ws7 e7 => ?_)
    rcases e7 with ⟨hc7, rfl, R9, hR9, rfl⟩ | ⟨hc7, rfl⟩
    · refine V_istore hx dL_law_159 [(6, .int (iZ _)), (5, .int (iZ 0)), (4, .int (iZ (i : Int))), (3, .ref o), (2, .ref (md 0)), (1, .ref (ad 0)), (0, .ref b)] (by decide) rfl ?_
      refine V_aload_n hx dL_law_161 4 rfl ?_
      refine V_callFi hx (z_thrown l R9) cw_L_79 (RML (by decide) (by decide) (by show (200 + 2 * i + 1) ≤ 612619; omega) (by show (2000 + 10 * i + 6) ≤ 7258246; omega)) (hc := rfl) 0 RW_o rfl rfl (Nat.le_of_ble_eq_true rfl) dL_law_162 (200 + 2 * i + 1) (2000 + 10 * i + 6) rfl rfl (fun z8 ws8 e8 => ?_)
      obtain ⟨rfl, rfl⟩ := e8
      refine V_iload hx dL_law_165 1 rfl ?_
      refine V_icmp_eq hx dL_law_167 172 (by decide) ⟨by decide, by decide⟩ ⟨by decide, by decide⟩ (fun _ => ?_) (fun h9 => absurd rfl h9)
      refine V_iload hx dL_law_172 1 rfl ?_
      refine V_ws (ws' := (RW g md 0 Q 0 R9 ++ SW g ad P 0 (bgT T (xs (i + 1)).toInt 8)) ++ [(o, LJ cJ f5)]) (List.append_assoc _ _ _).symm ?_
      refine V_if_ne hx dL_law_174 189 (by decide) ⟨by decide, by decide⟩ (fun h9 => absurd rfl h9) (fun _ => ?_)
      refine V_aload_n hx dL_law_177 3 rfl ?_
      refine V_iconst hx dL_law_178 ?_
      refine V_lald2 hx hz dL_law_179 ?_
      refine V_iload hx dL_law_180 0 rfl ?_
      refine V_i2l hx dL_law_182 ?_
      refine V_lcmpE hx hf5 dL_law_183 ?_
      refine V_if_eq hx dL_law_184 189 (by decide) rg_0 (fun _ => ?_) (fun h9 => absurd rfl h9)
      refine V_goto hx dL_law_189 1288 (by decide) ?_
      refine V_perm (ws' := SW g ad P 0 (bgT T (xs (i + 1)).toInt 8) ++ ([(o, LJ cJ f5)] ++ RW g md 0 Q 0 R9)) [] pm3 ?_
      have hii : ((i + 6 : Nat) : Int) = i + 6 := by omega
      have hwf : WF (bgT T (xs (i + 1)).toInt 8) (50 * ((i + 6 : Nat) : Int)) := by rw [hii]; exact wf_bg hw.1 (by omega) hc
      refine V_widen (k' := 200 + 2 * i + 8) (n' := 2000 + 10 * i + 48) (by omega) (by omega) ?_
      exact V_sub [2, 3, 4, 5, 6] rfl (hB d9 _ hd ⟨P, Q, bgT T (xs (i + 1)).toInt 8, R9, 0, f5, hwf, hR9, hP, hQ, rfl⟩)
    · exfalso
      first | omega | grind
  · have he := he.2
    refine V_istore hx dL_law_147 [(5, .int (iZ 1)), (4, .int (iZ (i : Int))), (3, .ref o), (2, .ref (md 0)), (1, .ref (ad 0)), (0, .ref b)] (by decide) rfl ?_
    refine V_perm (ws' := RW g md h Q 0 R ++ (SW g ad P 0 T ++ [(o, LJ cJ f)])) [] pm2 ?_
    refine V_aload_n hx dL_law_149 3 rfl ?_
    refine V_aload_n hx dL_law_150 5 rfl ?_
    refine V_iload hx dL_law_151 1 rfl ?_
    refine V_iconst hx dL_law_153 ?_
    refine V_iadd hx dL_law_154 ?_
    refine V_sld hx hz (i + 1) (by omega) (by omega) (by omega) (by omega) dL_law_155 ?_
    refine V_callFi hx (z_till l R T hr (a := (xs (i + 1)).toInt) (rg_toInt (xs (i + 1)))) cw_L_78 (RML (by decide) (by decide) (by show (200 + 2 * i + 1) ≤ 612619; omega) (by show (2000 + 10 * i + 6) ≤ 7258246; omega)) (hc := rfl) 0 RW_o rfl rfl (Nat.le_of_ble_eq_true rfl) dL_law_156 (200 + 2 * i + 1) (2000 + 10 * i + 6) rfl rfl (fun z7 ws7 e7 => ?_)
    rcases e7 with ⟨hc7, rfl, R9, hR9, rfl⟩ | ⟨hc7, rfl⟩
    · exfalso
      first | omega | grind
    · refine V_istore hx dL_law_159 [(6, .int (iZ _)), (5, .int (iZ 1)), (4, .int (iZ (i : Int))), (3, .ref o), (2, .ref (md 0)), (1, .ref (ad 0)), (0, .ref b)] (by decide) rfl ?_
      refine V_aload_n hx dL_law_161 4 rfl ?_
      refine V_callFi hx (z_thrown l R) cw_L_79 (RML (by decide) (by decide) (by show (200 + 2 * i + 1) ≤ 612619; omega) (by show (2000 + 10 * i + 6) ≤ 7258246; omega)) (hc := rfl) 0 RW_o rfl rfl (Nat.le_of_ble_eq_true rfl) dL_law_162 (200 + 2 * i + 1) (2000 + 10 * i + 6) rfl rfl (fun z8 ws8 e8 => ?_)
      obtain ⟨rfl, rfl⟩ := e8
      refine V_iload hx dL_law_165 1 rfl ?_
      refine V_icmp_eq hx dL_law_167 172 (by decide) ⟨by decide, by decide⟩ ⟨by decide, by decide⟩ (fun _ => ?_) (fun h9 => absurd rfl h9)
      refine V_iload hx dL_law_172 1 rfl ?_
      refine V_ws (ws' := (RW g md 1 Q 0 R ++ SW g ad P 0 T) ++ [(o, LJ cJ f)]) (List.append_assoc _ _ _).symm ?_
      refine V_if_ne hx dL_law_174 189 (by decide) ⟨by decide, by decide⟩ (fun _ => ?_) (fun h9 => absurd h9 (by decide))
      refine V_goto hx dL_law_189 1288 (by decide) ?_
      refine V_perm (ws' := SW g ad P 0 T ++ ([(o, LJ cJ f)] ++ RW g md 1 Q 0 R)) [] pm3 ?_
      have hii : ((i + 6 : Nat) : Int) = i + 6 := by omega
      have hwf : WF (T) (50 * ((i + 6 : Nat) : Int)) := by rw [hii]; exact wf_mono hw (by omega)
      refine V_widen (k' := 200 + 2 * i + 8) (n' := 2000 + 10 * i + 48) (by omega) (by omega) ?_
      exact V_sub [2, 3, 4, 5, 6] rfl (hB d9 _ hd ⟨P, Q, T, R, 1, f, hwf, hr, hP, hQ, rfl⟩)
set_option maxHeartbeats 4000000 in
set_option maxRecDepth 100000 in
theorem lc_pay {x0 : CT} {l : Launch} {g : GT} {cJ : ClassId} {b L : Nat} {xs : Nat → Int32} (hX : ∀ d, FX (XD x0 d) l room_1 g 9 cL_law RL) (hZ : ∀ d, FL2 (XD x0 d) cJ b L xs) (hst : l.stackTraces = false) {i : Nat} (hi : i + 6 ≤ L) (hL : L ≤ 3072) {ad md : Nat → Nat} {P Q : Nat → TS} {T R : TS} {h : Int} {f : Nat → Int64} (hw : WF T (50 * (i : Int))) (hr : REL R T) (hP : RG (P 1)) (hQ : RG (Q 1)) {d9 : Drawn} (hd : DRN x0 d9) {o : Nat} (hB : ∀ (d : Drawn) (ws : va_W), DRN x0 d → INV g cJ ad md o (i + 6) ws → V (XD x0 d) (200 + 2 * i + 8) (2000 + 10 * i + 48) ws 1288 [(4, .int (iZ (i : Int))), (3, .ref o), (2, .ref (md 0)), (1, .ref (ad 0)), (0, .ref b)] []) : V (XD x0 d9) (200 + 2 * i) (2000 + 10 * i) (SW g ad P 0 T ++ ([(o, LJ cJ f)] ++ RW g md h Q 0 R)) 192 [(4, .int (iZ (i : Int))), (3, .ref o), (2, .ref (md 0)), (1, .ref (ad 0)), (0, .ref b)] [] := by
  have hx := hX d9
  have hz := hZ d9
  have hSP := wf_shp hw (by omega)
  obtain ⟨-, ⟨hn1, hn8⟩, ⟨hc0, hc6⟩, ⟨hl0, hl8⟩, ham, hck⟩ := id hw
  have hl9 : T 0 2 < 2147483647 := by omega
  have hdn : ∀ c : Nat, (c : Int) < T 0 1 → T (7 + 8 * c) 2 = 0 ∨ T (7 + 8 * c) 2 = 1 := fun c hc => (hck c hc).2.2.1
  have hs8 : ∀ c : Nat, (c : Int) < T 0 1 → T (7 + 8 * c) 0 ≤ 8 := fun c hc => (hck c hc).1.2
  have hs0 : ∀ c : Nat, (c : Int) < T 0 1 → 0 ≤ T (7 + 8 * c) 0 := fun c hc => (hck c hc).1.1
  have hw8 : ∀ c : Nat, (c : Int) < T 0 1 → W8 T c := fun c hc => wf_w8 hw hc
  have hamm : ∀ d : Nat, d < 8 → -1 ≤ T 1 d ∧ T 1 d ≤ 9999 := fun d hd => by have := ham d hd; omega
  refine V_ws (ws' := (SW g ad P 0 T ++ [(o, LJ cJ f)]) ++ RW g md h Q 0 R) (List.append_assoc _ _ _).symm ?_
  refine V_aload_n hx dL_law_192 3 rfl ?_
  refine V_aload_n hx dL_law_193 4 rfl ?_
  refine V_iload hx dL_law_194 0 rfl ?_
  refine V_iconst hx dL_law_196 ?_
  refine V_iadd hx dL_law_197 ?_
  refine V_sld hx hz (i + 1) (by omega) (by omega) (by omega) (by omega) dL_law_198 ?_
  refine V_aload_n hx dL_law_199 4 rfl ?_
  refine V_iload hx dL_law_200 0 rfl ?_
  refine V_iconst hx dL_law_202 ?_
  refine V_iadd hx dL_law_203 ?_
  refine V_sld hx hz (i + 2) (by omega) (by omega) (by omega) (by omega) dL_law_204 ?_
  refine V_aload_n hx dL_law_205 1 rfl ?_
  refine V_callHF hx hz (h_pay l (f0 := f) SW_tillx (x_pay l hst (ad := ad) (P := P) T hSP (d := (xs (i + 1)).toInt) (a := (xs (i + 2)).toInt) (rg_toInt (xs (i + 1))) (rg_toInt (xs (i + 2)))) (fun E he => by rcases he with he | he <;> simp [he.1])) ch_pay (RML (by decide) (by decide) (by show (200 + 2 * i + 2) ≤ 612619; omega) (by show (2000 + 10 * i + 12) ≤ 7258246; omega)) rfl rfl (Nat.le_of_ble_eq_true rfl) dL_law_206 (200 + 2 * i + 2) (2000 + 10 * i + 12) rfl rfl (fun z5 ws5 e5 => ?_)
  rcases e5 with ⟨y5, ws6, ⟨hc, rfl, rfl⟩, rfl, f5, hf5, rfl⟩ | ⟨he, rfl, rfl⟩ | ⟨he, rfl, rfl⟩
  · refine V_istore hx dL_law_209 [(5, .int (iZ 0)), (4, .int (iZ (i : Int))), (3, .ref o), (2, .ref (md 0)), (1, .ref (ad 0)), (0, .ref b)] (by decide) rfl ?_
    refine V_perm (ws' := RW g md h Q 0 R ++ (SW g ad P 0 (pyT T (xs (i + 1)).toInt.toNat (xs (i + 2)).toInt) ++ [(o, LJ cJ f5)])) [] pm2 ?_
    refine V_aload_n hx dL_law_211 3 rfl ?_
    refine V_aload_n hx dL_law_212 5 rfl ?_
    refine V_iload hx dL_law_213 1 rfl ?_
    refine V_iconst hx dL_law_215 ?_
    refine V_iadd hx dL_law_216 ?_
    refine V_sld hx hz (i + 1) (by omega) (by omega) (by omega) (by omega) dL_law_217 ?_
    refine V_aload_n hx dL_law_218 5 rfl ?_
    refine V_iload hx dL_law_219 1 rfl ?_
    refine V_iconst hx dL_law_221 ?_
    refine V_iadd hx dL_law_222 ?_
    refine V_sld hx hz (i + 2) (by omega) (by omega) (by omega) (by omega) dL_law_223 ?_
    refine V_callFi hx (z_pay l R T hr hn1 hn8 hc0 hc6 hl0 hl9 (d := (xs (i + 1)).toInt) (a := (xs (i + 2)).toInt) (rg_toInt (xs (i + 1))) (rg_toInt (xs (i + 2))) hamm) cw_L_85 (RML (by decide) (by decide) (by show (200 + 2 * i + 2) ≤ 612619; omega) (by show (2000 + 10 * i + 12) ≤ 7258246; omega)) (hc := rfl) 0 RW_o rfl rfl (Nat.le_of_ble_eq_true rfl) dL_law_224 (200 + 2 * i + 2) (2000 + 10 * i + 12) rfl rfl (fun z7 ws7 e7 => ?_)
    rcases e7 with ⟨hc7, rfl, R9, hR9, rfl⟩ | ⟨hc7, rfl⟩ | ⟨hc7, rfl⟩
    · refine V_istore hx dL_law_227 [(6, .int (iZ _)), (5, .int (iZ 0)), (4, .int (iZ (i : Int))), (3, .ref o), (2, .ref (md 0)), (1, .ref (ad 0)), (0, .ref b)] (by decide) rfl ?_
      refine V_aload_n hx dL_law_229 4 rfl ?_
      refine V_callFi hx (z_thrown l R9) cw_L_79 (RML (by decide) (by decide) (by show (200 + 2 * i + 2) ≤ 612619; omega) (by show (2000 + 10 * i + 12) ≤ 7258246; omega)) (hc := rfl) 0 RW_o rfl rfl (Nat.le_of_ble_eq_true rfl) dL_law_230 (200 + 2 * i + 2) (2000 + 10 * i + 12) rfl rfl (fun z8 ws8 e8 => ?_)
      obtain ⟨rfl, rfl⟩ := e8
      refine V_iload hx dL_law_233 1 rfl ?_
      refine V_icmp_eq hx dL_law_235 240 (by decide) ⟨by decide, by decide⟩ ⟨by decide, by decide⟩ (fun _ => ?_) (fun h9 => absurd rfl h9)
      refine V_iload hx dL_law_240 1 rfl ?_
      refine V_ws (ws' := (RW g md 0 Q 0 R9 ++ SW g ad P 0 (pyT T (xs (i + 1)).toInt.toNat (xs (i + 2)).toInt)) ++ [(o, LJ cJ f5)]) (List.append_assoc _ _ _).symm ?_
      refine V_if_ne hx dL_law_242 257 (by decide) ⟨by decide, by decide⟩ (fun h9 => absurd rfl h9) (fun _ => ?_)
      refine V_aload_n hx dL_law_245 3 rfl ?_
      refine V_iconst hx dL_law_246 ?_
      refine V_lald2 hx hz dL_law_247 ?_
      refine V_iload hx dL_law_248 0 rfl ?_
      refine V_i2l hx dL_law_250 ?_
      refine V_lcmpE hx hf5 dL_law_251 ?_
      refine V_if_eq hx dL_law_252 257 (by decide) rg_0 (fun _ => ?_) (fun h9 => absurd rfl h9)
      refine V_goto hx dL_law_257 1288 (by decide) ?_
      refine V_perm (ws' := SW g ad P 0 (pyT T (xs (i + 1)).toInt.toNat (xs (i + 2)).toInt) ++ ([(o, LJ cJ f5)] ++ RW g md 0 Q 0 R9)) [] pm3 ?_
      have hii : ((i + 6 : Nat) : Int) = i + 6 := by omega
      have hwf : WF (pyT T (xs (i + 1)).toInt.toNat (xs (i + 2)).toInt) (50 * ((i + 6 : Nat) : Int)) := by rw [hii]; exact wf_mono (wf_py hw (by omega) hc.2) (by omega)
      refine V_widen (k' := 200 + 2 * i + 8) (n' := 2000 + 10 * i + 48) (by omega) (by omega) ?_
      exact V_sub [2, 3, 4, 5, 6] rfl (hB d9 _ hd ⟨P, Q, pyT T (xs (i + 1)).toInt.toNat (xs (i + 2)).toInt, R9, 0, f5, hwf, hR9, hP, hQ, rfl⟩)
    · exfalso
      first | omega | grind
    · exfalso
      first | omega | grind
  · rcases he with he | he
    · have he := he.2
      refine V_istore hx dL_law_209 [(5, .int (iZ 1)), (4, .int (iZ (i : Int))), (3, .ref o), (2, .ref (md 0)), (1, .ref (ad 0)), (0, .ref b)] (by decide) rfl ?_
      refine V_perm (ws' := RW g md h Q 0 R ++ (SW g ad P 0 T ++ [(o, LJ cJ f)])) [] pm2 ?_
      refine V_aload_n hx dL_law_211 3 rfl ?_
      refine V_aload_n hx dL_law_212 5 rfl ?_
      refine V_iload hx dL_law_213 1 rfl ?_
      refine V_iconst hx dL_law_215 ?_
      refine V_iadd hx dL_law_216 ?_
      refine V_sld hx hz (i + 1) (by omega) (by omega) (by omega) (by omega) dL_law_217 ?_
      refine V_aload_n hx dL_law_218 5 rfl ?_
      refine V_iload hx dL_law_219 1 rfl ?_
      refine V_iconst hx dL_law_221 ?_
      refine V_iadd hx dL_law_222 ?_
      refine V_sld hx hz (i + 2) (by omega) (by omega) (by omega) (by omega) dL_law_223 ?_
      refine V_callFi hx (z_pay l R T hr hn1 hn8 hc0 hc6 hl0 hl9 (d := (xs (i + 1)).toInt) (a := (xs (i + 2)).toInt) (rg_toInt (xs (i + 1))) (rg_toInt (xs (i + 2))) hamm) cw_L_85 (RML (by decide) (by decide) (by show (200 + 2 * i + 2) ≤ 612619; omega) (by show (2000 + 10 * i + 12) ≤ 7258246; omega)) (hc := rfl) 0 RW_o rfl rfl (Nat.le_of_ble_eq_true rfl) dL_law_224 (200 + 2 * i + 2) (2000 + 10 * i + 12) rfl rfl (fun z7 ws7 e7 => ?_)
      rcases e7 with ⟨hc7, rfl, R9, hR9, rfl⟩ | ⟨hc7, rfl⟩ | ⟨hc7, rfl⟩
      · exfalso
        first | omega | grind
      · refine V_istore hx dL_law_227 [(6, .int (iZ _)), (5, .int (iZ 1)), (4, .int (iZ (i : Int))), (3, .ref o), (2, .ref (md 0)), (1, .ref (ad 0)), (0, .ref b)] (by decide) rfl ?_
        refine V_aload_n hx dL_law_229 4 rfl ?_
        refine V_callFi hx (z_thrown l R) cw_L_79 (RML (by decide) (by decide) (by show (200 + 2 * i + 2) ≤ 612619; omega) (by show (2000 + 10 * i + 12) ≤ 7258246; omega)) (hc := rfl) 0 RW_o rfl rfl (Nat.le_of_ble_eq_true rfl) dL_law_230 (200 + 2 * i + 2) (2000 + 10 * i + 12) rfl rfl (fun z8 ws8 e8 => ?_)
        obtain ⟨rfl, rfl⟩ := e8
        refine V_iload hx dL_law_233 1 rfl ?_
        refine V_icmp_eq hx dL_law_235 240 (by decide) ⟨by decide, by decide⟩ ⟨by decide, by decide⟩ (fun _ => ?_) (fun h9 => absurd rfl h9)
        refine V_iload hx dL_law_240 1 rfl ?_
        refine V_ws (ws' := (RW g md 1 Q 0 R ++ SW g ad P 0 T) ++ [(o, LJ cJ f)]) (List.append_assoc _ _ _).symm ?_
        refine V_if_ne hx dL_law_242 257 (by decide) ⟨by decide, by decide⟩ (fun _ => ?_) (fun h9 => absurd h9 (by decide))
        refine V_goto hx dL_law_257 1288 (by decide) ?_
        refine V_perm (ws' := SW g ad P 0 T ++ ([(o, LJ cJ f)] ++ RW g md 1 Q 0 R)) [] pm3 ?_
        have hii : ((i + 6 : Nat) : Int) = i + 6 := by omega
        have hwf : WF (T) (50 * ((i + 6 : Nat) : Int)) := by rw [hii]; exact wf_mono hw (by omega)
        refine V_widen (k' := 200 + 2 * i + 8) (n' := 2000 + 10 * i + 48) (by omega) (by omega) ?_
        exact V_sub [2, 3, 4, 5, 6] rfl (hB d9 _ hd ⟨P, Q, T, R, 1, f, hwf, hr, hP, hQ, rfl⟩)
      · exfalso
        first | omega | grind
    · exact absurd he.1 (by decide)
  · rcases he with he | he
    · exact absurd he.1 (by decide)
    · have he := he.2
      refine V_istore hx dL_law_209 [(5, .int (iZ 2)), (4, .int (iZ (i : Int))), (3, .ref o), (2, .ref (md 0)), (1, .ref (ad 0)), (0, .ref b)] (by decide) rfl ?_
      refine V_perm (ws' := RW g md h Q 0 R ++ (SW g ad P 0 T ++ [(o, LJ cJ f)])) [] pm2 ?_
      refine V_aload_n hx dL_law_211 3 rfl ?_
      refine V_aload_n hx dL_law_212 5 rfl ?_
      refine V_iload hx dL_law_213 1 rfl ?_
      refine V_iconst hx dL_law_215 ?_
      refine V_iadd hx dL_law_216 ?_
      refine V_sld hx hz (i + 1) (by omega) (by omega) (by omega) (by omega) dL_law_217 ?_
      refine V_aload_n hx dL_law_218 5 rfl ?_
      refine V_iload hx dL_law_219 1 rfl ?_
      refine V_iconst hx dL_law_221 ?_
      refine V_iadd hx dL_law_222 ?_
      refine V_sld hx hz (i + 2) (by omega) (by omega) (by omega) (by omega) dL_law_223 ?_
      refine V_callFi hx (z_pay l R T hr hn1 hn8 hc0 hc6 hl0 hl9 (d := (xs (i + 1)).toInt) (a := (xs (i + 2)).toInt) (rg_toInt (xs (i + 1))) (rg_toInt (xs (i + 2))) hamm) cw_L_85 (RML (by decide) (by decide) (by show (200 + 2 * i + 2) ≤ 612619; omega) (by show (2000 + 10 * i + 12) ≤ 7258246; omega)) (hc := rfl) 0 RW_o rfl rfl (Nat.le_of_ble_eq_true rfl) dL_law_224 (200 + 2 * i + 2) (2000 + 10 * i + 12) rfl rfl (fun z7 ws7 e7 => ?_)
      rcases e7 with ⟨hc7, rfl, R9, hR9, rfl⟩ | ⟨hc7, rfl⟩ | ⟨hc7, rfl⟩
      · exfalso
        first | omega | grind
      · exfalso
        first | omega | grind
      · refine V_istore hx dL_law_227 [(6, .int (iZ _)), (5, .int (iZ 2)), (4, .int (iZ (i : Int))), (3, .ref o), (2, .ref (md 0)), (1, .ref (ad 0)), (0, .ref b)] (by decide) rfl ?_
        refine V_aload_n hx dL_law_229 4 rfl ?_
        refine V_callFi hx (z_thrown l R) cw_L_79 (RML (by decide) (by decide) (by show (200 + 2 * i + 2) ≤ 612619; omega) (by show (2000 + 10 * i + 12) ≤ 7258246; omega)) (hc := rfl) 0 RW_o rfl rfl (Nat.le_of_ble_eq_true rfl) dL_law_230 (200 + 2 * i + 2) (2000 + 10 * i + 12) rfl rfl (fun z8 ws8 e8 => ?_)
        obtain ⟨rfl, rfl⟩ := e8
        refine V_iload hx dL_law_233 1 rfl ?_
        refine V_icmp_eq hx dL_law_235 240 (by decide) ⟨by decide, by decide⟩ ⟨by decide, by decide⟩ (fun _ => ?_) (fun h9 => absurd rfl h9)
        refine V_iload hx dL_law_240 1 rfl ?_
        refine V_ws (ws' := (RW g md 2 Q 0 R ++ SW g ad P 0 T) ++ [(o, LJ cJ f)]) (List.append_assoc _ _ _).symm ?_
        refine V_if_ne hx dL_law_242 257 (by decide) ⟨by decide, by decide⟩ (fun _ => ?_) (fun h9 => absurd h9 (by decide))
        refine V_goto hx dL_law_257 1288 (by decide) ?_
        refine V_perm (ws' := SW g ad P 0 T ++ ([(o, LJ cJ f)] ++ RW g md 2 Q 0 R)) [] pm3 ?_
        have hii : ((i + 6 : Nat) : Int) = i + 6 := by omega
        have hwf : WF (T) (50 * ((i + 6 : Nat) : Int)) := by rw [hii]; exact wf_mono hw (by omega)
        refine V_widen (k' := 200 + 2 * i + 8) (n' := 2000 + 10 * i + 48) (by omega) (by omega) ?_
        exact V_sub [2, 3, 4, 5, 6] rfl (hB d9 _ hd ⟨P, Q, T, R, 2, f, hwf, hr, hP, hQ, rfl⟩)
set_option maxHeartbeats 4000000 in
set_option maxRecDepth 100000 in
theorem lc_clerk {x0 : CT} {l : Launch} {g : GT} {cJ : ClassId} {b L : Nat} {xs : Nat → Int32} (hX : ∀ d, FX (XD x0 d) l room_1 g 9 cL_law RL) (hZ : ∀ d, FL2 (XD x0 d) cJ b L xs) (hst : l.stackTraces = false) {i : Nat} (hi : i + 6 ≤ L) (hL : L ≤ 3072) {ad md : Nat → Nat} {P Q : Nat → TS} {T R : TS} {h : Int} {f : Nat → Int64} (hw : WF T (50 * (i : Int))) (hr : REL R T) (hP : RG (P 1)) (hQ : RG (Q 1)) {d9 : Drawn} (hd : DRN x0 d9) {o : Nat} (hB : ∀ (d : Drawn) (ws : va_W), DRN x0 d → INV g cJ ad md o (i + 6) ws → V (XD x0 d) (200 + 2 * i + 8) (2000 + 10 * i + 48) ws 1288 [(4, .int (iZ (i : Int))), (3, .ref o), (2, .ref (md 0)), (1, .ref (ad 0)), (0, .ref b)] []) : V (XD x0 d9) (200 + 2 * i) (2000 + 10 * i) (SW g ad P 0 T ++ ([(o, LJ cJ f)] ++ RW g md h Q 0 R)) 260 [(4, .int (iZ (i : Int))), (3, .ref o), (2, .ref (md 0)), (1, .ref (ad 0)), (0, .ref b)] [] := by
  have hx := hX d9
  have hz := hZ d9
  have hSP := wf_shp hw (by omega)
  obtain ⟨-, ⟨hn1, hn8⟩, ⟨hc0, hc6⟩, ⟨hl0, hl8⟩, ham, hck⟩ := id hw
  have hl9 : T 0 2 < 2147483647 := by omega
  have hdn : ∀ c : Nat, (c : Int) < T 0 1 → T (7 + 8 * c) 2 = 0 ∨ T (7 + 8 * c) 2 = 1 := fun c hc => (hck c hc).2.2.1
  have hs8 : ∀ c : Nat, (c : Int) < T 0 1 → T (7 + 8 * c) 0 ≤ 8 := fun c hc => (hck c hc).1.2
  have hs0 : ∀ c : Nat, (c : Int) < T 0 1 → 0 ≤ T (7 + 8 * c) 0 := fun c hc => (hck c hc).1.1
  have hw8 : ∀ c : Nat, (c : Int) < T 0 1 → W8 T c := fun c hc => wf_w8 hw hc
  have hamm : ∀ d : Nat, d < 8 → -1 ≤ T 1 d ∧ T 1 d ≤ 9999 := fun d hd => by have := ham d hd; omega
  refine V_ws (ws' := (SW g ad P 0 T ++ [(o, LJ cJ f)]) ++ RW g md h Q 0 R) (List.append_assoc _ _ _).symm ?_
  refine V_aload_n hx dL_law_260 3 rfl ?_
  refine V_aload_n hx dL_law_261 1 rfl ?_
  refine V_callHF hx hz (h_clerk l (f0 := f) SW_tillx (x_clerk l hst (ad := ad) (P := P) T hSP ) (fun E he => by first | exact he.1 | simp [he.1])) ch_clerk (RML (by decide) (by decide) (by show (200 + 2 * i + 1) ≤ 612619; omega) (by show (2000 + 10 * i + 6) ≤ 7258246; omega)) rfl rfl (Nat.le_of_ble_eq_true rfl) dL_law_262 (200 + 2 * i + 1) (2000 + 10 * i + 6) rfl rfl (fun z5 ws5 e5 => ?_)
  rcases e5 with ⟨y5, ws6, ⟨hc, rfl, rfl⟩, rfl, f5, hf5, rfl⟩ | ⟨he, rfl, rfl⟩
  · refine V_istore hx dL_law_265 [(5, .int (iZ 0)), (4, .int (iZ (i : Int))), (3, .ref o), (2, .ref (md 0)), (1, .ref (ad 0)), (0, .ref b)] (by decide) rfl ?_
    refine V_perm (ws' := RW g md h Q 0 R ++ (SW g ad P 0 (acT T) ++ [(o, LJ cJ f5)])) [] pm2 ?_
    refine V_aload_n hx dL_law_267 3 rfl ?_
    refine V_callFi hx (z_clerk l R T hr hn1 hn8 hc0 hc6) cw_L_89 (RML (by decide) (by decide) (by show (200 + 2 * i + 1) ≤ 612619; omega) (by show (2000 + 10 * i + 6) ≤ 7258246; omega)) (hc := rfl) 0 RW_o rfl rfl (Nat.le_of_ble_eq_true rfl) dL_law_268 (200 + 2 * i + 1) (2000 + 10 * i + 6) rfl rfl (fun z7 ws7 e7 => ?_)
    rcases e7 with ⟨hc7, rfl, R9, hR9, rfl⟩ | ⟨hc7, rfl⟩
    · refine V_istore hx dL_law_271 [(6, .int (iZ _)), (5, .int (iZ 0)), (4, .int (iZ (i : Int))), (3, .ref o), (2, .ref (md 0)), (1, .ref (ad 0)), (0, .ref b)] (by decide) rfl ?_
      refine V_aload_n hx dL_law_273 4 rfl ?_
      refine V_callFi hx (z_thrown l R9) cw_L_79 (RML (by decide) (by decide) (by show (200 + 2 * i + 1) ≤ 612619; omega) (by show (2000 + 10 * i + 6) ≤ 7258246; omega)) (hc := rfl) 0 RW_o rfl rfl (Nat.le_of_ble_eq_true rfl) dL_law_274 (200 + 2 * i + 1) (2000 + 10 * i + 6) rfl rfl (fun z8 ws8 e8 => ?_)
      obtain ⟨rfl, rfl⟩ := e8
      refine V_iload hx dL_law_277 1 rfl ?_
      refine V_icmp_eq hx dL_law_279 284 (by decide) ⟨by decide, by decide⟩ ⟨by decide, by decide⟩ (fun _ => ?_) (fun h9 => absurd rfl h9)
      refine V_iload hx dL_law_284 1 rfl ?_
      refine V_ws (ws' := (RW g md 0 Q 0 R9 ++ SW g ad P 0 (acT T)) ++ [(o, LJ cJ f5)]) (List.append_assoc _ _ _).symm ?_
      refine V_if_ne hx dL_law_286 301 (by decide) ⟨by decide, by decide⟩ (fun h9 => absurd rfl h9) (fun _ => ?_)
      refine V_aload_n hx dL_law_289 3 rfl ?_
      refine V_iconst hx dL_law_290 ?_
      refine V_lald2 hx hz dL_law_291 ?_
      refine V_iload hx dL_law_292 0 rfl ?_
      refine V_i2l hx dL_law_294 ?_
      refine V_lcmpE hx hf5 dL_law_295 ?_
      refine V_if_eq hx dL_law_296 301 (by decide) rg_0 (fun _ => ?_) (fun h9 => absurd rfl h9)
      refine V_goto hx dL_law_301 1288 (by decide) ?_
      refine V_perm (ws' := SW g ad P 0 (acT T) ++ ([(o, LJ cJ f5)] ++ RW g md 0 Q 0 R9)) [] pm3 ?_
      have hii : ((i + 6 : Nat) : Int) = i + 6 := by omega
      have hwf : WF (acT T) (50 * ((i + 6 : Nat) : Int)) := by rw [hii]; exact wf_mono (wf_ac hw hc) (by omega)
      refine V_widen (k' := 200 + 2 * i + 8) (n' := 2000 + 10 * i + 48) (by omega) (by omega) ?_
      exact V_sub [2, 3, 4, 5, 6] rfl (hB d9 _ hd ⟨P, Q, acT T, R9, 0, f5, hwf, hR9, hP, hQ, rfl⟩)
    · exfalso
      first | omega | grind
  · have he := he.2
    refine V_istore hx dL_law_265 [(5, .int (iZ 1)), (4, .int (iZ (i : Int))), (3, .ref o), (2, .ref (md 0)), (1, .ref (ad 0)), (0, .ref b)] (by decide) rfl ?_
    refine V_perm (ws' := RW g md h Q 0 R ++ (SW g ad P 0 T ++ [(o, LJ cJ f)])) [] pm2 ?_
    refine V_aload_n hx dL_law_267 3 rfl ?_
    refine V_callFi hx (z_clerk l R T hr hn1 hn8 hc0 hc6) cw_L_89 (RML (by decide) (by decide) (by show (200 + 2 * i + 1) ≤ 612619; omega) (by show (2000 + 10 * i + 6) ≤ 7258246; omega)) (hc := rfl) 0 RW_o rfl rfl (Nat.le_of_ble_eq_true rfl) dL_law_268 (200 + 2 * i + 1) (2000 + 10 * i + 6) rfl rfl (fun z7 ws7 e7 => ?_)
    rcases e7 with ⟨hc7, rfl, R9, hR9, rfl⟩ | ⟨hc7, rfl⟩
    · exfalso
      first | omega | grind
    · refine V_istore hx dL_law_271 [(6, .int (iZ _)), (5, .int (iZ 1)), (4, .int (iZ (i : Int))), (3, .ref o), (2, .ref (md 0)), (1, .ref (ad 0)), (0, .ref b)] (by decide) rfl ?_
      refine V_aload_n hx dL_law_273 4 rfl ?_
      refine V_callFi hx (z_thrown l R) cw_L_79 (RML (by decide) (by decide) (by show (200 + 2 * i + 1) ≤ 612619; omega) (by show (2000 + 10 * i + 6) ≤ 7258246; omega)) (hc := rfl) 0 RW_o rfl rfl (Nat.le_of_ble_eq_true rfl) dL_law_274 (200 + 2 * i + 1) (2000 + 10 * i + 6) rfl rfl (fun z8 ws8 e8 => ?_)
      obtain ⟨rfl, rfl⟩ := e8
      refine V_iload hx dL_law_277 1 rfl ?_
      refine V_icmp_eq hx dL_law_279 284 (by decide) ⟨by decide, by decide⟩ ⟨by decide, by decide⟩ (fun _ => ?_) (fun h9 => absurd rfl h9)
      refine V_iload hx dL_law_284 1 rfl ?_
      refine V_ws (ws' := (RW g md 1 Q 0 R ++ SW g ad P 0 T) ++ [(o, LJ cJ f)]) (List.append_assoc _ _ _).symm ?_
      refine V_if_ne hx dL_law_286 301 (by decide) ⟨by decide, by decide⟩ (fun _ => ?_) (fun h9 => absurd h9 (by decide))
      refine V_goto hx dL_law_301 1288 (by decide) ?_
      refine V_perm (ws' := SW g ad P 0 T ++ ([(o, LJ cJ f)] ++ RW g md 1 Q 0 R)) [] pm3 ?_
      have hii : ((i + 6 : Nat) : Int) = i + 6 := by omega
      have hwf : WF (T) (50 * ((i + 6 : Nat) : Int)) := by rw [hii]; exact wf_mono hw (by omega)
      refine V_widen (k' := 200 + 2 * i + 8) (n' := 2000 + 10 * i + 48) (by omega) (by omega) ?_
      exact V_sub [2, 3, 4, 5, 6] rfl (hB d9 _ hd ⟨P, Q, T, R, 1, f, hwf, hr, hP, hQ, rfl⟩)
set_option maxHeartbeats 4000000 in
set_option maxRecDepth 100000 in
theorem lc_say {x0 : CT} {l : Launch} {g : GT} {cJ : ClassId} {b L : Nat} {xs : Nat → Int32} (hX : ∀ d, FX (XD x0 d) l room_1 g 9 cL_law RL) (hZ : ∀ d, FL2 (XD x0 d) cJ b L xs) (hst : l.stackTraces = false) {i : Nat} (hi : i + 6 ≤ L) (hL : L ≤ 3072) {ad md : Nat → Nat} {P Q : Nat → TS} {T R : TS} {h : Int} {f : Nat → Int64} (hw : WF T (50 * (i : Int))) (hr : REL R T) (hP : RG (P 1)) (hQ : RG (Q 1)) {d9 : Drawn} (hd : DRN x0 d9) {o : Nat} (hB : ∀ (d : Drawn) (ws : va_W), DRN x0 d → INV g cJ ad md o (i + 6) ws → V (XD x0 d) (200 + 2 * i + 8) (2000 + 10 * i + 48) ws 1288 [(4, .int (iZ (i : Int))), (3, .ref o), (2, .ref (md 0)), (1, .ref (ad 0)), (0, .ref b)] []) : V (XD x0 d9) (200 + 2 * i) (2000 + 10 * i) (SW g ad P 0 T ++ ([(o, LJ cJ f)] ++ RW g md h Q 0 R)) 304 [(4, .int (iZ (i : Int))), (3, .ref o), (2, .ref (md 0)), (1, .ref (ad 0)), (0, .ref b)] [] := by
  have hx := hX d9
  have hz := hZ d9
  have hSP := wf_shp hw (by omega)
  obtain ⟨-, ⟨hn1, hn8⟩, ⟨hc0, hc6⟩, ⟨hl0, hl8⟩, ham, hck⟩ := id hw
  have hl9 : T 0 2 < 2147483647 := by omega
  have hdn : ∀ c : Nat, (c : Int) < T 0 1 → T (7 + 8 * c) 2 = 0 ∨ T (7 + 8 * c) 2 = 1 := fun c hc => (hck c hc).2.2.1
  have hs8 : ∀ c : Nat, (c : Int) < T 0 1 → T (7 + 8 * c) 0 ≤ 8 := fun c hc => (hck c hc).1.2
  have hs0 : ∀ c : Nat, (c : Int) < T 0 1 → 0 ≤ T (7 + 8 * c) 0 := fun c hc => (hck c hc).1.1
  have hw8 : ∀ c : Nat, (c : Int) < T 0 1 → W8 T c := fun c hc => wf_w8 hw hc
  have hamm : ∀ d : Nat, d < 8 → -1 ≤ T 1 d ∧ T 1 d ≤ 9999 := fun d hd => by have := ham d hd; omega
  refine V_ws (ws' := (SW g ad P 0 T ++ [(o, LJ cJ f)]) ++ RW g md h Q 0 R) (List.append_assoc _ _ _).symm ?_
  refine V_aload_n hx dL_law_304 3 rfl ?_
  refine V_aload_n hx dL_law_305 4 rfl ?_
  refine V_iload hx dL_law_306 0 rfl ?_
  refine V_iconst hx dL_law_308 ?_
  refine V_iadd hx dL_law_309 ?_
  refine V_sld hx hz (i + 1) (by omega) (by omega) (by omega) (by omega) dL_law_310 ?_
  refine V_aload_n hx dL_law_311 4 rfl ?_
  refine V_iload hx dL_law_312 0 rfl ?_
  refine V_iconst hx dL_law_314 ?_
  refine V_iadd hx dL_law_315 ?_
  refine V_sld hx hz (i + 2) (by omega) (by omega) (by omega) (by omega) dL_law_316 ?_
  refine V_aload_n hx dL_law_317 4 rfl ?_
  refine V_iload hx dL_law_318 0 rfl ?_
  refine V_iconst hx dL_law_320 ?_
  refine V_iadd hx dL_law_321 ?_
  refine V_sld hx hz (i + 3) (by omega) (by omega) (by omega) (by omega) dL_law_322 ?_
  refine V_aload_n hx dL_law_323 4 rfl ?_
  refine V_iload hx dL_law_324 0 rfl ?_
  refine V_iconst hx dL_law_326 ?_
  refine V_iadd hx dL_law_327 ?_
  refine V_sld hx hz (i + 4) (by omega) (by omega) (by omega) (by omega) dL_law_328 ?_
  refine V_aload_n hx dL_law_329 4 rfl ?_
  refine V_iload hx dL_law_330 0 rfl ?_
  refine V_iconst hx dL_law_332 ?_
  refine V_iadd hx dL_law_333 ?_
  refine V_sld hx hz (i + 5) (by omega) (by omega) (by omega) (by omega) dL_law_334 ?_
  refine V_aload_n hx dL_law_335 1 rfl ?_
  refine V_callHF hx hz (h_say l (f0 := f) SW_tillx (x_say l hst (ad := ad) (P := P) T hSP (c := (xs (i + 1)).toInt) (kd := (xs (i + 2)).toInt) (d := (xs (i + 3)).toInt) (e := (xs (i + 4)).toInt) (b := (xs (i + 5)).toInt) (rg_toInt (xs (i + 1))) (rg_toInt (xs (i + 2))) (rg_toInt (xs (i + 3))) (rg_toInt (xs (i + 4))) (rg_toInt (xs (i + 5))) (fun h1 h2 => hs0 _ (by omega))) (fun E he => by rcases he with he | he | he <;> simp [he.1])) ch_say (RML (by decide) (by decide) (by show (200 + 2 * i + 6) ≤ 612619; omega) (by show (2000 + 10 * i + 36) ≤ 7258246; omega)) rfl rfl (Nat.le_of_ble_eq_true rfl) dL_law_336 (200 + 2 * i + 6) (2000 + 10 * i + 36) rfl rfl (fun z5 ws5 e5 => ?_)
  rcases e5 with ⟨y5, ws6, ⟨hc, rfl, rfl⟩, rfl, f5, hf5, rfl⟩ | ⟨he, rfl, rfl⟩ | ⟨he, rfl, rfl⟩ | ⟨he, rfl, rfl⟩
  · refine V_istore hx dL_law_339 [(5, .int (iZ 0)), (4, .int (iZ (i : Int))), (3, .ref o), (2, .ref (md 0)), (1, .ref (ad 0)), (0, .ref b)] (by decide) rfl ?_
    refine V_perm (ws' := RW g md h Q 0 R ++ (SW g ad P 0 (asT T (7 + 8 * (xs (i + 1)).toInt.toNat) (xs (i + 2)).toInt (xs (i + 3)).toInt (xs (i + 4)).toInt (xs (i + 5)).toInt) ++ [(o, LJ cJ f5)])) [] pm2 ?_
    refine V_aload_n hx dL_law_341 3 rfl ?_
    refine V_aload_n hx dL_law_342 5 rfl ?_
    refine V_iload hx dL_law_343 1 rfl ?_
    refine V_iconst hx dL_law_345 ?_
    refine V_iadd hx dL_law_346 ?_
    refine V_sld hx hz (i + 1) (by omega) (by omega) (by omega) (by omega) dL_law_347 ?_
    refine V_aload_n hx dL_law_348 5 rfl ?_
    refine V_iload hx dL_law_349 1 rfl ?_
    refine V_iconst hx dL_law_351 ?_
    refine V_iadd hx dL_law_352 ?_
    refine V_sld hx hz (i + 2) (by omega) (by omega) (by omega) (by omega) dL_law_353 ?_
    refine V_aload_n hx dL_law_354 5 rfl ?_
    refine V_iload hx dL_law_355 1 rfl ?_
    refine V_iconst hx dL_law_357 ?_
    refine V_iadd hx dL_law_358 ?_
    refine V_sld hx hz (i + 3) (by omega) (by omega) (by omega) (by omega) dL_law_359 ?_
    refine V_aload_n hx dL_law_360 5 rfl ?_
    refine V_iload hx dL_law_361 1 rfl ?_
    refine V_iconst hx dL_law_363 ?_
    refine V_iadd hx dL_law_364 ?_
    refine V_sld hx hz (i + 4) (by omega) (by omega) (by omega) (by omega) dL_law_365 ?_
    refine V_aload_n hx dL_law_366 5 rfl ?_
    refine V_iload hx dL_law_367 1 rfl ?_
    refine V_iconst hx dL_law_369 ?_
    refine V_iadd hx dL_law_370 ?_
    refine V_sld hx hz (i + 5) (by omega) (by omega) (by omega) (by omega) dL_law_371 ?_
    refine V_callFi hx (z_say l R T hr hn1 hn8 hc0 hc6 (c := (xs (i + 1)).toInt) (kd := (xs (i + 2)).toInt) (d := (xs (i + 3)).toInt) (e := (xs (i + 4)).toInt) (b := (xs (i + 5)).toInt) (rg_toInt (xs (i + 1))) (rg_toInt (xs (i + 2))) (rg_toInt (xs (i + 3))) (rg_toInt (xs (i + 4))) (rg_toInt (xs (i + 5))) (fun h1 h2 => hs0 _ (by omega)) hs8 (fun h1 h2 => hdn _ (by omega))) cw_L_93 (RML (by decide) (by decide) (by show (200 + 2 * i + 7) ≤ 612619; omega) (by show (2000 + 10 * i + 42) ≤ 7258246; omega)) (hc := rfl) 0 RW_o rfl rfl (Nat.le_of_ble_eq_true rfl) dL_law_372 (200 + 2 * i + 7) (2000 + 10 * i + 42) rfl rfl (fun z7 ws7 e7 => ?_)
    rcases e7 with ⟨hc7, rfl, R9, hR9, rfl⟩ | ⟨hc7, rfl⟩ | ⟨hc7, hc8, rfl⟩ | ⟨hc7, hc8, hc9, rfl⟩
    · refine V_istore hx dL_law_375 [(6, .int (iZ _)), (5, .int (iZ 0)), (4, .int (iZ (i : Int))), (3, .ref o), (2, .ref (md 0)), (1, .ref (ad 0)), (0, .ref b)] (by decide) rfl ?_
      refine V_aload_n hx dL_law_377 4 rfl ?_
      refine V_callFi hx (z_thrown l R9) cw_L_79 (RML (by decide) (by decide) (by show (200 + 2 * i + 7) ≤ 612619; omega) (by show (2000 + 10 * i + 42) ≤ 7258246; omega)) (hc := rfl) 0 RW_o rfl rfl (Nat.le_of_ble_eq_true rfl) dL_law_378 (200 + 2 * i + 7) (2000 + 10 * i + 42) rfl rfl (fun z8 ws8 e8 => ?_)
      obtain ⟨rfl, rfl⟩ := e8
      refine V_iload hx dL_law_381 1 rfl ?_
      refine V_icmp_eq hx dL_law_383 388 (by decide) ⟨by decide, by decide⟩ ⟨by decide, by decide⟩ (fun _ => ?_) (fun h9 => absurd rfl h9)
      refine V_iload hx dL_law_388 1 rfl ?_
      refine V_ws (ws' := (RW g md 0 Q 0 R9 ++ SW g ad P 0 (asT T (7 + 8 * (xs (i + 1)).toInt.toNat) (xs (i + 2)).toInt (xs (i + 3)).toInt (xs (i + 4)).toInt (xs (i + 5)).toInt)) ++ [(o, LJ cJ f5)]) (List.append_assoc _ _ _).symm ?_
      refine V_if_ne hx dL_law_390 405 (by decide) ⟨by decide, by decide⟩ (fun h9 => absurd rfl h9) (fun _ => ?_)
      refine V_aload_n hx dL_law_393 3 rfl ?_
      refine V_iconst hx dL_law_394 ?_
      refine V_lald2 hx hz dL_law_395 ?_
      refine V_iload hx dL_law_396 0 rfl ?_
      refine V_i2l hx dL_law_398 ?_
      refine V_lcmpE hx hf5 dL_law_399 ?_
      refine V_if_eq hx dL_law_400 405 (by decide) rg_0 (fun _ => ?_) (fun h9 => absurd rfl h9)
      refine V_goto hx dL_law_405 1288 (by decide) ?_
      refine V_perm (ws' := SW g ad P 0 (asT T (7 + 8 * (xs (i + 1)).toInt.toNat) (xs (i + 2)).toInt (xs (i + 3)).toInt (xs (i + 4)).toInt (xs (i + 5)).toInt) ++ ([(o, LJ cJ f5)] ++ RW g md 0 Q 0 R9)) [] pm3 ?_
      have hii : ((i + 6 : Nat) : Int) = i + 6 := by omega
      have hwf : WF (asT T (7 + 8 * (xs (i + 1)).toInt.toNat) (xs (i + 2)).toInt (xs (i + 3)).toInt (xs (i + 4)).toInt (xs (i + 5)).toInt) (50 * ((i + 6 : Nat) : Int)) := by rw [hii]; exact wf_mono (wf_as hw hc.1 hc.2.1 hc.2.2) (by omega)
      refine V_widen (k' := 200 + 2 * i + 8) (n' := 2000 + 10 * i + 48) (by omega) (by omega) ?_
      exact V_sub [2, 3, 4, 5, 6] rfl (hB d9 _ hd ⟨P, Q, asT T (7 + 8 * (xs (i + 1)).toInt.toNat) (xs (i + 2)).toInt (xs (i + 3)).toInt (xs (i + 4)).toInt (xs (i + 5)).toInt, R9, 0, f5, hwf, hR9, hP, hQ, rfl⟩)
    · exfalso
      first | omega | grind
    · exfalso
      first | omega | grind
    · exfalso
      first | omega | grind
  · rcases he with he | he | he
    · have he := he.2
      refine V_istore hx dL_law_339 [(5, .int (iZ 1)), (4, .int (iZ (i : Int))), (3, .ref o), (2, .ref (md 0)), (1, .ref (ad 0)), (0, .ref b)] (by decide) rfl ?_
      refine V_perm (ws' := RW g md h Q 0 R ++ (SW g ad P 0 T ++ [(o, LJ cJ f)])) [] pm2 ?_
      refine V_aload_n hx dL_law_341 3 rfl ?_
      refine V_aload_n hx dL_law_342 5 rfl ?_
      refine V_iload hx dL_law_343 1 rfl ?_
      refine V_iconst hx dL_law_345 ?_
      refine V_iadd hx dL_law_346 ?_
      refine V_sld hx hz (i + 1) (by omega) (by omega) (by omega) (by omega) dL_law_347 ?_
      refine V_aload_n hx dL_law_348 5 rfl ?_
      refine V_iload hx dL_law_349 1 rfl ?_
      refine V_iconst hx dL_law_351 ?_
      refine V_iadd hx dL_law_352 ?_
      refine V_sld hx hz (i + 2) (by omega) (by omega) (by omega) (by omega) dL_law_353 ?_
      refine V_aload_n hx dL_law_354 5 rfl ?_
      refine V_iload hx dL_law_355 1 rfl ?_
      refine V_iconst hx dL_law_357 ?_
      refine V_iadd hx dL_law_358 ?_
      refine V_sld hx hz (i + 3) (by omega) (by omega) (by omega) (by omega) dL_law_359 ?_
      refine V_aload_n hx dL_law_360 5 rfl ?_
      refine V_iload hx dL_law_361 1 rfl ?_
      refine V_iconst hx dL_law_363 ?_
      refine V_iadd hx dL_law_364 ?_
      refine V_sld hx hz (i + 4) (by omega) (by omega) (by omega) (by omega) dL_law_365 ?_
      refine V_aload_n hx dL_law_366 5 rfl ?_
      refine V_iload hx dL_law_367 1 rfl ?_
      refine V_iconst hx dL_law_369 ?_
      refine V_iadd hx dL_law_370 ?_
      refine V_sld hx hz (i + 5) (by omega) (by omega) (by omega) (by omega) dL_law_371 ?_
      refine V_callFi hx (z_say l R T hr hn1 hn8 hc0 hc6 (c := (xs (i + 1)).toInt) (kd := (xs (i + 2)).toInt) (d := (xs (i + 3)).toInt) (e := (xs (i + 4)).toInt) (b := (xs (i + 5)).toInt) (rg_toInt (xs (i + 1))) (rg_toInt (xs (i + 2))) (rg_toInt (xs (i + 3))) (rg_toInt (xs (i + 4))) (rg_toInt (xs (i + 5))) (fun h1 h2 => hs0 _ (by omega)) hs8 (fun h1 h2 => hdn _ (by omega))) cw_L_93 (RML (by decide) (by decide) (by show (200 + 2 * i + 7) ≤ 612619; omega) (by show (2000 + 10 * i + 42) ≤ 7258246; omega)) (hc := rfl) 0 RW_o rfl rfl (Nat.le_of_ble_eq_true rfl) dL_law_372 (200 + 2 * i + 7) (2000 + 10 * i + 42) rfl rfl (fun z7 ws7 e7 => ?_)
      rcases e7 with ⟨hc7, rfl, R9, hR9, rfl⟩ | ⟨hc7, rfl⟩ | ⟨hc7, hc8, rfl⟩ | ⟨hc7, hc8, hc9, rfl⟩
      · exfalso
        first | omega | grind
      · refine V_istore hx dL_law_375 [(6, .int (iZ _)), (5, .int (iZ 1)), (4, .int (iZ (i : Int))), (3, .ref o), (2, .ref (md 0)), (1, .ref (ad 0)), (0, .ref b)] (by decide) rfl ?_
        refine V_aload_n hx dL_law_377 4 rfl ?_
        refine V_callFi hx (z_thrown l R) cw_L_79 (RML (by decide) (by decide) (by show (200 + 2 * i + 7) ≤ 612619; omega) (by show (2000 + 10 * i + 42) ≤ 7258246; omega)) (hc := rfl) 0 RW_o rfl rfl (Nat.le_of_ble_eq_true rfl) dL_law_378 (200 + 2 * i + 7) (2000 + 10 * i + 42) rfl rfl (fun z8 ws8 e8 => ?_)
        obtain ⟨rfl, rfl⟩ := e8
        refine V_iload hx dL_law_381 1 rfl ?_
        refine V_icmp_eq hx dL_law_383 388 (by decide) ⟨by decide, by decide⟩ ⟨by decide, by decide⟩ (fun _ => ?_) (fun h9 => absurd rfl h9)
        refine V_iload hx dL_law_388 1 rfl ?_
        refine V_ws (ws' := (RW g md 1 Q 0 R ++ SW g ad P 0 T) ++ [(o, LJ cJ f)]) (List.append_assoc _ _ _).symm ?_
        refine V_if_ne hx dL_law_390 405 (by decide) ⟨by decide, by decide⟩ (fun _ => ?_) (fun h9 => absurd h9 (by decide))
        refine V_goto hx dL_law_405 1288 (by decide) ?_
        refine V_perm (ws' := SW g ad P 0 T ++ ([(o, LJ cJ f)] ++ RW g md 1 Q 0 R)) [] pm3 ?_
        have hii : ((i + 6 : Nat) : Int) = i + 6 := by omega
        have hwf : WF (T) (50 * ((i + 6 : Nat) : Int)) := by rw [hii]; exact wf_mono hw (by omega)
        refine V_widen (k' := 200 + 2 * i + 8) (n' := 2000 + 10 * i + 48) (by omega) (by omega) ?_
        exact V_sub [2, 3, 4, 5, 6] rfl (hB d9 _ hd ⟨P, Q, T, R, 1, f, hwf, hr, hP, hQ, rfl⟩)
      · exfalso
        first | omega | grind
      · exfalso
        first | omega | grind
    · exact absurd he.1 (by decide)
    · exact absurd he.1 (by decide)
  · rcases he with he | he | he
    · exact absurd he.1 (by decide)
    · have he := he.2
      refine V_istore hx dL_law_339 [(5, .int (iZ 2)), (4, .int (iZ (i : Int))), (3, .ref o), (2, .ref (md 0)), (1, .ref (ad 0)), (0, .ref b)] (by decide) rfl ?_
      refine V_perm (ws' := RW g md h Q 0 R ++ (SW g ad P 0 T ++ [(o, LJ cJ f)])) [] pm2 ?_
      refine V_aload_n hx dL_law_341 3 rfl ?_
      refine V_aload_n hx dL_law_342 5 rfl ?_
      refine V_iload hx dL_law_343 1 rfl ?_
      refine V_iconst hx dL_law_345 ?_
      refine V_iadd hx dL_law_346 ?_
      refine V_sld hx hz (i + 1) (by omega) (by omega) (by omega) (by omega) dL_law_347 ?_
      refine V_aload_n hx dL_law_348 5 rfl ?_
      refine V_iload hx dL_law_349 1 rfl ?_
      refine V_iconst hx dL_law_351 ?_
      refine V_iadd hx dL_law_352 ?_
      refine V_sld hx hz (i + 2) (by omega) (by omega) (by omega) (by omega) dL_law_353 ?_
      refine V_aload_n hx dL_law_354 5 rfl ?_
      refine V_iload hx dL_law_355 1 rfl ?_
      refine V_iconst hx dL_law_357 ?_
      refine V_iadd hx dL_law_358 ?_
      refine V_sld hx hz (i + 3) (by omega) (by omega) (by omega) (by omega) dL_law_359 ?_
      refine V_aload_n hx dL_law_360 5 rfl ?_
      refine V_iload hx dL_law_361 1 rfl ?_
      refine V_iconst hx dL_law_363 ?_
      refine V_iadd hx dL_law_364 ?_
      refine V_sld hx hz (i + 4) (by omega) (by omega) (by omega) (by omega) dL_law_365 ?_
      refine V_aload_n hx dL_law_366 5 rfl ?_
      refine V_iload hx dL_law_367 1 rfl ?_
      refine V_iconst hx dL_law_369 ?_
      refine V_iadd hx dL_law_370 ?_
      refine V_sld hx hz (i + 5) (by omega) (by omega) (by omega) (by omega) dL_law_371 ?_
      refine V_callFi hx (z_say l R T hr hn1 hn8 hc0 hc6 (c := (xs (i + 1)).toInt) (kd := (xs (i + 2)).toInt) (d := (xs (i + 3)).toInt) (e := (xs (i + 4)).toInt) (b := (xs (i + 5)).toInt) (rg_toInt (xs (i + 1))) (rg_toInt (xs (i + 2))) (rg_toInt (xs (i + 3))) (rg_toInt (xs (i + 4))) (rg_toInt (xs (i + 5))) (fun h1 h2 => hs0 _ (by omega)) hs8 (fun h1 h2 => hdn _ (by omega))) cw_L_93 (RML (by decide) (by decide) (by show (200 + 2 * i + 7) ≤ 612619; omega) (by show (2000 + 10 * i + 42) ≤ 7258246; omega)) (hc := rfl) 0 RW_o rfl rfl (Nat.le_of_ble_eq_true rfl) dL_law_372 (200 + 2 * i + 7) (2000 + 10 * i + 42) rfl rfl (fun z7 ws7 e7 => ?_)
      rcases e7 with ⟨hc7, rfl, R9, hR9, rfl⟩ | ⟨hc7, rfl⟩ | ⟨hc7, hc8, rfl⟩ | ⟨hc7, hc8, hc9, rfl⟩
      · exfalso
        first | omega | grind
      · exfalso
        first | omega | grind
      · refine V_istore hx dL_law_375 [(6, .int (iZ _)), (5, .int (iZ 2)), (4, .int (iZ (i : Int))), (3, .ref o), (2, .ref (md 0)), (1, .ref (ad 0)), (0, .ref b)] (by decide) rfl ?_
        refine V_aload_n hx dL_law_377 4 rfl ?_
        refine V_callFi hx (z_thrown l R) cw_L_79 (RML (by decide) (by decide) (by show (200 + 2 * i + 7) ≤ 612619; omega) (by show (2000 + 10 * i + 42) ≤ 7258246; omega)) (hc := rfl) 0 RW_o rfl rfl (Nat.le_of_ble_eq_true rfl) dL_law_378 (200 + 2 * i + 7) (2000 + 10 * i + 42) rfl rfl (fun z8 ws8 e8 => ?_)
        obtain ⟨rfl, rfl⟩ := e8
        refine V_iload hx dL_law_381 1 rfl ?_
        refine V_icmp_eq hx dL_law_383 388 (by decide) ⟨by decide, by decide⟩ ⟨by decide, by decide⟩ (fun _ => ?_) (fun h9 => absurd rfl h9)
        refine V_iload hx dL_law_388 1 rfl ?_
        refine V_ws (ws' := (RW g md 2 Q 0 R ++ SW g ad P 0 T) ++ [(o, LJ cJ f)]) (List.append_assoc _ _ _).symm ?_
        refine V_if_ne hx dL_law_390 405 (by decide) ⟨by decide, by decide⟩ (fun _ => ?_) (fun h9 => absurd h9 (by decide))
        refine V_goto hx dL_law_405 1288 (by decide) ?_
        refine V_perm (ws' := SW g ad P 0 T ++ ([(o, LJ cJ f)] ++ RW g md 2 Q 0 R)) [] pm3 ?_
        have hii : ((i + 6 : Nat) : Int) = i + 6 := by omega
        have hwf : WF (T) (50 * ((i + 6 : Nat) : Int)) := by rw [hii]; exact wf_mono hw (by omega)
        refine V_widen (k' := 200 + 2 * i + 8) (n' := 2000 + 10 * i + 48) (by omega) (by omega) ?_
        exact V_sub [2, 3, 4, 5, 6] rfl (hB d9 _ hd ⟨P, Q, T, R, 2, f, hwf, hr, hP, hQ, rfl⟩)
      · exfalso
        first | omega | grind
    · exact absurd he.1 (by decide)
  · rcases he with he | he | he
    · exact absurd he.1 (by decide)
    · exact absurd he.1 (by decide)
    · have he := he.2
      refine V_istore hx dL_law_339 [(5, .int (iZ 3)), (4, .int (iZ (i : Int))), (3, .ref o), (2, .ref (md 0)), (1, .ref (ad 0)), (0, .ref b)] (by decide) rfl ?_
      refine V_perm (ws' := RW g md h Q 0 R ++ (SW g ad P 0 T ++ [(o, LJ cJ f)])) [] pm2 ?_
      refine V_aload_n hx dL_law_341 3 rfl ?_
      refine V_aload_n hx dL_law_342 5 rfl ?_
      refine V_iload hx dL_law_343 1 rfl ?_
      refine V_iconst hx dL_law_345 ?_
      refine V_iadd hx dL_law_346 ?_
      refine V_sld hx hz (i + 1) (by omega) (by omega) (by omega) (by omega) dL_law_347 ?_
      refine V_aload_n hx dL_law_348 5 rfl ?_
      refine V_iload hx dL_law_349 1 rfl ?_
      refine V_iconst hx dL_law_351 ?_
      refine V_iadd hx dL_law_352 ?_
      refine V_sld hx hz (i + 2) (by omega) (by omega) (by omega) (by omega) dL_law_353 ?_
      refine V_aload_n hx dL_law_354 5 rfl ?_
      refine V_iload hx dL_law_355 1 rfl ?_
      refine V_iconst hx dL_law_357 ?_
      refine V_iadd hx dL_law_358 ?_
      refine V_sld hx hz (i + 3) (by omega) (by omega) (by omega) (by omega) dL_law_359 ?_
      refine V_aload_n hx dL_law_360 5 rfl ?_
      refine V_iload hx dL_law_361 1 rfl ?_
      refine V_iconst hx dL_law_363 ?_
      refine V_iadd hx dL_law_364 ?_
      refine V_sld hx hz (i + 4) (by omega) (by omega) (by omega) (by omega) dL_law_365 ?_
      refine V_aload_n hx dL_law_366 5 rfl ?_
      refine V_iload hx dL_law_367 1 rfl ?_
      refine V_iconst hx dL_law_369 ?_
      refine V_iadd hx dL_law_370 ?_
      refine V_sld hx hz (i + 5) (by omega) (by omega) (by omega) (by omega) dL_law_371 ?_
      refine V_callFi hx (z_say l R T hr hn1 hn8 hc0 hc6 (c := (xs (i + 1)).toInt) (kd := (xs (i + 2)).toInt) (d := (xs (i + 3)).toInt) (e := (xs (i + 4)).toInt) (b := (xs (i + 5)).toInt) (rg_toInt (xs (i + 1))) (rg_toInt (xs (i + 2))) (rg_toInt (xs (i + 3))) (rg_toInt (xs (i + 4))) (rg_toInt (xs (i + 5))) (fun h1 h2 => hs0 _ (by omega)) hs8 (fun h1 h2 => hdn _ (by omega))) cw_L_93 (RML (by decide) (by decide) (by show (200 + 2 * i + 7) ≤ 612619; omega) (by show (2000 + 10 * i + 42) ≤ 7258246; omega)) (hc := rfl) 0 RW_o rfl rfl (Nat.le_of_ble_eq_true rfl) dL_law_372 (200 + 2 * i + 7) (2000 + 10 * i + 42) rfl rfl (fun z7 ws7 e7 => ?_)
      rcases e7 with ⟨hc7, rfl, R9, hR9, rfl⟩ | ⟨hc7, rfl⟩ | ⟨hc7, hc8, rfl⟩ | ⟨hc7, hc8, hc9, rfl⟩
      · exfalso
        first | omega | grind
      · exfalso
        first | omega | grind
      · exfalso
        first | omega | grind
      · refine V_istore hx dL_law_375 [(6, .int (iZ _)), (5, .int (iZ 3)), (4, .int (iZ (i : Int))), (3, .ref o), (2, .ref (md 0)), (1, .ref (ad 0)), (0, .ref b)] (by decide) rfl ?_
        refine V_aload_n hx dL_law_377 4 rfl ?_
        refine V_callFi hx (z_thrown l R) cw_L_79 (RML (by decide) (by decide) (by show (200 + 2 * i + 7) ≤ 612619; omega) (by show (2000 + 10 * i + 42) ≤ 7258246; omega)) (hc := rfl) 0 RW_o rfl rfl (Nat.le_of_ble_eq_true rfl) dL_law_378 (200 + 2 * i + 7) (2000 + 10 * i + 42) rfl rfl (fun z8 ws8 e8 => ?_)
        obtain ⟨rfl, rfl⟩ := e8
        refine V_iload hx dL_law_381 1 rfl ?_
        refine V_icmp_eq hx dL_law_383 388 (by decide) ⟨by decide, by decide⟩ ⟨by decide, by decide⟩ (fun _ => ?_) (fun h9 => absurd rfl h9)
        refine V_iload hx dL_law_388 1 rfl ?_
        refine V_ws (ws' := (RW g md 3 Q 0 R ++ SW g ad P 0 T) ++ [(o, LJ cJ f)]) (List.append_assoc _ _ _).symm ?_
        refine V_if_ne hx dL_law_390 405 (by decide) ⟨by decide, by decide⟩ (fun _ => ?_) (fun h9 => absurd h9 (by decide))
        refine V_goto hx dL_law_405 1288 (by decide) ?_
        refine V_perm (ws' := SW g ad P 0 T ++ ([(o, LJ cJ f)] ++ RW g md 3 Q 0 R)) [] pm3 ?_
        have hii : ((i + 6 : Nat) : Int) = i + 6 := by omega
        have hwf : WF (T) (50 * ((i + 6 : Nat) : Int)) := by rw [hii]; exact wf_mono hw (by omega)
        refine V_widen (k' := 200 + 2 * i + 8) (n' := 2000 + 10 * i + 48) (by omega) (by omega) ?_
        exact V_sub [2, 3, 4, 5, 6] rfl (hB d9 _ hd ⟨P, Q, T, R, 3, f, hwf, hr, hP, hQ, rfl⟩)
set_option maxHeartbeats 4000000 in
set_option maxRecDepth 100000 in
theorem lc_turn {x0 : CT} {l : Launch} {g : GT} {cJ : ClassId} {b L : Nat} {xs : Nat → Int32} (hX : ∀ d, FX (XD x0 d) l room_1 g 9 cL_law RL) (hZ : ∀ d, FL2 (XD x0 d) cJ b L xs) (hst : l.stackTraces = false) {i : Nat} (hi : i + 6 ≤ L) (hL : L ≤ 3072) {ad md : Nat → Nat} {P Q : Nat → TS} {T R : TS} {h : Int} {f : Nat → Int64} (hw : WF T (50 * (i : Int))) (hr : REL R T) (hP : RG (P 1)) (hQ : RG (Q 1)) {d9 : Drawn} (hd : DRN x0 d9) {o : Nat} (hB : ∀ (d : Drawn) (ws : va_W), DRN x0 d → INV g cJ ad md o (i + 6) ws → V (XD x0 d) (200 + 2 * i + 8) (2000 + 10 * i + 48) ws 1288 [(4, .int (iZ (i : Int))), (3, .ref o), (2, .ref (md 0)), (1, .ref (ad 0)), (0, .ref b)] []) : V (XD x0 d9) (200 + 2 * i) (2000 + 10 * i) (SW g ad P 0 T ++ ([(o, LJ cJ f)] ++ RW g md h Q 0 R)) 408 [(4, .int (iZ (i : Int))), (3, .ref o), (2, .ref (md 0)), (1, .ref (ad 0)), (0, .ref b)] [] := by
  have hx := hX d9
  have hz := hZ d9
  have hSP := wf_shp hw (by omega)
  obtain ⟨-, ⟨hn1, hn8⟩, ⟨hc0, hc6⟩, ⟨hl0, hl8⟩, ham, hck⟩ := id hw
  have hl9 : T 0 2 < 2147483647 := by omega
  have hdn : ∀ c : Nat, (c : Int) < T 0 1 → T (7 + 8 * c) 2 = 0 ∨ T (7 + 8 * c) 2 = 1 := fun c hc => (hck c hc).2.2.1
  have hs8 : ∀ c : Nat, (c : Int) < T 0 1 → T (7 + 8 * c) 0 ≤ 8 := fun c hc => (hck c hc).1.2
  have hs0 : ∀ c : Nat, (c : Int) < T 0 1 → 0 ≤ T (7 + 8 * c) 0 := fun c hc => (hck c hc).1.1
  have hw8 : ∀ c : Nat, (c : Int) < T 0 1 → W8 T c := fun c hc => wf_w8 hw hc
  have hamm : ∀ d : Nat, d < 8 → -1 ≤ T 1 d ∧ T 1 d ≤ 9999 := fun d hd => by have := ham d hd; omega
  refine V_ws (ws' := (SW g ad P 0 T ++ [(o, LJ cJ f)]) ++ RW g md h Q 0 R) (List.append_assoc _ _ _).symm ?_
  refine V_aload_n hx dL_law_408 3 rfl ?_
  refine V_aload_n hx dL_law_409 4 rfl ?_
  refine V_iload hx dL_law_410 0 rfl ?_
  refine V_iconst hx dL_law_412 ?_
  refine V_iadd hx dL_law_413 ?_
  refine V_sld hx hz (i + 1) (by omega) (by omega) (by omega) (by omega) dL_law_414 ?_
  refine V_aload_n hx dL_law_415 1 rfl ?_
  refine V_callHF hx hz (h_turn l (f0 := f) SW_tillx (x_turn l hst (ad := ad) (P := P) T hSP (c := (xs (i + 1)).toInt) (rg_toInt (xs (i + 1))) (fun h1 h2 => wf_tkok hw (by omega) (by omega))) (fun E he => by rcases he with he | he <;> simp [he.1])) ch_turn (RML (by decide) (by decide) (by show (200 + 2 * i + 2) ≤ 612619; omega) (by show (2000 + 10 * i + 12) ≤ 7258246; omega)) rfl rfl (Nat.le_of_ble_eq_true rfl) dL_law_416 (200 + 2 * i + 2) (2000 + 10 * i + 12) rfl rfl (fun z5 ws5 e5 => ?_)
  rcases e5 with ⟨y5, ws6, ⟨hc, rfl, rfl⟩, rfl, f5, hf5, rfl⟩ | ⟨he, rfl, rfl⟩ | ⟨he, rfl, rfl⟩
  · refine V_istore hx dL_law_419 [(5, .int (iZ 0)), (4, .int (iZ (i : Int))), (3, .ref o), (2, .ref (md 0)), (1, .ref (ad 0)), (0, .ref b)] (by decide) rfl ?_
    refine V_perm (ws' := RW g md h Q 0 R ++ (SW g ad P 0 (tkT T (xs (i + 1)).toInt.toNat) ++ [(o, LJ cJ f5)])) [] pm2 ?_
    refine V_aload_n hx dL_law_421 3 rfl ?_
    refine V_aload_n hx dL_law_422 5 rfl ?_
    refine V_iload hx dL_law_423 1 rfl ?_
    refine V_iconst hx dL_law_425 ?_
    refine V_iadd hx dL_law_426 ?_
    refine V_sld hx hz (i + 1) (by omega) (by omega) (by omega) (by omega) dL_law_427 ?_
    refine V_callFi hx (z_turn l R T hr hn1 hn8 hc0 hc6 hl0 hl9 (c := (xs (i + 1)).toInt) (rg_toInt (xs (i + 1))) (fun h1 h2 => wf_tkok hw (by omega) (by omega)) (fun h1 h2 => wf_mok hw (by omega))) cw_L_96 (RML (by decide) (by decide) (by show (200 + 2 * i + 2) ≤ 612619; omega) (by show (2000 + 10 * i + 12) ≤ 7258246; omega)) (hc := rfl) 0 RW_o rfl rfl (Nat.le_of_ble_eq_true rfl) dL_law_428 (200 + 2 * i + 2) (2000 + 10 * i + 12) rfl rfl (fun z7 ws7 e7 => ?_)
    rcases e7 with ⟨hc7, rfl, R9, hR9, rfl⟩ | ⟨hc7, rfl⟩ | ⟨hc7, rfl⟩
    · refine V_istore hx dL_law_431 [(6, .int (iZ _)), (5, .int (iZ 0)), (4, .int (iZ (i : Int))), (3, .ref o), (2, .ref (md 0)), (1, .ref (ad 0)), (0, .ref b)] (by decide) rfl ?_
      refine V_aload_n hx dL_law_433 4 rfl ?_
      refine V_callFi hx (z_thrown l R9) cw_L_79 (RML (by decide) (by decide) (by show (200 + 2 * i + 2) ≤ 612619; omega) (by show (2000 + 10 * i + 12) ≤ 7258246; omega)) (hc := rfl) 0 RW_o rfl rfl (Nat.le_of_ble_eq_true rfl) dL_law_434 (200 + 2 * i + 2) (2000 + 10 * i + 12) rfl rfl (fun z8 ws8 e8 => ?_)
      obtain ⟨rfl, rfl⟩ := e8
      refine V_iload hx dL_law_437 1 rfl ?_
      refine V_icmp_eq hx dL_law_439 444 (by decide) ⟨by decide, by decide⟩ ⟨by decide, by decide⟩ (fun _ => ?_) (fun h9 => absurd rfl h9)
      refine V_iload hx dL_law_444 1 rfl ?_
      refine V_ws (ws' := (RW g md 0 Q 0 R9 ++ SW g ad P 0 (tkT T (xs (i + 1)).toInt.toNat)) ++ [(o, LJ cJ f5)]) (List.append_assoc _ _ _).symm ?_
      refine V_if_ne hx dL_law_446 461 (by decide) ⟨by decide, by decide⟩ (fun h9 => absurd rfl h9) (fun _ => ?_)
      refine V_aload_n hx dL_law_449 3 rfl ?_
      refine V_iconst hx dL_law_450 ?_
      refine V_lald2 hx hz dL_law_451 ?_
      refine V_iload hx dL_law_452 0 rfl ?_
      refine V_i2l hx dL_law_454 ?_
      refine V_lcmpE hx hf5 dL_law_455 ?_
      refine V_if_eq hx dL_law_456 461 (by decide) rg_0 (fun _ => ?_) (fun h9 => absurd rfl h9)
      refine V_goto hx dL_law_461 1288 (by decide) ?_
      refine V_perm (ws' := SW g ad P 0 (tkT T (xs (i + 1)).toInt.toNat) ++ ([(o, LJ cJ f5)] ++ RW g md 0 Q 0 R9)) [] pm3 ?_
      have hii : ((i + 6 : Nat) : Int) = i + 6 := by omega
      have hwf : WF (tkT T (xs (i + 1)).toInt.toNat) (50 * ((i + 6 : Nat) : Int)) := by rw [hii]; exact wf_mono (wf_tk hw (by omega) (c := (xs (i + 1)).toInt.toNat) (by omega)) (by omega)
      refine V_widen (k' := 200 + 2 * i + 8) (n' := 2000 + 10 * i + 48) (by omega) (by omega) ?_
      exact V_sub [2, 3, 4, 5, 6] rfl (hB d9 _ hd ⟨P, Q, tkT T (xs (i + 1)).toInt.toNat, R9, 0, f5, hwf, hR9, hP, hQ, rfl⟩)
    · exfalso
      first | omega | grind
    · exfalso
      first | omega | grind
  · rcases he with he | he
    · have he := he.2
      refine V_istore hx dL_law_419 [(5, .int (iZ 1)), (4, .int (iZ (i : Int))), (3, .ref o), (2, .ref (md 0)), (1, .ref (ad 0)), (0, .ref b)] (by decide) rfl ?_
      refine V_perm (ws' := RW g md h Q 0 R ++ (SW g ad P 0 T ++ [(o, LJ cJ f)])) [] pm2 ?_
      refine V_aload_n hx dL_law_421 3 rfl ?_
      refine V_aload_n hx dL_law_422 5 rfl ?_
      refine V_iload hx dL_law_423 1 rfl ?_
      refine V_iconst hx dL_law_425 ?_
      refine V_iadd hx dL_law_426 ?_
      refine V_sld hx hz (i + 1) (by omega) (by omega) (by omega) (by omega) dL_law_427 ?_
      refine V_callFi hx (z_turn l R T hr hn1 hn8 hc0 hc6 hl0 hl9 (c := (xs (i + 1)).toInt) (rg_toInt (xs (i + 1))) (fun h1 h2 => wf_tkok hw (by omega) (by omega)) (fun h1 h2 => wf_mok hw (by omega))) cw_L_96 (RML (by decide) (by decide) (by show (200 + 2 * i + 2) ≤ 612619; omega) (by show (2000 + 10 * i + 12) ≤ 7258246; omega)) (hc := rfl) 0 RW_o rfl rfl (Nat.le_of_ble_eq_true rfl) dL_law_428 (200 + 2 * i + 2) (2000 + 10 * i + 12) rfl rfl (fun z7 ws7 e7 => ?_)
      rcases e7 with ⟨hc7, rfl, R9, hR9, rfl⟩ | ⟨hc7, rfl⟩ | ⟨hc7, rfl⟩
      · exfalso
        first | omega | grind
      · refine V_istore hx dL_law_431 [(6, .int (iZ _)), (5, .int (iZ 1)), (4, .int (iZ (i : Int))), (3, .ref o), (2, .ref (md 0)), (1, .ref (ad 0)), (0, .ref b)] (by decide) rfl ?_
        refine V_aload_n hx dL_law_433 4 rfl ?_
        refine V_callFi hx (z_thrown l R) cw_L_79 (RML (by decide) (by decide) (by show (200 + 2 * i + 2) ≤ 612619; omega) (by show (2000 + 10 * i + 12) ≤ 7258246; omega)) (hc := rfl) 0 RW_o rfl rfl (Nat.le_of_ble_eq_true rfl) dL_law_434 (200 + 2 * i + 2) (2000 + 10 * i + 12) rfl rfl (fun z8 ws8 e8 => ?_)
        obtain ⟨rfl, rfl⟩ := e8
        refine V_iload hx dL_law_437 1 rfl ?_
        refine V_icmp_eq hx dL_law_439 444 (by decide) ⟨by decide, by decide⟩ ⟨by decide, by decide⟩ (fun _ => ?_) (fun h9 => absurd rfl h9)
        refine V_iload hx dL_law_444 1 rfl ?_
        refine V_ws (ws' := (RW g md 1 Q 0 R ++ SW g ad P 0 T) ++ [(o, LJ cJ f)]) (List.append_assoc _ _ _).symm ?_
        refine V_if_ne hx dL_law_446 461 (by decide) ⟨by decide, by decide⟩ (fun _ => ?_) (fun h9 => absurd h9 (by decide))
        refine V_goto hx dL_law_461 1288 (by decide) ?_
        refine V_perm (ws' := SW g ad P 0 T ++ ([(o, LJ cJ f)] ++ RW g md 1 Q 0 R)) [] pm3 ?_
        have hii : ((i + 6 : Nat) : Int) = i + 6 := by omega
        have hwf : WF (T) (50 * ((i + 6 : Nat) : Int)) := by rw [hii]; exact wf_mono hw (by omega)
        refine V_widen (k' := 200 + 2 * i + 8) (n' := 2000 + 10 * i + 48) (by omega) (by omega) ?_
        exact V_sub [2, 3, 4, 5, 6] rfl (hB d9 _ hd ⟨P, Q, T, R, 1, f, hwf, hr, hP, hQ, rfl⟩)
      · exfalso
        first | omega | grind
    · exact absurd he.1 (by decide)
  · rcases he with he | he
    · exact absurd he.1 (by decide)
    · have he := he.2
      refine V_istore hx dL_law_419 [(5, .int (iZ 2)), (4, .int (iZ (i : Int))), (3, .ref o), (2, .ref (md 0)), (1, .ref (ad 0)), (0, .ref b)] (by decide) rfl ?_
      refine V_perm (ws' := RW g md h Q 0 R ++ (SW g ad P 0 T ++ [(o, LJ cJ f)])) [] pm2 ?_
      refine V_aload_n hx dL_law_421 3 rfl ?_
      refine V_aload_n hx dL_law_422 5 rfl ?_
      refine V_iload hx dL_law_423 1 rfl ?_
      refine V_iconst hx dL_law_425 ?_
      refine V_iadd hx dL_law_426 ?_
      refine V_sld hx hz (i + 1) (by omega) (by omega) (by omega) (by omega) dL_law_427 ?_
      refine V_callFi hx (z_turn l R T hr hn1 hn8 hc0 hc6 hl0 hl9 (c := (xs (i + 1)).toInt) (rg_toInt (xs (i + 1))) (fun h1 h2 => wf_tkok hw (by omega) (by omega)) (fun h1 h2 => wf_mok hw (by omega))) cw_L_96 (RML (by decide) (by decide) (by show (200 + 2 * i + 2) ≤ 612619; omega) (by show (2000 + 10 * i + 12) ≤ 7258246; omega)) (hc := rfl) 0 RW_o rfl rfl (Nat.le_of_ble_eq_true rfl) dL_law_428 (200 + 2 * i + 2) (2000 + 10 * i + 12) rfl rfl (fun z7 ws7 e7 => ?_)
      rcases e7 with ⟨hc7, rfl, R9, hR9, rfl⟩ | ⟨hc7, rfl⟩ | ⟨hc7, rfl⟩
      · exfalso
        first | omega | grind
      · exfalso
        first | omega | grind
      · refine V_istore hx dL_law_431 [(6, .int (iZ _)), (5, .int (iZ 2)), (4, .int (iZ (i : Int))), (3, .ref o), (2, .ref (md 0)), (1, .ref (ad 0)), (0, .ref b)] (by decide) rfl ?_
        refine V_aload_n hx dL_law_433 4 rfl ?_
        refine V_callFi hx (z_thrown l R) cw_L_79 (RML (by decide) (by decide) (by show (200 + 2 * i + 2) ≤ 612619; omega) (by show (2000 + 10 * i + 12) ≤ 7258246; omega)) (hc := rfl) 0 RW_o rfl rfl (Nat.le_of_ble_eq_true rfl) dL_law_434 (200 + 2 * i + 2) (2000 + 10 * i + 12) rfl rfl (fun z8 ws8 e8 => ?_)
        obtain ⟨rfl, rfl⟩ := e8
        refine V_iload hx dL_law_437 1 rfl ?_
        refine V_icmp_eq hx dL_law_439 444 (by decide) ⟨by decide, by decide⟩ ⟨by decide, by decide⟩ (fun _ => ?_) (fun h9 => absurd rfl h9)
        refine V_iload hx dL_law_444 1 rfl ?_
        refine V_ws (ws' := (RW g md 2 Q 0 R ++ SW g ad P 0 T) ++ [(o, LJ cJ f)]) (List.append_assoc _ _ _).symm ?_
        refine V_if_ne hx dL_law_446 461 (by decide) ⟨by decide, by decide⟩ (fun _ => ?_) (fun h9 => absurd h9 (by decide))
        refine V_goto hx dL_law_461 1288 (by decide) ?_
        refine V_perm (ws' := SW g ad P 0 T ++ ([(o, LJ cJ f)] ++ RW g md 2 Q 0 R)) [] pm3 ?_
        have hii : ((i + 6 : Nat) : Int) = i + 6 := by omega
        have hwf : WF (T) (50 * ((i + 6 : Nat) : Int)) := by rw [hii]; exact wf_mono hw (by omega)
        refine V_widen (k' := 200 + 2 * i + 8) (n' := 2000 + 10 * i + 48) (by omega) (by omega) ?_
        exact V_sub [2, 3, 4, 5, 6] rfl (hB d9 _ hd ⟨P, Q, T, R, 2, f, hwf, hr, hP, hQ, rfl⟩)
set_option maxHeartbeats 4000000 in
set_option maxRecDepth 100000 in
theorem lc_drop {x0 : CT} {l : Launch} {g : GT} {cJ : ClassId} {b L : Nat} {xs : Nat → Int32} (hX : ∀ d, FX (XD x0 d) l room_1 g 9 cL_law RL) (hZ : ∀ d, FL2 (XD x0 d) cJ b L xs) (hst : l.stackTraces = false) {i : Nat} (hi : i + 6 ≤ L) (hL : L ≤ 3072) {ad md : Nat → Nat} {P Q : Nat → TS} {T R : TS} {h : Int} {f : Nat → Int64} (hw : WF T (50 * (i : Int))) (hr : REL R T) (hP : RG (P 1)) (hQ : RG (Q 1)) {d9 : Drawn} (hd : DRN x0 d9) {o : Nat} (hB : ∀ (d : Drawn) (ws : va_W), DRN x0 d → INV g cJ ad md o (i + 6) ws → V (XD x0 d) (200 + 2 * i + 8) (2000 + 10 * i + 48) ws 1288 [(4, .int (iZ (i : Int))), (3, .ref o), (2, .ref (md 0)), (1, .ref (ad 0)), (0, .ref b)] []) : V (XD x0 d9) (200 + 2 * i) (2000 + 10 * i) (SW g ad P 0 T ++ ([(o, LJ cJ f)] ++ RW g md h Q 0 R)) 464 [(4, .int (iZ (i : Int))), (3, .ref o), (2, .ref (md 0)), (1, .ref (ad 0)), (0, .ref b)] [] := by
  have hx := hX d9
  have hz := hZ d9
  have hSP := wf_shp hw (by omega)
  obtain ⟨-, ⟨hn1, hn8⟩, ⟨hc0, hc6⟩, ⟨hl0, hl8⟩, ham, hck⟩ := id hw
  have hl9 : T 0 2 < 2147483647 := by omega
  have hdn : ∀ c : Nat, (c : Int) < T 0 1 → T (7 + 8 * c) 2 = 0 ∨ T (7 + 8 * c) 2 = 1 := fun c hc => (hck c hc).2.2.1
  have hs8 : ∀ c : Nat, (c : Int) < T 0 1 → T (7 + 8 * c) 0 ≤ 8 := fun c hc => (hck c hc).1.2
  have hs0 : ∀ c : Nat, (c : Int) < T 0 1 → 0 ≤ T (7 + 8 * c) 0 := fun c hc => (hck c hc).1.1
  have hw8 : ∀ c : Nat, (c : Int) < T 0 1 → W8 T c := fun c hc => wf_w8 hw hc
  have hamm : ∀ d : Nat, d < 8 → -1 ≤ T 1 d ∧ T 1 d ≤ 9999 := fun d hd => by have := ham d hd; omega
  refine V_ws (ws' := (SW g ad P 0 T ++ [(o, LJ cJ f)]) ++ RW g md h Q 0 R) (List.append_assoc _ _ _).symm ?_
  refine V_aload_n hx dL_law_464 3 rfl ?_
  refine V_aload_n hx dL_law_465 4 rfl ?_
  refine V_iload hx dL_law_466 0 rfl ?_
  refine V_iconst hx dL_law_468 ?_
  refine V_iadd hx dL_law_469 ?_
  refine V_sld hx hz (i + 1) (by omega) (by omega) (by omega) (by omega) dL_law_470 ?_
  refine V_aload_n hx dL_law_471 1 rfl ?_
  refine V_callHF hx hz (h_drop l (f0 := f) SW_tillx (x_drop l hst (ad := ad) (P := P) T hSP (c := (xs (i + 1)).toInt) (rg_toInt (xs (i + 1)))) (fun E he => by first | exact he.1 | simp [he.1])) ch_drop (RML (by decide) (by decide) (by show (200 + 2 * i + 1) ≤ 612619; omega) (by show (2000 + 10 * i + 6) ≤ 7258246; omega)) rfl rfl (Nat.le_of_ble_eq_true rfl) dL_law_472 (200 + 2 * i + 1) (2000 + 10 * i + 6) rfl rfl (fun z5 ws5 e5 => ?_)
  rcases e5 with ⟨y5, ws6, ⟨hc, rfl, rfl⟩, rfl, f5, hf5, rfl⟩ | ⟨he, rfl, rfl⟩
  · refine V_istore hx dL_law_475 [(5, .int (iZ 0)), (4, .int (iZ (i : Int))), (3, .ref o), (2, .ref (md 0)), (1, .ref (ad 0)), (0, .ref b)] (by decide) rfl ?_
    refine V_perm (ws' := RW g md h Q 0 R ++ (SW g ad P 0 (soT T (7 + 8 * (xs (i + 1)).toInt.toNat) 8) ++ [(o, LJ cJ f5)])) [] pm2 ?_
    refine V_aload_n hx dL_law_477 3 rfl ?_
    refine V_aload_n hx dL_law_478 5 rfl ?_
    refine V_iload hx dL_law_479 1 rfl ?_
    refine V_iconst hx dL_law_481 ?_
    refine V_iadd hx dL_law_482 ?_
    refine V_sld hx hz (i + 1) (by omega) (by omega) (by omega) (by omega) dL_law_483 ?_
    refine V_callFi hx (z_drop l R T hr hn1 hn8 hc0 hc6 hl0 hl9 (c := (xs (i + 1)).toInt) (rg_toInt (xs (i + 1)))) cw_L_99 (RML (by decide) (by decide) (by show (200 + 2 * i + 1) ≤ 612619; omega) (by show (2000 + 10 * i + 6) ≤ 7258246; omega)) (hc := rfl) 0 RW_o rfl rfl (Nat.le_of_ble_eq_true rfl) dL_law_484 (200 + 2 * i + 1) (2000 + 10 * i + 6) rfl rfl (fun z7 ws7 e7 => ?_)
    rcases e7 with ⟨hc7, rfl, R9, hR9, rfl⟩ | ⟨hc7, rfl⟩
    · refine V_istore hx dL_law_487 [(6, .int (iZ _)), (5, .int (iZ 0)), (4, .int (iZ (i : Int))), (3, .ref o), (2, .ref (md 0)), (1, .ref (ad 0)), (0, .ref b)] (by decide) rfl ?_
      refine V_aload_n hx dL_law_489 4 rfl ?_
      refine V_callFi hx (z_thrown l R9) cw_L_79 (RML (by decide) (by decide) (by show (200 + 2 * i + 1) ≤ 612619; omega) (by show (2000 + 10 * i + 6) ≤ 7258246; omega)) (hc := rfl) 0 RW_o rfl rfl (Nat.le_of_ble_eq_true rfl) dL_law_490 (200 + 2 * i + 1) (2000 + 10 * i + 6) rfl rfl (fun z8 ws8 e8 => ?_)
      obtain ⟨rfl, rfl⟩ := e8
      refine V_iload hx dL_law_493 1 rfl ?_
      refine V_icmp_eq hx dL_law_495 500 (by decide) ⟨by decide, by decide⟩ ⟨by decide, by decide⟩ (fun _ => ?_) (fun h9 => absurd rfl h9)
      refine V_iload hx dL_law_500 1 rfl ?_
      refine V_ws (ws' := (RW g md 0 Q 0 R9 ++ SW g ad P 0 (soT T (7 + 8 * (xs (i + 1)).toInt.toNat) 8)) ++ [(o, LJ cJ f5)]) (List.append_assoc _ _ _).symm ?_
      refine V_if_ne hx dL_law_502 517 (by decide) ⟨by decide, by decide⟩ (fun h9 => absurd rfl h9) (fun _ => ?_)
      refine V_aload_n hx dL_law_505 3 rfl ?_
      refine V_iconst hx dL_law_506 ?_
      refine V_lald2 hx hz dL_law_507 ?_
      refine V_iload hx dL_law_508 0 rfl ?_
      refine V_i2l hx dL_law_510 ?_
      refine V_lcmpE hx hf5 dL_law_511 ?_
      refine V_if_eq hx dL_law_512 517 (by decide) rg_0 (fun _ => ?_) (fun h9 => absurd rfl h9)
      refine V_goto hx dL_law_517 1288 (by decide) ?_
      refine V_perm (ws' := SW g ad P 0 (soT T (7 + 8 * (xs (i + 1)).toInt.toNat) 8) ++ ([(o, LJ cJ f5)] ++ RW g md 0 Q 0 R9)) [] pm3 ?_
      have hii : ((i + 6 : Nat) : Int) = i + 6 := by omega
      have hwf : WF (soT T (7 + 8 * (xs (i + 1)).toInt.toNat) 8) (50 * ((i + 6 : Nat) : Int)) := by rw [hii]; exact wf_mono (wf_so hw (c := (xs (i + 1)).toInt.toNat) (by omega)) (by omega)
      refine V_widen (k' := 200 + 2 * i + 8) (n' := 2000 + 10 * i + 48) (by omega) (by omega) ?_
      exact V_sub [2, 3, 4, 5, 6] rfl (hB d9 _ hd ⟨P, Q, soT T (7 + 8 * (xs (i + 1)).toInt.toNat) 8, R9, 0, f5, hwf, hR9, hP, hQ, rfl⟩)
    · exfalso
      first | omega | grind
  · have he := he.2
    refine V_istore hx dL_law_475 [(5, .int (iZ 1)), (4, .int (iZ (i : Int))), (3, .ref o), (2, .ref (md 0)), (1, .ref (ad 0)), (0, .ref b)] (by decide) rfl ?_
    refine V_perm (ws' := RW g md h Q 0 R ++ (SW g ad P 0 T ++ [(o, LJ cJ f)])) [] pm2 ?_
    refine V_aload_n hx dL_law_477 3 rfl ?_
    refine V_aload_n hx dL_law_478 5 rfl ?_
    refine V_iload hx dL_law_479 1 rfl ?_
    refine V_iconst hx dL_law_481 ?_
    refine V_iadd hx dL_law_482 ?_
    refine V_sld hx hz (i + 1) (by omega) (by omega) (by omega) (by omega) dL_law_483 ?_
    refine V_callFi hx (z_drop l R T hr hn1 hn8 hc0 hc6 hl0 hl9 (c := (xs (i + 1)).toInt) (rg_toInt (xs (i + 1)))) cw_L_99 (RML (by decide) (by decide) (by show (200 + 2 * i + 1) ≤ 612619; omega) (by show (2000 + 10 * i + 6) ≤ 7258246; omega)) (hc := rfl) 0 RW_o rfl rfl (Nat.le_of_ble_eq_true rfl) dL_law_484 (200 + 2 * i + 1) (2000 + 10 * i + 6) rfl rfl (fun z7 ws7 e7 => ?_)
    rcases e7 with ⟨hc7, rfl, R9, hR9, rfl⟩ | ⟨hc7, rfl⟩
    · exfalso
      first | omega | grind
    · refine V_istore hx dL_law_487 [(6, .int (iZ _)), (5, .int (iZ 1)), (4, .int (iZ (i : Int))), (3, .ref o), (2, .ref (md 0)), (1, .ref (ad 0)), (0, .ref b)] (by decide) rfl ?_
      refine V_aload_n hx dL_law_489 4 rfl ?_
      refine V_callFi hx (z_thrown l R) cw_L_79 (RML (by decide) (by decide) (by show (200 + 2 * i + 1) ≤ 612619; omega) (by show (2000 + 10 * i + 6) ≤ 7258246; omega)) (hc := rfl) 0 RW_o rfl rfl (Nat.le_of_ble_eq_true rfl) dL_law_490 (200 + 2 * i + 1) (2000 + 10 * i + 6) rfl rfl (fun z8 ws8 e8 => ?_)
      obtain ⟨rfl, rfl⟩ := e8
      refine V_iload hx dL_law_493 1 rfl ?_
      refine V_icmp_eq hx dL_law_495 500 (by decide) ⟨by decide, by decide⟩ ⟨by decide, by decide⟩ (fun _ => ?_) (fun h9 => absurd rfl h9)
      refine V_iload hx dL_law_500 1 rfl ?_
      refine V_ws (ws' := (RW g md 1 Q 0 R ++ SW g ad P 0 T) ++ [(o, LJ cJ f)]) (List.append_assoc _ _ _).symm ?_
      refine V_if_ne hx dL_law_502 517 (by decide) ⟨by decide, by decide⟩ (fun _ => ?_) (fun h9 => absurd h9 (by decide))
      refine V_goto hx dL_law_517 1288 (by decide) ?_
      refine V_perm (ws' := SW g ad P 0 T ++ ([(o, LJ cJ f)] ++ RW g md 1 Q 0 R)) [] pm3 ?_
      have hii : ((i + 6 : Nat) : Int) = i + 6 := by omega
      have hwf : WF (T) (50 * ((i + 6 : Nat) : Int)) := by rw [hii]; exact wf_mono hw (by omega)
      refine V_widen (k' := 200 + 2 * i + 8) (n' := 2000 + 10 * i + 48) (by omega) (by omega) ?_
      exact V_sub [2, 3, 4, 5, 6] rfl (hB d9 _ hd ⟨P, Q, T, R, 1, f, hwf, hr, hP, hQ, rfl⟩)
set_option maxHeartbeats 4000000 in
set_option maxRecDepth 100000 in
theorem lc_pass {x0 : CT} {l : Launch} {g : GT} {cJ : ClassId} {b L : Nat} {xs : Nat → Int32} (hX : ∀ d, FX (XD x0 d) l room_1 g 9 cL_law RL) (hZ : ∀ d, FL2 (XD x0 d) cJ b L xs) (hst : l.stackTraces = false) {i : Nat} (hi : i + 6 ≤ L) (hL : L ≤ 3072) {ad md : Nat → Nat} {P Q : Nat → TS} {T R : TS} {h : Int} {f : Nat → Int64} (hw : WF T (50 * (i : Int))) (hr : REL R T) (hP : RG (P 1)) (hQ : RG (Q 1)) {d9 : Drawn} (hd : DRN x0 d9) {o : Nat} (hB : ∀ (d : Drawn) (ws : va_W), DRN x0 d → INV g cJ ad md o (i + 6) ws → V (XD x0 d) (200 + 2 * i + 8) (2000 + 10 * i + 48) ws 1288 [(4, .int (iZ (i : Int))), (3, .ref o), (2, .ref (md 0)), (1, .ref (ad 0)), (0, .ref b)] []) : V (XD x0 d9) (200 + 2 * i) (2000 + 10 * i) (SW g ad P 0 T ++ ([(o, LJ cJ f)] ++ RW g md h Q 0 R)) 520 [(4, .int (iZ (i : Int))), (3, .ref o), (2, .ref (md 0)), (1, .ref (ad 0)), (0, .ref b)] [] := by
  have hx := hX d9
  have hz := hZ d9
  have hSP := wf_shp hw (by omega)
  obtain ⟨-, ⟨hn1, hn8⟩, ⟨hc0, hc6⟩, ⟨hl0, hl8⟩, ham, hck⟩ := id hw
  have hl9 : T 0 2 < 2147483647 := by omega
  have hdn : ∀ c : Nat, (c : Int) < T 0 1 → T (7 + 8 * c) 2 = 0 ∨ T (7 + 8 * c) 2 = 1 := fun c hc => (hck c hc).2.2.1
  have hs8 : ∀ c : Nat, (c : Int) < T 0 1 → T (7 + 8 * c) 0 ≤ 8 := fun c hc => (hck c hc).1.2
  have hs0 : ∀ c : Nat, (c : Int) < T 0 1 → 0 ≤ T (7 + 8 * c) 0 := fun c hc => (hck c hc).1.1
  have hw8 : ∀ c : Nat, (c : Int) < T 0 1 → W8 T c := fun c hc => wf_w8 hw hc
  have hamm : ∀ d : Nat, d < 8 → -1 ≤ T 1 d ∧ T 1 d ≤ 9999 := fun d hd => by have := ham d hd; omega
  refine V_ws (ws' := (SW g ad P 0 T ++ [(o, LJ cJ f)]) ++ RW g md h Q 0 R) (List.append_assoc _ _ _).symm ?_
  refine V_aload_n hx dL_law_520 3 rfl ?_
  refine V_aload_n hx dL_law_521 4 rfl ?_
  refine V_iload hx dL_law_522 0 rfl ?_
  refine V_iconst hx dL_law_524 ?_
  refine V_iadd hx dL_law_525 ?_
  refine V_sld hx hz (i + 1) (by omega) (by omega) (by omega) (by omega) dL_law_526 ?_
  refine V_aload_n hx dL_law_527 1 rfl ?_
  refine V_callHF hx hz (h_pass l (f0 := f) SW_tillx (x_pass l hst (ad := ad) (P := P) T hSP (r := (xs (i + 1)).toInt) (rg_toInt (xs (i + 1))) (fun h1 h2 j hj => (wf_G hw (by omega) j (by omega)).1)) (fun E he => by first | exact he.1 | simp [he.1])) ch_pass (RML (by decide) (by decide) (by show (200 + 2 * i + 1) ≤ 612619; omega) (by show (2000 + 10 * i + 6) ≤ 7258246; omega)) rfl rfl (Nat.le_of_ble_eq_true rfl) dL_law_528 (200 + 2 * i + 1) (2000 + 10 * i + 6) rfl rfl (fun z5 ws5 e5 => ?_)
  rcases e5 with ⟨y5, ws6, ⟨hc, rfl, rfl⟩, rfl, f5, hf5, rfl⟩ | ⟨he, rfl, rfl⟩
  · refine V_istore hx dL_law_531 [(5, .int (iZ 0)), (4, .int (iZ (i : Int))), (3, .ref o), (2, .ref (md 0)), (1, .ref (ad 0)), (0, .ref b)] (by decide) rfl ?_
    refine V_perm (ws' := RW g md h Q 0 R ++ (SW g ad P 0 ((grs T (xs (i + 1)).toInt.toNat).1) ++ [(o, LJ cJ f5)])) [] pm2 ?_
    refine V_aload_n hx dL_law_533 3 rfl ?_
    refine V_aload_n hx dL_law_534 5 rfl ?_
    refine V_iload hx dL_law_535 1 rfl ?_
    refine V_iconst hx dL_law_537 ?_
    refine V_iadd hx dL_law_538 ?_
    refine V_sld hx hz (i + 1) (by omega) (by omega) (by omega) (by omega) dL_law_539 ?_
    refine V_callFi hx (z_pass l R T hr hn1 hn8 hc0 hc6 hl0 hl9 (r := (xs (i + 1)).toInt) (rg_toInt (xs (i + 1))) (fun h1 h2 j hj => wf_G hw (by omega) j (by omega))) cw_L_102 (RML (by decide) (by decide) (by show (200 + 2 * i + 1) ≤ 612619; omega) (by show (2000 + 10 * i + 6) ≤ 7258246; omega)) (hc := rfl) 0 RW_o rfl rfl (Nat.le_of_ble_eq_true rfl) dL_law_540 (200 + 2 * i + 1) (2000 + 10 * i + 6) rfl rfl (fun z7 ws7 e7 => ?_)
    rcases e7 with ⟨hc7, rfl, R9, hR9, rfl⟩ | ⟨hc7, rfl⟩
    · refine V_istore hx dL_law_543 [(6, .int (iZ _)), (5, .int (iZ 0)), (4, .int (iZ (i : Int))), (3, .ref o), (2, .ref (md 0)), (1, .ref (ad 0)), (0, .ref b)] (by decide) rfl ?_
      refine V_aload_n hx dL_law_545 4 rfl ?_
      refine V_callFi hx (z_thrown l R9) cw_L_79 (RML (by decide) (by decide) (by show (200 + 2 * i + 1) ≤ 612619; omega) (by show (2000 + 10 * i + 6) ≤ 7258246; omega)) (hc := rfl) 0 RW_o rfl rfl (Nat.le_of_ble_eq_true rfl) dL_law_546 (200 + 2 * i + 1) (2000 + 10 * i + 6) rfl rfl (fun z8 ws8 e8 => ?_)
      obtain ⟨rfl, rfl⟩ := e8
      refine V_iload hx dL_law_549 1 rfl ?_
      refine V_icmp_eq hx dL_law_551 556 (by decide) ⟨by decide, by decide⟩ ⟨by decide, by decide⟩ (fun _ => ?_) (fun h9 => absurd rfl h9)
      refine V_iload hx dL_law_556 1 rfl ?_
      refine V_ws (ws' := (RW g md 0 Q 0 R9 ++ SW g ad P 0 ((grs T (xs (i + 1)).toInt.toNat).1)) ++ [(o, LJ cJ f5)]) (List.append_assoc _ _ _).symm ?_
      refine V_if_ne hx dL_law_558 573 (by decide) ⟨by decide, by decide⟩ (fun h9 => absurd rfl h9) (fun _ => ?_)
      refine V_aload_n hx dL_law_561 3 rfl ?_
      refine V_iconst hx dL_law_562 ?_
      refine V_lald2 hx hz dL_law_563 ?_
      refine V_iload hx dL_law_564 0 rfl ?_
      refine V_i2l hx dL_law_566 ?_
      refine V_lcmpE hx hf5 dL_law_567 ?_
      refine V_if_eq hx dL_law_568 573 (by decide) rg_0 (fun _ => ?_) (fun h9 => absurd rfl h9)
      refine V_goto hx dL_law_573 1288 (by decide) ?_
      refine V_perm (ws' := SW g ad P 0 ((grs T (xs (i + 1)).toInt.toNat).1) ++ ([(o, LJ cJ f5)] ++ RW g md 0 Q 0 R9)) [] pm3 ?_
      have hii : ((i + 6 : Nat) : Int) = i + 6 := by omega
      have hwf : WF ((grs T (xs (i + 1)).toInt.toNat).1) (50 * ((i + 6 : Nat) : Int)) := by rw [hii]; exact wf_mono (wf_grs hw (by omega) (xs (i + 1)).toInt.toNat (by omega)) (by omega)
      refine V_widen (k' := 200 + 2 * i + 8) (n' := 2000 + 10 * i + 48) (by omega) (by omega) ?_
      exact V_sub [2, 3, 4, 5, 6] rfl (hB d9 _ hd ⟨P, Q, (grs T (xs (i + 1)).toInt.toNat).1, R9, 0, f5, hwf, hR9, hP, hQ, rfl⟩)
    · exfalso
      first | omega | grind
  · have he := he.2
    refine V_istore hx dL_law_531 [(5, .int (iZ 1)), (4, .int (iZ (i : Int))), (3, .ref o), (2, .ref (md 0)), (1, .ref (ad 0)), (0, .ref b)] (by decide) rfl ?_
    refine V_perm (ws' := RW g md h Q 0 R ++ (SW g ad P 0 T ++ [(o, LJ cJ f)])) [] pm2 ?_
    refine V_aload_n hx dL_law_533 3 rfl ?_
    refine V_aload_n hx dL_law_534 5 rfl ?_
    refine V_iload hx dL_law_535 1 rfl ?_
    refine V_iconst hx dL_law_537 ?_
    refine V_iadd hx dL_law_538 ?_
    refine V_sld hx hz (i + 1) (by omega) (by omega) (by omega) (by omega) dL_law_539 ?_
    refine V_callFi hx (z_pass l R T hr hn1 hn8 hc0 hc6 hl0 hl9 (r := (xs (i + 1)).toInt) (rg_toInt (xs (i + 1))) (fun h1 h2 j hj => wf_G hw (by omega) j (by omega))) cw_L_102 (RML (by decide) (by decide) (by show (200 + 2 * i + 1) ≤ 612619; omega) (by show (2000 + 10 * i + 6) ≤ 7258246; omega)) (hc := rfl) 0 RW_o rfl rfl (Nat.le_of_ble_eq_true rfl) dL_law_540 (200 + 2 * i + 1) (2000 + 10 * i + 6) rfl rfl (fun z7 ws7 e7 => ?_)
    rcases e7 with ⟨hc7, rfl, R9, hR9, rfl⟩ | ⟨hc7, rfl⟩
    · exfalso
      first | omega | grind
    · refine V_istore hx dL_law_543 [(6, .int (iZ _)), (5, .int (iZ 1)), (4, .int (iZ (i : Int))), (3, .ref o), (2, .ref (md 0)), (1, .ref (ad 0)), (0, .ref b)] (by decide) rfl ?_
      refine V_aload_n hx dL_law_545 4 rfl ?_
      refine V_callFi hx (z_thrown l R) cw_L_79 (RML (by decide) (by decide) (by show (200 + 2 * i + 1) ≤ 612619; omega) (by show (2000 + 10 * i + 6) ≤ 7258246; omega)) (hc := rfl) 0 RW_o rfl rfl (Nat.le_of_ble_eq_true rfl) dL_law_546 (200 + 2 * i + 1) (2000 + 10 * i + 6) rfl rfl (fun z8 ws8 e8 => ?_)
      obtain ⟨rfl, rfl⟩ := e8
      refine V_iload hx dL_law_549 1 rfl ?_
      refine V_icmp_eq hx dL_law_551 556 (by decide) ⟨by decide, by decide⟩ ⟨by decide, by decide⟩ (fun _ => ?_) (fun h9 => absurd rfl h9)
      refine V_iload hx dL_law_556 1 rfl ?_
      refine V_ws (ws' := (RW g md 1 Q 0 R ++ SW g ad P 0 T) ++ [(o, LJ cJ f)]) (List.append_assoc _ _ _).symm ?_
      refine V_if_ne hx dL_law_558 573 (by decide) ⟨by decide, by decide⟩ (fun _ => ?_) (fun h9 => absurd h9 (by decide))
      refine V_goto hx dL_law_573 1288 (by decide) ?_
      refine V_perm (ws' := SW g ad P 0 T ++ ([(o, LJ cJ f)] ++ RW g md 1 Q 0 R)) [] pm3 ?_
      have hii : ((i + 6 : Nat) : Int) = i + 6 := by omega
      have hwf : WF (T) (50 * ((i + 6 : Nat) : Int)) := by rw [hii]; exact wf_mono hw (by omega)
      refine V_widen (k' := 200 + 2 * i + 8) (n' := 2000 + 10 * i + 48) (by omega) (by omega) ?_
      exact V_sub [2, 3, 4, 5, 6] rfl (hB d9 _ hd ⟨P, Q, T, R, 1, f, hwf, hr, hP, hQ, rfl⟩)
set_option maxHeartbeats 4000000 in
set_option maxRecDepth 100000 in
theorem lc_drawer {x0 : CT} {l : Launch} {g : GT} {cJ : ClassId} {b L : Nat} {xs : Nat → Int32} (hX : ∀ d, FX (XD x0 d) l room_1 g 9 cL_law RL) (hZ : ∀ d, FL2 (XD x0 d) cJ b L xs) (hst : l.stackTraces = false) {i : Nat} (hi : i + 6 ≤ L) (hL : L ≤ 3072) {ad md : Nat → Nat} {P Q : Nat → TS} {T R : TS} {h : Int} {f : Nat → Int64} (hw : WF T (50 * (i : Int))) (hr : REL R T) (hP : RG (P 1)) (hQ : RG (Q 1)) {d9 : Drawn} (hd : DRN x0 d9) {o : Nat} (hB : ∀ (d : Drawn) (ws : va_W), DRN x0 d → INV g cJ ad md o (i + 6) ws → V (XD x0 d) (200 + 2 * i + 8) (2000 + 10 * i + 48) ws 1288 [(4, .int (iZ (i : Int))), (3, .ref o), (2, .ref (md 0)), (1, .ref (ad 0)), (0, .ref b)] []) : V (XD x0 d9) (200 + 2 * i) (2000 + 10 * i) (SW g ad P 0 T ++ ([(o, LJ cJ f)] ++ RW g md h Q 0 R)) 576 [(4, .int (iZ (i : Int))), (3, .ref o), (2, .ref (md 0)), (1, .ref (ad 0)), (0, .ref b)] [] := by
  have hx := hX d9
  have hz := hZ d9
  have hSP := wf_shp hw (by omega)
  obtain ⟨-, ⟨hn1, hn8⟩, ⟨hc0, hc6⟩, ⟨hl0, hl8⟩, ham, hck⟩ := id hw
  have hl9 : T 0 2 < 2147483647 := by omega
  have hdn : ∀ c : Nat, (c : Int) < T 0 1 → T (7 + 8 * c) 2 = 0 ∨ T (7 + 8 * c) 2 = 1 := fun c hc => (hck c hc).2.2.1
  have hs8 : ∀ c : Nat, (c : Int) < T 0 1 → T (7 + 8 * c) 0 ≤ 8 := fun c hc => (hck c hc).1.2
  have hs0 : ∀ c : Nat, (c : Int) < T 0 1 → 0 ≤ T (7 + 8 * c) 0 := fun c hc => (hck c hc).1.1
  have hw8 : ∀ c : Nat, (c : Int) < T 0 1 → W8 T c := fun c hc => wf_w8 hw hc
  have hamm : ∀ d : Nat, d < 8 → -1 ≤ T 1 d ∧ T 1 d ≤ 9999 := fun d hd => by have := ham d hd; omega
  refine V_ws (ws' := (SW g ad P 0 T ++ [(o, LJ cJ f)]) ++ RW g md h Q 0 R) (List.append_assoc _ _ _).symm ?_
  refine V_aload_n hx dL_law_576 3 rfl ?_
  refine V_aload_n hx dL_law_577 4 rfl ?_
  refine V_iload hx dL_law_578 0 rfl ?_
  refine V_iconst hx dL_law_580 ?_
  refine V_iadd hx dL_law_581 ?_
  refine V_sld hx hz (i + 1) (by omega) (by omega) (by omega) (by omega) dL_law_582 ?_
  refine V_aload_n hx dL_law_583 4 rfl ?_
  refine V_iload hx dL_law_584 0 rfl ?_
  refine V_iconst hx dL_law_586 ?_
  refine V_iadd hx dL_law_587 ?_
  refine V_sld hx hz (i + 2) (by omega) (by omega) (by omega) (by omega) dL_law_588 ?_
  refine V_aload_n hx dL_law_589 1 rfl ?_
  refine V_callHF hx hz (h_drawer l (f0 := f) SW_tillx (x_drawer l hst (ad := ad) (P := P) T hSP (d := (xs (i + 1)).toInt) (rg_toInt (xs (i + 1))) (what := (xs (i + 2)).toInt) (rg_toInt (xs (i + 2)))) (fun E he => by first | exact he.1 | simp [he.1])) ch_drawer (RML (by decide) (by decide) (by show (200 + 2 * i + 2) ≤ 612619; omega) (by show (2000 + 10 * i + 12) ≤ 7258246; omega)) rfl rfl (Nat.le_of_ble_eq_true rfl) dL_law_590 (200 + 2 * i + 2) (2000 + 10 * i + 12) rfl rfl (fun z5 ws5 e5 => ?_)
  rcases e5 with ⟨y5, ws6, ⟨hc, rfl, rfl⟩, rfl, f5, hf5, rfl⟩ | ⟨he, rfl, rfl⟩
  · refine V_istore hx dL_law_593 [(5, .int (iZ 0)), (4, .int (iZ (i : Int))), (3, .ref o), (2, .ref (md 0)), (1, .ref (ad 0)), (0, .ref b)] (by decide) rfl ?_
    refine V_perm (ws' := RW g md h Q 0 R ++ (SW g ad P 0 T ++ [(o, LJ cJ f5)])) [] pm2 ?_
    refine V_aload_n hx dL_law_595 3 rfl ?_
    refine V_aload_n hx dL_law_596 5 rfl ?_
    refine V_iload hx dL_law_597 1 rfl ?_
    refine V_iconst hx dL_law_599 ?_
    refine V_iadd hx dL_law_600 ?_
    refine V_sld hx hz (i + 1) (by omega) (by omega) (by omega) (by omega) dL_law_601 ?_
    refine V_aload_n hx dL_law_602 5 rfl ?_
    refine V_iload hx dL_law_603 1 rfl ?_
    refine V_iconst hx dL_law_605 ?_
    refine V_iadd hx dL_law_606 ?_
    refine V_sld hx hz (i + 2) (by omega) (by omega) (by omega) (by omega) dL_law_607 ?_
    refine V_callFi hx (z_drawer l R T hr hn1 hn8 hc0 hc6 hl0 hl9 (d := (xs (i + 1)).toInt) (rg_toInt (xs (i + 1))) (what := (xs (i + 2)).toInt) (rg_toInt (xs (i + 2)))) cw_L_105 (RML (by decide) (by decide) (by show (200 + 2 * i + 2) ≤ 612619; omega) (by show (2000 + 10 * i + 12) ≤ 7258246; omega)) (hc := rfl) 0 RW_o rfl rfl (Nat.le_of_ble_eq_true rfl) dL_law_608 (200 + 2 * i + 2) (2000 + 10 * i + 12) rfl rfl (fun z7 ws7 e7 => ?_)
    rcases e7 with ⟨hc7, rfl, rfl⟩ | ⟨hc7, rfl⟩
    · refine V_istore hx dL_law_611 [(6, .int (iZ _)), (5, .int (iZ 0)), (4, .int (iZ (i : Int))), (3, .ref o), (2, .ref (md 0)), (1, .ref (ad 0)), (0, .ref b)] (by decide) rfl ?_
      refine V_aload_n hx dL_law_613 4 rfl ?_
      refine V_callFi hx (z_thrown l R) cw_L_79 (RML (by decide) (by decide) (by show (200 + 2 * i + 2) ≤ 612619; omega) (by show (2000 + 10 * i + 12) ≤ 7258246; omega)) (hc := rfl) 0 RW_o rfl rfl (Nat.le_of_ble_eq_true rfl) dL_law_614 (200 + 2 * i + 2) (2000 + 10 * i + 12) rfl rfl (fun z8 ws8 e8 => ?_)
      obtain ⟨rfl, rfl⟩ := e8
      refine V_iload hx dL_law_617 1 rfl ?_
      refine V_icmp_eq hx dL_law_619 624 (by decide) ⟨by decide, by decide⟩ ⟨by decide, by decide⟩ (fun _ => ?_) (fun h9 => absurd rfl h9)
      refine V_iload hx dL_law_624 1 rfl ?_
      refine V_ws (ws' := (RW g md 0 Q 0 R ++ SW g ad P 0 T) ++ [(o, LJ cJ f5)]) (List.append_assoc _ _ _).symm ?_
      refine V_if_ne hx dL_law_626 641 (by decide) ⟨by decide, by decide⟩ (fun h9 => absurd rfl h9) (fun _ => ?_)
      refine V_aload_n hx dL_law_629 3 rfl ?_
      refine V_iconst hx dL_law_630 ?_
      refine V_lald2 hx hz dL_law_631 ?_
      refine V_iload hx dL_law_632 0 rfl ?_
      refine V_i2l hx dL_law_634 ?_
      refine V_lcmpE hx hf5 dL_law_635 ?_
      refine V_if_eq hx dL_law_636 641 (by decide) rg_0 (fun _ => ?_) (fun h9 => absurd rfl h9)
      refine V_goto hx dL_law_641 1288 (by decide) ?_
      refine V_perm (ws' := SW g ad P 0 T ++ ([(o, LJ cJ f5)] ++ RW g md 0 Q 0 R)) [] pm3 ?_
      have hii : ((i + 6 : Nat) : Int) = i + 6 := by omega
      have hwf : WF (T) (50 * ((i + 6 : Nat) : Int)) := by rw [hii]; exact wf_mono hw (by omega)
      refine V_widen (k' := 200 + 2 * i + 8) (n' := 2000 + 10 * i + 48) (by omega) (by omega) ?_
      exact V_sub [2, 3, 4, 5, 6] rfl (hB d9 _ hd ⟨P, Q, T, R, 0, f5, hwf, hr, hP, hQ, rfl⟩)
    · exfalso
      first | omega | grind
  · have he := he.2
    refine V_istore hx dL_law_593 [(5, .int (iZ 1)), (4, .int (iZ (i : Int))), (3, .ref o), (2, .ref (md 0)), (1, .ref (ad 0)), (0, .ref b)] (by decide) rfl ?_
    refine V_perm (ws' := RW g md h Q 0 R ++ (SW g ad P 0 T ++ [(o, LJ cJ f)])) [] pm2 ?_
    refine V_aload_n hx dL_law_595 3 rfl ?_
    refine V_aload_n hx dL_law_596 5 rfl ?_
    refine V_iload hx dL_law_597 1 rfl ?_
    refine V_iconst hx dL_law_599 ?_
    refine V_iadd hx dL_law_600 ?_
    refine V_sld hx hz (i + 1) (by omega) (by omega) (by omega) (by omega) dL_law_601 ?_
    refine V_aload_n hx dL_law_602 5 rfl ?_
    refine V_iload hx dL_law_603 1 rfl ?_
    refine V_iconst hx dL_law_605 ?_
    refine V_iadd hx dL_law_606 ?_
    refine V_sld hx hz (i + 2) (by omega) (by omega) (by omega) (by omega) dL_law_607 ?_
    refine V_callFi hx (z_drawer l R T hr hn1 hn8 hc0 hc6 hl0 hl9 (d := (xs (i + 1)).toInt) (rg_toInt (xs (i + 1))) (what := (xs (i + 2)).toInt) (rg_toInt (xs (i + 2)))) cw_L_105 (RML (by decide) (by decide) (by show (200 + 2 * i + 2) ≤ 612619; omega) (by show (2000 + 10 * i + 12) ≤ 7258246; omega)) (hc := rfl) 0 RW_o rfl rfl (Nat.le_of_ble_eq_true rfl) dL_law_608 (200 + 2 * i + 2) (2000 + 10 * i + 12) rfl rfl (fun z7 ws7 e7 => ?_)
    rcases e7 with ⟨hc7, rfl, rfl⟩ | ⟨hc7, rfl⟩
    · exfalso
      first | omega | grind
    · refine V_istore hx dL_law_611 [(6, .int (iZ _)), (5, .int (iZ 1)), (4, .int (iZ (i : Int))), (3, .ref o), (2, .ref (md 0)), (1, .ref (ad 0)), (0, .ref b)] (by decide) rfl ?_
      refine V_aload_n hx dL_law_613 4 rfl ?_
      refine V_callFi hx (z_thrown l R) cw_L_79 (RML (by decide) (by decide) (by show (200 + 2 * i + 2) ≤ 612619; omega) (by show (2000 + 10 * i + 12) ≤ 7258246; omega)) (hc := rfl) 0 RW_o rfl rfl (Nat.le_of_ble_eq_true rfl) dL_law_614 (200 + 2 * i + 2) (2000 + 10 * i + 12) rfl rfl (fun z8 ws8 e8 => ?_)
      obtain ⟨rfl, rfl⟩ := e8
      refine V_iload hx dL_law_617 1 rfl ?_
      refine V_icmp_eq hx dL_law_619 624 (by decide) ⟨by decide, by decide⟩ ⟨by decide, by decide⟩ (fun _ => ?_) (fun h9 => absurd rfl h9)
      refine V_iload hx dL_law_624 1 rfl ?_
      refine V_ws (ws' := (RW g md 1 Q 0 R ++ SW g ad P 0 T) ++ [(o, LJ cJ f)]) (List.append_assoc _ _ _).symm ?_
      refine V_if_ne hx dL_law_626 641 (by decide) ⟨by decide, by decide⟩ (fun _ => ?_) (fun h9 => absurd h9 (by decide))
      refine V_goto hx dL_law_641 1288 (by decide) ?_
      refine V_perm (ws' := SW g ad P 0 T ++ ([(o, LJ cJ f)] ++ RW g md 1 Q 0 R)) [] pm3 ?_
      have hii : ((i + 6 : Nat) : Int) = i + 6 := by omega
      have hwf : WF (T) (50 * ((i + 6 : Nat) : Int)) := by rw [hii]; exact wf_mono hw (by omega)
      refine V_widen (k' := 200 + 2 * i + 8) (n' := 2000 + 10 * i + 48) (by omega) (by omega) ?_
      exact V_sub [2, 3, 4, 5, 6] rfl (hB d9 _ hd ⟨P, Q, T, R, 1, f, hwf, hr, hP, hQ, rfl⟩)
set_option maxHeartbeats 4000000 in
set_option maxRecDepth 100000 in
theorem lc_told {x0 : CT} {l : Launch} {g : GT} {cJ : ClassId} {b L : Nat} {xs : Nat → Int32} (hX : ∀ d, FX (XD x0 d) l room_1 g 9 cL_law RL) (hZ : ∀ d, FL2 (XD x0 d) cJ b L xs) (hst : l.stackTraces = false) {i : Nat} (hi : i + 6 ≤ L) (hL : L ≤ 3072) {ad md : Nat → Nat} {P Q : Nat → TS} {T R : TS} {h : Int} {f : Nat → Int64} (hw : WF T (50 * (i : Int))) (hr : REL R T) (hP : RG (P 1)) (hQ : RG (Q 1)) {d9 : Drawn} (hd : DRN x0 d9) {o : Nat} (hB : ∀ (d : Drawn) (ws : va_W), DRN x0 d → INV g cJ ad md o (i + 6) ws → V (XD x0 d) (200 + 2 * i + 8) (2000 + 10 * i + 48) ws 1288 [(4, .int (iZ (i : Int))), (3, .ref o), (2, .ref (md 0)), (1, .ref (ad 0)), (0, .ref b)] []) : V (XD x0 d9) (200 + 2 * i) (2000 + 10 * i) (SW g ad P 0 T ++ ([(o, LJ cJ f)] ++ RW g md h Q 0 R)) 644 [(4, .int (iZ (i : Int))), (3, .ref o), (2, .ref (md 0)), (1, .ref (ad 0)), (0, .ref b)] [] := by
  have hx := hX d9
  have hz := hZ d9
  have hSP := wf_shp hw (by omega)
  obtain ⟨-, ⟨hn1, hn8⟩, ⟨hc0, hc6⟩, ⟨hl0, hl8⟩, ham, hck⟩ := id hw
  have hl9 : T 0 2 < 2147483647 := by omega
  have hdn : ∀ c : Nat, (c : Int) < T 0 1 → T (7 + 8 * c) 2 = 0 ∨ T (7 + 8 * c) 2 = 1 := fun c hc => (hck c hc).2.2.1
  have hs8 : ∀ c : Nat, (c : Int) < T 0 1 → T (7 + 8 * c) 0 ≤ 8 := fun c hc => (hck c hc).1.2
  have hs0 : ∀ c : Nat, (c : Int) < T 0 1 → 0 ≤ T (7 + 8 * c) 0 := fun c hc => (hck c hc).1.1
  have hw8 : ∀ c : Nat, (c : Int) < T 0 1 → W8 T c := fun c hc => wf_w8 hw hc
  have hamm : ∀ d : Nat, d < 8 → -1 ≤ T 1 d ∧ T 1 d ≤ 9999 := fun d hd => by have := ham d hd; omega
  refine V_ws (ws' := (SW g ad P 0 T ++ [(o, LJ cJ f)]) ++ RW g md h Q 0 R) (List.append_assoc _ _ _).symm ?_
  refine V_aload_n hx dL_law_644 3 rfl ?_
  refine V_aload_n hx dL_law_645 4 rfl ?_
  refine V_iload hx dL_law_646 0 rfl ?_
  refine V_iconst hx dL_law_648 ?_
  refine V_iadd hx dL_law_649 ?_
  refine V_sld hx hz (i + 1) (by omega) (by omega) (by omega) (by omega) dL_law_650 ?_
  refine V_aload_n hx dL_law_651 4 rfl ?_
  refine V_iload hx dL_law_652 0 rfl ?_
  refine V_iconst hx dL_law_654 ?_
  refine V_iadd hx dL_law_655 ?_
  refine V_sld hx hz (i + 2) (by omega) (by omega) (by omega) (by omega) dL_law_656 ?_
  refine V_aload_n hx dL_law_657 1 rfl ?_
  refine V_callHF hx hz (h_told l (f0 := f) SW_tillx (x_told l hst (ad := ad) (P := P) T hSP (c := (xs (i + 1)).toInt) (rg_toInt (xs (i + 1))) (what := (xs (i + 2)).toInt) (rg_toInt (xs (i + 2)))) (fun E he => by first | exact he.1 | simp [he.1])) ch_told (RML (by decide) (by decide) (by show (200 + 2 * i + 2) ≤ 612619; omega) (by show (2000 + 10 * i + 12) ≤ 7258246; omega)) rfl rfl (Nat.le_of_ble_eq_true rfl) dL_law_658 (200 + 2 * i + 2) (2000 + 10 * i + 12) rfl rfl (fun z5 ws5 e5 => ?_)
  rcases e5 with ⟨y5, ws6, ⟨hc, rfl, rfl⟩, rfl, f5, hf5, rfl⟩ | ⟨he, rfl, rfl⟩
  · refine V_istore hx dL_law_661 [(5, .int (iZ 0)), (4, .int (iZ (i : Int))), (3, .ref o), (2, .ref (md 0)), (1, .ref (ad 0)), (0, .ref b)] (by decide) rfl ?_
    refine V_perm (ws' := RW g md h Q 0 R ++ (SW g ad P 0 T ++ [(o, LJ cJ f5)])) [] pm2 ?_
    refine V_aload_n hx dL_law_663 3 rfl ?_
    refine V_aload_n hx dL_law_664 5 rfl ?_
    refine V_iload hx dL_law_665 1 rfl ?_
    refine V_iconst hx dL_law_667 ?_
    refine V_iadd hx dL_law_668 ?_
    refine V_sld hx hz (i + 1) (by omega) (by omega) (by omega) (by omega) dL_law_669 ?_
    refine V_aload_n hx dL_law_670 5 rfl ?_
    refine V_iload hx dL_law_671 1 rfl ?_
    refine V_iconst hx dL_law_673 ?_
    refine V_iadd hx dL_law_674 ?_
    refine V_sld hx hz (i + 2) (by omega) (by omega) (by omega) (by omega) dL_law_675 ?_
    refine V_callFi hx (z_told l R T hr hn1 hn8 hc0 hc6 hl0 hl9 (c := (xs (i + 1)).toInt) (rg_toInt (xs (i + 1))) (what := (xs (i + 2)).toInt) (rg_toInt (xs (i + 2))) hw8) cw_L_108 (RML (by decide) (by decide) (by show (200 + 2 * i + 2) ≤ 612619; omega) (by show (2000 + 10 * i + 12) ≤ 7258246; omega)) (hc := rfl) 0 RW_o rfl rfl (Nat.le_of_ble_eq_true rfl) dL_law_676 (200 + 2 * i + 2) (2000 + 10 * i + 12) rfl rfl (fun z7 ws7 e7 => ?_)
    rcases e7 with ⟨hc7, rfl, rfl⟩ | ⟨hc7, rfl⟩
    · refine V_istore hx dL_law_679 [(6, .int (iZ _)), (5, .int (iZ 0)), (4, .int (iZ (i : Int))), (3, .ref o), (2, .ref (md 0)), (1, .ref (ad 0)), (0, .ref b)] (by decide) rfl ?_
      refine V_aload_n hx dL_law_681 4 rfl ?_
      refine V_callFi hx (z_thrown l R) cw_L_79 (RML (by decide) (by decide) (by show (200 + 2 * i + 2) ≤ 612619; omega) (by show (2000 + 10 * i + 12) ≤ 7258246; omega)) (hc := rfl) 0 RW_o rfl rfl (Nat.le_of_ble_eq_true rfl) dL_law_682 (200 + 2 * i + 2) (2000 + 10 * i + 12) rfl rfl (fun z8 ws8 e8 => ?_)
      obtain ⟨rfl, rfl⟩ := e8
      refine V_iload hx dL_law_685 1 rfl ?_
      refine V_icmp_eq hx dL_law_687 692 (by decide) ⟨by decide, by decide⟩ ⟨by decide, by decide⟩ (fun _ => ?_) (fun h9 => absurd rfl h9)
      refine V_iload hx dL_law_692 1 rfl ?_
      refine V_ws (ws' := (RW g md 0 Q 0 R ++ SW g ad P 0 T) ++ [(o, LJ cJ f5)]) (List.append_assoc _ _ _).symm ?_
      refine V_if_ne hx dL_law_694 709 (by decide) ⟨by decide, by decide⟩ (fun h9 => absurd rfl h9) (fun _ => ?_)
      refine V_aload_n hx dL_law_697 3 rfl ?_
      refine V_iconst hx dL_law_698 ?_
      refine V_lald2 hx hz dL_law_699 ?_
      refine V_iload hx dL_law_700 0 rfl ?_
      refine V_i2l hx dL_law_702 ?_
      refine V_lcmpE hx hf5 dL_law_703 ?_
      refine V_if_eq hx dL_law_704 709 (by decide) rg_0 (fun _ => ?_) (fun h9 => absurd rfl h9)
      refine V_goto hx dL_law_709 1288 (by decide) ?_
      refine V_perm (ws' := SW g ad P 0 T ++ ([(o, LJ cJ f5)] ++ RW g md 0 Q 0 R)) [] pm3 ?_
      have hii : ((i + 6 : Nat) : Int) = i + 6 := by omega
      have hwf : WF (T) (50 * ((i + 6 : Nat) : Int)) := by rw [hii]; exact wf_mono hw (by omega)
      refine V_widen (k' := 200 + 2 * i + 8) (n' := 2000 + 10 * i + 48) (by omega) (by omega) ?_
      exact V_sub [2, 3, 4, 5, 6] rfl (hB d9 _ hd ⟨P, Q, T, R, 0, f5, hwf, hr, hP, hQ, rfl⟩)
    · exfalso
      first | omega | grind
  · have he := he.2
    refine V_istore hx dL_law_661 [(5, .int (iZ 1)), (4, .int (iZ (i : Int))), (3, .ref o), (2, .ref (md 0)), (1, .ref (ad 0)), (0, .ref b)] (by decide) rfl ?_
    refine V_perm (ws' := RW g md h Q 0 R ++ (SW g ad P 0 T ++ [(o, LJ cJ f)])) [] pm2 ?_
    refine V_aload_n hx dL_law_663 3 rfl ?_
    refine V_aload_n hx dL_law_664 5 rfl ?_
    refine V_iload hx dL_law_665 1 rfl ?_
    refine V_iconst hx dL_law_667 ?_
    refine V_iadd hx dL_law_668 ?_
    refine V_sld hx hz (i + 1) (by omega) (by omega) (by omega) (by omega) dL_law_669 ?_
    refine V_aload_n hx dL_law_670 5 rfl ?_
    refine V_iload hx dL_law_671 1 rfl ?_
    refine V_iconst hx dL_law_673 ?_
    refine V_iadd hx dL_law_674 ?_
    refine V_sld hx hz (i + 2) (by omega) (by omega) (by omega) (by omega) dL_law_675 ?_
    refine V_callFi hx (z_told l R T hr hn1 hn8 hc0 hc6 hl0 hl9 (c := (xs (i + 1)).toInt) (rg_toInt (xs (i + 1))) (what := (xs (i + 2)).toInt) (rg_toInt (xs (i + 2))) hw8) cw_L_108 (RML (by decide) (by decide) (by show (200 + 2 * i + 2) ≤ 612619; omega) (by show (2000 + 10 * i + 12) ≤ 7258246; omega)) (hc := rfl) 0 RW_o rfl rfl (Nat.le_of_ble_eq_true rfl) dL_law_676 (200 + 2 * i + 2) (2000 + 10 * i + 12) rfl rfl (fun z7 ws7 e7 => ?_)
    rcases e7 with ⟨hc7, rfl, rfl⟩ | ⟨hc7, rfl⟩
    · exfalso
      first | omega | grind
    · refine V_istore hx dL_law_679 [(6, .int (iZ _)), (5, .int (iZ 1)), (4, .int (iZ (i : Int))), (3, .ref o), (2, .ref (md 0)), (1, .ref (ad 0)), (0, .ref b)] (by decide) rfl ?_
      refine V_aload_n hx dL_law_681 4 rfl ?_
      refine V_callFi hx (z_thrown l R) cw_L_79 (RML (by decide) (by decide) (by show (200 + 2 * i + 2) ≤ 612619; omega) (by show (2000 + 10 * i + 12) ≤ 7258246; omega)) (hc := rfl) 0 RW_o rfl rfl (Nat.le_of_ble_eq_true rfl) dL_law_682 (200 + 2 * i + 2) (2000 + 10 * i + 12) rfl rfl (fun z8 ws8 e8 => ?_)
      obtain ⟨rfl, rfl⟩ := e8
      refine V_iload hx dL_law_685 1 rfl ?_
      refine V_icmp_eq hx dL_law_687 692 (by decide) ⟨by decide, by decide⟩ ⟨by decide, by decide⟩ (fun _ => ?_) (fun h9 => absurd rfl h9)
      refine V_iload hx dL_law_692 1 rfl ?_
      refine V_ws (ws' := (RW g md 1 Q 0 R ++ SW g ad P 0 T) ++ [(o, LJ cJ f)]) (List.append_assoc _ _ _).symm ?_
      refine V_if_ne hx dL_law_694 709 (by decide) ⟨by decide, by decide⟩ (fun _ => ?_) (fun h9 => absurd h9 (by decide))
      refine V_goto hx dL_law_709 1288 (by decide) ?_
      refine V_perm (ws' := SW g ad P 0 T ++ ([(o, LJ cJ f)] ++ RW g md 1 Q 0 R)) [] pm3 ?_
      have hii : ((i + 6 : Nat) : Int) = i + 6 := by omega
      have hwf : WF (T) (50 * ((i + 6 : Nat) : Int)) := by rw [hii]; exact wf_mono hw (by omega)
      refine V_widen (k' := 200 + 2 * i + 8) (n' := 2000 + 10 * i + 48) (by omega) (by omega) ?_
      exact V_sub [2, 3, 4, 5, 6] rfl (hB d9 _ hd ⟨P, Q, T, R, 1, f, hwf, hr, hP, hQ, rfl⟩)
set_option maxHeartbeats 4000000 in
set_option maxRecDepth 100000 in
theorem lc_slip {x0 : CT} {l : Launch} {g : GT} {cJ : ClassId} {b L : Nat} {xs : Nat → Int32} (hX : ∀ d, FX (XD x0 d) l room_1 g 9 cL_law RL) (hZ : ∀ d, FL2 (XD x0 d) cJ b L xs) (hst : l.stackTraces = false) {i : Nat} (hi : i + 6 ≤ L) (hL : L ≤ 3072) {ad md : Nat → Nat} {P Q : Nat → TS} {T R : TS} {h : Int} {f : Nat → Int64} (hw : WF T (50 * (i : Int))) (hr : REL R T) (hP : RG (P 1)) (hQ : RG (Q 1)) {d9 : Drawn} (hd : DRN x0 d9) {o : Nat} (hB : ∀ (d : Drawn) (ws : va_W), DRN x0 d → INV g cJ ad md o (i + 6) ws → V (XD x0 d) (200 + 2 * i + 8) (2000 + 10 * i + 48) ws 1288 [(4, .int (iZ (i : Int))), (3, .ref o), (2, .ref (md 0)), (1, .ref (ad 0)), (0, .ref b)] []) : V (XD x0 d9) (200 + 2 * i) (2000 + 10 * i) (SW g ad P 0 T ++ ([(o, LJ cJ f)] ++ RW g md h Q 0 R)) 712 [(4, .int (iZ (i : Int))), (3, .ref o), (2, .ref (md 0)), (1, .ref (ad 0)), (0, .ref b)] [] := by
  have hx := hX d9
  have hz := hZ d9
  have hSP := wf_shp hw (by omega)
  obtain ⟨-, ⟨hn1, hn8⟩, ⟨hc0, hc6⟩, ⟨hl0, hl8⟩, ham, hck⟩ := id hw
  have hl9 : T 0 2 < 2147483647 := by omega
  have hdn : ∀ c : Nat, (c : Int) < T 0 1 → T (7 + 8 * c) 2 = 0 ∨ T (7 + 8 * c) 2 = 1 := fun c hc => (hck c hc).2.2.1
  have hs8 : ∀ c : Nat, (c : Int) < T 0 1 → T (7 + 8 * c) 0 ≤ 8 := fun c hc => (hck c hc).1.2
  have hs0 : ∀ c : Nat, (c : Int) < T 0 1 → 0 ≤ T (7 + 8 * c) 0 := fun c hc => (hck c hc).1.1
  have hw8 : ∀ c : Nat, (c : Int) < T 0 1 → W8 T c := fun c hc => wf_w8 hw hc
  have hamm : ∀ d : Nat, d < 8 → -1 ≤ T 1 d ∧ T 1 d ≤ 9999 := fun d hd => by have := ham d hd; omega
  refine V_ws (ws' := (SW g ad P 0 T ++ [(o, LJ cJ f)]) ++ RW g md h Q 0 R) (List.append_assoc _ _ _).symm ?_
  refine V_aload_n hx dL_law_712 3 rfl ?_
  refine V_aload_n hx dL_law_713 4 rfl ?_
  refine V_iload hx dL_law_714 0 rfl ?_
  refine V_iconst hx dL_law_716 ?_
  refine V_iadd hx dL_law_717 ?_
  refine V_sld hx hz (i + 1) (by omega) (by omega) (by omega) (by omega) dL_law_718 ?_
  refine V_aload_n hx dL_law_719 4 rfl ?_
  refine V_iload hx dL_law_720 0 rfl ?_
  refine V_iconst hx dL_law_722 ?_
  refine V_iadd hx dL_law_723 ?_
  refine V_sld hx hz (i + 2) (by omega) (by omega) (by omega) (by omega) dL_law_724 ?_
  refine V_aload_n hx dL_law_725 4 rfl ?_
  refine V_iload hx dL_law_726 0 rfl ?_
  refine V_iconst hx dL_law_728 ?_
  refine V_iadd hx dL_law_729 ?_
  refine V_sld hx hz (i + 3) (by omega) (by omega) (by omega) (by omega) dL_law_730 ?_
  refine V_aload_n hx dL_law_731 1 rfl ?_
  refine V_callHF hx hz (h_slip l (f0 := f) SW_tillx (x_slip l hst (ad := ad) (P := P) T hSP (c := (xs (i + 1)).toInt) (d := (xs (i + 2)).toInt) (rg_toInt (xs (i + 1))) (rg_toInt (xs (i + 2))) (what := (xs (i + 3)).toInt) (rg_toInt (xs (i + 3)))) (fun E he => by first | exact he.1 | simp [he.1])) ch_slip (RML (by decide) (by decide) (by show (200 + 2 * i + 3) ≤ 612619; omega) (by show (2000 + 10 * i + 18) ≤ 7258246; omega)) rfl rfl (Nat.le_of_ble_eq_true rfl) dL_law_732 (200 + 2 * i + 3) (2000 + 10 * i + 18) rfl rfl (fun z5 ws5 e5 => ?_)
  rcases e5 with ⟨y5, ws6, ⟨hc, rfl, rfl⟩, rfl, f5, hf5, rfl⟩ | ⟨he, rfl, rfl⟩
  · refine V_istore hx dL_law_735 [(5, .int (iZ 0)), (4, .int (iZ (i : Int))), (3, .ref o), (2, .ref (md 0)), (1, .ref (ad 0)), (0, .ref b)] (by decide) rfl ?_
    refine V_perm (ws' := RW g md h Q 0 R ++ (SW g ad P 0 T ++ [(o, LJ cJ f5)])) [] pm2 ?_
    refine V_aload_n hx dL_law_737 3 rfl ?_
    refine V_aload_n hx dL_law_738 5 rfl ?_
    refine V_iload hx dL_law_739 1 rfl ?_
    refine V_iconst hx dL_law_741 ?_
    refine V_iadd hx dL_law_742 ?_
    refine V_sld hx hz (i + 1) (by omega) (by omega) (by omega) (by omega) dL_law_743 ?_
    refine V_aload_n hx dL_law_744 5 rfl ?_
    refine V_iload hx dL_law_745 1 rfl ?_
    refine V_iconst hx dL_law_747 ?_
    refine V_iadd hx dL_law_748 ?_
    refine V_sld hx hz (i + 2) (by omega) (by omega) (by omega) (by omega) dL_law_749 ?_
    refine V_aload_n hx dL_law_750 5 rfl ?_
    refine V_iload hx dL_law_751 1 rfl ?_
    refine V_iconst hx dL_law_753 ?_
    refine V_iadd hx dL_law_754 ?_
    refine V_sld hx hz (i + 3) (by omega) (by omega) (by omega) (by omega) dL_law_755 ?_
    refine V_callFi hx (z_slip l R T hr hn1 hn8 hc0 hc6 hl0 hl9 (c := (xs (i + 1)).toInt) (d := (xs (i + 2)).toInt) (rg_toInt (xs (i + 1))) (rg_toInt (xs (i + 2))) (what := (xs (i + 3)).toInt) (rg_toInt (xs (i + 3)))) cw_L_112 (RML (by decide) (by decide) (by show (200 + 2 * i + 3) ≤ 612619; omega) (by show (2000 + 10 * i + 18) ≤ 7258246; omega)) (hc := rfl) 0 RW_o rfl rfl (Nat.le_of_ble_eq_true rfl) dL_law_756 (200 + 2 * i + 3) (2000 + 10 * i + 18) rfl rfl (fun z7 ws7 e7 => ?_)
    rcases e7 with ⟨hc7, rfl, rfl⟩ | ⟨hc7, rfl⟩
    · refine V_istore hx dL_law_759 [(6, .int (iZ _)), (5, .int (iZ 0)), (4, .int (iZ (i : Int))), (3, .ref o), (2, .ref (md 0)), (1, .ref (ad 0)), (0, .ref b)] (by decide) rfl ?_
      refine V_aload_n hx dL_law_761 4 rfl ?_
      refine V_callFi hx (z_thrown l R) cw_L_79 (RML (by decide) (by decide) (by show (200 + 2 * i + 3) ≤ 612619; omega) (by show (2000 + 10 * i + 18) ≤ 7258246; omega)) (hc := rfl) 0 RW_o rfl rfl (Nat.le_of_ble_eq_true rfl) dL_law_762 (200 + 2 * i + 3) (2000 + 10 * i + 18) rfl rfl (fun z8 ws8 e8 => ?_)
      obtain ⟨rfl, rfl⟩ := e8
      refine V_iload hx dL_law_765 1 rfl ?_
      refine V_icmp_eq hx dL_law_767 772 (by decide) ⟨by decide, by decide⟩ ⟨by decide, by decide⟩ (fun _ => ?_) (fun h9 => absurd rfl h9)
      refine V_iload hx dL_law_772 1 rfl ?_
      refine V_ws (ws' := (RW g md 0 Q 0 R ++ SW g ad P 0 T) ++ [(o, LJ cJ f5)]) (List.append_assoc _ _ _).symm ?_
      refine V_if_ne hx dL_law_774 789 (by decide) ⟨by decide, by decide⟩ (fun h9 => absurd rfl h9) (fun _ => ?_)
      refine V_aload_n hx dL_law_777 3 rfl ?_
      refine V_iconst hx dL_law_778 ?_
      refine V_lald2 hx hz dL_law_779 ?_
      refine V_iload hx dL_law_780 0 rfl ?_
      refine V_i2l hx dL_law_782 ?_
      refine V_lcmpE hx hf5 dL_law_783 ?_
      refine V_if_eq hx dL_law_784 789 (by decide) rg_0 (fun _ => ?_) (fun h9 => absurd rfl h9)
      refine V_goto hx dL_law_789 1288 (by decide) ?_
      refine V_perm (ws' := SW g ad P 0 T ++ ([(o, LJ cJ f5)] ++ RW g md 0 Q 0 R)) [] pm3 ?_
      have hii : ((i + 6 : Nat) : Int) = i + 6 := by omega
      have hwf : WF (T) (50 * ((i + 6 : Nat) : Int)) := by rw [hii]; exact wf_mono hw (by omega)
      refine V_widen (k' := 200 + 2 * i + 8) (n' := 2000 + 10 * i + 48) (by omega) (by omega) ?_
      exact V_sub [2, 3, 4, 5, 6] rfl (hB d9 _ hd ⟨P, Q, T, R, 0, f5, hwf, hr, hP, hQ, rfl⟩)
    · exfalso
      first | omega | grind
  · have he := he.2
    refine V_istore hx dL_law_735 [(5, .int (iZ 1)), (4, .int (iZ (i : Int))), (3, .ref o), (2, .ref (md 0)), (1, .ref (ad 0)), (0, .ref b)] (by decide) rfl ?_
    refine V_perm (ws' := RW g md h Q 0 R ++ (SW g ad P 0 T ++ [(o, LJ cJ f)])) [] pm2 ?_
    refine V_aload_n hx dL_law_737 3 rfl ?_
    refine V_aload_n hx dL_law_738 5 rfl ?_
    refine V_iload hx dL_law_739 1 rfl ?_
    refine V_iconst hx dL_law_741 ?_
    refine V_iadd hx dL_law_742 ?_
    refine V_sld hx hz (i + 1) (by omega) (by omega) (by omega) (by omega) dL_law_743 ?_
    refine V_aload_n hx dL_law_744 5 rfl ?_
    refine V_iload hx dL_law_745 1 rfl ?_
    refine V_iconst hx dL_law_747 ?_
    refine V_iadd hx dL_law_748 ?_
    refine V_sld hx hz (i + 2) (by omega) (by omega) (by omega) (by omega) dL_law_749 ?_
    refine V_aload_n hx dL_law_750 5 rfl ?_
    refine V_iload hx dL_law_751 1 rfl ?_
    refine V_iconst hx dL_law_753 ?_
    refine V_iadd hx dL_law_754 ?_
    refine V_sld hx hz (i + 3) (by omega) (by omega) (by omega) (by omega) dL_law_755 ?_
    refine V_callFi hx (z_slip l R T hr hn1 hn8 hc0 hc6 hl0 hl9 (c := (xs (i + 1)).toInt) (d := (xs (i + 2)).toInt) (rg_toInt (xs (i + 1))) (rg_toInt (xs (i + 2))) (what := (xs (i + 3)).toInt) (rg_toInt (xs (i + 3)))) cw_L_112 (RML (by decide) (by decide) (by show (200 + 2 * i + 3) ≤ 612619; omega) (by show (2000 + 10 * i + 18) ≤ 7258246; omega)) (hc := rfl) 0 RW_o rfl rfl (Nat.le_of_ble_eq_true rfl) dL_law_756 (200 + 2 * i + 3) (2000 + 10 * i + 18) rfl rfl (fun z7 ws7 e7 => ?_)
    rcases e7 with ⟨hc7, rfl, rfl⟩ | ⟨hc7, rfl⟩
    · exfalso
      first | omega | grind
    · refine V_istore hx dL_law_759 [(6, .int (iZ _)), (5, .int (iZ 1)), (4, .int (iZ (i : Int))), (3, .ref o), (2, .ref (md 0)), (1, .ref (ad 0)), (0, .ref b)] (by decide) rfl ?_
      refine V_aload_n hx dL_law_761 4 rfl ?_
      refine V_callFi hx (z_thrown l R) cw_L_79 (RML (by decide) (by decide) (by show (200 + 2 * i + 3) ≤ 612619; omega) (by show (2000 + 10 * i + 18) ≤ 7258246; omega)) (hc := rfl) 0 RW_o rfl rfl (Nat.le_of_ble_eq_true rfl) dL_law_762 (200 + 2 * i + 3) (2000 + 10 * i + 18) rfl rfl (fun z8 ws8 e8 => ?_)
      obtain ⟨rfl, rfl⟩ := e8
      refine V_iload hx dL_law_765 1 rfl ?_
      refine V_icmp_eq hx dL_law_767 772 (by decide) ⟨by decide, by decide⟩ ⟨by decide, by decide⟩ (fun _ => ?_) (fun h9 => absurd rfl h9)
      refine V_iload hx dL_law_772 1 rfl ?_
      refine V_ws (ws' := (RW g md 1 Q 0 R ++ SW g ad P 0 T) ++ [(o, LJ cJ f)]) (List.append_assoc _ _ _).symm ?_
      refine V_if_ne hx dL_law_774 789 (by decide) ⟨by decide, by decide⟩ (fun _ => ?_) (fun h9 => absurd h9 (by decide))
      refine V_goto hx dL_law_789 1288 (by decide) ?_
      refine V_perm (ws' := SW g ad P 0 T ++ ([(o, LJ cJ f)] ++ RW g md 1 Q 0 R)) [] pm3 ?_
      have hii : ((i + 6 : Nat) : Int) = i + 6 := by omega
      have hwf : WF (T) (50 * ((i + 6 : Nat) : Int)) := by rw [hii]; exact wf_mono hw (by omega)
      refine V_widen (k' := 200 + 2 * i + 8) (n' := 2000 + 10 * i + 48) (by omega) (by omega) ?_
      exact V_sub [2, 3, 4, 5, 6] rfl (hB d9 _ hd ⟨P, Q, T, R, 1, f, hwf, hr, hP, hQ, rfl⟩)
set_option maxHeartbeats 4000000 in
set_option maxRecDepth 100000 in
theorem lc_step {x0 : CT} {l : Launch} {g : GT} {cJ : ClassId} {b L : Nat} {xs : Nat → Int32} (hX : ∀ d, FX (XD x0 d) l room_1 g 9 cL_law RL) (hZ : ∀ d, FL2 (XD x0 d) cJ b L xs) (hst : l.stackTraces = false) {i : Nat} (hi : i + 6 ≤ L) (hL : L ≤ 3072) {ad md : Nat → Nat} {P Q : Nat → TS} {T R : TS} {h : Int} {f : Nat → Int64} (hw : WF T (50 * (i : Int))) (hr : REL R T) (hP : RG (P 1)) (hQ : RG (Q 1)) {d9 : Drawn} (hd : DRN x0 d9) {o : Nat} (hB : ∀ (d : Drawn) (ws : va_W), DRN x0 d → INV g cJ ad md o (i + 6) ws → V (XD x0 d) (200 + 2 * i + 8) (2000 + 10 * i + 48) ws 1288 [(4, .int (iZ (i : Int))), (3, .ref o), (2, .ref (md 0)), (1, .ref (ad 0)), (0, .ref b)] []) : V (XD x0 d9) (200 + 2 * i) (2000 + 10 * i) (SW g ad P 0 T ++ ([(o, LJ cJ f)] ++ RW g md h Q 0 R)) 792 [(4, .int (iZ (i : Int))), (3, .ref o), (2, .ref (md 0)), (1, .ref (ad 0)), (0, .ref b)] [] := by
  have hx := hX d9
  have hz := hZ d9
  have hSP := wf_shp hw (by omega)
  obtain ⟨-, ⟨hn1, hn8⟩, ⟨hc0, hc6⟩, ⟨hl0, hl8⟩, ham, hck⟩ := id hw
  have hl9 : T 0 2 < 2147483647 := by omega
  have hdn : ∀ c : Nat, (c : Int) < T 0 1 → T (7 + 8 * c) 2 = 0 ∨ T (7 + 8 * c) 2 = 1 := fun c hc => (hck c hc).2.2.1
  have hs8 : ∀ c : Nat, (c : Int) < T 0 1 → T (7 + 8 * c) 0 ≤ 8 := fun c hc => (hck c hc).1.2
  have hs0 : ∀ c : Nat, (c : Int) < T 0 1 → 0 ≤ T (7 + 8 * c) 0 := fun c hc => (hck c hc).1.1
  have hw8 : ∀ c : Nat, (c : Int) < T 0 1 → W8 T c := fun c hc => wf_w8 hw hc
  have hamm : ∀ d : Nat, d < 8 → -1 ≤ T 1 d ∧ T 1 d ≤ 9999 := fun d hd => by have := ham d hd; omega
  refine V_ws (ws' := (SW g ad P 0 T ++ [(o, LJ cJ f)]) ++ RW g md h Q 0 R) (List.append_assoc _ _ _).symm ?_
  refine V_aload_n hx dL_law_792 3 rfl ?_
  refine V_aload_n hx dL_law_793 4 rfl ?_
  refine V_iload hx dL_law_794 0 rfl ?_
  refine V_iconst hx dL_law_796 ?_
  refine V_iadd hx dL_law_797 ?_
  refine V_sld hx hz (i + 1) (by omega) (by omega) (by omega) (by omega) dL_law_798 ?_
  refine V_aload_n hx dL_law_799 4 rfl ?_
  refine V_iload hx dL_law_800 0 rfl ?_
  refine V_iconst hx dL_law_802 ?_
  refine V_iadd hx dL_law_803 ?_
  refine V_sld hx hz (i + 2) (by omega) (by omega) (by omega) (by omega) dL_law_804 ?_
  refine V_aload_n hx dL_law_805 4 rfl ?_
  refine V_iload hx dL_law_806 0 rfl ?_
  refine V_iconst hx dL_law_808 ?_
  refine V_iadd hx dL_law_809 ?_
  refine V_sld hx hz (i + 3) (by omega) (by omega) (by omega) (by omega) dL_law_810 ?_
  refine V_aload_n hx dL_law_811 1 rfl ?_
  refine V_callHF hx hz (h_step l (f0 := f) SW_tillx (x_step l hst (ad := ad) (P := P) T hSP (c := (xs (i + 1)).toInt) (d := (xs (i + 2)).toInt) (rg_toInt (xs (i + 1))) (rg_toInt (xs (i + 2))) (what := (xs (i + 3)).toInt) (rg_toInt (xs (i + 3))) (fun h1 h2 => hs8 _ (by omega))) (fun E he => by first | exact he.1 | simp [he.1])) ch_step (RML (by decide) (by decide) (by show (200 + 2 * i + 3) ≤ 612619; omega) (by show (2000 + 10 * i + 18) ≤ 7258246; omega)) rfl rfl (Nat.le_of_ble_eq_true rfl) dL_law_812 (200 + 2 * i + 3) (2000 + 10 * i + 18) rfl rfl (fun z5 ws5 e5 => ?_)
  rcases e5 with ⟨y5, ws6, ⟨hc, rfl, rfl⟩, rfl, f5, hf5, rfl⟩ | ⟨he, rfl, rfl⟩
  · refine V_istore hx dL_law_815 [(5, .int (iZ 0)), (4, .int (iZ (i : Int))), (3, .ref o), (2, .ref (md 0)), (1, .ref (ad 0)), (0, .ref b)] (by decide) rfl ?_
    refine V_perm (ws' := RW g md h Q 0 R ++ (SW g ad P 0 T ++ [(o, LJ cJ f5)])) [] pm2 ?_
    refine V_aload_n hx dL_law_817 3 rfl ?_
    refine V_aload_n hx dL_law_818 5 rfl ?_
    refine V_iload hx dL_law_819 1 rfl ?_
    refine V_iconst hx dL_law_821 ?_
    refine V_iadd hx dL_law_822 ?_
    refine V_sld hx hz (i + 1) (by omega) (by omega) (by omega) (by omega) dL_law_823 ?_
    refine V_aload_n hx dL_law_824 5 rfl ?_
    refine V_iload hx dL_law_825 1 rfl ?_
    refine V_iconst hx dL_law_827 ?_
    refine V_iadd hx dL_law_828 ?_
    refine V_sld hx hz (i + 2) (by omega) (by omega) (by omega) (by omega) dL_law_829 ?_
    refine V_aload_n hx dL_law_830 5 rfl ?_
    refine V_iload hx dL_law_831 1 rfl ?_
    refine V_iconst hx dL_law_833 ?_
    refine V_iadd hx dL_law_834 ?_
    refine V_sld hx hz (i + 3) (by omega) (by omega) (by omega) (by omega) dL_law_835 ?_
    refine V_callFi hx (z_step l R T hr hn1 hn8 hc0 hc6 hl0 hl9 (c := (xs (i + 1)).toInt) (d := (xs (i + 2)).toInt) (rg_toInt (xs (i + 1))) (rg_toInt (xs (i + 2))) (what := (xs (i + 3)).toInt) (rg_toInt (xs (i + 3))) (fun h1 h2 => ⟨hs0 _ (by omega), hs8 _ (by omega)⟩)) cw_L_115 (RML (by decide) (by decide) (by show (200 + 2 * i + 3) ≤ 612619; omega) (by show (2000 + 10 * i + 18) ≤ 7258246; omega)) (hc := rfl) 0 RW_o rfl rfl (Nat.le_of_ble_eq_true rfl) dL_law_836 (200 + 2 * i + 3) (2000 + 10 * i + 18) rfl rfl (fun z7 ws7 e7 => ?_)
    rcases e7 with ⟨hc7, rfl, rfl⟩ | ⟨hc7, rfl⟩
    · refine V_istore hx dL_law_839 [(6, .int (iZ _)), (5, .int (iZ 0)), (4, .int (iZ (i : Int))), (3, .ref o), (2, .ref (md 0)), (1, .ref (ad 0)), (0, .ref b)] (by decide) rfl ?_
      refine V_aload_n hx dL_law_841 4 rfl ?_
      refine V_callFi hx (z_thrown l R) cw_L_79 (RML (by decide) (by decide) (by show (200 + 2 * i + 3) ≤ 612619; omega) (by show (2000 + 10 * i + 18) ≤ 7258246; omega)) (hc := rfl) 0 RW_o rfl rfl (Nat.le_of_ble_eq_true rfl) dL_law_842 (200 + 2 * i + 3) (2000 + 10 * i + 18) rfl rfl (fun z8 ws8 e8 => ?_)
      obtain ⟨rfl, rfl⟩ := e8
      refine V_iload hx dL_law_845 1 rfl ?_
      refine V_icmp_eq hx dL_law_847 852 (by decide) ⟨by decide, by decide⟩ ⟨by decide, by decide⟩ (fun _ => ?_) (fun h9 => absurd rfl h9)
      refine V_iload hx dL_law_852 1 rfl ?_
      refine V_ws (ws' := (RW g md 0 Q 0 R ++ SW g ad P 0 T) ++ [(o, LJ cJ f5)]) (List.append_assoc _ _ _).symm ?_
      refine V_if_ne hx dL_law_854 869 (by decide) ⟨by decide, by decide⟩ (fun h9 => absurd rfl h9) (fun _ => ?_)
      refine V_aload_n hx dL_law_857 3 rfl ?_
      refine V_iconst hx dL_law_858 ?_
      refine V_lald2 hx hz dL_law_859 ?_
      refine V_iload hx dL_law_860 0 rfl ?_
      refine V_i2l hx dL_law_862 ?_
      refine V_lcmpE hx hf5 dL_law_863 ?_
      refine V_if_eq hx dL_law_864 869 (by decide) rg_0 (fun _ => ?_) (fun h9 => absurd rfl h9)
      refine V_goto hx dL_law_869 1288 (by decide) ?_
      refine V_perm (ws' := SW g ad P 0 T ++ ([(o, LJ cJ f5)] ++ RW g md 0 Q 0 R)) [] pm3 ?_
      have hii : ((i + 6 : Nat) : Int) = i + 6 := by omega
      have hwf : WF (T) (50 * ((i + 6 : Nat) : Int)) := by rw [hii]; exact wf_mono hw (by omega)
      refine V_widen (k' := 200 + 2 * i + 8) (n' := 2000 + 10 * i + 48) (by omega) (by omega) ?_
      exact V_sub [2, 3, 4, 5, 6] rfl (hB d9 _ hd ⟨P, Q, T, R, 0, f5, hwf, hr, hP, hQ, rfl⟩)
    · exfalso
      first | omega | grind
  · have he := he.2
    refine V_istore hx dL_law_815 [(5, .int (iZ 1)), (4, .int (iZ (i : Int))), (3, .ref o), (2, .ref (md 0)), (1, .ref (ad 0)), (0, .ref b)] (by decide) rfl ?_
    refine V_perm (ws' := RW g md h Q 0 R ++ (SW g ad P 0 T ++ [(o, LJ cJ f)])) [] pm2 ?_
    refine V_aload_n hx dL_law_817 3 rfl ?_
    refine V_aload_n hx dL_law_818 5 rfl ?_
    refine V_iload hx dL_law_819 1 rfl ?_
    refine V_iconst hx dL_law_821 ?_
    refine V_iadd hx dL_law_822 ?_
    refine V_sld hx hz (i + 1) (by omega) (by omega) (by omega) (by omega) dL_law_823 ?_
    refine V_aload_n hx dL_law_824 5 rfl ?_
    refine V_iload hx dL_law_825 1 rfl ?_
    refine V_iconst hx dL_law_827 ?_
    refine V_iadd hx dL_law_828 ?_
    refine V_sld hx hz (i + 2) (by omega) (by omega) (by omega) (by omega) dL_law_829 ?_
    refine V_aload_n hx dL_law_830 5 rfl ?_
    refine V_iload hx dL_law_831 1 rfl ?_
    refine V_iconst hx dL_law_833 ?_
    refine V_iadd hx dL_law_834 ?_
    refine V_sld hx hz (i + 3) (by omega) (by omega) (by omega) (by omega) dL_law_835 ?_
    refine V_callFi hx (z_step l R T hr hn1 hn8 hc0 hc6 hl0 hl9 (c := (xs (i + 1)).toInt) (d := (xs (i + 2)).toInt) (rg_toInt (xs (i + 1))) (rg_toInt (xs (i + 2))) (what := (xs (i + 3)).toInt) (rg_toInt (xs (i + 3))) (fun h1 h2 => ⟨hs0 _ (by omega), hs8 _ (by omega)⟩)) cw_L_115 (RML (by decide) (by decide) (by show (200 + 2 * i + 3) ≤ 612619; omega) (by show (2000 + 10 * i + 18) ≤ 7258246; omega)) (hc := rfl) 0 RW_o rfl rfl (Nat.le_of_ble_eq_true rfl) dL_law_836 (200 + 2 * i + 3) (2000 + 10 * i + 18) rfl rfl (fun z7 ws7 e7 => ?_)
    rcases e7 with ⟨hc7, rfl, rfl⟩ | ⟨hc7, rfl⟩
    · exfalso
      first | omega | grind
    · refine V_istore hx dL_law_839 [(6, .int (iZ _)), (5, .int (iZ 1)), (4, .int (iZ (i : Int))), (3, .ref o), (2, .ref (md 0)), (1, .ref (ad 0)), (0, .ref b)] (by decide) rfl ?_
      refine V_aload_n hx dL_law_841 4 rfl ?_
      refine V_callFi hx (z_thrown l R) cw_L_79 (RML (by decide) (by decide) (by show (200 + 2 * i + 3) ≤ 612619; omega) (by show (2000 + 10 * i + 18) ≤ 7258246; omega)) (hc := rfl) 0 RW_o rfl rfl (Nat.le_of_ble_eq_true rfl) dL_law_842 (200 + 2 * i + 3) (2000 + 10 * i + 18) rfl rfl (fun z8 ws8 e8 => ?_)
      obtain ⟨rfl, rfl⟩ := e8
      refine V_iload hx dL_law_845 1 rfl ?_
      refine V_icmp_eq hx dL_law_847 852 (by decide) ⟨by decide, by decide⟩ ⟨by decide, by decide⟩ (fun _ => ?_) (fun h9 => absurd rfl h9)
      refine V_iload hx dL_law_852 1 rfl ?_
      refine V_ws (ws' := (RW g md 1 Q 0 R ++ SW g ad P 0 T) ++ [(o, LJ cJ f)]) (List.append_assoc _ _ _).symm ?_
      refine V_if_ne hx dL_law_854 869 (by decide) ⟨by decide, by decide⟩ (fun _ => ?_) (fun h9 => absurd h9 (by decide))
      refine V_goto hx dL_law_869 1288 (by decide) ?_
      refine V_perm (ws' := SW g ad P 0 T ++ ([(o, LJ cJ f)] ++ RW g md 1 Q 0 R)) [] pm3 ?_
      have hii : ((i + 6 : Nat) : Int) = i + 6 := by omega
      have hwf : WF (T) (50 * ((i + 6 : Nat) : Int)) := by rw [hii]; exact wf_mono hw (by omega)
      refine V_widen (k' := 200 + 2 * i + 8) (n' := 2000 + 10 * i + 48) (by omega) (by omega) ?_
      exact V_sub [2, 3, 4, 5, 6] rfl (hB d9 _ hd ⟨P, Q, T, R, 1, f, hwf, hr, hP, hQ, rfl⟩)
set_option maxHeartbeats 4000000 in
set_option maxRecDepth 100000 in
theorem lc_closing {x0 : CT} {l : Launch} {g : GT} {cJ : ClassId} {b L : Nat} {xs : Nat → Int32} (hX : ∀ d, FX (XD x0 d) l room_1 g 9 cL_law RL) (hZ : ∀ d, FL2 (XD x0 d) cJ b L xs) (hst : l.stackTraces = false) {i : Nat} (hi : i + 6 ≤ L) (hL : L ≤ 3072) {ad md : Nat → Nat} {P Q : Nat → TS} {T R : TS} {h : Int} {f : Nat → Int64} (hw : WF T (50 * (i : Int))) (hr : REL R T) (hP : RG (P 1)) (hQ : RG (Q 1)) {d9 : Drawn} (hd : DRN x0 d9) {o : Nat} (hB : ∀ (d : Drawn) (ws : va_W), DRN x0 d → INV g cJ ad md o (i + 6) ws → V (XD x0 d) (200 + 2 * i + 8) (2000 + 10 * i + 48) ws 1288 [(4, .int (iZ (i : Int))), (3, .ref o), (2, .ref (md 0)), (1, .ref (ad 0)), (0, .ref b)] []) : V (XD x0 d9) (200 + 2 * i) (2000 + 10 * i) (SW g ad P 0 T ++ ([(o, LJ cJ f)] ++ RW g md h Q 0 R)) 872 [(4, .int (iZ (i : Int))), (3, .ref o), (2, .ref (md 0)), (1, .ref (ad 0)), (0, .ref b)] [] := by
  have hx := hX d9
  have hz := hZ d9
  have hSP := wf_shp hw (by omega)
  obtain ⟨-, ⟨hn1, hn8⟩, ⟨hc0, hc6⟩, ⟨hl0, hl8⟩, ham, hck⟩ := id hw
  have hl9 : T 0 2 < 2147483647 := by omega
  have hdn : ∀ c : Nat, (c : Int) < T 0 1 → T (7 + 8 * c) 2 = 0 ∨ T (7 + 8 * c) 2 = 1 := fun c hc => (hck c hc).2.2.1
  have hs8 : ∀ c : Nat, (c : Int) < T 0 1 → T (7 + 8 * c) 0 ≤ 8 := fun c hc => (hck c hc).1.2
  have hs0 : ∀ c : Nat, (c : Int) < T 0 1 → 0 ≤ T (7 + 8 * c) 0 := fun c hc => (hck c hc).1.1
  have hw8 : ∀ c : Nat, (c : Int) < T 0 1 → W8 T c := fun c hc => wf_w8 hw hc
  have hamm : ∀ d : Nat, d < 8 → -1 ≤ T 1 d ∧ T 1 d ≤ 9999 := fun d hd => by have := ham d hd; omega
  refine V_ws (ws' := (SW g ad P 0 T ++ [(o, LJ cJ f)]) ++ RW g md h Q 0 R) (List.append_assoc _ _ _).symm ?_
  refine V_aload_n hx dL_law_872 3 rfl ?_
  refine V_aload_n hx dL_law_873 4 rfl ?_
  refine V_iload hx dL_law_874 0 rfl ?_
  refine V_iconst hx dL_law_876 ?_
  refine V_iadd hx dL_law_877 ?_
  refine V_sld hx hz (i + 1) (by omega) (by omega) (by omega) (by omega) dL_law_878 ?_
  refine V_aload_n hx dL_law_879 4 rfl ?_
  refine V_iload hx dL_law_880 0 rfl ?_
  refine V_iconst hx dL_law_882 ?_
  refine V_iadd hx dL_law_883 ?_
  refine V_sld hx hz (i + 2) (by omega) (by omega) (by omega) (by omega) dL_law_884 ?_
  refine V_aload_n hx dL_law_885 1 rfl ?_
  refine V_callHF hx hz (h_closing l (f0 := f) SW_tillx (x_closing l hst (ad := ad) (P := P) T hSP (d := (xs (i + 1)).toInt) (rg_toInt (xs (i + 1))) (what := (xs (i + 2)).toInt) (rg_toInt (xs (i + 2)))) (fun E he => by first | exact he.1 | simp [he.1])) ch_closing (RML (by decide) (by decide) (by show (200 + 2 * i + 2) ≤ 612619; omega) (by show (2000 + 10 * i + 12) ≤ 7258246; omega)) rfl rfl (Nat.le_of_ble_eq_true rfl) dL_law_886 (200 + 2 * i + 2) (2000 + 10 * i + 12) rfl rfl (fun z5 ws5 e5 => ?_)
  rcases e5 with ⟨y5, ws6, ⟨hc, rfl, rfl⟩, rfl, f5, hf5, rfl⟩ | ⟨he, rfl, rfl⟩
  · refine V_istore hx dL_law_889 [(5, .int (iZ 0)), (4, .int (iZ (i : Int))), (3, .ref o), (2, .ref (md 0)), (1, .ref (ad 0)), (0, .ref b)] (by decide) rfl ?_
    refine V_perm (ws' := RW g md h Q 0 R ++ (SW g ad P 0 T ++ [(o, LJ cJ f5)])) [] pm2 ?_
    refine V_aload_n hx dL_law_891 3 rfl ?_
    refine V_aload_n hx dL_law_892 5 rfl ?_
    refine V_iload hx dL_law_893 1 rfl ?_
    refine V_iconst hx dL_law_895 ?_
    refine V_iadd hx dL_law_896 ?_
    refine V_sld hx hz (i + 1) (by omega) (by omega) (by omega) (by omega) dL_law_897 ?_
    refine V_aload_n hx dL_law_898 5 rfl ?_
    refine V_iload hx dL_law_899 1 rfl ?_
    refine V_iconst hx dL_law_901 ?_
    refine V_iadd hx dL_law_902 ?_
    refine V_sld hx hz (i + 2) (by omega) (by omega) (by omega) (by omega) dL_law_903 ?_
    refine V_callFi hx (z_closing l R T hr hn1 hn8 hc0 hc6 hl0 hl9 (d := (xs (i + 1)).toInt) (rg_toInt (xs (i + 1))) (what := (xs (i + 2)).toInt) (rg_toInt (xs (i + 2)))) cw_L_118 (RML (by decide) (by decide) (by show (200 + 2 * i + 2) ≤ 612619; omega) (by show (2000 + 10 * i + 12) ≤ 7258246; omega)) (hc := rfl) 0 RW_o rfl rfl (Nat.le_of_ble_eq_true rfl) dL_law_904 (200 + 2 * i + 2) (2000 + 10 * i + 12) rfl rfl (fun z7 ws7 e7 => ?_)
    rcases e7 with ⟨hc7, rfl, rfl⟩ | ⟨hc7, rfl⟩
    · refine V_istore hx dL_law_907 [(6, .int (iZ _)), (5, .int (iZ 0)), (4, .int (iZ (i : Int))), (3, .ref o), (2, .ref (md 0)), (1, .ref (ad 0)), (0, .ref b)] (by decide) rfl ?_
      refine V_aload_n hx dL_law_909 4 rfl ?_
      refine V_callFi hx (z_thrown l R) cw_L_79 (RML (by decide) (by decide) (by show (200 + 2 * i + 2) ≤ 612619; omega) (by show (2000 + 10 * i + 12) ≤ 7258246; omega)) (hc := rfl) 0 RW_o rfl rfl (Nat.le_of_ble_eq_true rfl) dL_law_910 (200 + 2 * i + 2) (2000 + 10 * i + 12) rfl rfl (fun z8 ws8 e8 => ?_)
      obtain ⟨rfl, rfl⟩ := e8
      refine V_iload hx dL_law_913 1 rfl ?_
      refine V_icmp_eq hx dL_law_915 920 (by decide) ⟨by decide, by decide⟩ ⟨by decide, by decide⟩ (fun _ => ?_) (fun h9 => absurd rfl h9)
      refine V_iload hx dL_law_920 1 rfl ?_
      refine V_ws (ws' := (RW g md 0 Q 0 R ++ SW g ad P 0 T) ++ [(o, LJ cJ f5)]) (List.append_assoc _ _ _).symm ?_
      refine V_if_ne hx dL_law_922 937 (by decide) ⟨by decide, by decide⟩ (fun h9 => absurd rfl h9) (fun _ => ?_)
      refine V_aload_n hx dL_law_925 3 rfl ?_
      refine V_iconst hx dL_law_926 ?_
      refine V_lald2 hx hz dL_law_927 ?_
      refine V_iload hx dL_law_928 0 rfl ?_
      refine V_i2l hx dL_law_930 ?_
      refine V_lcmpE hx hf5 dL_law_931 ?_
      refine V_if_eq hx dL_law_932 937 (by decide) rg_0 (fun _ => ?_) (fun h9 => absurd rfl h9)
      refine V_goto hx dL_law_937 1288 (by decide) ?_
      refine V_perm (ws' := SW g ad P 0 T ++ ([(o, LJ cJ f5)] ++ RW g md 0 Q 0 R)) [] pm3 ?_
      have hii : ((i + 6 : Nat) : Int) = i + 6 := by omega
      have hwf : WF (T) (50 * ((i + 6 : Nat) : Int)) := by rw [hii]; exact wf_mono hw (by omega)
      refine V_widen (k' := 200 + 2 * i + 8) (n' := 2000 + 10 * i + 48) (by omega) (by omega) ?_
      exact V_sub [2, 3, 4, 5, 6] rfl (hB d9 _ hd ⟨P, Q, T, R, 0, f5, hwf, hr, hP, hQ, rfl⟩)
    · exfalso
      first | omega | grind
  · have he := he.2
    refine V_istore hx dL_law_889 [(5, .int (iZ 1)), (4, .int (iZ (i : Int))), (3, .ref o), (2, .ref (md 0)), (1, .ref (ad 0)), (0, .ref b)] (by decide) rfl ?_
    refine V_perm (ws' := RW g md h Q 0 R ++ (SW g ad P 0 T ++ [(o, LJ cJ f)])) [] pm2 ?_
    refine V_aload_n hx dL_law_891 3 rfl ?_
    refine V_aload_n hx dL_law_892 5 rfl ?_
    refine V_iload hx dL_law_893 1 rfl ?_
    refine V_iconst hx dL_law_895 ?_
    refine V_iadd hx dL_law_896 ?_
    refine V_sld hx hz (i + 1) (by omega) (by omega) (by omega) (by omega) dL_law_897 ?_
    refine V_aload_n hx dL_law_898 5 rfl ?_
    refine V_iload hx dL_law_899 1 rfl ?_
    refine V_iconst hx dL_law_901 ?_
    refine V_iadd hx dL_law_902 ?_
    refine V_sld hx hz (i + 2) (by omega) (by omega) (by omega) (by omega) dL_law_903 ?_
    refine V_callFi hx (z_closing l R T hr hn1 hn8 hc0 hc6 hl0 hl9 (d := (xs (i + 1)).toInt) (rg_toInt (xs (i + 1))) (what := (xs (i + 2)).toInt) (rg_toInt (xs (i + 2)))) cw_L_118 (RML (by decide) (by decide) (by show (200 + 2 * i + 2) ≤ 612619; omega) (by show (2000 + 10 * i + 12) ≤ 7258246; omega)) (hc := rfl) 0 RW_o rfl rfl (Nat.le_of_ble_eq_true rfl) dL_law_904 (200 + 2 * i + 2) (2000 + 10 * i + 12) rfl rfl (fun z7 ws7 e7 => ?_)
    rcases e7 with ⟨hc7, rfl, rfl⟩ | ⟨hc7, rfl⟩
    · exfalso
      first | omega | grind
    · refine V_istore hx dL_law_907 [(6, .int (iZ _)), (5, .int (iZ 1)), (4, .int (iZ (i : Int))), (3, .ref o), (2, .ref (md 0)), (1, .ref (ad 0)), (0, .ref b)] (by decide) rfl ?_
      refine V_aload_n hx dL_law_909 4 rfl ?_
      refine V_callFi hx (z_thrown l R) cw_L_79 (RML (by decide) (by decide) (by show (200 + 2 * i + 2) ≤ 612619; omega) (by show (2000 + 10 * i + 12) ≤ 7258246; omega)) (hc := rfl) 0 RW_o rfl rfl (Nat.le_of_ble_eq_true rfl) dL_law_910 (200 + 2 * i + 2) (2000 + 10 * i + 12) rfl rfl (fun z8 ws8 e8 => ?_)
      obtain ⟨rfl, rfl⟩ := e8
      refine V_iload hx dL_law_913 1 rfl ?_
      refine V_icmp_eq hx dL_law_915 920 (by decide) ⟨by decide, by decide⟩ ⟨by decide, by decide⟩ (fun _ => ?_) (fun h9 => absurd rfl h9)
      refine V_iload hx dL_law_920 1 rfl ?_
      refine V_ws (ws' := (RW g md 1 Q 0 R ++ SW g ad P 0 T) ++ [(o, LJ cJ f)]) (List.append_assoc _ _ _).symm ?_
      refine V_if_ne hx dL_law_922 937 (by decide) ⟨by decide, by decide⟩ (fun _ => ?_) (fun h9 => absurd h9 (by decide))
      refine V_goto hx dL_law_937 1288 (by decide) ?_
      refine V_perm (ws' := SW g ad P 0 T ++ ([(o, LJ cJ f)] ++ RW g md 1 Q 0 R)) [] pm3 ?_
      have hii : ((i + 6 : Nat) : Int) = i + 6 := by omega
      have hwf : WF (T) (50 * ((i + 6 : Nat) : Int)) := by rw [hii]; exact wf_mono hw (by omega)
      refine V_widen (k' := 200 + 2 * i + 8) (n' := 2000 + 10 * i + 48) (by omega) (by omega) ?_
      exact V_sub [2, 3, 4, 5, 6] rfl (hB d9 _ hd ⟨P, Q, T, R, 1, f, hwf, hr, hP, hQ, rfl⟩)
set_option maxHeartbeats 4000000 in
set_option maxRecDepth 100000 in
theorem lc_clash {x0 : CT} {l : Launch} {g : GT} {cJ : ClassId} {b L : Nat} {xs : Nat → Int32} (hX : ∀ d, FX (XD x0 d) l room_1 g 9 cL_law RL) (hZ : ∀ d, FL2 (XD x0 d) cJ b L xs) (hst : l.stackTraces = false) {i : Nat} (hi : i + 6 ≤ L) (hL : L ≤ 3072) {ad md : Nat → Nat} {P Q : Nat → TS} {T R : TS} {h : Int} {f : Nat → Int64} (hw : WF T (50 * (i : Int))) (hr : REL R T) (hP : RG (P 1)) (hQ : RG (Q 1)) {d9 : Drawn} (hd : DRN x0 d9) {o : Nat} (hB : ∀ (d : Drawn) (ws : va_W), DRN x0 d → INV g cJ ad md o (i + 6) ws → V (XD x0 d) (200 + 2 * i + 8) (2000 + 10 * i + 48) ws 1288 [(4, .int (iZ (i : Int))), (3, .ref o), (2, .ref (md 0)), (1, .ref (ad 0)), (0, .ref b)] []) : V (XD x0 d9) (200 + 2 * i) (2000 + 10 * i) (SW g ad P 0 T ++ ([(o, LJ cJ f)] ++ RW g md h Q 0 R)) 940 [(4, .int (iZ (i : Int))), (3, .ref o), (2, .ref (md 0)), (1, .ref (ad 0)), (0, .ref b)] [] := by
  have hx := hX d9
  have hz := hZ d9
  have hSP := wf_shp hw (by omega)
  obtain ⟨-, ⟨hn1, hn8⟩, ⟨hc0, hc6⟩, ⟨hl0, hl8⟩, ham, hck⟩ := id hw
  have hl9 : T 0 2 < 2147483647 := by omega
  have hdn : ∀ c : Nat, (c : Int) < T 0 1 → T (7 + 8 * c) 2 = 0 ∨ T (7 + 8 * c) 2 = 1 := fun c hc => (hck c hc).2.2.1
  have hs8 : ∀ c : Nat, (c : Int) < T 0 1 → T (7 + 8 * c) 0 ≤ 8 := fun c hc => (hck c hc).1.2
  have hs0 : ∀ c : Nat, (c : Int) < T 0 1 → 0 ≤ T (7 + 8 * c) 0 := fun c hc => (hck c hc).1.1
  have hw8 : ∀ c : Nat, (c : Int) < T 0 1 → W8 T c := fun c hc => wf_w8 hw hc
  have hamm : ∀ d : Nat, d < 8 → -1 ≤ T 1 d ∧ T 1 d ≤ 9999 := fun d hd => by have := ham d hd; omega
  refine V_ws (ws' := (SW g ad P 0 T ++ [(o, LJ cJ f)]) ++ RW g md h Q 0 R) (List.append_assoc _ _ _).symm ?_
  refine V_aload_n hx dL_law_940 3 rfl ?_
  refine V_aload_n hx dL_law_941 4 rfl ?_
  refine V_iload hx dL_law_942 0 rfl ?_
  refine V_iconst hx dL_law_944 ?_
  refine V_iadd hx dL_law_945 ?_
  refine V_sld hx hz (i + 1) (by omega) (by omega) (by omega) (by omega) dL_law_946 ?_
  refine V_aload_n hx dL_law_947 4 rfl ?_
  refine V_iload hx dL_law_948 0 rfl ?_
  refine V_iconst hx dL_law_950 ?_
  refine V_iadd hx dL_law_951 ?_
  refine V_sld hx hz (i + 2) (by omega) (by omega) (by omega) (by omega) dL_law_952 ?_
  refine V_aload_n hx dL_law_953 1 rfl ?_
  refine V_callHF hx hz (h_clash l (f0 := f) SW_tillx (fun y ws hp => by rw [hp.2.1]; exact bz_01 _) (x_clash l hst (ad := ad) (P := P) T hSP (c := (xs (i + 1)).toInt) (d := (xs (i + 2)).toInt) (rg_toInt (xs (i + 1))) (rg_toInt (xs (i + 2)))) (fun E he => by first | exact he.1 | simp [he.1])) ch_clash (RML (by decide) (by decide) (by show (200 + 2 * i + 2) ≤ 612619; omega) (by show (2000 + 10 * i + 12) ≤ 7258246; omega)) rfl rfl (Nat.le_of_ble_eq_true rfl) dL_law_954 (200 + 2 * i + 2) (2000 + 10 * i + 12) rfl rfl (fun z5 ws5 e5 => ?_)
  rcases e5 with ⟨y5, ws6, ⟨hc, rfl, rfl⟩, rfl, f5, hf5, rfl⟩ | ⟨he, rfl, rfl⟩
  · refine V_istore hx dL_law_957 [(5, .int (iZ 0)), (4, .int (iZ (i : Int))), (3, .ref o), (2, .ref (md 0)), (1, .ref (ad 0)), (0, .ref b)] (by decide) rfl ?_
    refine V_perm (ws' := RW g md h Q 0 R ++ (SW g ad P 0 T ++ [(o, LJ cJ f5)])) [] pm2 ?_
    refine V_aload_n hx dL_law_959 3 rfl ?_
    refine V_aload_n hx dL_law_960 5 rfl ?_
    refine V_iload hx dL_law_961 1 rfl ?_
    refine V_iconst hx dL_law_963 ?_
    refine V_iadd hx dL_law_964 ?_
    refine V_sld hx hz (i + 1) (by omega) (by omega) (by omega) (by omega) dL_law_965 ?_
    refine V_aload_n hx dL_law_966 5 rfl ?_
    refine V_iload hx dL_law_967 1 rfl ?_
    refine V_iconst hx dL_law_969 ?_
    refine V_iadd hx dL_law_970 ?_
    refine V_sld hx hz (i + 2) (by omega) (by omega) (by omega) (by omega) dL_law_971 ?_
    refine V_callFi hx (z_clash l R T hr hn1 hn8 hc0 hc6 hdn (c := (xs (i + 1)).toInt) (d := (xs (i + 2)).toInt) (rg_toInt (xs (i + 1))) (rg_toInt (xs (i + 2)))) cw_L_121 (RML (by decide) (by decide) (by show (200 + 2 * i + 2) ≤ 612619; omega) (by show (2000 + 10 * i + 12) ≤ 7258246; omega)) (hc := rfl) 0 RW_o rfl rfl (Nat.le_of_ble_eq_true rfl) dL_law_972 (200 + 2 * i + 2) (2000 + 10 * i + 12) rfl rfl (fun z7 ws7 e7 => ?_)
    rcases e7 with ⟨hc7, rfl, rfl⟩ | ⟨hc7, rfl⟩
    · refine V_istore hx dL_law_975 [(6, .int (iZ _)), (5, .int (iZ 0)), (4, .int (iZ (i : Int))), (3, .ref o), (2, .ref (md 0)), (1, .ref (ad 0)), (0, .ref b)] (by decide) rfl ?_
      refine V_aload_n hx dL_law_977 4 rfl ?_
      refine V_callFi hx (z_thrown l R) cw_L_79 (RML (by decide) (by decide) (by show (200 + 2 * i + 2) ≤ 612619; omega) (by show (2000 + 10 * i + 12) ≤ 7258246; omega)) (hc := rfl) 0 RW_o rfl rfl (Nat.le_of_ble_eq_true rfl) dL_law_978 (200 + 2 * i + 2) (2000 + 10 * i + 12) rfl rfl (fun z8 ws8 e8 => ?_)
      obtain ⟨rfl, rfl⟩ := e8
      refine V_iload hx dL_law_981 1 rfl ?_
      refine V_icmp_eq hx dL_law_983 988 (by decide) ⟨by decide, by decide⟩ ⟨by decide, by decide⟩ (fun _ => ?_) (fun h9 => absurd rfl h9)
      refine V_iload hx dL_law_988 1 rfl ?_
      refine V_ws (ws' := (RW g md 0 Q 0 R ++ SW g ad P 0 T) ++ [(o, LJ cJ f5)]) (List.append_assoc _ _ _).symm ?_
      refine V_if_ne hx dL_law_990 1012 (by decide) ⟨by decide, by decide⟩ (fun h9 => absurd rfl h9) (fun _ => ?_)
      refine V_aload_n hx dL_law_993 3 rfl ?_
      refine V_iconst hx dL_law_994 ?_
      refine V_lald2 hx hz dL_law_995 ?_
      refine V_iload hx dL_law_996 0 rfl ?_
      refine V_ifb_eq hx dL_law_998 1005 (by decide) (fun h9 => ?_) (fun h9 => ?_)
      · refine V_lconst hx dL_law_1005 (v := (iZ 0).toInt64) rfl ?_
        refine V_lcmpE hx (hf5.trans (by rw [bz_f h9])) dL_law_1006 ?_
        refine V_if_eq hx dL_law_1007 1012 (by decide) rg_0 (fun _ => ?_) (fun h9 => absurd rfl h9)
        refine V_goto hx dL_law_1012 1288 (by decide) ?_
        refine V_perm (ws' := SW g ad P 0 T ++ ([(o, LJ cJ f5)] ++ RW g md 0 Q 0 R)) [] pm3 ?_
        have hii : ((i + 6 : Nat) : Int) = i + 6 := by omega
        have hwf : WF (T) (50 * ((i + 6 : Nat) : Int)) := by rw [hii]; exact wf_mono hw (by omega)
        refine V_widen (k' := 200 + 2 * i + 8) (n' := 2000 + 10 * i + 48) (by omega) (by omega) ?_
        exact V_sub [2, 3, 4, 5, 6] rfl (hB d9 _ hd ⟨P, Q, T, R, 0, f5, hwf, hr, hP, hQ, rfl⟩)
      · refine V_lconst hx dL_law_1001 (v := (iZ 1).toInt64) rfl ?_
        refine V_goto hx dL_law_1002 1006 (by decide) ?_
        refine V_lcmpE hx (hf5.trans (by rw [bz_t h9])) dL_law_1006 ?_
        refine V_if_eq hx dL_law_1007 1012 (by decide) rg_0 (fun _ => ?_) (fun h9 => absurd rfl h9)
        refine V_goto hx dL_law_1012 1288 (by decide) ?_
        refine V_perm (ws' := SW g ad P 0 T ++ ([(o, LJ cJ f5)] ++ RW g md 0 Q 0 R)) [] pm3 ?_
        have hii : ((i + 6 : Nat) : Int) = i + 6 := by omega
        have hwf : WF (T) (50 * ((i + 6 : Nat) : Int)) := by rw [hii]; exact wf_mono hw (by omega)
        refine V_widen (k' := 200 + 2 * i + 8) (n' := 2000 + 10 * i + 48) (by omega) (by omega) ?_
        exact V_sub [2, 3, 4, 5, 6] rfl (hB d9 _ hd ⟨P, Q, T, R, 0, f5, hwf, hr, hP, hQ, rfl⟩)
    · exfalso
      first | omega | grind
  · have he := he.2
    refine V_istore hx dL_law_957 [(5, .int (iZ 1)), (4, .int (iZ (i : Int))), (3, .ref o), (2, .ref (md 0)), (1, .ref (ad 0)), (0, .ref b)] (by decide) rfl ?_
    refine V_perm (ws' := RW g md h Q 0 R ++ (SW g ad P 0 T ++ [(o, LJ cJ f)])) [] pm2 ?_
    refine V_aload_n hx dL_law_959 3 rfl ?_
    refine V_aload_n hx dL_law_960 5 rfl ?_
    refine V_iload hx dL_law_961 1 rfl ?_
    refine V_iconst hx dL_law_963 ?_
    refine V_iadd hx dL_law_964 ?_
    refine V_sld hx hz (i + 1) (by omega) (by omega) (by omega) (by omega) dL_law_965 ?_
    refine V_aload_n hx dL_law_966 5 rfl ?_
    refine V_iload hx dL_law_967 1 rfl ?_
    refine V_iconst hx dL_law_969 ?_
    refine V_iadd hx dL_law_970 ?_
    refine V_sld hx hz (i + 2) (by omega) (by omega) (by omega) (by omega) dL_law_971 ?_
    refine V_callFi hx (z_clash l R T hr hn1 hn8 hc0 hc6 hdn (c := (xs (i + 1)).toInt) (d := (xs (i + 2)).toInt) (rg_toInt (xs (i + 1))) (rg_toInt (xs (i + 2)))) cw_L_121 (RML (by decide) (by decide) (by show (200 + 2 * i + 2) ≤ 612619; omega) (by show (2000 + 10 * i + 12) ≤ 7258246; omega)) (hc := rfl) 0 RW_o rfl rfl (Nat.le_of_ble_eq_true rfl) dL_law_972 (200 + 2 * i + 2) (2000 + 10 * i + 12) rfl rfl (fun z7 ws7 e7 => ?_)
    rcases e7 with ⟨hc7, rfl, rfl⟩ | ⟨hc7, rfl⟩
    · exfalso
      first | omega | grind
    · refine V_istore hx dL_law_975 [(6, .int (iZ _)), (5, .int (iZ 1)), (4, .int (iZ (i : Int))), (3, .ref o), (2, .ref (md 0)), (1, .ref (ad 0)), (0, .ref b)] (by decide) rfl ?_
      refine V_aload_n hx dL_law_977 4 rfl ?_
      refine V_callFi hx (z_thrown l R) cw_L_79 (RML (by decide) (by decide) (by show (200 + 2 * i + 2) ≤ 612619; omega) (by show (2000 + 10 * i + 12) ≤ 7258246; omega)) (hc := rfl) 0 RW_o rfl rfl (Nat.le_of_ble_eq_true rfl) dL_law_978 (200 + 2 * i + 2) (2000 + 10 * i + 12) rfl rfl (fun z8 ws8 e8 => ?_)
      obtain ⟨rfl, rfl⟩ := e8
      refine V_iload hx dL_law_981 1 rfl ?_
      refine V_icmp_eq hx dL_law_983 988 (by decide) ⟨by decide, by decide⟩ ⟨by decide, by decide⟩ (fun _ => ?_) (fun h9 => absurd rfl h9)
      refine V_iload hx dL_law_988 1 rfl ?_
      refine V_ws (ws' := (RW g md 1 Q 0 R ++ SW g ad P 0 T) ++ [(o, LJ cJ f)]) (List.append_assoc _ _ _).symm ?_
      refine V_if_ne hx dL_law_990 1012 (by decide) ⟨by decide, by decide⟩ (fun _ => ?_) (fun h9 => absurd h9 (by decide))
      refine V_goto hx dL_law_1012 1288 (by decide) ?_
      refine V_perm (ws' := SW g ad P 0 T ++ ([(o, LJ cJ f)] ++ RW g md 1 Q 0 R)) [] pm3 ?_
      have hii : ((i + 6 : Nat) : Int) = i + 6 := by omega
      have hwf : WF (T) (50 * ((i + 6 : Nat) : Int)) := by rw [hii]; exact wf_mono hw (by omega)
      refine V_widen (k' := 200 + 2 * i + 8) (n' := 2000 + 10 * i + 48) (by omega) (by omega) ?_
      exact V_sub [2, 3, 4, 5, 6] rfl (hB d9 _ hd ⟨P, Q, T, R, 1, f, hwf, hr, hP, hQ, rfl⟩)
set_option maxHeartbeats 4000000 in
set_option maxRecDepth 100000 in
theorem lc_count {x0 : CT} {l : Launch} {g : GT} {cJ : ClassId} {b L : Nat} {xs : Nat → Int32} (hX : ∀ d, FX (XD x0 d) l room_1 g 9 cL_law RL) (hZ : ∀ d, FL2 (XD x0 d) cJ b L xs) (hst : l.stackTraces = false) {i : Nat} (hi : i + 6 ≤ L) (hL : L ≤ 3072) {ad md : Nat → Nat} {P Q : Nat → TS} {T R : TS} {h : Int} {f : Nat → Int64} (hw : WF T (50 * (i : Int))) (hr : REL R T) (hP : RG (P 1)) (hQ : RG (Q 1)) {d9 : Drawn} (hd : DRN x0 d9) {o : Nat} (hB : ∀ (d : Drawn) (ws : va_W), DRN x0 d → INV g cJ ad md o (i + 6) ws → V (XD x0 d) (200 + 2 * i + 8) (2000 + 10 * i + 48) ws 1288 [(4, .int (iZ (i : Int))), (3, .ref o), (2, .ref (md 0)), (1, .ref (ad 0)), (0, .ref b)] []) : V (XD x0 d9) (200 + 2 * i) (2000 + 10 * i) (SW g ad P 0 T ++ ([(o, LJ cJ f)] ++ RW g md h Q 0 R)) 1015 [(4, .int (iZ (i : Int))), (3, .ref o), (2, .ref (md 0)), (1, .ref (ad 0)), (0, .ref b)] [] := by
  have hx := hX d9
  have hz := hZ d9
  have hSP := wf_shp hw (by omega)
  obtain ⟨-, ⟨hn1, hn8⟩, ⟨hc0, hc6⟩, ⟨hl0, hl8⟩, ham, hck⟩ := id hw
  have hl9 : T 0 2 < 2147483647 := by omega
  have hdn : ∀ c : Nat, (c : Int) < T 0 1 → T (7 + 8 * c) 2 = 0 ∨ T (7 + 8 * c) 2 = 1 := fun c hc => (hck c hc).2.2.1
  have hs8 : ∀ c : Nat, (c : Int) < T 0 1 → T (7 + 8 * c) 0 ≤ 8 := fun c hc => (hck c hc).1.2
  have hs0 : ∀ c : Nat, (c : Int) < T 0 1 → 0 ≤ T (7 + 8 * c) 0 := fun c hc => (hck c hc).1.1
  have hw8 : ∀ c : Nat, (c : Int) < T 0 1 → W8 T c := fun c hc => wf_w8 hw hc
  have hamm : ∀ d : Nat, d < 8 → -1 ≤ T 1 d ∧ T 1 d ≤ 9999 := fun d hd => by have := ham d hd; omega
  refine V_ws (ws' := (SW g ad P 0 T ++ [(o, LJ cJ f)]) ++ RW g md h Q 0 R) (List.append_assoc _ _ _).symm ?_
  refine V_aload_n hx dL_law_1015 3 rfl ?_
  refine V_aload_n hx dL_law_1016 4 rfl ?_
  refine V_iload hx dL_law_1017 0 rfl ?_
  refine V_iconst hx dL_law_1019 ?_
  refine V_iadd hx dL_law_1020 ?_
  refine V_sld hx hz (i + 1) (by omega) (by omega) (by omega) (by omega) dL_law_1021 ?_
  refine V_aload_n hx dL_law_1022 1 rfl ?_
  refine V_callHF hx hz (h_count l (f0 := f) SW_tillx (x_count l hst (ad := ad) (P := P) T hSP (what := (xs (i + 1)).toInt) (rg_toInt (xs (i + 1)))) (fun E he => by first | exact he.1 | simp [he.1])) ch_count (RML (by decide) (by decide) (by show (200 + 2 * i + 1) ≤ 612619; omega) (by show (2000 + 10 * i + 6) ≤ 7258246; omega)) rfl rfl (Nat.le_of_ble_eq_true rfl) dL_law_1023 (200 + 2 * i + 1) (2000 + 10 * i + 6) rfl rfl (fun z5 ws5 e5 => ?_)
  rcases e5 with ⟨y5, ws6, ⟨hc, rfl, rfl⟩, rfl, f5, hf5, rfl⟩ | ⟨he, rfl, rfl⟩
  · refine V_istore hx dL_law_1026 [(5, .int (iZ 0)), (4, .int (iZ (i : Int))), (3, .ref o), (2, .ref (md 0)), (1, .ref (ad 0)), (0, .ref b)] (by decide) rfl ?_
    refine V_perm (ws' := RW g md h Q 0 R ++ (SW g ad P 0 T ++ [(o, LJ cJ f5)])) [] pm2 ?_
    refine V_aload_n hx dL_law_1028 3 rfl ?_
    refine V_aload_n hx dL_law_1029 5 rfl ?_
    refine V_iload hx dL_law_1030 1 rfl ?_
    refine V_iconst hx dL_law_1032 ?_
    refine V_iadd hx dL_law_1033 ?_
    refine V_sld hx hz (i + 1) (by omega) (by omega) (by omega) (by omega) dL_law_1034 ?_
    refine V_callFi hx (z_count l R T hr hn1 hn8 hc0 hc6 hl0 hl9 hdn (what := (xs (i + 1)).toInt) (rg_toInt (xs (i + 1)))) cw_L_124 (RML (by decide) (by decide) (by show (200 + 2 * i + 1) ≤ 612619; omega) (by show (2000 + 10 * i + 6) ≤ 7258246; omega)) (hc := rfl) 0 RW_o rfl rfl (Nat.le_of_ble_eq_true rfl) dL_law_1035 (200 + 2 * i + 1) (2000 + 10 * i + 6) rfl rfl (fun z7 ws7 e7 => ?_)
    rcases e7 with ⟨hc7, rfl, rfl⟩ | ⟨hc7, rfl⟩
    · refine V_istore hx dL_law_1038 [(6, .int (iZ _)), (5, .int (iZ 0)), (4, .int (iZ (i : Int))), (3, .ref o), (2, .ref (md 0)), (1, .ref (ad 0)), (0, .ref b)] (by decide) rfl ?_
      refine V_aload_n hx dL_law_1040 4 rfl ?_
      refine V_callFi hx (z_thrown l R) cw_L_79 (RML (by decide) (by decide) (by show (200 + 2 * i + 1) ≤ 612619; omega) (by show (2000 + 10 * i + 6) ≤ 7258246; omega)) (hc := rfl) 0 RW_o rfl rfl (Nat.le_of_ble_eq_true rfl) dL_law_1041 (200 + 2 * i + 1) (2000 + 10 * i + 6) rfl rfl (fun z8 ws8 e8 => ?_)
      obtain ⟨rfl, rfl⟩ := e8
      refine V_iload hx dL_law_1044 1 rfl ?_
      refine V_icmp_eq hx dL_law_1046 1051 (by decide) ⟨by decide, by decide⟩ ⟨by decide, by decide⟩ (fun _ => ?_) (fun h9 => absurd rfl h9)
      refine V_iload hx dL_law_1051 1 rfl ?_
      refine V_ws (ws' := (RW g md 0 Q 0 R ++ SW g ad P 0 T) ++ [(o, LJ cJ f5)]) (List.append_assoc _ _ _).symm ?_
      refine V_if_ne hx dL_law_1053 1068 (by decide) ⟨by decide, by decide⟩ (fun h9 => absurd rfl h9) (fun _ => ?_)
      refine V_aload_n hx dL_law_1056 3 rfl ?_
      refine V_iconst hx dL_law_1057 ?_
      refine V_lald2 hx hz dL_law_1058 ?_
      refine V_iload hx dL_law_1059 0 rfl ?_
      refine V_i2l hx dL_law_1061 ?_
      refine V_lcmpE hx hf5 dL_law_1062 ?_
      refine V_if_eq hx dL_law_1063 1068 (by decide) rg_0 (fun _ => ?_) (fun h9 => absurd rfl h9)
      refine V_goto hx dL_law_1068 1288 (by decide) ?_
      refine V_perm (ws' := SW g ad P 0 T ++ ([(o, LJ cJ f5)] ++ RW g md 0 Q 0 R)) [] pm3 ?_
      have hii : ((i + 6 : Nat) : Int) = i + 6 := by omega
      have hwf : WF (T) (50 * ((i + 6 : Nat) : Int)) := by rw [hii]; exact wf_mono hw (by omega)
      refine V_widen (k' := 200 + 2 * i + 8) (n' := 2000 + 10 * i + 48) (by omega) (by omega) ?_
      exact V_sub [2, 3, 4, 5, 6] rfl (hB d9 _ hd ⟨P, Q, T, R, 0, f5, hwf, hr, hP, hQ, rfl⟩)
    · exfalso
      first | omega | grind
  · have he := he.2
    refine V_istore hx dL_law_1026 [(5, .int (iZ 1)), (4, .int (iZ (i : Int))), (3, .ref o), (2, .ref (md 0)), (1, .ref (ad 0)), (0, .ref b)] (by decide) rfl ?_
    refine V_perm (ws' := RW g md h Q 0 R ++ (SW g ad P 0 T ++ [(o, LJ cJ f)])) [] pm2 ?_
    refine V_aload_n hx dL_law_1028 3 rfl ?_
    refine V_aload_n hx dL_law_1029 5 rfl ?_
    refine V_iload hx dL_law_1030 1 rfl ?_
    refine V_iconst hx dL_law_1032 ?_
    refine V_iadd hx dL_law_1033 ?_
    refine V_sld hx hz (i + 1) (by omega) (by omega) (by omega) (by omega) dL_law_1034 ?_
    refine V_callFi hx (z_count l R T hr hn1 hn8 hc0 hc6 hl0 hl9 hdn (what := (xs (i + 1)).toInt) (rg_toInt (xs (i + 1)))) cw_L_124 (RML (by decide) (by decide) (by show (200 + 2 * i + 1) ≤ 612619; omega) (by show (2000 + 10 * i + 6) ≤ 7258246; omega)) (hc := rfl) 0 RW_o rfl rfl (Nat.le_of_ble_eq_true rfl) dL_law_1035 (200 + 2 * i + 1) (2000 + 10 * i + 6) rfl rfl (fun z7 ws7 e7 => ?_)
    rcases e7 with ⟨hc7, rfl, rfl⟩ | ⟨hc7, rfl⟩
    · exfalso
      first | omega | grind
    · refine V_istore hx dL_law_1038 [(6, .int (iZ _)), (5, .int (iZ 1)), (4, .int (iZ (i : Int))), (3, .ref o), (2, .ref (md 0)), (1, .ref (ad 0)), (0, .ref b)] (by decide) rfl ?_
      refine V_aload_n hx dL_law_1040 4 rfl ?_
      refine V_callFi hx (z_thrown l R) cw_L_79 (RML (by decide) (by decide) (by show (200 + 2 * i + 1) ≤ 612619; omega) (by show (2000 + 10 * i + 6) ≤ 7258246; omega)) (hc := rfl) 0 RW_o rfl rfl (Nat.le_of_ble_eq_true rfl) dL_law_1041 (200 + 2 * i + 1) (2000 + 10 * i + 6) rfl rfl (fun z8 ws8 e8 => ?_)
      obtain ⟨rfl, rfl⟩ := e8
      refine V_iload hx dL_law_1044 1 rfl ?_
      refine V_icmp_eq hx dL_law_1046 1051 (by decide) ⟨by decide, by decide⟩ ⟨by decide, by decide⟩ (fun _ => ?_) (fun h9 => absurd rfl h9)
      refine V_iload hx dL_law_1051 1 rfl ?_
      refine V_ws (ws' := (RW g md 1 Q 0 R ++ SW g ad P 0 T) ++ [(o, LJ cJ f)]) (List.append_assoc _ _ _).symm ?_
      refine V_if_ne hx dL_law_1053 1068 (by decide) ⟨by decide, by decide⟩ (fun _ => ?_) (fun h9 => absurd h9 (by decide))
      refine V_goto hx dL_law_1068 1288 (by decide) ?_
      refine V_perm (ws' := SW g ad P 0 T ++ ([(o, LJ cJ f)] ++ RW g md 1 Q 0 R)) [] pm3 ?_
      have hii : ((i + 6 : Nat) : Int) = i + 6 := by omega
      have hwf : WF (T) (50 * ((i + 6 : Nat) : Int)) := by rw [hii]; exact wf_mono hw (by omega)
      refine V_widen (k' := 200 + 2 * i + 8) (n' := 2000 + 10 * i + 48) (by omega) (by omega) ?_
      exact V_sub [2, 3, 4, 5, 6] rfl (hB d9 _ hd ⟨P, Q, T, R, 1, f, hwf, hr, hP, hQ, rfl⟩)
set_option maxHeartbeats 4000000 in
set_option maxRecDepth 100000 in
theorem lc_alone {x0 : CT} {l : Launch} {g : GT} {cJ : ClassId} {b L : Nat} {xs : Nat → Int32} (hX : ∀ d, FX (XD x0 d) l room_1 g 9 cL_law RL) (hZ : ∀ d, FL2 (XD x0 d) cJ b L xs) (hst : l.stackTraces = false) {i : Nat} (hi : i + 6 ≤ L) (hL : L ≤ 3072) {ad md : Nat → Nat} {P Q : Nat → TS} {T R : TS} {h : Int} {f : Nat → Int64} (hw : WF T (50 * (i : Int))) (hr : REL R T) (hP : RG (P 1)) (hQ : RG (Q 1)) {d9 : Drawn} (hd : DRN x0 d9) {o : Nat} (hB : ∀ (d : Drawn) (ws : va_W), DRN x0 d → INV g cJ ad md o (i + 6) ws → V (XD x0 d) (200 + 2 * i + 8) (2000 + 10 * i + 48) ws 1288 [(4, .int (iZ (i : Int))), (3, .ref o), (2, .ref (md 0)), (1, .ref (ad 0)), (0, .ref b)] []) : V (XD x0 d9) (200 + 2 * i) (2000 + 10 * i) (SW g ad P 0 T ++ ([(o, LJ cJ f)] ++ RW g md h Q 0 R)) 1071 [(4, .int (iZ (i : Int))), (3, .ref o), (2, .ref (md 0)), (1, .ref (ad 0)), (0, .ref b)] [] := by
  have hx := hX d9
  have hz := hZ d9
  have hSP := wf_shp hw (by omega)
  obtain ⟨-, ⟨hn1, hn8⟩, ⟨hc0, hc6⟩, ⟨hl0, hl8⟩, ham, hck⟩ := id hw
  have hl9 : T 0 2 < 2147483647 := by omega
  have hdn : ∀ c : Nat, (c : Int) < T 0 1 → T (7 + 8 * c) 2 = 0 ∨ T (7 + 8 * c) 2 = 1 := fun c hc => (hck c hc).2.2.1
  have hs8 : ∀ c : Nat, (c : Int) < T 0 1 → T (7 + 8 * c) 0 ≤ 8 := fun c hc => (hck c hc).1.2
  have hs0 : ∀ c : Nat, (c : Int) < T 0 1 → 0 ≤ T (7 + 8 * c) 0 := fun c hc => (hck c hc).1.1
  have hw8 : ∀ c : Nat, (c : Int) < T 0 1 → W8 T c := fun c hc => wf_w8 hw hc
  have hamm : ∀ d : Nat, d < 8 → -1 ≤ T 1 d ∧ T 1 d ≤ 9999 := fun d hd => by have := ham d hd; omega
  refine V_ws (ws' := (SW g ad P 0 T ++ [(o, LJ cJ f)]) ++ RW g md h Q 0 R) (List.append_assoc _ _ _).symm ?_
  refine V_aload_n hx dL_law_1071 3 rfl ?_
  refine V_aload_n hx dL_law_1072 4 rfl ?_
  refine V_iload hx dL_law_1073 0 rfl ?_
  refine V_iconst hx dL_law_1075 ?_
  refine V_iadd hx dL_law_1076 ?_
  refine V_sld hx hz (i + 1) (by omega) (by omega) (by omega) (by omega) dL_law_1077 ?_
  refine V_aload_n hx dL_law_1078 4 rfl ?_
  refine V_iload hx dL_law_1079 0 rfl ?_
  refine V_iconst hx dL_law_1081 ?_
  refine V_iadd hx dL_law_1082 ?_
  refine V_sld hx hz (i + 2) (by omega) (by omega) (by omega) (by omega) dL_law_1083 ?_
  refine V_aload_n hx dL_law_1084 1 rfl ?_
  refine V_callHF hx hz (h_alone l (f0 := f) SW_tillx (x_alone l hst (ad := ad) (P := P) T hSP (c := (xs (i + 1)).toInt) (d := (xs (i + 2)).toInt) (rg_toInt (xs (i + 1))) (rg_toInt (xs (i + 2))) hP hdn (fun h1 h2 T1 hT1 t ht => (wf_A (wf_be hT1 hw) (by omega) (c := (xs (i + 1)).toInt.toNat) (by rw [be_0 (by omega)]; omega) t (by omega)).1) (fun h1 h2 T1 hT1 t ht => by have := wf_A (wf_be hT1 hw) (by omega) (c := (xs (i + 1)).toInt.toNat) (by rw [be_0 (by omega)]; omega) t (by omega); exact ⟨this.1, this.2.1⟩)) (fun E he => by first | exact he.1 | simp [he.1])) ch_alone (RML (by decide) (by decide) (by show (200 + 2 * i + 2) ≤ 612619; omega) (by show (2000 + 10 * i + 12) ≤ 7258246; omega)) rfl rfl (Nat.le_of_ble_eq_true rfl) dL_law_1085 (200 + 2 * i + 2) (2000 + 10 * i + 12) rfl rfl (fun z5 ws5 e5 => ?_)
  rcases e5 with ⟨y5, ws6, ⟨hc, ⟨T1, j9, hT1, hj9, hj1, hj2, rfl⟩, P9, hP9, rfl⟩, rfl, f5, hf5, rfl⟩ | ⟨he, rfl, rfl⟩
  · refine V_istore hx dL_law_1088 [(5, .int (iZ 0)), (4, .int (iZ (i : Int))), (3, .ref o), (2, .ref (md 0)), (1, .ref (ad 0)), (0, .ref b)] (by decide) rfl ?_
    refine V_perm (ws' := RW g md h Q 0 R ++ (SW g ad P9 0 T ++ [(o, LJ cJ f5)])) [] pm2 ?_
    refine V_aload_n hx dL_law_1090 3 rfl ?_
    refine V_aload_n hx dL_law_1091 5 rfl ?_
    refine V_iload hx dL_law_1092 1 rfl ?_
    refine V_iconst hx dL_law_1094 ?_
    refine V_iadd hx dL_law_1095 ?_
    refine V_sld hx hz (i + 1) (by omega) (by omega) (by omega) (by omega) dL_law_1096 ?_
    refine V_aload_n hx dL_law_1097 5 rfl ?_
    refine V_iload hx dL_law_1098 1 rfl ?_
    refine V_iconst hx dL_law_1100 ?_
    refine V_iadd hx dL_law_1101 ?_
    refine V_sld hx hz (i + 2) (by omega) (by omega) (by omega) (by omega) dL_law_1102 ?_
    have hr1 : REL R (beT T1 T) := rel_be hr hw
    have hw1 : WF (beT T1 T) (50 * (i : Int)) := wf_be hT1 hw
    have e00 : beT T1 T 0 0 = T 0 0 := be_0 (by omega)
    have e01 : beT T1 T 0 1 = T 0 1 := be_0 (by omega)
    refine V_callFi hx (z_alone l R (beT T1 T) hr1 (by have := hw1.2.1; omega) (by have := hw1.2.1; omega) (by have := hw1.2.2.1; omega) (by have := hw1.2.2.1; omega) (by have := hw1.2.2.2.1; omega) (by have := hw1.2.2.2.1; omega) hQ (fun c hc => (hw1.2.2.2.2.2 c hc).1.2) (c := (xs (i + 1)).toInt) (d := (xs (i + 2)).toInt) (rg_toInt (xs (i + 1))) (rg_toInt (xs (i + 2))) (fun h1 h2 => (hw1.2.2.2.2.2 _ (by omega)).1.1) (fun h1 h2 t ht => by have w8 := (hw1.2.2.2.2.2 (xs (i + 1)).toInt.toNat (by omega)).1.2; have w9 := wf_A hw1 (by omega) (c := (xs (i + 1)).toInt.toNat) (by omega) t (by omega); exact ⟨w9.2.1, w9.2.2.1, w9.2.2.2.1, w9.2.2.2.2, wal_0 hw1 (by omega) t ht⟩)) cw_L_127 (RML (by decide) (by decide) (by show (200 + 2 * i + 2) ≤ 612619; omega) (by show (2000 + 10 * i + 12) ≤ 7258246; omega)) (hc := rfl) 0 RW_o rfl rfl (Nat.le_of_ble_eq_true rfl) dL_law_1103 (200 + 2 * i + 2) (2000 + 10 * i + 12) rfl rfl (fun z7 ws7 e7 => ?_)
    rcases e7 with ⟨hc7, rfl, Q9, hQ9, rfl⟩ | ⟨hc7, rfl⟩
    · refine V_istore hx dL_law_1106 [(6, .int (iZ _)), (5, .int (iZ 0)), (4, .int (iZ (i : Int))), (3, .ref o), (2, .ref (md 0)), (1, .ref (ad 0)), (0, .ref b)] (by decide) rfl ?_
      refine V_aload_n hx dL_law_1108 4 rfl ?_
      refine V_callFi hx (z_thrown l R) cw_L_79 (RML (by decide) (by decide) (by show (200 + 2 * i + 2) ≤ 612619; omega) (by show (2000 + 10 * i + 12) ≤ 7258246; omega)) (hc := rfl) 0 RW_o rfl rfl (Nat.le_of_ble_eq_true rfl) dL_law_1109 (200 + 2 * i + 2) (2000 + 10 * i + 12) rfl rfl (fun z8 ws8 e8 => ?_)
      obtain ⟨rfl, rfl⟩ := e8
      refine V_iload hx dL_law_1112 1 rfl ?_
      refine V_icmp_eq hx dL_law_1114 1119 (by decide) ⟨by decide, by decide⟩ ⟨by decide, by decide⟩ (fun _ => ?_) (fun h9 => absurd rfl h9)
      refine V_iload hx dL_law_1119 1 rfl ?_
      refine V_ws (ws' := (RW g md 0 Q9 0 R ++ SW g ad P9 0 T) ++ [(o, LJ cJ f5)]) (List.append_assoc _ _ _).symm ?_
      refine V_if_ne hx dL_law_1121 1136 (by decide) ⟨by decide, by decide⟩ (fun h9 => absurd rfl h9) (fun _ => ?_)
      refine V_aload_n hx dL_law_1124 3 rfl ?_
      refine V_iconst hx dL_law_1125 ?_
      refine V_lald2 hx hz dL_law_1126 ?_
      refine V_iload hx dL_law_1127 0 rfl ?_
      refine V_i2l hx dL_law_1129 ?_
      refine V_lcmpE hx (hf5.trans (by rw [al_eq hw1 (c := (xs (i + 1)).toInt.toNat) (d := (xs (i + 2)).toInt.toNat) (by omega) (by omega) hj9 hj1 hj2])) dL_law_1130 ?_
      refine V_if_eq hx dL_law_1131 1136 (by decide) rg_0 (fun _ => ?_) (fun h9 => absurd rfl h9)
      refine V_goto hx dL_law_1136 1288 (by decide) ?_
      refine V_perm (ws' := SW g ad P9 0 T ++ ([(o, LJ cJ f5)] ++ RW g md 0 Q9 0 R)) [] pm3 ?_
      have hii : ((i + 6 : Nat) : Int) = i + 6 := by omega
      have hwf : WF (T) (50 * ((i + 6 : Nat) : Int)) := by rw [hii]; exact wf_mono hw (by omega)
      refine V_widen (k' := 200 + 2 * i + 8) (n' := 2000 + 10 * i + 48) (by omega) (by omega) ?_
      exact V_sub [2, 3, 4, 5, 6] rfl (hB d9 _ hd ⟨P9, Q9, T, R, 0, f5, hwf, hr, hP9, hQ9, rfl⟩)
    · exfalso
      first | omega | grind
  · have he := he.2
    refine V_istore hx dL_law_1088 [(5, .int (iZ 1)), (4, .int (iZ (i : Int))), (3, .ref o), (2, .ref (md 0)), (1, .ref (ad 0)), (0, .ref b)] (by decide) rfl ?_
    refine V_perm (ws' := RW g md h Q 0 R ++ (SW g ad P 0 T ++ [(o, LJ cJ f)])) [] pm2 ?_
    refine V_aload_n hx dL_law_1090 3 rfl ?_
    refine V_aload_n hx dL_law_1091 5 rfl ?_
    refine V_iload hx dL_law_1092 1 rfl ?_
    refine V_iconst hx dL_law_1094 ?_
    refine V_iadd hx dL_law_1095 ?_
    refine V_sld hx hz (i + 1) (by omega) (by omega) (by omega) (by omega) dL_law_1096 ?_
    refine V_aload_n hx dL_law_1097 5 rfl ?_
    refine V_iload hx dL_law_1098 1 rfl ?_
    refine V_iconst hx dL_law_1100 ?_
    refine V_iadd hx dL_law_1101 ?_
    refine V_sld hx hz (i + 2) (by omega) (by omega) (by omega) (by omega) dL_law_1102 ?_
    refine V_callFi hx (z_alone l R (T) hr (by have := hw.2.1; omega) (by have := hw.2.1; omega) (by have := hw.2.2.1; omega) (by have := hw.2.2.1; omega) (by have := hw.2.2.2.1; omega) (by have := hw.2.2.2.1; omega) hQ (fun c hc => (hw.2.2.2.2.2 c hc).1.2) (c := (xs (i + 1)).toInt) (d := (xs (i + 2)).toInt) (rg_toInt (xs (i + 1))) (rg_toInt (xs (i + 2))) (fun h1 h2 => (hw.2.2.2.2.2 _ (by omega)).1.1) (fun h1 h2 t ht => by have w8 := (hw.2.2.2.2.2 (xs (i + 1)).toInt.toNat (by omega)).1.2; have w9 := wf_A hw (by omega) (c := (xs (i + 1)).toInt.toNat) (by omega) t (by omega); exact ⟨w9.2.1, w9.2.2.1, w9.2.2.2.1, w9.2.2.2.2, wal_0 hw (by omega) t ht⟩)) cw_L_127 (RML (by decide) (by decide) (by show (200 + 2 * i + 2) ≤ 612619; omega) (by show (2000 + 10 * i + 12) ≤ 7258246; omega)) (hc := rfl) 0 RW_o rfl rfl (Nat.le_of_ble_eq_true rfl) dL_law_1103 (200 + 2 * i + 2) (2000 + 10 * i + 12) rfl rfl (fun z7 ws7 e7 => ?_)
    rcases e7 with ⟨hc7, rfl, Q9, hQ9, rfl⟩ | ⟨hc7, rfl⟩
    · exfalso
      first | omega | grind
    · refine V_istore hx dL_law_1106 [(6, .int (iZ _)), (5, .int (iZ 1)), (4, .int (iZ (i : Int))), (3, .ref o), (2, .ref (md 0)), (1, .ref (ad 0)), (0, .ref b)] (by decide) rfl ?_
      refine V_aload_n hx dL_law_1108 4 rfl ?_
      refine V_callFi hx (z_thrown l R) cw_L_79 (RML (by decide) (by decide) (by show (200 + 2 * i + 2) ≤ 612619; omega) (by show (2000 + 10 * i + 12) ≤ 7258246; omega)) (hc := rfl) 0 RW_o rfl rfl (Nat.le_of_ble_eq_true rfl) dL_law_1109 (200 + 2 * i + 2) (2000 + 10 * i + 12) rfl rfl (fun z8 ws8 e8 => ?_)
      obtain ⟨rfl, rfl⟩ := e8
      refine V_iload hx dL_law_1112 1 rfl ?_
      refine V_icmp_eq hx dL_law_1114 1119 (by decide) ⟨by decide, by decide⟩ ⟨by decide, by decide⟩ (fun _ => ?_) (fun h9 => absurd rfl h9)
      refine V_iload hx dL_law_1119 1 rfl ?_
      refine V_ws (ws' := (RW g md 1 Q 0 R ++ SW g ad P 0 T) ++ [(o, LJ cJ f)]) (List.append_assoc _ _ _).symm ?_
      refine V_if_ne hx dL_law_1121 1136 (by decide) ⟨by decide, by decide⟩ (fun _ => ?_) (fun h9 => absurd h9 (by decide))
      refine V_goto hx dL_law_1136 1288 (by decide) ?_
      refine V_perm (ws' := SW g ad P 0 T ++ ([(o, LJ cJ f)] ++ RW g md 1 Q 0 R)) [] pm3 ?_
      have hii : ((i + 6 : Nat) : Int) = i + 6 := by omega
      have hwf : WF (T) (50 * ((i + 6 : Nat) : Int)) := by rw [hii]; exact wf_mono hw (by omega)
      refine V_widen (k' := 200 + 2 * i + 8) (n' := 2000 + 10 * i + 48) (by omega) (by omega) ?_
      exact V_sub [2, 3, 4, 5, 6] rfl (hB d9 _ hd ⟨P, Q, T, R, 1, f, hwf, hr, hP, hQ, rfl⟩)
set_option maxHeartbeats 4000000 in
set_option maxRecDepth 100000 in
theorem lc_foresee {x0 : CT} {l : Launch} {g : GT} {cJ : ClassId} {b L : Nat} {xs : Nat → Int32} (hX : ∀ d, FX (XD x0 d) l room_1 g 9 cL_law RL) (hZ : ∀ d, FL2 (XD x0 d) cJ b L xs) (hst : l.stackTraces = false) {i : Nat} (hi : i + 6 ≤ L) (hL : L ≤ 3072) {ad md : Nat → Nat} {P Q : Nat → TS} {T R : TS} {h : Int} {f : Nat → Int64} (hw : WF T (50 * (i : Int))) (hr : REL R T) (hP : RG (P 1)) (hQ : RG (Q 1)) {d9 : Drawn} (hd : DRN x0 d9) {o : Nat} (hB : ∀ (d : Drawn) (ws : va_W), DRN x0 d → INV g cJ ad md o (i + 6) ws → V (XD x0 d) (200 + 2 * i + 8) (2000 + 10 * i + 48) ws 1288 [(4, .int (iZ (i : Int))), (3, .ref o), (2, .ref (md 0)), (1, .ref (ad 0)), (0, .ref b)] []) : V (XD x0 d9) (200 + 2 * i) (2000 + 10 * i) (SW g ad P 0 T ++ ([(o, LJ cJ f)] ++ RW g md h Q 0 R)) 1152 [(4, .int (iZ (i : Int))), (3, .ref o), (2, .ref (md 0)), (1, .ref (ad 0)), (0, .ref b)] [] := by
  have hx := hX d9
  have hz := hZ d9
  have hSP := wf_shp hw (by omega)
  obtain ⟨-, ⟨hn1, hn8⟩, ⟨hc0, hc6⟩, ⟨hl0, hl8⟩, ham, hck⟩ := id hw
  have hl9 : T 0 2 < 2147483647 := by omega
  have hdn : ∀ c : Nat, (c : Int) < T 0 1 → T (7 + 8 * c) 2 = 0 ∨ T (7 + 8 * c) 2 = 1 := fun c hc => (hck c hc).2.2.1
  have hs8 : ∀ c : Nat, (c : Int) < T 0 1 → T (7 + 8 * c) 0 ≤ 8 := fun c hc => (hck c hc).1.2
  have hs0 : ∀ c : Nat, (c : Int) < T 0 1 → 0 ≤ T (7 + 8 * c) 0 := fun c hc => (hck c hc).1.1
  have hw8 : ∀ c : Nat, (c : Int) < T 0 1 → W8 T c := fun c hc => wf_w8 hw hc
  have hamm : ∀ d : Nat, d < 8 → -1 ≤ T 1 d ∧ T 1 d ≤ 9999 := fun d hd => by have := ham d hd; omega
  refine V_ws (ws' := (SW g ad P 0 T ++ [(o, LJ cJ f)]) ++ RW g md h Q 0 R) (List.append_assoc _ _ _).symm ?_
  refine V_aload_n hx dL_law_1152 3 rfl ?_
  refine V_aload_n hx dL_law_1153 4 rfl ?_
  refine V_iload hx dL_law_1154 0 rfl ?_
  refine V_iconst hx dL_law_1156 ?_
  refine V_iadd hx dL_law_1157 ?_
  refine V_sld hx hz (i + 1) (by omega) (by omega) (by omega) (by omega) dL_law_1158 ?_
  refine V_aload_n hx dL_law_1159 4 rfl ?_
  refine V_iload hx dL_law_1160 0 rfl ?_
  refine V_iconst hx dL_law_1162 ?_
  refine V_iadd hx dL_law_1163 ?_
  refine V_sld hx hz (i + 2) (by omega) (by omega) (by omega) (by omega) dL_law_1164 ?_
  refine V_aload_n hx dL_law_1165 1 rfl ?_
  refine V_callHF hx hz (h_foresee l (f0 := f) SW_tillx (x_foresee l hst (ad := ad) (P := P) T hSP (r := (xs (i + 1)).toInt) (what := (xs (i + 2)).toInt) (rg_toInt (xs (i + 1))) (rg_toInt (xs (i + 2))) hP hdn (fun T1 hT1 j hj => ⟨(wf_G (wf_be hT1 hw) (by omega) j (by omega)).1, (wf_Gd (wf_be hT1 hw) (by omega) j (by omega)).1⟩)) (fun E he => by rcases he with he | he <;> simp [he.1])) ch_foresee (RML (by decide) (by decide) (by show (200 + 2 * i + 2) ≤ 612619; omega) (by show (2000 + 10 * i + 12) ≤ 7258246; omega)) rfl rfl (Nat.le_of_ble_eq_true rfl) dL_law_1166 (200 + 2 * i + 2) (2000 + 10 * i + 12) rfl rfl (fun z5 ws5 e5 => ?_)
  rcases e5 with ⟨y5, ws6, ⟨hc, ⟨T1, hT1, rfl⟩, P9, hP9, rfl⟩, rfl, f5, hf5, rfl⟩ | ⟨he, rfl, rfl⟩ | ⟨he, rfl, rfl⟩
  · refine V_istore hx dL_law_1169 [(5, .int (iZ 0)), (4, .int (iZ (i : Int))), (3, .ref o), (2, .ref (md 0)), (1, .ref (ad 0)), (0, .ref b)] (by decide) rfl ?_
    refine V_perm (ws' := RW g md h Q 0 R ++ (SW g ad P9 0 T ++ [(o, LJ cJ f5)])) [] pm2 ?_
    refine V_aload_n hx dL_law_1171 3 rfl ?_
    refine V_aload_n hx dL_law_1172 5 rfl ?_
    refine V_iload hx dL_law_1173 1 rfl ?_
    refine V_iconst hx dL_law_1175 ?_
    refine V_iadd hx dL_law_1176 ?_
    refine V_sld hx hz (i + 1) (by omega) (by omega) (by omega) (by omega) dL_law_1177 ?_
    refine V_aload_n hx dL_law_1178 5 rfl ?_
    refine V_iload hx dL_law_1179 1 rfl ?_
    refine V_iconst hx dL_law_1181 ?_
    refine V_iadd hx dL_law_1182 ?_
    refine V_sld hx hz (i + 2) (by omega) (by omega) (by omega) (by omega) dL_law_1183 ?_
    have hr1 : REL R (beT T1 T) := rel_be hr hw
    have hw1 : WF (beT T1 T) (50 * (i : Int)) := wf_be hT1 hw
    have e00 : beT T1 T 0 0 = T 0 0 := be_0 (by omega)
    have e01 : beT T1 T 0 1 = T 0 1 := be_0 (by omega)
    refine V_callFi hx (z_foresee l R (beT T1 T) hr1 (by have := hw1.2.1; omega) (by have := hw1.2.1; omega) (by have := hw1.2.2.1; omega) (by have := hw1.2.2.1; omega) (by have := hw1.2.2.2.1; omega) (by have := hw1.2.2.2.1; omega) hQ (fun c hc => (hw1.2.2.2.2.2 c hc).1.2) (r := (xs (i + 1)).toInt) (what := (xs (i + 2)).toInt) (rg_toInt (xs (i + 1))) (rg_toInt (xs (i + 2))) (fun j hj => wf_G hw1 (by omega) j (by omega)) (fun j hj => wf_Gd hw1 (by omega) j (by omega))) cw_L_134 (RML (by decide) (by decide) (by show (200 + 2 * i + 2) ≤ 612619; omega) (by show (2000 + 10 * i + 12) ≤ 7258246; omega)) (hc := rfl) 0 RW_o rfl rfl (Nat.le_of_ble_eq_true rfl) dL_law_1184 (200 + 2 * i + 2) (2000 + 10 * i + 12) rfl rfl (fun z7 ws7 e7 => ?_)
    rcases e7 with ⟨hc7, rfl, Q9, hQ9, rfl⟩ | ⟨hc7, rfl⟩ | ⟨hc7, rfl⟩
    · refine V_istore hx dL_law_1187 [(6, .int (iZ _)), (5, .int (iZ 0)), (4, .int (iZ (i : Int))), (3, .ref o), (2, .ref (md 0)), (1, .ref (ad 0)), (0, .ref b)] (by decide) rfl ?_
      refine V_aload_n hx dL_law_1189 4 rfl ?_
      refine V_callFi hx (z_thrown l R) cw_L_79 (RML (by decide) (by decide) (by show (200 + 2 * i + 2) ≤ 612619; omega) (by show (2000 + 10 * i + 12) ≤ 7258246; omega)) (hc := rfl) 0 RW_o rfl rfl (Nat.le_of_ble_eq_true rfl) dL_law_1190 (200 + 2 * i + 2) (2000 + 10 * i + 12) rfl rfl (fun z8 ws8 e8 => ?_)
      obtain ⟨rfl, rfl⟩ := e8
      refine V_iload hx dL_law_1193 1 rfl ?_
      refine V_icmp_eq hx dL_law_1195 1200 (by decide) ⟨by decide, by decide⟩ ⟨by decide, by decide⟩ (fun _ => ?_) (fun h9 => absurd rfl h9)
      refine V_iload hx dL_law_1200 1 rfl ?_
      refine V_ws (ws' := (RW g md 0 Q9 0 R ++ SW g ad P9 0 T) ++ [(o, LJ cJ f5)]) (List.append_assoc _ _ _).symm ?_
      refine V_if_ne hx dL_law_1202 1217 (by decide) ⟨by decide, by decide⟩ (fun h9 => absurd rfl h9) (fun _ => ?_)
      refine V_aload_n hx dL_law_1205 3 rfl ?_
      refine V_iconst hx dL_law_1206 ?_
      refine V_lald2 hx hz dL_law_1207 ?_
      refine V_iload hx dL_law_1208 0 rfl ?_
      refine V_i2l hx dL_law_1210 ?_
      refine V_lcmpE hx hf5 dL_law_1211 ?_
      refine V_if_eq hx dL_law_1212 1217 (by decide) rg_0 (fun _ => ?_) (fun h9 => absurd rfl h9)
      refine V_goto hx dL_law_1217 1288 (by decide) ?_
      refine V_perm (ws' := SW g ad P9 0 T ++ ([(o, LJ cJ f5)] ++ RW g md 0 Q9 0 R)) [] pm3 ?_
      have hii : ((i + 6 : Nat) : Int) = i + 6 := by omega
      have hwf : WF (T) (50 * ((i + 6 : Nat) : Int)) := by rw [hii]; exact wf_mono hw (by omega)
      refine V_widen (k' := 200 + 2 * i + 8) (n' := 2000 + 10 * i + 48) (by omega) (by omega) ?_
      exact V_sub [2, 3, 4, 5, 6] rfl (hB d9 _ hd ⟨P9, Q9, T, R, 0, f5, hwf, hr, hP9, hQ9, rfl⟩)
    · exfalso
      first | omega | grind
    · exfalso
      first | omega | grind
  · rcases he with he | he
    · have he := he.2
      refine V_istore hx dL_law_1169 [(5, .int (iZ 1)), (4, .int (iZ (i : Int))), (3, .ref o), (2, .ref (md 0)), (1, .ref (ad 0)), (0, .ref b)] (by decide) rfl ?_
      refine V_perm (ws' := RW g md h Q 0 R ++ (SW g ad P 0 T ++ [(o, LJ cJ f)])) [] pm2 ?_
      refine V_aload_n hx dL_law_1171 3 rfl ?_
      refine V_aload_n hx dL_law_1172 5 rfl ?_
      refine V_iload hx dL_law_1173 1 rfl ?_
      refine V_iconst hx dL_law_1175 ?_
      refine V_iadd hx dL_law_1176 ?_
      refine V_sld hx hz (i + 1) (by omega) (by omega) (by omega) (by omega) dL_law_1177 ?_
      refine V_aload_n hx dL_law_1178 5 rfl ?_
      refine V_iload hx dL_law_1179 1 rfl ?_
      refine V_iconst hx dL_law_1181 ?_
      refine V_iadd hx dL_law_1182 ?_
      refine V_sld hx hz (i + 2) (by omega) (by omega) (by omega) (by omega) dL_law_1183 ?_
      refine V_callFi hx (z_foresee l R (T) hr (by have := hw.2.1; omega) (by have := hw.2.1; omega) (by have := hw.2.2.1; omega) (by have := hw.2.2.1; omega) (by have := hw.2.2.2.1; omega) (by have := hw.2.2.2.1; omega) hQ (fun c hc => (hw.2.2.2.2.2 c hc).1.2) (r := (xs (i + 1)).toInt) (what := (xs (i + 2)).toInt) (rg_toInt (xs (i + 1))) (rg_toInt (xs (i + 2))) (fun j hj => wf_G hw (by omega) j (by omega)) (fun j hj => wf_Gd hw (by omega) j (by omega))) cw_L_134 (RML (by decide) (by decide) (by show (200 + 2 * i + 2) ≤ 612619; omega) (by show (2000 + 10 * i + 12) ≤ 7258246; omega)) (hc := rfl) 0 RW_o rfl rfl (Nat.le_of_ble_eq_true rfl) dL_law_1184 (200 + 2 * i + 2) (2000 + 10 * i + 12) rfl rfl (fun z7 ws7 e7 => ?_)
      rcases e7 with ⟨hc7, rfl, Q9, hQ9, rfl⟩ | ⟨hc7, rfl⟩ | ⟨hc7, rfl⟩
      · exfalso
        first | omega | grind
      · refine V_istore hx dL_law_1187 [(6, .int (iZ _)), (5, .int (iZ 1)), (4, .int (iZ (i : Int))), (3, .ref o), (2, .ref (md 0)), (1, .ref (ad 0)), (0, .ref b)] (by decide) rfl ?_
        refine V_aload_n hx dL_law_1189 4 rfl ?_
        refine V_callFi hx (z_thrown l R) cw_L_79 (RML (by decide) (by decide) (by show (200 + 2 * i + 2) ≤ 612619; omega) (by show (2000 + 10 * i + 12) ≤ 7258246; omega)) (hc := rfl) 0 RW_o rfl rfl (Nat.le_of_ble_eq_true rfl) dL_law_1190 (200 + 2 * i + 2) (2000 + 10 * i + 12) rfl rfl (fun z8 ws8 e8 => ?_)
        obtain ⟨rfl, rfl⟩ := e8
        refine V_iload hx dL_law_1193 1 rfl ?_
        refine V_icmp_eq hx dL_law_1195 1200 (by decide) ⟨by decide, by decide⟩ ⟨by decide, by decide⟩ (fun _ => ?_) (fun h9 => absurd rfl h9)
        refine V_iload hx dL_law_1200 1 rfl ?_
        refine V_ws (ws' := (RW g md 1 Q 0 R ++ SW g ad P 0 T) ++ [(o, LJ cJ f)]) (List.append_assoc _ _ _).symm ?_
        refine V_if_ne hx dL_law_1202 1217 (by decide) ⟨by decide, by decide⟩ (fun _ => ?_) (fun h9 => absurd h9 (by decide))
        refine V_goto hx dL_law_1217 1288 (by decide) ?_
        refine V_perm (ws' := SW g ad P 0 T ++ ([(o, LJ cJ f)] ++ RW g md 1 Q 0 R)) [] pm3 ?_
        have hii : ((i + 6 : Nat) : Int) = i + 6 := by omega
        have hwf : WF (T) (50 * ((i + 6 : Nat) : Int)) := by rw [hii]; exact wf_mono hw (by omega)
        refine V_widen (k' := 200 + 2 * i + 8) (n' := 2000 + 10 * i + 48) (by omega) (by omega) ?_
        exact V_sub [2, 3, 4, 5, 6] rfl (hB d9 _ hd ⟨P, Q, T, R, 1, f, hwf, hr, hP, hQ, rfl⟩)
      · exfalso
        first | omega | grind
    · exact absurd he.1 (by decide)
  · rcases he with he | he
    · exact absurd he.1 (by decide)
    · have he := he.2
      refine V_istore hx dL_law_1169 [(5, .int (iZ 2)), (4, .int (iZ (i : Int))), (3, .ref o), (2, .ref (md 0)), (1, .ref (ad 0)), (0, .ref b)] (by decide) rfl ?_
      refine V_perm (ws' := RW g md h Q 0 R ++ (SW g ad P 0 T ++ [(o, LJ cJ f)])) [] pm2 ?_
      refine V_aload_n hx dL_law_1171 3 rfl ?_
      refine V_aload_n hx dL_law_1172 5 rfl ?_
      refine V_iload hx dL_law_1173 1 rfl ?_
      refine V_iconst hx dL_law_1175 ?_
      refine V_iadd hx dL_law_1176 ?_
      refine V_sld hx hz (i + 1) (by omega) (by omega) (by omega) (by omega) dL_law_1177 ?_
      refine V_aload_n hx dL_law_1178 5 rfl ?_
      refine V_iload hx dL_law_1179 1 rfl ?_
      refine V_iconst hx dL_law_1181 ?_
      refine V_iadd hx dL_law_1182 ?_
      refine V_sld hx hz (i + 2) (by omega) (by omega) (by omega) (by omega) dL_law_1183 ?_
      refine V_callFi hx (z_foresee l R (T) hr (by have := hw.2.1; omega) (by have := hw.2.1; omega) (by have := hw.2.2.1; omega) (by have := hw.2.2.1; omega) (by have := hw.2.2.2.1; omega) (by have := hw.2.2.2.1; omega) hQ (fun c hc => (hw.2.2.2.2.2 c hc).1.2) (r := (xs (i + 1)).toInt) (what := (xs (i + 2)).toInt) (rg_toInt (xs (i + 1))) (rg_toInt (xs (i + 2))) (fun j hj => wf_G hw (by omega) j (by omega)) (fun j hj => wf_Gd hw (by omega) j (by omega))) cw_L_134 (RML (by decide) (by decide) (by show (200 + 2 * i + 2) ≤ 612619; omega) (by show (2000 + 10 * i + 12) ≤ 7258246; omega)) (hc := rfl) 0 RW_o rfl rfl (Nat.le_of_ble_eq_true rfl) dL_law_1184 (200 + 2 * i + 2) (2000 + 10 * i + 12) rfl rfl (fun z7 ws7 e7 => ?_)
      rcases e7 with ⟨hc7, rfl, Q9, hQ9, rfl⟩ | ⟨hc7, rfl⟩ | ⟨hc7, rfl⟩
      · exfalso
        first | omega | grind
      · exfalso
        first | omega | grind
      · refine V_istore hx dL_law_1187 [(6, .int (iZ _)), (5, .int (iZ 2)), (4, .int (iZ (i : Int))), (3, .ref o), (2, .ref (md 0)), (1, .ref (ad 0)), (0, .ref b)] (by decide) rfl ?_
        refine V_aload_n hx dL_law_1189 4 rfl ?_
        refine V_callFi hx (z_thrown l R) cw_L_79 (RML (by decide) (by decide) (by show (200 + 2 * i + 2) ≤ 612619; omega) (by show (2000 + 10 * i + 12) ≤ 7258246; omega)) (hc := rfl) 0 RW_o rfl rfl (Nat.le_of_ble_eq_true rfl) dL_law_1190 (200 + 2 * i + 2) (2000 + 10 * i + 12) rfl rfl (fun z8 ws8 e8 => ?_)
        obtain ⟨rfl, rfl⟩ := e8
        refine V_iload hx dL_law_1193 1 rfl ?_
        refine V_icmp_eq hx dL_law_1195 1200 (by decide) ⟨by decide, by decide⟩ ⟨by decide, by decide⟩ (fun _ => ?_) (fun h9 => absurd rfl h9)
        refine V_iload hx dL_law_1200 1 rfl ?_
        refine V_ws (ws' := (RW g md 2 Q 0 R ++ SW g ad P 0 T) ++ [(o, LJ cJ f)]) (List.append_assoc _ _ _).symm ?_
        refine V_if_ne hx dL_law_1202 1217 (by decide) ⟨by decide, by decide⟩ (fun _ => ?_) (fun h9 => absurd h9 (by decide))
        refine V_goto hx dL_law_1217 1288 (by decide) ?_
        refine V_perm (ws' := SW g ad P 0 T ++ ([(o, LJ cJ f)] ++ RW g md 2 Q 0 R)) [] pm3 ?_
        have hii : ((i + 6 : Nat) : Int) = i + 6 := by omega
        have hwf : WF (T) (50 * ((i + 6 : Nat) : Int)) := by rw [hii]; exact wf_mono hw (by omega)
        refine V_widen (k' := 200 + 2 * i + 8) (n' := 2000 + 10 * i + 48) (by omega) (by omega) ?_
        exact V_sub [2, 3, 4, 5, 6] rfl (hB d9 _ hd ⟨P, Q, T, R, 2, f, hwf, hr, hP, hQ, rfl⟩)
