/-! the law: the cases without a catch -/
set_option maxHeartbeats 4000000 in
set_option maxRecDepth 100000 in
theorem lc_until {x0 : CT} {l : Launch} {g : GT} {cJ : ClassId} {b L : Nat} {xs : Nat → Int32} (hX : ∀ d, FX (XD x0 d) l room_1 g 9 cL_law RL) (hZ : ∀ d, FL2 (XD x0 d) cJ b L xs) (hst : l.stackTraces = false) {i : Nat} (hi : i + 6 ≤ L) (hL : L ≤ 3072) {ad md : Nat → Nat} {P Q : Nat → TS} {T R : TS} {h : Int} {f : Nat → Int64} (hw : WF T (50 * (i : Int))) (hr : REL R T) (hP : RG (P 1)) (hQ : RG (Q 1)) {d9 : Drawn} (hd : DRN x0 d9) {o : Nat} (hB : ∀ (d : Drawn) (ws : va_W), DRN x0 d → INV g cJ ad md o (i + 6) ws → V (XD x0 d) (200 + 2 * i + 8) (2000 + 10 * i + 48) ws 1288 [(4, .int (iZ (i : Int))), (3, .ref o), (2, .ref (md 0)), (1, .ref (ad 0)), (0, .ref b)] []) : V (XD x0 d9) (200 + 2 * i) (2000 + 10 * i) (SW g ad P 0 T ++ ([(o, LJ cJ f)] ++ RW g md h Q 0 R)) 1139 [(4, .int (iZ (i : Int))), (3, .ref o), (2, .ref (md 0)), (1, .ref (ad 0)), (0, .ref b)] [] := by
  have hx := hX d9
  have hz := hZ d9
  have hSP := wf_shp hw (by omega)
  obtain ⟨-, ⟨hn1, hn8⟩, ⟨hc0, hc6⟩, ⟨hl0, hl8⟩, ham, hck⟩ := id hw
  have hl9 : T 0 2 < 2147483647 := by omega
  have hdn : ∀ c : Nat, (c : Int) < T 0 1 → T (7 + 8 * c) 2 = 0 ∨ T (7 + 8 * c) 2 = 1 := fun c hc => (hck c hc).2.2.1
  have hs8 : ∀ c : Nat, (c : Int) < T 0 1 → T (7 + 8 * c) 0 ≤ 8 := fun c hc => (hck c hc).1.2
  have hs0 : ∀ c : Nat, (c : Int) < T 0 1 → 0 ≤ T (7 + 8 * c) 0 := fun c hc => (hck c hc).1.1
  have hw8 : ∀ c : Nat, (c : Int) < T 0 1 → W8 T c := fun c hc => wf_w8 hw hc
  have hamm : ∀ d : Nat, d < 8 → -1 ≤ T 1 d ∧ T 1 d ≤ 9999 := fun d hd => by have := ham d hd; omega
  refine V_aload_n hx dL_law_1139 3 rfl ?_
  refine V_callFi hx (x_until l (ad := ad) (P := P) T hSP hP hdn (fun T1 hT1 j hj => (wf_G (wf_be hT1 hw) (by omega) j (by omega)).1)) cw_L_128 (RML (by decide) (by decide) (by show (200 + 2 * i) ≤ 612619; omega) (by show (2000 + 10 * i) ≤ 7258246; omega)) (hc := rfl) 0 SW_tillx rfl rfl (Nat.le_of_ble_eq_true rfl) dL_law_1140 (200 + 2 * i) (2000 + 10 * i) rfl rfl (fun z5 ws5 e5 => ?_)
  obtain ⟨⟨T1, hT1, e5⟩, P9, hP9, rfl⟩ := e5
  refine V_perm (ws' := RW g md h Q 0 R ++ (SW g ad P9 0 T ++ [(o, LJ cJ f)])) [] pm4 ?_
  refine V_aload_n hx dL_law_1143 2 rfl ?_
  have hr1 : REL R (beT T1 T) := rel_be hr hw
  have hw1 : WF (beT T1 T) (50 * (i : Int)) := wf_be hT1 hw
  refine V_callFi hx (z_until l R (beT T1 T) hr1 (by have := hw1.2.1; omega) (by have := hw1.2.1; omega) (by have := hw1.2.2.1; omega) (by have := hw1.2.2.1; omega) (by have := hw1.2.2.2.1; omega) (by have := hw1.2.2.2.1; omega) hQ (fun c hc => (hw1.2.2.2.2.2 c hc).1.2) (fun j hj => wf_G hw1 (by omega) j (by omega))) cw_L_131 (RML (by decide) (by decide) (by show (200 + 2 * i) ≤ 612619; omega) (by show (2000 + 10 * i) ≤ 7258246; omega)) (hc := rfl) 0 RW_o rfl rfl (Nat.le_of_ble_eq_true rfl) dL_law_1144 (200 + 2 * i) (2000 + 10 * i) rfl rfl (fun z7 ws7 e7 => ?_)
  obtain ⟨e7, Q9, hQ9, rfl⟩ := e7
  obtain ⟨e8, r8⟩ := until_eq (an := fun j => anP (grs (beT T1 T) j).1) e5 e7
  refine V_icmp_eq hx dL_law_1147 1288 (by decide) r8 (by rw [← e8]; exact r8) (fun _ => ?_) (fun h9 => absurd e8 h9)
  refine V_ws (ws' := (RW g md 0 Q9 0 R ++ SW g ad P9 0 T) ++ [(o, LJ cJ f)]) (List.append_assoc _ _ _).symm ?_
  refine V_perm (ws' := SW g ad P9 0 T ++ ([(o, LJ cJ f)] ++ RW g md 0 Q9 0 R)) [] pm3 ?_
  have hii : ((i + 6 : Nat) : Int) = i + 6 := by omega
  have hwf : WF T (50 * ((i + 6 : Nat) : Int)) := by rw [hii]; exact wf_mono hw (by omega)
  refine V_widen (k' := 200 + 2 * i + 8) (n' := 2000 + 10 * i + 48) (by omega) (by omega) ?_
  exact V_sub [0, 1, 2, 3, 4] rfl (hB d9 _ hd ⟨P9, Q9, T, R, 0, f, hwf, hr, hP9, hQ9, rfl⟩)
set_option maxHeartbeats 4000000 in
set_option maxRecDepth 100000 in
theorem lc_advise {x0 : CT} {l : Launch} {g : GT} {cJ : ClassId} {b L : Nat} {xs : Nat → Int32} (hX : ∀ d, FX (XD x0 d) l room_1 g 9 cL_law RL) (hZ : ∀ d, FL2 (XD x0 d) cJ b L xs) (hst : l.stackTraces = false) {i : Nat} (hi : i + 6 ≤ L) (hL : L ≤ 3072) {ad md : Nat → Nat} {P Q : Nat → TS} {T R : TS} {h : Int} {f : Nat → Int64} (hw : WF T (50 * (i : Int))) (hr : REL R T) (hP : RG (P 1)) (hQ : RG (Q 1)) {d9 : Drawn} (hd : DRN x0 d9) {o : Nat} (hB : ∀ (d : Drawn) (ws : va_W), DRN x0 d → INV g cJ ad md o (i + 6) ws → V (XD x0 d) (200 + 2 * i + 8) (2000 + 10 * i + 48) ws 1288 [(4, .int (iZ (i : Int))), (3, .ref o), (2, .ref (md 0)), (1, .ref (ad 0)), (0, .ref b)] []) : V (XD x0 d9) (200 + 2 * i) (2000 + 10 * i) (SW g ad P 0 T ++ ([(o, LJ cJ f)] ++ RW g md h Q 0 R)) 1220 [(4, .int (iZ (i : Int))), (3, .ref o), (2, .ref (md 0)), (1, .ref (ad 0)), (0, .ref b)] [] := by
  have hx := hX d9
  have hz := hZ d9
  have hSP := wf_shp hw (by omega)
  obtain ⟨-, ⟨hn1, hn8⟩, ⟨hc0, hc6⟩, ⟨hl0, hl8⟩, ham, hck⟩ := id hw
  have hl9 : T 0 2 < 2147483647 := by omega
  have hdn : ∀ c : Nat, (c : Int) < T 0 1 → T (7 + 8 * c) 2 = 0 ∨ T (7 + 8 * c) 2 = 1 := fun c hc => (hck c hc).2.2.1
  have hs8 : ∀ c : Nat, (c : Int) < T 0 1 → T (7 + 8 * c) 0 ≤ 8 := fun c hc => (hck c hc).1.2
  have hs0 : ∀ c : Nat, (c : Int) < T 0 1 → 0 ≤ T (7 + 8 * c) 0 := fun c hc => (hck c hc).1.1
  have hw8 : ∀ c : Nat, (c : Int) < T 0 1 → W8 T c := fun c hc => wf_w8 hw hc
  have hamm : ∀ d : Nat, d < 8 → -1 ≤ T 1 d ∧ T 1 d ≤ 9999 := fun d hd => by have := ham d hd; omega
  refine V_aload_n hx dL_law_1220 3 rfl ?_
  refine V_callFi hx (x_advise l (ad := ad) (P := P) T hSP) cw_L_135 (RML (by decide) (by decide) (by show (200 + 2 * i) ≤ 612619; omega) (by show (2000 + 10 * i) ≤ 7258246; omega)) (hc := rfl) 0 SW_tillx rfl rfl (Nat.le_of_ble_eq_true rfl) dL_law_1221 (200 + 2 * i) (2000 + 10 * i) rfl rfl (fun z5 ws5 e5 => ?_)
  obtain ⟨rfl, rfl⟩ := e5
  refine V_perm (ws' := RW g md h Q 0 R ++ (SW g ad P 0 T ++ [(o, LJ cJ f)])) [] pm4 ?_
  refine V_aload_n hx dL_law_1224 2 rfl ?_
  refine V_callFi hx (z_advise l R T hr hn1 hn8 hc0 hc6 hdn) cw_L_138 (RML (by decide) (by decide) (by show (200 + 2 * i) ≤ 612619; omega) (by show (2000 + 10 * i) ≤ 7258246; omega)) (hc := rfl) 0 RW_o rfl rfl (Nat.le_of_ble_eq_true rfl) dL_law_1225 (200 + 2 * i) (2000 + 10 * i) rfl rfl (fun z7 ws7 e7 => ?_)
  obtain ⟨rfl, rfl⟩ := e7
  have hnc := nc_i hw
  have hz9 := adF_z T (nc T) (by omega)
  refine V_icmp_eq hx dL_law_1228 1288 (by decide) ⟨by omega, by omega⟩ ⟨by omega, by omega⟩ (fun _ => ?_) (fun h9 => absurd rfl h9)
  refine V_ws (ws' := (RW g md 0 Q 0 R ++ SW g ad P 0 T) ++ [(o, LJ cJ f)]) (List.append_assoc _ _ _).symm ?_
  refine V_perm (ws' := SW g ad P 0 T ++ ([(o, LJ cJ f)] ++ RW g md 0 Q 0 R)) [] pm3 ?_
  have hii : ((i + 6 : Nat) : Int) = i + 6 := by omega
  have hwf : WF T (50 * ((i + 6 : Nat) : Int)) := by rw [hii]; exact wf_mono hw (by omega)
  refine V_widen (k' := 200 + 2 * i + 8) (n' := 2000 + 10 * i + 48) (by omega) (by omega) ?_
  exact V_sub [0, 1, 2, 3, 4] rfl (hB d9 _ hd ⟨P, Q, T, R, 0, f, hwf, hr, hP, hQ, rfl⟩)
set_option maxHeartbeats 4000000 in
set_option maxRecDepth 100000 in
theorem lc_digest {x0 : CT} {l : Launch} {g : GT} {cJ : ClassId} {b L : Nat} {xs : Nat → Int32} (hX : ∀ d, FX (XD x0 d) l room_1 g 9 cL_law RL) (hZ : ∀ d, FL2 (XD x0 d) cJ b L xs) (hst : l.stackTraces = false) {i : Nat} (hi : i + 6 ≤ L) (hL : L ≤ 3072) {ad md : Nat → Nat} {P Q : Nat → TS} {T R : TS} {h : Int} {f : Nat → Int64} (hw : WF T (50 * (i : Int))) (hr : REL R T) (hP : RG (P 1)) (hQ : RG (Q 1)) {d9 : Drawn} (hd : DRN x0 d9) {o : Nat} (hB : ∀ (d : Drawn) (ws : va_W), DRN x0 d → INV g cJ ad md o (i + 6) ws → V (XD x0 d) (200 + 2 * i + 8) (2000 + 10 * i + 48) ws 1288 [(4, .int (iZ (i : Int))), (3, .ref o), (2, .ref (md 0)), (1, .ref (ad 0)), (0, .ref b)] []) : V (XD x0 d9) (200 + 2 * i) (2000 + 10 * i) (SW g ad P 0 T ++ ([(o, LJ cJ f)] ++ RW g md h Q 0 R)) 1274 [(4, .int (iZ (i : Int))), (3, .ref o), (2, .ref (md 0)), (1, .ref (ad 0)), (0, .ref b)] [] := by
  have hx := hX d9
  have hz := hZ d9
  have hSP := wf_shp hw (by omega)
  obtain ⟨-, ⟨hn1, hn8⟩, ⟨hc0, hc6⟩, ⟨hl0, hl8⟩, ham, hck⟩ := id hw
  have hl9 : T 0 2 < 2147483647 := by omega
  have hdn : ∀ c : Nat, (c : Int) < T 0 1 → T (7 + 8 * c) 2 = 0 ∨ T (7 + 8 * c) 2 = 1 := fun c hc => (hck c hc).2.2.1
  have hs8 : ∀ c : Nat, (c : Int) < T 0 1 → T (7 + 8 * c) 0 ≤ 8 := fun c hc => (hck c hc).1.2
  have hs0 : ∀ c : Nat, (c : Int) < T 0 1 → 0 ≤ T (7 + 8 * c) 0 := fun c hc => (hck c hc).1.1
  have hw8 : ∀ c : Nat, (c : Int) < T 0 1 → W8 T c := fun c hc => wf_w8 hw hc
  have hamm : ∀ d : Nat, d < 8 → -1 ≤ T 1 d ∧ T 1 d ≤ 9999 := fun d hd => by have := ham d hd; omega
  refine V_aload_n hx dL_law_1274 3 rfl ?_
  refine V_callFl hx (x_digest l (ad := ad) (P := P) T hSP) cw_L_144 (RML (by decide) (by decide) (by show (200 + 2 * i) ≤ 612619; omega) (by show (2000 + 10 * i) ≤ 7258246; omega)) (hc := rfl) 0 SW_tillx rfl rfl (Nat.le_of_ble_eq_true rfl) dL_law_1275 (200 + 2 * i) (2000 + 10 * i) rfl rfl (fun z5 ws5 e5 => ?_)
  obtain ⟨rfl, rfl⟩ := e5
  refine V_perm (ws' := RW g md h Q 0 R ++ (SW g ad P 0 T ++ [(o, LJ cJ f)])) [] pm4 ?_
  refine V_aload_n hx dL_law_1278 2 rfl ?_
  refine V_callFl hx (z_digest l R T hr hn1 hn8 hc0 hc6 hl0 hl9 hdn hw8) cw_L_148 (RML (by decide) (by decide) (by show (200 + 2 * i) ≤ 612619; omega) (by show (2000 + 10 * i) ≤ 7258246; omega)) (hc := rfl) 0 RW_o rfl rfl (Nat.le_of_ble_eq_true rfl) dL_law_1279 (200 + 2 * i) (2000 + 10 * i) rfl rfl (fun z7 ws7 e7 => ?_)
  obtain ⟨rfl, rfl⟩ := e7
  refine V_lcmpE hx rfl dL_law_1282 ?_
  refine V_if_eq hx dL_law_1283 1288 (by decide) rg_0 (fun _ => ?_) (fun h9 => absurd rfl h9)
  refine V_ws (ws' := (RW g md 0 Q 0 R ++ SW g ad P 0 T) ++ [(o, LJ cJ f)]) (List.append_assoc _ _ _).symm ?_
  refine V_perm (ws' := SW g ad P 0 T ++ ([(o, LJ cJ f)] ++ RW g md 0 Q 0 R)) [] pm3 ?_
  have hii : ((i + 6 : Nat) : Int) = i + 6 := by omega
  have hwf : WF T (50 * ((i + 6 : Nat) : Int)) := by rw [hii]; exact wf_mono hw (by omega)
  refine V_widen (k' := 200 + 2 * i + 8) (n' := 2000 + 10 * i + 48) (by omega) (by omega) ?_
  exact V_sub [0, 1, 2, 3, 4] rfl (hB d9 _ hd ⟨P, Q, T, R, 0, f, hwf, hr, hP, hQ, rfl⟩)
set_option maxHeartbeats 4000000 in
set_option maxRecDepth 100000 in
theorem lc_mean {x0 : CT} {l : Launch} {g : GT} {cJ : ClassId} {b L : Nat} {xs : Nat → Int32} (hX : ∀ d, FX (XD x0 d) l room_1 g 9 cL_law RL) (hZ : ∀ d, FL2 (XD x0 d) cJ b L xs) (hst : l.stackTraces = false) {i : Nat} (hi : i + 6 ≤ L) (hL : L ≤ 3072) {ad md : Nat → Nat} {P Q : Nat → TS} {T R : TS} {h : Int} {f : Nat → Int64} (hw : WF T (50 * (i : Int))) (hr : REL R T) (hP : RG (P 1)) (hQ : RG (Q 1)) {d9 : Drawn} (hd : DRN x0 d9) {o : Nat} (hB : ∀ (d : Drawn) (ws : va_W), DRN x0 d → INV g cJ ad md o (i + 6) ws → V (XD x0 d) (200 + 2 * i + 8) (2000 + 10 * i + 48) ws 1288 [(4, .int (iZ (i : Int))), (3, .ref o), (2, .ref (md 0)), (1, .ref (ad 0)), (0, .ref b)] []) : V (XD x0 d9) (200 + 2 * i) (2000 + 10 * i) (SW g ad P 0 T ++ ([(o, LJ cJ f)] ++ RW g md h Q 0 R)) 1233 [(4, .int (iZ (i : Int))), (3, .ref o), (2, .ref (md 0)), (1, .ref (ad 0)), (0, .ref b)] [] := by
  have hx := hX d9
  have hz := hZ d9
  have hSP := wf_shp hw (by omega)
  obtain ⟨-, ⟨hn1, hn8⟩, ⟨hc0, hc6⟩, ⟨hl0, hl8⟩, ham, hck⟩ := id hw
  have hl9 : T 0 2 < 2147483647 := by omega
  have hdn : ∀ c : Nat, (c : Int) < T 0 1 → T (7 + 8 * c) 2 = 0 ∨ T (7 + 8 * c) 2 = 1 := fun c hc => (hck c hc).2.2.1
  have hs8 : ∀ c : Nat, (c : Int) < T 0 1 → T (7 + 8 * c) 0 ≤ 8 := fun c hc => (hck c hc).1.2
  have hs0 : ∀ c : Nat, (c : Int) < T 0 1 → 0 ≤ T (7 + 8 * c) 0 := fun c hc => (hck c hc).1.1
  have hw8 : ∀ c : Nat, (c : Int) < T 0 1 → W8 T c := fun c hc => wf_w8 hw hc
  have hamm : ∀ d : Nat, d < 8 → -1 ≤ T 1 d ∧ T 1 d ≤ 9999 := fun d hd => by have := ham d hd; omega
  refine V_aload_n hx dL_law_1233 3 rfl ?_
  refine V_callFd hx hd (x_mean l (ad := ad) (P := P) T hSP) cw_L_139 (RML (by decide) (by decide) (by show (200 + 2 * i) ≤ 612619; omega) (by show (2000 + 10 * i) ≤ 7258246; omega)) (hc := rfl) 0 SW_tillx rfl rfl (Nat.le_of_ble_eq_true rfl) dL_law_1234 (200 + 2 * i) (2000 + 10 * i) rfl rfl (fun z5 ws5 d5 hd5 e5 => ?_)
  obtain ⟨al5, rfl⟩ := e5
  have hx := hX d5
  refine V_dstore hx dL_law_1237 [(5, .double z5), (4, .int (iZ (i : Int))), (3, .ref o), (2, .ref (md 0)), (1, .ref (ad 0)), (0, .ref b)] (by decide) rfl ?_
  refine V_perm (ws' := RW g md h Q 0 R ++ (SW g ad P 0 T ++ [(o, LJ cJ f)])) [] pm4 ?_
  refine V_aload_n hx dL_law_1239 3 rfl ?_
  refine V_callFd hx hd5 (z_mean l R T hr hn1 hn8 hc0 hc6 hdn) cw_L_143 (RML (by decide) (by decide) (by show (200 + 2 * i) ≤ 612619; omega) (by show (2000 + 10 * i) ≤ 7258246; omega)) (hc := rfl) 0 RW_o rfl rfl (Nat.le_of_ble_eq_true rfl) dL_law_1240 (200 + 2 * i) (2000 + 10 * i) rfl rfl (fun z7 ws7 d7 hd7 e7 => ?_)
  obtain ⟨al7, rfl⟩ := e7
  have hx := hX d7
  refine V_dstore hx dL_law_1243 [(7, .double z7), (5, .double z5), (4, .int (iZ (i : Int))), (3, .ref o), (2, .ref (md 0)), (1, .ref (ad 0)), (0, .ref b)] (by decide) rfl ?_
  have rgc : ∀ a b : UInt64, rg (cmpI a b) := fun a b => rg_toInt _
  refine V_dload hx dL_law_1245 1 rfl ?_
  refine V_dload hx dL_law_1247 0 rfl ?_
  refine V_dcmp hx dL_law_1249 ?_
  refine V_if_eq hx dL_law_1250 1271 (by decide) (rgc _ _) (fun _ => ?_) (fun h9 => ?_)
  · refine V_goto hx dL_law_1271 1288 (by decide) ?_
    refine V_ws (ws' := (RW g md 0 Q 0 R ++ SW g ad P 0 T) ++ [(o, LJ cJ f)]) (List.append_assoc _ _ _).symm ?_
    refine V_perm (ws' := SW g ad P 0 T ++ ([(o, LJ cJ f)] ++ RW g md 0 Q 0 R)) [] pm3 ?_
    have hii : ((i + 6 : Nat) : Int) = i + 6 := by omega
    have hwf : WF T (50 * ((i + 6 : Nat) : Int)) := by rw [hii]; exact wf_mono hw (by omega)
    refine V_widen (k' := 200 + 2 * i + 8) (n' := 2000 + 10 * i + 48) (by omega) (by omega) ?_
    exact V_sub [2, 3, 4, 5, 6] rfl (hB d7 _ hd7 ⟨P, Q, T, R, 0, f, hwf, hr, hP, hQ, rfl⟩)
  · obtain ⟨c5, c7⟩ := (cmp_al al5 al7).resolve_left h9
    refine V_dload hx dL_law_1253 1 rfl ?_
    refine V_dload hx dL_law_1255 1 rfl ?_
    refine V_dcmp hx dL_law_1257 ?_
    refine V_if_eq hx dL_law_1258 1269 (by decide) (rgc _ _) (fun h9 => absurd h9 c5) (fun _ => ?_)
    refine V_dload hx dL_law_1261 0 rfl ?_
    refine V_dload hx dL_law_1263 0 rfl ?_
    refine V_dcmp hx dL_law_1265 ?_
    refine V_if_ne hx dL_law_1266 1271 (by decide) (rgc _ _) (fun _ => ?_) (fun h9 => absurd h9 c7)
    refine V_goto hx dL_law_1271 1288 (by decide) ?_
    refine V_ws (ws' := (RW g md 0 Q 0 R ++ SW g ad P 0 T) ++ [(o, LJ cJ f)]) (List.append_assoc _ _ _).symm ?_
    refine V_perm (ws' := SW g ad P 0 T ++ ([(o, LJ cJ f)] ++ RW g md 0 Q 0 R)) [] pm3 ?_
    have hii : ((i + 6 : Nat) : Int) = i + 6 := by omega
    have hwf : WF T (50 * ((i + 6 : Nat) : Int)) := by rw [hii]; exact wf_mono hw (by omega)
    refine V_widen (k' := 200 + 2 * i + 8) (n' := 2000 + 10 * i + 48) (by omega) (by omega) ?_
    exact V_sub [2, 3, 4, 5, 6] rfl (hB d7 _ hd7 ⟨P, Q, T, R, 0, f, hwf, hr, hP, hQ, rfl⟩)
