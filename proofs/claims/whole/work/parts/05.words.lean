theorem inT0 : ∀ w ∈ u_ws RX0 TX0 11, w ∈ tbl := by
  have e : u_ws RX0 TX0 11 = [125, 127, 129, 131, 133, 135, 137, 139, 141, 143, 145].filterMap (fun i => lw_tbl[i]?) := by decide +kernel
  have h : (u_ws RX0 TX0 11).all tbw = true := by decide +kernel
  intro w hw
  have h1 := List.all_eq_true.mp h w hw
  rw [e] at hw
  obtain ⟨i, -, hi⟩ := List.mem_filterMap.mp hw
  exact tin i hi h1
theorem inT1 : ∀ w ∈ u_ws RX1 TX1 9, w ∈ tbl := by
  have e : u_ws RX1 TX1 9 = [162, 164, 166, 168, 170, 172, 174, 176, 178].filterMap (fun i => lw_tbl[i]?) := by decide +kernel
  have h : (u_ws RX1 TX1 9).all tbw = true := by decide +kernel
  intro w hw
  have h1 := List.all_eq_true.mp h w hw
  rw [e] at hw
  obtain ⟨i, -, hi⟩ := List.mem_filterMap.mp hw
  exact tin i hi h1
theorem inT2 : ∀ w ∈ u_ws RX2 TX2 2, w ∈ tbl := by
  have e : u_ws RX2 TX2 2 = [183, 185].filterMap (fun i => lw_tbl[i]?) := by decide +kernel
  have h : (u_ws RX2 TX2 2).all tbw = true := by decide +kernel
  intro w hw
  have h1 := List.all_eq_true.mp h w hw
  rw [e] at hw
  obtain ⟨i, -, hi⟩ := List.mem_filterMap.mp hw
  exact tin i hi h1
theorem inT3 : ∀ w ∈ u_ws RX3 TX3 16, w ∈ tbl := by
  have e : u_ws RX3 TX3 16 = [674, 676, 678, 680, 682, 684, 686, 688, 690, 692, 694, 696, 698, 700, 702, 704].filterMap (fun i => lw_tbl[i]?) := by decide +kernel
  have h : (u_ws RX3 TX3 16).all tbw = true := by decide +kernel
  intro w hw
  have h1 := List.all_eq_true.mp h w hw
  rw [e] at hw
  obtain ⟨i, -, hi⟩ := List.mem_filterMap.mp hw
  exact tin i hi h1
theorem inT4 : ∀ w ∈ u_ws RX4 TX4 3, w ∈ tbl := by
  have e : u_ws RX4 TX4 3 = [710, 712, 714].filterMap (fun i => lw_tbl[i]?) := by decide +kernel
  have h : (u_ws RX4 TX4 3).all tbw = true := by decide +kernel
  intro w hw
  have h1 := List.all_eq_true.mp h w hw
  rw [e] at hw
  obtain ⟨i, -, hi⟩ := List.mem_filterMap.mp hw
  exact tin i hi h1
section GF
variable {x : CT} {l : Launch} {R : Room} {g : GT} {nL : Nat} {cc : ByteArray} {k n : Nat} {ws : va_W} {pc : Nat} {lv : List (Nat × Value)} {st : List Value}
theorem q39 : Cond.fieldLink RX0 36 RX0 "steps" "I" ∈ tbl := tin 100 (by decide +kernel) rfl
theorem gf_X0_36 (hx : FX x l R g nL cc RX0) {a : Nat} {fs : List Value} {v : Value} (i : Nat) (he : ws[i]? = some (a, .inr (0, fs))) (hv : fs[0]? = some v) (hd : decode cc pc = .ok (.getfield 36, 3)) (kk : V x k n ws (pc + 3) lv (v :: st)) : V x k n ws pc lv (.ref a :: st) := V_get hx (T := TX0) (N := 11) (ci := 0) rfl inT0 0 (by decide) q39 rfl i he hv hd kk
theorem pf_X0_36 (hx : FX x l R g nL cc RX0) {a : Nat} {fs : List Value} {v : Int32} (i : Nat) (he : ws[i]? = some (a, .inr (0, fs))) (hl : 0 < fs.length) (ws' : va_W) (hw : ws.set i (a, .inr (0, fs.set 0 (.int v))) = ws') (hd : decode cc pc = .ok (.putfield 36, 3)) (kk : V x k n ws' (pc + 3) lv st) : V x k n ws pc lv (.int v :: .ref a :: st) := V_put hx (T := TX0) (N := 11) (ci := 0) rfl inT0 tyX0 tyX0_ok nmX0 0 (by decide) q39 rfl rfl (ty := .int) (by decide +kernel) rfl rfl i he hl ws' hw hd kk
theorem q40 : Cond.fieldLinkNest RX2 85 RX0 "steps" "I" RX2 ∈ tbl := tin 101 (by decide +kernel) rfl
theorem gf_X2_85 (hx : FX x l R g nL cc RX2) {a : Nat} {fs : List Value} {v : Value} (i : Nat) (he : ws[i]? = some (a, .inr (0, fs))) (hv : fs[0]? = some v) (hd : decode cc pc = .ok (.getfield 85, 3)) (kk : V x k n ws (pc + 3) lv (v :: st)) : V x k n ws pc lv (.ref a :: st) := V_getN hx (T := TX0) (N := 11) (ci := 0) rfl inT0 0 (by decide) q40 rfl i he hv hd kk
theorem pf_X2_85 (hx : FX x l R g nL cc RX2) {a : Nat} {fs : List Value} {v : Int32} (i : Nat) (he : ws[i]? = some (a, .inr (0, fs))) (hl : 0 < fs.length) (ws' : va_W) (hw : ws.set i (a, .inr (0, fs.set 0 (.int v))) = ws') (hd : decode cc pc = .ok (.putfield 85, 3)) (kk : V x k n ws' (pc + 3) lv st) : V x k n ws pc lv (.int v :: .ref a :: st) := V_putN hx (T := TX0) (N := 11) (ci := 0) rfl inT0 tyX0 tyX0_ok nmX0 0 (by decide) q40 rfl rfl (ty := .int) (by decide +kernel) rfl rfl i he hl ws' hw hd kk
theorem q41 : Cond.fieldLinkNest RX1 62 RX0 "steps" "I" RX2 ∈ tbl := tin 102 (by decide +kernel) rfl
theorem gf_X1_62 (hx : FX x l R g nL cc RX1) {a : Nat} {fs : List Value} {v : Value} (i : Nat) (he : ws[i]? = some (a, .inr (0, fs))) (hv : fs[0]? = some v) (hd : decode cc pc = .ok (.getfield 62, 3)) (kk : V x k n ws (pc + 3) lv (v :: st)) : V x k n ws pc lv (.ref a :: st) := V_getN hx (T := TX0) (N := 11) (ci := 0) rfl inT0 0 (by decide) q41 rfl i he hv hd kk
theorem pf_X1_62 (hx : FX x l R g nL cc RX1) {a : Nat} {fs : List Value} {v : Int32} (i : Nat) (he : ws[i]? = some (a, .inr (0, fs))) (hl : 0 < fs.length) (ws' : va_W) (hw : ws.set i (a, .inr (0, fs.set 0 (.int v))) = ws') (hd : decode cc pc = .ok (.putfield 62, 3)) (kk : V x k n ws' (pc + 3) lv st) : V x k n ws pc lv (.int v :: .ref a :: st) := V_putN hx (T := TX0) (N := 11) (ci := 0) rfl inT0 tyX0 tyX0_ok nmX0 0 (by decide) q41 rfl rfl (ty := .int) (by decide +kernel) rfl rfl i he hl ws' hw hd kk
theorem q42 : Cond.fieldLink RX0 9 RX0 "kinds" "[I" ∈ tbl := tin 103 (by decide +kernel) rfl
theorem gf_X0_9 (hx : FX x l R g nL cc RX0) {a : Nat} {fs : List Value} {v : Value} (i : Nat) (he : ws[i]? = some (a, .inr (0, fs))) (hv : fs[1]? = some v) (hd : decode cc pc = .ok (.getfield 9, 3)) (kk : V x k n ws (pc + 3) lv (v :: st)) : V x k n ws pc lv (.ref a :: st) := V_get hx (T := TX0) (N := 11) (ci := 0) rfl inT0 1 (by decide) q42 rfl i he hv hd kk
theorem q43 : Cond.fieldLinkNest RX1 88 RX0 "kinds" "[I" RX2 ∈ tbl := tin 104 (by decide +kernel) rfl
theorem gf_X1_88 (hx : FX x l R g nL cc RX1) {a : Nat} {fs : List Value} {v : Value} (i : Nat) (he : ws[i]? = some (a, .inr (0, fs))) (hv : fs[1]? = some v) (hd : decode cc pc = .ok (.getfield 88, 3)) (kk : V x k n ws (pc + 3) lv (v :: st)) : V x k n ws pc lv (.ref a :: st) := V_getN hx (T := TX0) (N := 11) (ci := 0) rfl inT0 1 (by decide) q43 rfl i he hv hd kk
theorem q44 : Cond.fieldLink RX0 15 RX0 "firsts" "[I" ∈ tbl := tin 105 (by decide +kernel) rfl
theorem gf_X0_15 (hx : FX x l R g nL cc RX0) {a : Nat} {fs : List Value} {v : Value} (i : Nat) (he : ws[i]? = some (a, .inr (0, fs))) (hv : fs[2]? = some v) (hd : decode cc pc = .ok (.getfield 15, 3)) (kk : V x k n ws (pc + 3) lv (v :: st)) : V x k n ws pc lv (.ref a :: st) := V_get hx (T := TX0) (N := 11) (ci := 0) rfl inT0 2 (by decide) q44 rfl i he hv hd kk
theorem q45 : Cond.fieldLinkNest RX1 82 RX0 "firsts" "[I" RX2 ∈ tbl := tin 106 (by decide +kernel) rfl
theorem gf_X1_82 (hx : FX x l R g nL cc RX1) {a : Nat} {fs : List Value} {v : Value} (i : Nat) (he : ws[i]? = some (a, .inr (0, fs))) (hv : fs[2]? = some v) (hd : decode cc pc = .ok (.getfield 82, 3)) (kk : V x k n ws (pc + 3) lv (v :: st)) : V x k n ws pc lv (.ref a :: st) := V_getN hx (T := TX0) (N := 11) (ci := 0) rfl inT0 2 (by decide) q45 rfl i he hv hd kk
theorem q46 : Cond.fieldLink RX0 18 RX0 "seconds" "[I" ∈ tbl := tin 107 (by decide +kernel) rfl
theorem gf_X0_18 (hx : FX x l R g nL cc RX0) {a : Nat} {fs : List Value} {v : Value} (i : Nat) (he : ws[i]? = some (a, .inr (0, fs))) (hv : fs[3]? = some v) (hd : decode cc pc = .ok (.getfield 18, 3)) (kk : V x k n ws (pc + 3) lv (v :: st)) : V x k n ws pc lv (.ref a :: st) := V_get hx (T := TX0) (N := 11) (ci := 0) rfl inT0 3 (by decide) q46 rfl i he hv hd kk
theorem q47 : Cond.fieldLinkNest RX1 102 RX0 "seconds" "[I" RX2 ∈ tbl := tin 108 (by decide +kernel) rfl
theorem gf_X1_102 (hx : FX x l R g nL cc RX1) {a : Nat} {fs : List Value} {v : Value} (i : Nat) (he : ws[i]? = some (a, .inr (0, fs))) (hv : fs[3]? = some v) (hd : decode cc pc = .ok (.getfield 102, 3)) (kk : V x k n ws (pc + 3) lv (v :: st)) : V x k n ws pc lv (.ref a :: st) := V_getN hx (T := TX0) (N := 11) (ci := 0) rfl inT0 3 (by decide) q47 rfl i he hv hd kk
theorem q48 : Cond.fieldLink RX0 21 RX0 "numbers" "[I" ∈ tbl := tin 109 (by decide +kernel) rfl
theorem gf_X0_21 (hx : FX x l R g nL cc RX0) {a : Nat} {fs : List Value} {v : Value} (i : Nat) (he : ws[i]? = some (a, .inr (0, fs))) (hv : fs[4]? = some v) (hd : decode cc pc = .ok (.getfield 21, 3)) (kk : V x k n ws (pc + 3) lv (v :: st)) : V x k n ws pc lv (.ref a :: st) := V_get hx (T := TX0) (N := 11) (ci := 0) rfl inT0 4 (by decide) q48 rfl i he hv hd kk
theorem q49 : Cond.fieldLinkNest RX1 85 RX0 "numbers" "[I" RX2 ∈ tbl := tin 110 (by decide +kernel) rfl
theorem gf_X1_85 (hx : FX x l R g nL cc RX1) {a : Nat} {fs : List Value} {v : Value} (i : Nat) (he : ws[i]? = some (a, .inr (0, fs))) (hv : fs[4]? = some v) (hd : decode cc pc = .ok (.getfield 85, 3)) (kk : V x k n ws (pc + 3) lv (v :: st)) : V x k n ws pc lv (.ref a :: st) := V_getN hx (T := TX0) (N := 11) (ci := 0) rfl inT0 4 (by decide) q49 rfl i he hv hd kk
theorem q50 : Cond.fieldLink RX0 43 RX0 "place" "I" ∈ tbl := tin 111 (by decide +kernel) rfl
theorem gf_X0_43 (hx : FX x l R g nL cc RX0) {a : Nat} {fs : List Value} {v : Value} (i : Nat) (he : ws[i]? = some (a, .inr (0, fs))) (hv : fs[5]? = some v) (hd : decode cc pc = .ok (.getfield 43, 3)) (kk : V x k n ws (pc + 3) lv (v :: st)) : V x k n ws pc lv (.ref a :: st) := V_get hx (T := TX0) (N := 11) (ci := 0) rfl inT0 5 (by decide) q50 rfl i he hv hd kk
theorem pf_X0_43 (hx : FX x l R g nL cc RX0) {a : Nat} {fs : List Value} {v : Int32} (i : Nat) (he : ws[i]? = some (a, .inr (0, fs))) (hl : 5 < fs.length) (ws' : va_W) (hw : ws.set i (a, .inr (0, fs.set 5 (.int v))) = ws') (hd : decode cc pc = .ok (.putfield 43, 3)) (kk : V x k n ws' (pc + 3) lv st) : V x k n ws pc lv (.int v :: .ref a :: st) := V_put hx (T := TX0) (N := 11) (ci := 0) rfl inT0 tyX0 tyX0_ok nmX0 5 (by decide) q50 rfl rfl (ty := .int) (by decide +kernel) rfl rfl i he hl ws' hw hd kk
theorem q51 : Cond.fieldLinkNest RX2 82 RX0 "place" "I" RX2 ∈ tbl := tin 112 (by decide +kernel) rfl
theorem gf_X2_82 (hx : FX x l R g nL cc RX2) {a : Nat} {fs : List Value} {v : Value} (i : Nat) (he : ws[i]? = some (a, .inr (0, fs))) (hv : fs[5]? = some v) (hd : decode cc pc = .ok (.getfield 82, 3)) (kk : V x k n ws (pc + 3) lv (v :: st)) : V x k n ws pc lv (.ref a :: st) := V_getN hx (T := TX0) (N := 11) (ci := 0) rfl inT0 5 (by decide) q51 rfl i he hv hd kk
theorem pf_X2_82 (hx : FX x l R g nL cc RX2) {a : Nat} {fs : List Value} {v : Int32} (i : Nat) (he : ws[i]? = some (a, .inr (0, fs))) (hl : 5 < fs.length) (ws' : va_W) (hw : ws.set i (a, .inr (0, fs.set 5 (.int v))) = ws') (hd : decode cc pc = .ok (.putfield 82, 3)) (kk : V x k n ws' (pc + 3) lv st) : V x k n ws pc lv (.int v :: .ref a :: st) := V_putN hx (T := TX0) (N := 11) (ci := 0) rfl inT0 tyX0 tyX0_ok nmX0 5 (by decide) q51 rfl rfl (ty := .int) (by decide +kernel) rfl rfl i he hl ws' hw hd kk
theorem q52 : Cond.fieldLinkNest RX1 59 RX0 "place" "I" RX2 ∈ tbl := tin 113 (by decide +kernel) rfl
theorem gf_X1_59 (hx : FX x l R g nL cc RX1) {a : Nat} {fs : List Value} {v : Value} (i : Nat) (he : ws[i]? = some (a, .inr (0, fs))) (hv : fs[5]? = some v) (hd : decode cc pc = .ok (.getfield 59, 3)) (kk : V x k n ws (pc + 3) lv (v :: st)) : V x k n ws pc lv (.ref a :: st) := V_getN hx (T := TX0) (N := 11) (ci := 0) rfl inT0 5 (by decide) q52 rfl i he hv hd kk
theorem pf_X1_59 (hx : FX x l R g nL cc RX1) {a : Nat} {fs : List Value} {v : Int32} (i : Nat) (he : ws[i]? = some (a, .inr (0, fs))) (hl : 5 < fs.length) (ws' : va_W) (hw : ws.set i (a, .inr (0, fs.set 5 (.int v))) = ws') (hd : decode cc pc = .ok (.putfield 59, 3)) (kk : V x k n ws' (pc + 3) lv st) : V x k n ws pc lv (.int v :: .ref a :: st) := V_putN hx (T := TX0) (N := 11) (ci := 0) rfl inT0 tyX0 tyX0_ok nmX0 5 (by decide) q52 rfl rfl (ty := .int) (by decide +kernel) rfl rfl i he hl ws' hw hd kk
theorem q53 : Cond.fieldLink RX0 46 RX0 "done" "Z" ∈ tbl := tin 114 (by decide +kernel) rfl
theorem gf_X0_46 (hx : FX x l R g nL cc RX0) {a : Nat} {fs : List Value} {v : Value} (i : Nat) (he : ws[i]? = some (a, .inr (0, fs))) (hv : fs[6]? = some v) (hd : decode cc pc = .ok (.getfield 46, 3)) (kk : V x k n ws (pc + 3) lv (v :: st)) : V x k n ws pc lv (.ref a :: st) := V_get hx (T := TX0) (N := 11) (ci := 0) rfl inT0 6 (by decide) q53 rfl i he hv hd kk
theorem pf_X0_46 (hx : FX x l R g nL cc RX0) {a : Nat} {fs : List Value} {v : Int32} (hn : narrow .boolean (.int v) = .int v) (hfit : fits .boolean (.int v) = true) (i : Nat) (he : ws[i]? = some (a, .inr (0, fs))) (hl : 6 < fs.length) (ws' : va_W) (hw : ws.set i (a, .inr (0, fs.set 6 (.int v))) = ws') (hd : decode cc pc = .ok (.putfield 46, 3)) (kk : V x k n ws' (pc + 3) lv st) : V x k n ws pc lv (.int v :: .ref a :: st) := V_put hx (T := TX0) (N := 11) (ci := 0) rfl inT0 tyX0 tyX0_ok nmX0 6 (by decide) q53 rfl rfl (ty := .boolean) (by decide +kernel) hn hfit i he hl ws' hw hd kk
theorem q54 : Cond.fieldLinkNest RX2 76 RX0 "done" "Z" RX2 ∈ tbl := tin 115 (by decide +kernel) rfl
theorem gf_X2_76 (hx : FX x l R g nL cc RX2) {a : Nat} {fs : List Value} {v : Value} (i : Nat) (he : ws[i]? = some (a, .inr (0, fs))) (hv : fs[6]? = some v) (hd : decode cc pc = .ok (.getfield 76, 3)) (kk : V x k n ws (pc + 3) lv (v :: st)) : V x k n ws pc lv (.ref a :: st) := V_getN hx (T := TX0) (N := 11) (ci := 0) rfl inT0 6 (by decide) q54 rfl i he hv hd kk
theorem pf_X2_76 (hx : FX x l R g nL cc RX2) {a : Nat} {fs : List Value} {v : Int32} (hn : narrow .boolean (.int v) = .int v) (hfit : fits .boolean (.int v) = true) (i : Nat) (he : ws[i]? = some (a, .inr (0, fs))) (hl : 6 < fs.length) (ws' : va_W) (hw : ws.set i (a, .inr (0, fs.set 6 (.int v))) = ws') (hd : decode cc pc = .ok (.putfield 76, 3)) (kk : V x k n ws' (pc + 3) lv st) : V x k n ws pc lv (.int v :: .ref a :: st) := V_putN hx (T := TX0) (N := 11) (ci := 0) rfl inT0 tyX0 tyX0_ok nmX0 6 (by decide) q54 rfl rfl (ty := .boolean) (by decide +kernel) hn hfit i he hl ws' hw hd kk
theorem q55 : Cond.fieldLinkNest RX1 128 RX0 "done" "Z" RX2 ∈ tbl := tin 116 (by decide +kernel) rfl
theorem gf_X1_128 (hx : FX x l R g nL cc RX1) {a : Nat} {fs : List Value} {v : Value} (i : Nat) (he : ws[i]? = some (a, .inr (0, fs))) (hv : fs[6]? = some v) (hd : decode cc pc = .ok (.getfield 128, 3)) (kk : V x k n ws (pc + 3) lv (v :: st)) : V x k n ws pc lv (.ref a :: st) := V_getN hx (T := TX0) (N := 11) (ci := 0) rfl inT0 6 (by decide) q55 rfl i he hv hd kk
theorem pf_X1_128 (hx : FX x l R g nL cc RX1) {a : Nat} {fs : List Value} {v : Int32} (hn : narrow .boolean (.int v) = .int v) (hfit : fits .boolean (.int v) = true) (i : Nat) (he : ws[i]? = some (a, .inr (0, fs))) (hl : 6 < fs.length) (ws' : va_W) (hw : ws.set i (a, .inr (0, fs.set 6 (.int v))) = ws') (hd : decode cc pc = .ok (.putfield 128, 3)) (kk : V x k n ws' (pc + 3) lv st) : V x k n ws pc lv (.int v :: .ref a :: st) := V_putN hx (T := TX0) (N := 11) (ci := 0) rfl inT0 tyX0 tyX0_ok nmX0 6 (by decide) q55 rfl rfl (ty := .boolean) (by decide +kernel) hn hfit i he hl ws' hw hd kk
theorem q56 : Cond.fieldLink RX0 40 RX0 "lost" "I" ∈ tbl := tin 117 (by decide +kernel) rfl
theorem gf_X0_40 (hx : FX x l R g nL cc RX0) {a : Nat} {fs : List Value} {v : Value} (i : Nat) (he : ws[i]? = some (a, .inr (0, fs))) (hv : fs[7]? = some v) (hd : decode cc pc = .ok (.getfield 40, 3)) (kk : V x k n ws (pc + 3) lv (v :: st)) : V x k n ws pc lv (.ref a :: st) := V_get hx (T := TX0) (N := 11) (ci := 0) rfl inT0 7 (by decide) q56 rfl i he hv hd kk
theorem pf_X0_40 (hx : FX x l R g nL cc RX0) {a : Nat} {fs : List Value} {v : Int32} (i : Nat) (he : ws[i]? = some (a, .inr (0, fs))) (hl : 7 < fs.length) (ws' : va_W) (hw : ws.set i (a, .inr (0, fs.set 7 (.int v))) = ws') (hd : decode cc pc = .ok (.putfield 40, 3)) (kk : V x k n ws' (pc + 3) lv st) : V x k n ws pc lv (.int v :: .ref a :: st) := V_put hx (T := TX0) (N := 11) (ci := 0) rfl inT0 tyX0 tyX0_ok nmX0 7 (by decide) q56 rfl rfl (ty := .int) (by decide +kernel) rfl rfl i he hl ws' hw hd kk
theorem q57 : Cond.fieldLinkNest RX1 72 RX0 "lost" "I" RX2 ∈ tbl := tin 118 (by decide +kernel) rfl
theorem gf_X1_72 (hx : FX x l R g nL cc RX1) {a : Nat} {fs : List Value} {v : Value} (i : Nat) (he : ws[i]? = some (a, .inr (0, fs))) (hv : fs[7]? = some v) (hd : decode cc pc = .ok (.getfield 72, 3)) (kk : V x k n ws (pc + 3) lv (v :: st)) : V x k n ws pc lv (.ref a :: st) := V_getN hx (T := TX0) (N := 11) (ci := 0) rfl inT0 7 (by decide) q57 rfl i he hv hd kk
theorem pf_X1_72 (hx : FX x l R g nL cc RX1) {a : Nat} {fs : List Value} {v : Int32} (i : Nat) (he : ws[i]? = some (a, .inr (0, fs))) (hl : 7 < fs.length) (ws' : va_W) (hw : ws.set i (a, .inr (0, fs.set 7 (.int v))) = ws') (hd : decode cc pc = .ok (.putfield 72, 3)) (kk : V x k n ws' (pc + 3) lv st) : V x k n ws pc lv (.int v :: .ref a :: st) := V_putN hx (T := TX0) (N := 11) (ci := 0) rfl inT0 tyX0 tyX0_ok nmX0 7 (by decide) q57 rfl rfl (ty := .int) (by decide +kernel) rfl rfl i he hl ws' hw hd kk
theorem q58 : Cond.fieldLink RX0 24 RX0 "remembered" "[I" ∈ tbl := tin 119 (by decide +kernel) rfl
theorem gf_X0_24 (hx : FX x l R g nL cc RX0) {a : Nat} {fs : List Value} {v : Value} (i : Nat) (he : ws[i]? = some (a, .inr (0, fs))) (hv : fs[8]? = some v) (hd : decode cc pc = .ok (.getfield 24, 3)) (kk : V x k n ws (pc + 3) lv (v :: st)) : V x k n ws pc lv (.ref a :: st) := V_get hx (T := TX0) (N := 11) (ci := 0) rfl inT0 8 (by decide) q58 rfl i he hv hd kk
theorem q59 : Cond.fieldLinkNest RX1 116 RX0 "remembered" "[I" RX2 ∈ tbl := tin 120 (by decide +kernel) rfl
theorem gf_X1_116 (hx : FX x l R g nL cc RX1) {a : Nat} {fs : List Value} {v : Value} (i : Nat) (he : ws[i]? = some (a, .inr (0, fs))) (hv : fs[8]? = some v) (hd : decode cc pc = .ok (.getfield 116, 3)) (kk : V x k n ws (pc + 3) lv (v :: st)) : V x k n ws pc lv (.ref a :: st) := V_getN hx (T := TX0) (N := 11) (ci := 0) rfl inT0 8 (by decide) q59 rfl i he hv hd kk
theorem q60 : Cond.fieldLink RX0 27 RX0 "rememberedSeals" "[I" ∈ tbl := tin 121 (by decide +kernel) rfl
theorem gf_X0_27 (hx : FX x l R g nL cc RX0) {a : Nat} {fs : List Value} {v : Value} (i : Nat) (he : ws[i]? = some (a, .inr (0, fs))) (hv : fs[9]? = some v) (hd : decode cc pc = .ok (.getfield 27, 3)) (kk : V x k n ws (pc + 3) lv (v :: st)) : V x k n ws pc lv (.ref a :: st) := V_get hx (T := TX0) (N := 11) (ci := 0) rfl inT0 9 (by decide) q60 rfl i he hv hd kk
theorem q61 : Cond.fieldLinkNest RX1 119 RX0 "rememberedSeals" "[I" RX2 ∈ tbl := tin 122 (by decide +kernel) rfl
theorem gf_X1_119 (hx : FX x l R g nL cc RX1) {a : Nat} {fs : List Value} {v : Value} (i : Nat) (he : ws[i]? = some (a, .inr (0, fs))) (hv : fs[9]? = some v) (hd : decode cc pc = .ok (.getfield 119, 3)) (kk : V x k n ws (pc + 3) lv (v :: st)) : V x k n ws pc lv (.ref a :: st) := V_getN hx (T := TX0) (N := 11) (ci := 0) rfl inT0 9 (by decide) q61 rfl i he hv hd kk
theorem q62 : Cond.fieldLink RX0 30 RX0 "own" "[I" ∈ tbl := tin 123 (by decide +kernel) rfl
theorem gf_X0_30 (hx : FX x l R g nL cc RX0) {a : Nat} {fs : List Value} {v : Value} (i : Nat) (he : ws[i]? = some (a, .inr (0, fs))) (hv : fs[10]? = some v) (hd : decode cc pc = .ok (.getfield 30, 3)) (kk : V x k n ws (pc + 3) lv (v :: st)) : V x k n ws pc lv (.ref a :: st) := V_get hx (T := TX0) (N := 11) (ci := 0) rfl inT0 10 (by decide) q62 rfl i he hv hd kk
theorem q63 : Cond.fieldLinkNest RX1 95 RX0 "own" "[I" RX2 ∈ tbl := tin 124 (by decide +kernel) rfl
theorem gf_X1_95 (hx : FX x l R g nL cc RX1) {a : Nat} {fs : List Value} {v : Value} (i : Nat) (he : ws[i]? = some (a, .inr (0, fs))) (hv : fs[10]? = some v) (hd : decode cc pc = .ok (.getfield 95, 3)) (kk : V x k n ws (pc + 3) lv (v :: st)) : V x k n ws pc lv (.ref a :: st) := V_getN hx (T := TX0) (N := 11) (ci := 0) rfl inT0 10 (by decide) q63 rfl i he hv hd kk
theorem q88 : Cond.fieldLink RX1 9 RX1 "drawers" "I" ∈ tbl := tin 149 (by decide +kernel) rfl
theorem gf_X1_9 (hx : FX x l R g nL cc RX1) {a : Nat} {fs : List Value} {v : Value} (i : Nat) (he : ws[i]? = some (a, .inr (1, fs))) (hv : fs[0]? = some v) (hd : decode cc pc = .ok (.getfield 9, 3)) (kk : V x k n ws (pc + 3) lv (v :: st)) : V x k n ws pc lv (.ref a :: st) := V_get hx (T := TX1) (N := 9) (ci := 1) rfl inT1 0 (by decide) q88 rfl i he hv hd kk
theorem pf_X1_9 (hx : FX x l R g nL cc RX1) {a : Nat} {fs : List Value} {v : Int32} (i : Nat) (he : ws[i]? = some (a, .inr (1, fs))) (hl : 0 < fs.length) (ws' : va_W) (hw : ws.set i (a, .inr (1, fs.set 0 (.int v))) = ws') (hd : decode cc pc = .ok (.putfield 9, 3)) (kk : V x k n ws' (pc + 3) lv st) : V x k n ws pc lv (.int v :: .ref a :: st) := V_put hx (T := TX1) (N := 9) (ci := 1) rfl inT1 tyX1 tyX1_ok nmX1 0 (by decide) q88 rfl rfl (ty := .int) (by decide +kernel) rfl rfl i he hl ws' hw hd kk
theorem q89 : Cond.fieldLinkNest RX2 26 RX1 "drawers" "I" RX2 ∈ tbl := tin 150 (by decide +kernel) rfl
theorem gf_X2_26 (hx : FX x l R g nL cc RX2) {a : Nat} {fs : List Value} {v : Value} (i : Nat) (he : ws[i]? = some (a, .inr (1, fs))) (hv : fs[0]? = some v) (hd : decode cc pc = .ok (.getfield 26, 3)) (kk : V x k n ws (pc + 3) lv (v :: st)) : V x k n ws pc lv (.ref a :: st) := V_getN hx (T := TX1) (N := 9) (ci := 1) rfl inT1 0 (by decide) q89 rfl i he hv hd kk
theorem pf_X2_26 (hx : FX x l R g nL cc RX2) {a : Nat} {fs : List Value} {v : Int32} (i : Nat) (he : ws[i]? = some (a, .inr (1, fs))) (hl : 0 < fs.length) (ws' : va_W) (hw : ws.set i (a, .inr (1, fs.set 0 (.int v))) = ws') (hd : decode cc pc = .ok (.putfield 26, 3)) (kk : V x k n ws' (pc + 3) lv st) : V x k n ws pc lv (.int v :: .ref a :: st) := V_putN hx (T := TX1) (N := 9) (ci := 1) rfl inT1 tyX1 tyX1_ok nmX1 0 (by decide) q89 rfl rfl (ty := .int) (by decide +kernel) rfl rfl i he hl ws' hw hd kk
theorem q90 : Cond.fieldLink RX1 15 RX1 "amounts" "[I" ∈ tbl := tin 151 (by decide +kernel) rfl
theorem gf_X1_15 (hx : FX x l R g nL cc RX1) {a : Nat} {fs : List Value} {v : Value} (i : Nat) (he : ws[i]? = some (a, .inr (1, fs))) (hv : fs[1]? = some v) (hd : decode cc pc = .ok (.getfield 15, 3)) (kk : V x k n ws (pc + 3) lv (v :: st)) : V x k n ws pc lv (.ref a :: st) := V_get hx (T := TX1) (N := 9) (ci := 1) rfl inT1 1 (by decide) q90 rfl i he hv hd kk
theorem q91 : Cond.fieldLinkNest RX2 39 RX1 "amounts" "[I" RX2 ∈ tbl := tin 152 (by decide +kernel) rfl
theorem gf_X2_39 (hx : FX x l R g nL cc RX2) {a : Nat} {fs : List Value} {v : Value} (i : Nat) (he : ws[i]? = some (a, .inr (1, fs))) (hv : fs[1]? = some v) (hd : decode cc pc = .ok (.getfield 39, 3)) (kk : V x k n ws (pc + 3) lv (v :: st)) : V x k n ws pc lv (.ref a :: st) := V_getN hx (T := TX1) (N := 9) (ci := 1) rfl inT1 1 (by decide) q91 rfl i he hv hd kk
theorem q92 : Cond.fieldLink RX1 19 RX1 "seals" "[I" ∈ tbl := tin 153 (by decide +kernel) rfl
theorem gf_X1_19 (hx : FX x l R g nL cc RX1) {a : Nat} {fs : List Value} {v : Value} (i : Nat) (he : ws[i]? = some (a, .inr (1, fs))) (hv : fs[2]? = some v) (hd : decode cc pc = .ok (.getfield 19, 3)) (kk : V x k n ws (pc + 3) lv (v :: st)) : V x k n ws pc lv (.ref a :: st) := V_get hx (T := TX1) (N := 9) (ci := 1) rfl inT1 2 (by decide) q92 rfl i he hv hd kk
theorem q93 : Cond.fieldLink RX1 38 RX1 "clerkCount" "I" ∈ tbl := tin 154 (by decide +kernel) rfl
theorem gf_X1_38 (hx : FX x l R g nL cc RX1) {a : Nat} {fs : List Value} {v : Value} (i : Nat) (he : ws[i]? = some (a, .inr (1, fs))) (hv : fs[3]? = some v) (hd : decode cc pc = .ok (.getfield 38, 3)) (kk : V x k n ws (pc + 3) lv (v :: st)) : V x k n ws pc lv (.ref a :: st) := V_get hx (T := TX1) (N := 9) (ci := 1) rfl inT1 3 (by decide) q93 rfl i he hv hd kk
theorem pf_X1_38 (hx : FX x l R g nL cc RX1) {a : Nat} {fs : List Value} {v : Int32} (i : Nat) (he : ws[i]? = some (a, .inr (1, fs))) (hl : 3 < fs.length) (ws' : va_W) (hw : ws.set i (a, .inr (1, fs.set 3 (.int v))) = ws') (hd : decode cc pc = .ok (.putfield 38, 3)) (kk : V x k n ws' (pc + 3) lv st) : V x k n ws pc lv (.int v :: .ref a :: st) := V_put hx (T := TX1) (N := 9) (ci := 1) rfl inT1 tyX1 tyX1_ok nmX1 3 (by decide) q93 rfl rfl (ty := .int) (by decide +kernel) rfl rfl i he hl ws' hw hd kk
theorem q94 : Cond.fieldLinkNest RX2 47 RX1 "clerkCount" "I" RX2 ∈ tbl := tin 155 (by decide +kernel) rfl
theorem gf_X2_47 (hx : FX x l R g nL cc RX2) {a : Nat} {fs : List Value} {v : Value} (i : Nat) (he : ws[i]? = some (a, .inr (1, fs))) (hv : fs[3]? = some v) (hd : decode cc pc = .ok (.getfield 47, 3)) (kk : V x k n ws (pc + 3) lv (v :: st)) : V x k n ws pc lv (.ref a :: st) := V_getN hx (T := TX1) (N := 9) (ci := 1) rfl inT1 3 (by decide) q94 rfl i he hv hd kk
theorem pf_X2_47 (hx : FX x l R g nL cc RX2) {a : Nat} {fs : List Value} {v : Int32} (i : Nat) (he : ws[i]? = some (a, .inr (1, fs))) (hl : 3 < fs.length) (ws' : va_W) (hw : ws.set i (a, .inr (1, fs.set 3 (.int v))) = ws') (hd : decode cc pc = .ok (.putfield 47, 3)) (kk : V x k n ws' (pc + 3) lv st) : V x k n ws pc lv (.int v :: .ref a :: st) := V_putN hx (T := TX1) (N := 9) (ci := 1) rfl inT1 tyX1 tyX1_ok nmX1 3 (by decide) q94 rfl rfl (ty := .int) (by decide +kernel) rfl rfl i he hl ws' hw hd kk
theorem q95 : Cond.fieldLink RX1 24 RX1 "clerks" "[LTillOptimists$Clerk;" ∈ tbl := tin 156 (by decide +kernel) rfl
theorem gf_X1_24 (hx : FX x l R g nL cc RX1) {a : Nat} {fs : List Value} {v : Value} (i : Nat) (he : ws[i]? = some (a, .inr (1, fs))) (hv : fs[4]? = some v) (hd : decode cc pc = .ok (.getfield 24, 3)) (kk : V x k n ws (pc + 3) lv (v :: st)) : V x k n ws pc lv (.ref a :: st) := V_get hx (T := TX1) (N := 9) (ci := 1) rfl inT1 4 (by decide) q95 rfl i he hv hd kk
theorem q96 : Cond.fieldLinkNest RX2 72 RX1 "clerks" "[LTillOptimists$Clerk;" RX2 ∈ tbl := tin 157 (by decide +kernel) rfl
theorem gf_X2_72 (hx : FX x l R g nL cc RX2) {a : Nat} {fs : List Value} {v : Value} (i : Nat) (he : ws[i]? = some (a, .inr (1, fs))) (hv : fs[4]? = some v) (hd : decode cc pc = .ok (.getfield 72, 3)) (kk : V x k n ws (pc + 3) lv (v :: st)) : V x k n ws pc lv (.ref a :: st) := V_getN hx (T := TX1) (N := 9) (ci := 1) rfl inT1 4 (by decide) q96 rfl i he hv hd kk
theorem q97 : Cond.fieldLink RX1 41 RX1 "closings" "I" ∈ tbl := tin 158 (by decide +kernel) rfl
theorem gf_X1_41 (hx : FX x l R g nL cc RX1) {a : Nat} {fs : List Value} {v : Value} (i : Nat) (he : ws[i]? = some (a, .inr (1, fs))) (hv : fs[5]? = some v) (hd : decode cc pc = .ok (.getfield 41, 3)) (kk : V x k n ws (pc + 3) lv (v :: st)) : V x k n ws pc lv (.ref a :: st) := V_get hx (T := TX1) (N := 9) (ci := 1) rfl inT1 5 (by decide) q97 rfl i he hv hd kk
theorem pf_X1_41 (hx : FX x l R g nL cc RX1) {a : Nat} {fs : List Value} {v : Int32} (i : Nat) (he : ws[i]? = some (a, .inr (1, fs))) (hl : 5 < fs.length) (ws' : va_W) (hw : ws.set i (a, .inr (1, fs.set 5 (.int v))) = ws') (hd : decode cc pc = .ok (.putfield 41, 3)) (kk : V x k n ws' (pc + 3) lv st) : V x k n ws pc lv (.int v :: .ref a :: st) := V_put hx (T := TX1) (N := 9) (ci := 1) rfl inT1 tyX1 tyX1_ok nmX1 5 (by decide) q97 rfl rfl (ty := .int) (by decide +kernel) rfl rfl i he hl ws' hw hd kk
theorem q98 : Cond.fieldLink RX1 29 RX1 "closers" "[I" ∈ tbl := tin 159 (by decide +kernel) rfl
theorem gf_X1_29 (hx : FX x l R g nL cc RX1) {a : Nat} {fs : List Value} {v : Value} (i : Nat) (he : ws[i]? = some (a, .inr (1, fs))) (hv : fs[6]? = some v) (hd : decode cc pc = .ok (.getfield 29, 3)) (kk : V x k n ws (pc + 3) lv (v :: st)) : V x k n ws pc lv (.ref a :: st) := V_get hx (T := TX1) (N := 9) (ci := 1) rfl inT1 6 (by decide) q98 rfl i he hv hd kk
theorem q99 : Cond.fieldLink RX1 32 RX1 "writtens" "[I" ∈ tbl := tin 160 (by decide +kernel) rfl
theorem gf_X1_32 (hx : FX x l R g nL cc RX1) {a : Nat} {fs : List Value} {v : Value} (i : Nat) (he : ws[i]? = some (a, .inr (1, fs))) (hv : fs[7]? = some v) (hd : decode cc pc = .ok (.getfield 32, 3)) (kk : V x k n ws (pc + 3) lv (v :: st)) : V x k n ws pc lv (.ref a :: st) := V_get hx (T := TX1) (N := 9) (ci := 1) rfl inT1 7 (by decide) q99 rfl i he hv hd kk
theorem q100 : Cond.fieldLink RX1 35 RX1 "sums" "[I" ∈ tbl := tin 161 (by decide +kernel) rfl
theorem gf_X1_35 (hx : FX x l R g nL cc RX1) {a : Nat} {fs : List Value} {v : Value} (i : Nat) (he : ws[i]? = some (a, .inr (1, fs))) (hv : fs[8]? = some v) (hd : decode cc pc = .ok (.getfield 35, 3)) (kk : V x k n ws (pc + 3) lv (v :: st)) : V x k n ws pc lv (.ref a :: st) := V_get hx (T := TX1) (N := 9) (ci := 1) rfl inT1 8 (by decide) q100 rfl i he hv hd kk
theorem q120 : Cond.fieldLink RX2 10 RX2 "now" "LTillOptimists$Shop;" ∈ tbl := tin 181 (by decide +kernel) rfl
theorem gf_X2_10 (hx : FX x l R g nL cc RX2) {a : Nat} {fs : List Value} {v : Value} (i : Nat) (he : ws[i]? = some (a, .inr (2, fs))) (hv : fs[0]? = some v) (hd : decode cc pc = .ok (.getfield 10, 3)) (kk : V x k n ws (pc + 3) lv (v :: st)) : V x k n ws pc lv (.ref a :: st) := V_get hx (T := TX2) (N := 2) (ci := 2) rfl inT2 0 (by decide) q120 rfl i he hv hd kk
theorem q121 : Cond.fieldLink RX2 16 RX2 "trial" "LTillOptimists$Shop;" ∈ tbl := tin 182 (by decide +kernel) rfl
theorem gf_X2_16 (hx : FX x l R g nL cc RX2) {a : Nat} {fs : List Value} {v : Value} (i : Nat) (he : ws[i]? = some (a, .inr (2, fs))) (hv : fs[1]? = some v) (hd : decode cc pc = .ok (.getfield 16, 3)) (kk : V x k n ws (pc + 3) lv (v :: st)) : V x k n ws pc lv (.ref a :: st) := V_get hx (T := TX2) (N := 2) (ci := 2) rfl inT2 1 (by decide) q121 rfl i he hv hd kk
theorem q581 : Cond.fieldLink RX3 9 RX3 "drawers" "I" ∈ tbl := tin 642 (by decide +kernel) rfl
theorem gf_X3_9 (hx : FX x l R g nL cc RX3) {a : Nat} {fs : List Value} {v : Value} (i : Nat) (he : ws[i]? = some (a, .inr (3, fs))) (hv : fs[0]? = some v) (hd : decode cc pc = .ok (.getfield 9, 3)) (kk : V x k n ws (pc + 3) lv (v :: st)) : V x k n ws pc lv (.ref a :: st) := V_get hx (T := TX3) (N := 16) (ci := 3) rfl inT3 0 (by decide) q581 rfl i he hv hd kk
theorem pf_X3_9 (hx : FX x l R g nL cc RX3) {a : Nat} {fs : List Value} {v : Int32} (i : Nat) (he : ws[i]? = some (a, .inr (3, fs))) (hl : 0 < fs.length) (ws' : va_W) (hw : ws.set i (a, .inr (3, fs.set 0 (.int v))) = ws') (hd : decode cc pc = .ok (.putfield 9, 3)) (kk : V x k n ws' (pc + 3) lv st) : V x k n ws pc lv (.int v :: .ref a :: st) := V_put hx (T := TX3) (N := 16) (ci := 3) rfl inT3 tyX3 tyX3_ok nmX3 0 (by decide) q581 rfl rfl (ty := .int) (by decide +kernel) rfl rfl i he hl ws' hw hd kk
theorem q582 : Cond.fieldLinkNest RX4 23 RX3 "drawers" "I" RX4 ∈ tbl := tin 643 (by decide +kernel) rfl
theorem gf_X4_23 (hx : FX x l R g nL cc RX4) {a : Nat} {fs : List Value} {v : Value} (i : Nat) (he : ws[i]? = some (a, .inr (3, fs))) (hv : fs[0]? = some v) (hd : decode cc pc = .ok (.getfield 23, 3)) (kk : V x k n ws (pc + 3) lv (v :: st)) : V x k n ws pc lv (.ref a :: st) := V_getN hx (T := TX3) (N := 16) (ci := 3) rfl inT3 0 (by decide) q582 rfl i he hv hd kk
theorem pf_X4_23 (hx : FX x l R g nL cc RX4) {a : Nat} {fs : List Value} {v : Int32} (i : Nat) (he : ws[i]? = some (a, .inr (3, fs))) (hl : 0 < fs.length) (ws' : va_W) (hw : ws.set i (a, .inr (3, fs.set 0 (.int v))) = ws') (hd : decode cc pc = .ok (.putfield 23, 3)) (kk : V x k n ws' (pc + 3) lv st) : V x k n ws pc lv (.int v :: .ref a :: st) := V_putN hx (T := TX3) (N := 16) (ci := 3) rfl inT3 tyX3 tyX3_ok nmX3 0 (by decide) q582 rfl rfl (ty := .int) (by decide +kernel) rfl rfl i he hl ws' hw hd kk
theorem q583 : Cond.fieldLink RX3 61 RX3 "clerks" "I" ∈ tbl := tin 644 (by decide +kernel) rfl
theorem gf_X3_61 (hx : FX x l R g nL cc RX3) {a : Nat} {fs : List Value} {v : Value} (i : Nat) (he : ws[i]? = some (a, .inr (3, fs))) (hv : fs[1]? = some v) (hd : decode cc pc = .ok (.getfield 61, 3)) (kk : V x k n ws (pc + 3) lv (v :: st)) : V x k n ws pc lv (.ref a :: st) := V_get hx (T := TX3) (N := 16) (ci := 3) rfl inT3 1 (by decide) q583 rfl i he hv hd kk
theorem pf_X3_61 (hx : FX x l R g nL cc RX3) {a : Nat} {fs : List Value} {v : Int32} (i : Nat) (he : ws[i]? = some (a, .inr (3, fs))) (hl : 1 < fs.length) (ws' : va_W) (hw : ws.set i (a, .inr (3, fs.set 1 (.int v))) = ws') (hd : decode cc pc = .ok (.putfield 61, 3)) (kk : V x k n ws' (pc + 3) lv st) : V x k n ws pc lv (.int v :: .ref a :: st) := V_put hx (T := TX3) (N := 16) (ci := 3) rfl inT3 tyX3 tyX3_ok nmX3 1 (by decide) q583 rfl rfl (ty := .int) (by decide +kernel) rfl rfl i he hl ws' hw hd kk
theorem q584 : Cond.fieldLinkNest RX4 30 RX3 "clerks" "I" RX4 ∈ tbl := tin 645 (by decide +kernel) rfl
theorem gf_X4_30 (hx : FX x l R g nL cc RX4) {a : Nat} {fs : List Value} {v : Value} (i : Nat) (he : ws[i]? = some (a, .inr (3, fs))) (hv : fs[1]? = some v) (hd : decode cc pc = .ok (.getfield 30, 3)) (kk : V x k n ws (pc + 3) lv (v :: st)) : V x k n ws pc lv (.ref a :: st) := V_getN hx (T := TX3) (N := 16) (ci := 3) rfl inT3 1 (by decide) q584 rfl i he hv hd kk
theorem pf_X4_30 (hx : FX x l R g nL cc RX4) {a : Nat} {fs : List Value} {v : Int32} (i : Nat) (he : ws[i]? = some (a, .inr (3, fs))) (hl : 1 < fs.length) (ws' : va_W) (hw : ws.set i (a, .inr (3, fs.set 1 (.int v))) = ws') (hd : decode cc pc = .ok (.putfield 30, 3)) (kk : V x k n ws' (pc + 3) lv st) : V x k n ws pc lv (.int v :: .ref a :: st) := V_putN hx (T := TX3) (N := 16) (ci := 3) rfl inT3 tyX3 tyX3_ok nmX3 1 (by decide) q584 rfl rfl (ty := .int) (by decide +kernel) rfl rfl i he hl ws' hw hd kk
theorem q585 : Cond.fieldLink RX3 64 RX3 "closings" "I" ∈ tbl := tin 646 (by decide +kernel) rfl
theorem gf_X3_64 (hx : FX x l R g nL cc RX3) {a : Nat} {fs : List Value} {v : Value} (i : Nat) (he : ws[i]? = some (a, .inr (3, fs))) (hv : fs[2]? = some v) (hd : decode cc pc = .ok (.getfield 64, 3)) (kk : V x k n ws (pc + 3) lv (v :: st)) : V x k n ws pc lv (.ref a :: st) := V_get hx (T := TX3) (N := 16) (ci := 3) rfl inT3 2 (by decide) q585 rfl i he hv hd kk
theorem pf_X3_64 (hx : FX x l R g nL cc RX3) {a : Nat} {fs : List Value} {v : Int32} (i : Nat) (he : ws[i]? = some (a, .inr (3, fs))) (hl : 2 < fs.length) (ws' : va_W) (hw : ws.set i (a, .inr (3, fs.set 2 (.int v))) = ws') (hd : decode cc pc = .ok (.putfield 64, 3)) (kk : V x k n ws' (pc + 3) lv st) : V x k n ws pc lv (.int v :: .ref a :: st) := V_put hx (T := TX3) (N := 16) (ci := 3) rfl inT3 tyX3 tyX3_ok nmX3 2 (by decide) q585 rfl rfl (ty := .int) (by decide +kernel) rfl rfl i he hl ws' hw hd kk
theorem q586 : Cond.fieldLinkNest RX4 126 RX3 "closings" "I" RX4 ∈ tbl := tin 647 (by decide +kernel) rfl
theorem gf_X4_126 (hx : FX x l R g nL cc RX4) {a : Nat} {fs : List Value} {v : Value} (i : Nat) (he : ws[i]? = some (a, .inr (3, fs))) (hv : fs[2]? = some v) (hd : decode cc pc = .ok (.getfield 126, 3)) (kk : V x k n ws (pc + 3) lv (v :: st)) : V x k n ws pc lv (.ref a :: st) := V_getN hx (T := TX3) (N := 16) (ci := 3) rfl inT3 2 (by decide) q586 rfl i he hv hd kk
theorem pf_X4_126 (hx : FX x l R g nL cc RX4) {a : Nat} {fs : List Value} {v : Int32} (i : Nat) (he : ws[i]? = some (a, .inr (3, fs))) (hl : 2 < fs.length) (ws' : va_W) (hw : ws.set i (a, .inr (3, fs.set 2 (.int v))) = ws') (hd : decode cc pc = .ok (.putfield 126, 3)) (kk : V x k n ws' (pc + 3) lv st) : V x k n ws pc lv (.int v :: .ref a :: st) := V_putN hx (T := TX3) (N := 16) (ci := 3) rfl inT3 tyX3 tyX3_ok nmX3 2 (by decide) q586 rfl rfl (ty := .int) (by decide +kernel) rfl rfl i he hl ws' hw hd kk
theorem q587 : Cond.fieldLink RX3 15 RX3 "amount" "[I" ∈ tbl := tin 648 (by decide +kernel) rfl
theorem gf_X3_15 (hx : FX x l R g nL cc RX3) {a : Nat} {fs : List Value} {v : Value} (i : Nat) (he : ws[i]? = some (a, .inr (3, fs))) (hv : fs[3]? = some v) (hd : decode cc pc = .ok (.getfield 15, 3)) (kk : V x k n ws (pc + 3) lv (v :: st)) : V x k n ws pc lv (.ref a :: st) := V_get hx (T := TX3) (N := 16) (ci := 3) rfl inT3 3 (by decide) q587 rfl i he hv hd kk
theorem q588 : Cond.fieldLinkNest RX4 45 RX3 "amount" "[I" RX4 ∈ tbl := tin 649 (by decide +kernel) rfl
theorem gf_X4_45 (hx : FX x l R g nL cc RX4) {a : Nat} {fs : List Value} {v : Value} (i : Nat) (he : ws[i]? = some (a, .inr (3, fs))) (hv : fs[3]? = some v) (hd : decode cc pc = .ok (.getfield 45, 3)) (kk : V x k n ws (pc + 3) lv (v :: st)) : V x k n ws pc lv (.ref a :: st) := V_getN hx (T := TX3) (N := 16) (ci := 3) rfl inT3 3 (by decide) q588 rfl i he hv hd kk
theorem q589 : Cond.fieldLink RX3 19 RX3 "seal" "[I" ∈ tbl := tin 650 (by decide +kernel) rfl
theorem gf_X3_19 (hx : FX x l R g nL cc RX3) {a : Nat} {fs : List Value} {v : Value} (i : Nat) (he : ws[i]? = some (a, .inr (3, fs))) (hv : fs[4]? = some v) (hd : decode cc pc = .ok (.getfield 19, 3)) (kk : V x k n ws (pc + 3) lv (v :: st)) : V x k n ws pc lv (.ref a :: st) := V_get hx (T := TX3) (N := 16) (ci := 3) rfl inT3 4 (by decide) q589 rfl i he hv hd kk
theorem q590 : Cond.fieldLinkNest RX4 90 RX3 "seal" "[I" RX4 ∈ tbl := tin 651 (by decide +kernel) rfl
theorem gf_X4_90 (hx : FX x l R g nL cc RX4) {a : Nat} {fs : List Value} {v : Value} (i : Nat) (he : ws[i]? = some (a, .inr (3, fs))) (hv : fs[4]? = some v) (hd : decode cc pc = .ok (.getfield 90, 3)) (kk : V x k n ws (pc + 3) lv (v :: st)) : V x k n ws pc lv (.ref a :: st) := V_getN hx (T := TX3) (N := 16) (ci := 3) rfl inT3 4 (by decide) q590 rfl i he hv hd kk
theorem q591 : Cond.fieldLink RX3 22 RX3 "program" "[I" ∈ tbl := tin 652 (by decide +kernel) rfl
theorem gf_X3_22 (hx : FX x l R g nL cc RX3) {a : Nat} {fs : List Value} {v : Value} (i : Nat) (he : ws[i]? = some (a, .inr (3, fs))) (hv : fs[5]? = some v) (hd : decode cc pc = .ok (.getfield 22, 3)) (kk : V x k n ws (pc + 3) lv (v :: st)) : V x k n ws pc lv (.ref a :: st) := V_get hx (T := TX3) (N := 16) (ci := 3) rfl inT3 5 (by decide) q591 rfl i he hv hd kk
theorem q592 : Cond.fieldLinkNest RX4 69 RX3 "program" "[I" RX4 ∈ tbl := tin 653 (by decide +kernel) rfl
theorem gf_X4_69 (hx : FX x l R g nL cc RX4) {a : Nat} {fs : List Value} {v : Value} (i : Nat) (he : ws[i]? = some (a, .inr (3, fs))) (hv : fs[5]? = some v) (hd : decode cc pc = .ok (.getfield 69, 3)) (kk : V x k n ws (pc + 3) lv (v :: st)) : V x k n ws pc lv (.ref a :: st) := V_getN hx (T := TX3) (N := 16) (ci := 3) rfl inT3 5 (by decide) q592 rfl i he hv hd kk
theorem q593 : Cond.fieldLink RX3 25 RX3 "steps" "[I" ∈ tbl := tin 654 (by decide +kernel) rfl
theorem gf_X3_25 (hx : FX x l R g nL cc RX3) {a : Nat} {fs : List Value} {v : Value} (i : Nat) (he : ws[i]? = some (a, .inr (3, fs))) (hv : fs[6]? = some v) (hd : decode cc pc = .ok (.getfield 25, 3)) (kk : V x k n ws (pc + 3) lv (v :: st)) : V x k n ws pc lv (.ref a :: st) := V_get hx (T := TX3) (N := 16) (ci := 3) rfl inT3 6 (by decide) q593 rfl i he hv hd kk
theorem q594 : Cond.fieldLinkNest RX4 66 RX3 "steps" "[I" RX4 ∈ tbl := tin 655 (by decide +kernel) rfl
theorem gf_X4_66 (hx : FX x l R g nL cc RX4) {a : Nat} {fs : List Value} {v : Value} (i : Nat) (he : ws[i]? = some (a, .inr (3, fs))) (hv : fs[6]? = some v) (hd : decode cc pc = .ok (.getfield 66, 3)) (kk : V x k n ws (pc + 3) lv (v :: st)) : V x k n ws pc lv (.ref a :: st) := V_getN hx (T := TX3) (N := 16) (ci := 3) rfl inT3 6 (by decide) q594 rfl i he hv hd kk
theorem q595 : Cond.fieldLink RX3 28 RX3 "place" "[I" ∈ tbl := tin 656 (by decide +kernel) rfl
theorem gf_X3_28 (hx : FX x l R g nL cc RX3) {a : Nat} {fs : List Value} {v : Value} (i : Nat) (he : ws[i]? = some (a, .inr (3, fs))) (hv : fs[7]? = some v) (hd : decode cc pc = .ok (.getfield 28, 3)) (kk : V x k n ws (pc + 3) lv (v :: st)) : V x k n ws pc lv (.ref a :: st) := V_get hx (T := TX3) (N := 16) (ci := 3) rfl inT3 7 (by decide) q595 rfl i he hv hd kk
theorem q596 : Cond.fieldLinkNest RX4 63 RX3 "place" "[I" RX4 ∈ tbl := tin 657 (by decide +kernel) rfl
theorem gf_X4_63 (hx : FX x l R g nL cc RX4) {a : Nat} {fs : List Value} {v : Value} (i : Nat) (he : ws[i]? = some (a, .inr (3, fs))) (hv : fs[7]? = some v) (hd : decode cc pc = .ok (.getfield 63, 3)) (kk : V x k n ws (pc + 3) lv (v :: st)) : V x k n ws pc lv (.ref a :: st) := V_getN hx (T := TX3) (N := 16) (ci := 3) rfl inT3 7 (by decide) q596 rfl i he hv hd kk
theorem q597 : Cond.fieldLink RX3 31 RX3 "done" "[I" ∈ tbl := tin 658 (by decide +kernel) rfl
theorem gf_X3_31 (hx : FX x l R g nL cc RX3) {a : Nat} {fs : List Value} {v : Value} (i : Nat) (he : ws[i]? = some (a, .inr (3, fs))) (hv : fs[8]? = some v) (hd : decode cc pc = .ok (.getfield 31, 3)) (kk : V x k n ws (pc + 3) lv (v :: st)) : V x k n ws pc lv (.ref a :: st) := V_get hx (T := TX3) (N := 16) (ci := 3) rfl inT3 8 (by decide) q597 rfl i he hv hd kk
theorem q598 : Cond.fieldLinkNest RX4 60 RX3 "done" "[I" RX4 ∈ tbl := tin 659 (by decide +kernel) rfl
theorem gf_X4_60 (hx : FX x l R g nL cc RX4) {a : Nat} {fs : List Value} {v : Value} (i : Nat) (he : ws[i]? = some (a, .inr (3, fs))) (hv : fs[8]? = some v) (hd : decode cc pc = .ok (.getfield 60, 3)) (kk : V x k n ws (pc + 3) lv (v :: st)) : V x k n ws pc lv (.ref a :: st) := V_getN hx (T := TX3) (N := 16) (ci := 3) rfl inT3 8 (by decide) q598 rfl i he hv hd kk
theorem q599 : Cond.fieldLink RX3 34 RX3 "lost" "[I" ∈ tbl := tin 660 (by decide +kernel) rfl
theorem gf_X3_34 (hx : FX x l R g nL cc RX3) {a : Nat} {fs : List Value} {v : Value} (i : Nat) (he : ws[i]? = some (a, .inr (3, fs))) (hv : fs[9]? = some v) (hd : decode cc pc = .ok (.getfield 34, 3)) (kk : V x k n ws (pc + 3) lv (v :: st)) : V x k n ws pc lv (.ref a :: st) := V_get hx (T := TX3) (N := 16) (ci := 3) rfl inT3 9 (by decide) q599 rfl i he hv hd kk
theorem q600 : Cond.fieldLinkNest RX4 103 RX3 "lost" "[I" RX4 ∈ tbl := tin 661 (by decide +kernel) rfl
theorem gf_X4_103 (hx : FX x l R g nL cc RX4) {a : Nat} {fs : List Value} {v : Value} (i : Nat) (he : ws[i]? = some (a, .inr (3, fs))) (hv : fs[9]? = some v) (hd : decode cc pc = .ok (.getfield 103, 3)) (kk : V x k n ws (pc + 3) lv (v :: st)) : V x k n ws pc lv (.ref a :: st) := V_getN hx (T := TX3) (N := 16) (ci := 3) rfl inT3 9 (by decide) q600 rfl i he hv hd kk
theorem q601 : Cond.fieldLink RX3 37 RX3 "had" "[I" ∈ tbl := tin 662 (by decide +kernel) rfl
theorem gf_X3_37 (hx : FX x l R g nL cc RX3) {a : Nat} {fs : List Value} {v : Value} (i : Nat) (he : ws[i]? = some (a, .inr (3, fs))) (hv : fs[10]? = some v) (hd : decode cc pc = .ok (.getfield 37, 3)) (kk : V x k n ws (pc + 3) lv (v :: st)) : V x k n ws pc lv (.ref a :: st) := V_get hx (T := TX3) (N := 16) (ci := 3) rfl inT3 10 (by decide) q601 rfl i he hv hd kk
theorem q602 : Cond.fieldLinkNest RX4 93 RX3 "had" "[I" RX4 ∈ tbl := tin 663 (by decide +kernel) rfl
theorem gf_X4_93 (hx : FX x l R g nL cc RX4) {a : Nat} {fs : List Value} {v : Value} (i : Nat) (he : ws[i]? = some (a, .inr (3, fs))) (hv : fs[10]? = some v) (hd : decode cc pc = .ok (.getfield 93, 3)) (kk : V x k n ws (pc + 3) lv (v :: st)) : V x k n ws pc lv (.ref a :: st) := V_getN hx (T := TX3) (N := 16) (ci := 3) rfl inT3 10 (by decide) q602 rfl i he hv hd kk
theorem q603 : Cond.fieldLink RX3 40 RX3 "hadSeal" "[I" ∈ tbl := tin 664 (by decide +kernel) rfl
theorem gf_X3_40 (hx : FX x l R g nL cc RX3) {a : Nat} {fs : List Value} {v : Value} (i : Nat) (he : ws[i]? = some (a, .inr (3, fs))) (hv : fs[11]? = some v) (hd : decode cc pc = .ok (.getfield 40, 3)) (kk : V x k n ws (pc + 3) lv (v :: st)) : V x k n ws pc lv (.ref a :: st) := V_get hx (T := TX3) (N := 16) (ci := 3) rfl inT3 11 (by decide) q603 rfl i he hv hd kk
theorem q604 : Cond.fieldLinkNest RX4 116 RX3 "hadSeal" "[I" RX4 ∈ tbl := tin 665 (by decide +kernel) rfl
theorem gf_X4_116 (hx : FX x l R g nL cc RX4) {a : Nat} {fs : List Value} {v : Value} (i : Nat) (he : ws[i]? = some (a, .inr (3, fs))) (hv : fs[11]? = some v) (hd : decode cc pc = .ok (.getfield 116, 3)) (kk : V x k n ws (pc + 3) lv (v :: st)) : V x k n ws pc lv (.ref a :: st) := V_getN hx (T := TX3) (N := 16) (ci := 3) rfl inT3 11 (by decide) q604 rfl i he hv hd kk
theorem q605 : Cond.fieldLink RX3 43 RX3 "own" "[I" ∈ tbl := tin 666 (by decide +kernel) rfl
theorem gf_X3_43 (hx : FX x l R g nL cc RX3) {a : Nat} {fs : List Value} {v : Value} (i : Nat) (he : ws[i]? = some (a, .inr (3, fs))) (hv : fs[12]? = some v) (hd : decode cc pc = .ok (.getfield 43, 3)) (kk : V x k n ws (pc + 3) lv (v :: st)) : V x k n ws pc lv (.ref a :: st) := V_get hx (T := TX3) (N := 16) (ci := 3) rfl inT3 12 (by decide) q605 rfl i he hv hd kk
theorem q606 : Cond.fieldLinkNest RX4 96 RX3 "own" "[I" RX4 ∈ tbl := tin 667 (by decide +kernel) rfl
theorem gf_X4_96 (hx : FX x l R g nL cc RX4) {a : Nat} {fs : List Value} {v : Value} (i : Nat) (he : ws[i]? = some (a, .inr (3, fs))) (hv : fs[12]? = some v) (hd : decode cc pc = .ok (.getfield 96, 3)) (kk : V x k n ws (pc + 3) lv (v :: st)) : V x k n ws pc lv (.ref a :: st) := V_getN hx (T := TX3) (N := 16) (ci := 3) rfl inT3 12 (by decide) q606 rfl i he hv hd kk
theorem q607 : Cond.fieldLink RX3 46 RX3 "byWhom" "[I" ∈ tbl := tin 668 (by decide +kernel) rfl
theorem gf_X3_46 (hx : FX x l R g nL cc RX3) {a : Nat} {fs : List Value} {v : Value} (i : Nat) (he : ws[i]? = some (a, .inr (3, fs))) (hv : fs[13]? = some v) (hd : decode cc pc = .ok (.getfield 46, 3)) (kk : V x k n ws (pc + 3) lv (v :: st)) : V x k n ws pc lv (.ref a :: st) := V_get hx (T := TX3) (N := 16) (ci := 3) rfl inT3 13 (by decide) q607 rfl i he hv hd kk
theorem q608 : Cond.fieldLinkNest RX4 129 RX3 "byWhom" "[I" RX4 ∈ tbl := tin 669 (by decide +kernel) rfl
theorem gf_X4_129 (hx : FX x l R g nL cc RX4) {a : Nat} {fs : List Value} {v : Value} (i : Nat) (he : ws[i]? = some (a, .inr (3, fs))) (hv : fs[13]? = some v) (hd : decode cc pc = .ok (.getfield 129, 3)) (kk : V x k n ws (pc + 3) lv (v :: st)) : V x k n ws pc lv (.ref a :: st) := V_getN hx (T := TX3) (N := 16) (ci := 3) rfl inT3 13 (by decide) q608 rfl i he hv hd kk
theorem q609 : Cond.fieldLink RX3 49 RX3 "wrote" "[I" ∈ tbl := tin 670 (by decide +kernel) rfl
theorem gf_X3_49 (hx : FX x l R g nL cc RX3) {a : Nat} {fs : List Value} {v : Value} (i : Nat) (he : ws[i]? = some (a, .inr (3, fs))) (hv : fs[14]? = some v) (hd : decode cc pc = .ok (.getfield 49, 3)) (kk : V x k n ws (pc + 3) lv (v :: st)) : V x k n ws pc lv (.ref a :: st) := V_get hx (T := TX3) (N := 16) (ci := 3) rfl inT3 14 (by decide) q609 rfl i he hv hd kk
theorem q610 : Cond.fieldLinkNest RX4 132 RX3 "wrote" "[I" RX4 ∈ tbl := tin 671 (by decide +kernel) rfl
theorem gf_X4_132 (hx : FX x l R g nL cc RX4) {a : Nat} {fs : List Value} {v : Value} (i : Nat) (he : ws[i]? = some (a, .inr (3, fs))) (hv : fs[14]? = some v) (hd : decode cc pc = .ok (.getfield 132, 3)) (kk : V x k n ws (pc + 3) lv (v :: st)) : V x k n ws pc lv (.ref a :: st) := V_getN hx (T := TX3) (N := 16) (ci := 3) rfl inT3 14 (by decide) q610 rfl i he hv hd kk
theorem q611 : Cond.fieldLink RX3 52 RX3 "sums" "[I" ∈ tbl := tin 672 (by decide +kernel) rfl
theorem gf_X3_52 (hx : FX x l R g nL cc RX3) {a : Nat} {fs : List Value} {v : Value} (i : Nat) (he : ws[i]? = some (a, .inr (3, fs))) (hv : fs[15]? = some v) (hd : decode cc pc = .ok (.getfield 52, 3)) (kk : V x k n ws (pc + 3) lv (v :: st)) : V x k n ws pc lv (.ref a :: st) := V_get hx (T := TX3) (N := 16) (ci := 3) rfl inT3 15 (by decide) q611 rfl i he hv hd kk
theorem q612 : Cond.fieldLinkNest RX4 135 RX3 "sums" "[I" RX4 ∈ tbl := tin 673 (by decide +kernel) rfl
theorem gf_X4_135 (hx : FX x l R g nL cc RX4) {a : Nat} {fs : List Value} {v : Value} (i : Nat) (he : ws[i]? = some (a, .inr (3, fs))) (hv : fs[15]? = some v) (hd : decode cc pc = .ok (.getfield 135, 3)) (kk : V x k n ws (pc + 3) lv (v :: st)) : V x k n ws pc lv (.ref a :: st) := V_getN hx (T := TX3) (N := 16) (ci := 3) rfl inT3 15 (by decide) q612 rfl i he hv hd kk
theorem q646 : Cond.fieldLink RX4 19 RX4 "thrown" "I" ∈ tbl := tin 707 (by decide +kernel) rfl
theorem gf_X4_19 (hx : FX x l R g nL cc RX4) {a : Nat} {fs : List Value} {v : Value} (i : Nat) (he : ws[i]? = some (a, .inr (4, fs))) (hv : fs[0]? = some v) (hd : decode cc pc = .ok (.getfield 19, 3)) (kk : V x k n ws (pc + 3) lv (v :: st)) : V x k n ws pc lv (.ref a :: st) := V_get hx (T := TX4) (N := 3) (ci := 4) rfl inT4 0 (by decide) q646 rfl i he hv hd kk
theorem pf_X4_19 (hx : FX x l R g nL cc RX4) {a : Nat} {fs : List Value} {v : Int32} (i : Nat) (he : ws[i]? = some (a, .inr (4, fs))) (hl : 0 < fs.length) (ws' : va_W) (hw : ws.set i (a, .inr (4, fs.set 0 (.int v))) = ws') (hd : decode cc pc = .ok (.putfield 19, 3)) (kk : V x k n ws' (pc + 3) lv st) : V x k n ws pc lv (.int v :: .ref a :: st) := V_put hx (T := TX4) (N := 3) (ci := 4) rfl inT4 tyX4 tyX4_ok nmX4 0 (by decide) q646 rfl rfl (ty := .int) (by decide +kernel) rfl rfl i he hl ws' hw hd kk
theorem q647 : Cond.fieldLink RX4 10 RX4 "s" "LTillOptimistsModel$State;" ∈ tbl := tin 708 (by decide +kernel) rfl
theorem gf_X4_10 (hx : FX x l R g nL cc RX4) {a : Nat} {fs : List Value} {v : Value} (i : Nat) (he : ws[i]? = some (a, .inr (4, fs))) (hv : fs[1]? = some v) (hd : decode cc pc = .ok (.getfield 10, 3)) (kk : V x k n ws (pc + 3) lv (v :: st)) : V x k n ws pc lv (.ref a :: st) := V_get hx (T := TX4) (N := 3) (ci := 4) rfl inT4 1 (by decide) q647 rfl i he hv hd kk
theorem q648 : Cond.fieldLink RX4 16 RX4 "ahead" "LTillOptimistsModel$State;" ∈ tbl := tin 709 (by decide +kernel) rfl
theorem gf_X4_16 (hx : FX x l R g nL cc RX4) {a : Nat} {fs : List Value} {v : Value} (i : Nat) (he : ws[i]? = some (a, .inr (4, fs))) (hv : fs[2]? = some v) (hd : decode cc pc = .ok (.getfield 16, 3)) (kk : V x k n ws (pc + 3) lv (v :: st)) : V x k n ws pc lv (.ref a :: st) := V_get hx (T := TX4) (N := 3) (ci := 4) rfl inT4 2 (by decide) q648 rfl i he hv hd kk
end GF
theorem q1 : Cond.initialized RX2 ∈ tbl := tin 62 (by decide +kernel) rfl
theorem q16 : Cond.methodLink RL 69 yX2_init ∈ tbl := tin 77 (by decide +kernel) rfl
theorem q18 : Cond.code yX2_init cX2_init 1 none ∈ tbl := tin 79 (by decide +kernel) rfl
theorem q17 : Cond.instanceMethod yX2_init ∈ tbl := tin 78 (by decide +kernel) rfl
theorem q2 : Cond.initialized RX1 ∈ tbl := tin 63 (by decide +kernel) rfl
theorem q24 : Cond.methodLinkNest RX2 9 yX1_init RX2 ∈ tbl := tin 85 (by decide +kernel) rfl
theorem q26 : Cond.code yX1_init cX1_init 2 none ∈ tbl := tin 87 (by decide +kernel) rfl
theorem q25 : Cond.instanceMethod yX1_init ∈ tbl := tin 86 (by decide +kernel) rfl
theorem q3 : Cond.initialized RX0 ∈ tbl := tin 64 (by decide +kernel) rfl
theorem q31 : Cond.methodLinkNest RX1 28 yX0_init RX2 ∈ tbl := tin 92 (by decide +kernel) rfl
theorem q33 : Cond.code yX0_init cX0_init 1 none ∈ tbl := tin 94 (by decide +kernel) rfl
theorem q32 : Cond.instanceMethod yX0_init ∈ tbl := tin 93 (by decide +kernel) rfl
theorem q35 : Cond.methodLink RX0 33 yX0_startOver ∈ tbl := tin 96 (by decide +kernel) rfl
theorem q38 : Cond.code yX0_startOver cX0_startOver 2 none ∈ tbl := tin 99 (by decide +kernel) rfl
theorem q37 : Cond.instanceMethod yX0_startOver ∈ tbl := tin 98 (by decide +kernel) rfl
theorem qs0 : Cond.selects RX0 yX0_startOver yX0_startOver ∈ tbl := tin 0 (by decide +kernel) rfl
theorem cw_X0_33 : CWD RX0 33 yX0_startOver cX0_startOver 2 none 0 := ⟨q35, q37, qs0, q38, q3, ⟨by decide +kernel, by decide +kernel⟩, by decide +kernel⟩
theorem q127 : Cond.methodLink RL 128 yX2_until ∈ tbl := tin 188 (by decide +kernel) rfl
theorem q130 : Cond.code yX2_until cX2_until 2 (some .int) ∈ tbl := tin 191 (by decide +kernel) rfl
theorem q128 : Cond.instanceMethod yX2_until ∈ tbl := tin 189 (by decide +kernel) rfl
theorem q129 : Cond.selects RX2 yX2_until yX2_until ∈ tbl := tin 190 (by decide +kernel) rfl
theorem cw_L_128 : CWD RL 128 yX2_until cX2_until 2 (some .int) 0 := ⟨q127, q128, q129, q130, q1, ⟨by decide +kernel, by decide +kernel⟩, by decide +kernel⟩
theorem q131 : Cond.methodLinkNest RX2 146 yX1_become RX2 ∈ tbl := tin 192 (by decide +kernel) rfl
theorem q134 : Cond.code yX1_become cX1_become 3 none ∈ tbl := tin 195 (by decide +kernel) rfl
theorem q133 : Cond.instanceMethod yX1_become ∈ tbl := tin 194 (by decide +kernel) rfl
theorem qs1 : Cond.selects RX1 yX1_become yX1_become ∈ tbl := tin 1 (by decide +kernel) rfl
theorem cw_X2_146 : CND RX2 146 yX1_become RX2 cX1_become 3 none 1 := ⟨q131, q133, qs1, q134, q2, ⟨by decide +kernel, by decide +kernel⟩, by decide +kernel⟩
theorem q135 : Cond.methodLinkNest RX1 44 yX0_become RX2 ∈ tbl := tin 196 (by decide +kernel) rfl
theorem q138 : Cond.code yX0_become cX0_become 3 none ∈ tbl := tin 199 (by decide +kernel) rfl
theorem q137 : Cond.instanceMethod yX0_become ∈ tbl := tin 198 (by decide +kernel) rfl
theorem qs2 : Cond.selects RX0 yX0_become yX0_become ∈ tbl := tin 2 (by decide +kernel) rfl
theorem cw_X1_44 : CND RX1 44 yX0_become RX2 cX0_become 3 none 1 := ⟨q135, q137, qs2, q138, q3, ⟨by decide +kernel, by decide +kernel⟩, by decide +kernel⟩
theorem q139 : Cond.methodLinkNest RX2 153 yX1_isAnyAtWork RX2 ∈ tbl := tin 200 (by decide +kernel) rfl
theorem q142 : Cond.code yX1_isAnyAtWork cX1_isAnyAtWork 2 (some .boolean) ∈ tbl := tin 203 (by decide +kernel) rfl
theorem q141 : Cond.instanceMethod yX1_isAnyAtWork ∈ tbl := tin 202 (by decide +kernel) rfl
theorem qs3 : Cond.selects RX1 yX1_isAnyAtWork yX1_isAnyAtWork ∈ tbl := tin 3 (by decide +kernel) rfl
theorem cw_X2_153 : CND RX2 153 yX1_isAnyAtWork RX2 cX1_isAnyAtWork 2 (some .boolean) 0 := ⟨q139, q141, qs3, q142, q2, ⟨by decide +kernel, by decide +kernel⟩, by decide +kernel⟩
theorem q143 : Cond.methodLinkNest RX1 138 yX0_isAtWork RX2 ∈ tbl := tin 204 (by decide +kernel) rfl
theorem q146 : Cond.code yX0_isAtWork cX0_isAtWork 1 (some .boolean) ∈ tbl := tin 207 (by decide +kernel) rfl
theorem q145 : Cond.instanceMethod yX0_isAtWork ∈ tbl := tin 206 (by decide +kernel) rfl
theorem qs4 : Cond.selects RX0 yX0_isAtWork yX0_isAtWork ∈ tbl := tin 4 (by decide +kernel) rfl
theorem cw_X1_138 : CND RX1 138 yX0_isAtWork RX2 cX0_isAtWork 1 (some .boolean) 0 := ⟨q143, q145, qs4, q146, q3, ⟨by decide +kernel, by decide +kernel⟩, by decide +kernel⟩
theorem q147 : Cond.methodLinkNest RX2 156 yX1_goRound RX2 ∈ tbl := tin 208 (by decide +kernel) rfl
theorem q150 : Cond.code yX1_goRound cX1_goRound 3 (some .int) ∈ tbl := tin 211 (by decide +kernel) rfl
theorem q149 : Cond.instanceMethod yX1_goRound ∈ tbl := tin 210 (by decide +kernel) rfl
theorem qs5 : Cond.selects RX1 yX1_goRound yX1_goRound ∈ tbl := tin 5 (by decide +kernel) rfl
theorem cw_X2_156 : CND RX2 156 yX1_goRound RX2 cX1_goRound 3 (some .int) 0 := ⟨q147, q149, qs5, q150, q2, ⟨by decide +kernel, by decide +kernel⟩, by decide +kernel⟩
theorem q151 : Cond.methodLink RX1 142 yX1_takeTurn ∈ tbl := tin 212 (by decide +kernel) rfl
theorem q154 : Cond.code yX1_takeTurn cX1_takeTurn 3 (some .int) ∈ tbl := tin 215 (by decide +kernel) rfl
theorem q153 : Cond.instanceMethod yX1_takeTurn ∈ tbl := tin 214 (by decide +kernel) rfl
theorem qs6 : Cond.selects RX1 yX1_takeTurn yX1_takeTurn ∈ tbl := tin 6 (by decide +kernel) rfl
theorem cw_X1_142 : CWD RX1 142 yX1_takeTurn cX1_takeTurn 3 (some .int) 1 := ⟨q151, q153, qs6, q154, q2, ⟨by decide +kernel, by decide +kernel⟩, by decide +kernel⟩
theorem q155 : Cond.methodLink RX1 65 yX1_doStep ∈ tbl := tin 216 (by decide +kernel) rfl
theorem q158 : Cond.code yX1_doStep cX1_doStep 4 none ∈ tbl := tin 219 (by decide +kernel) rfl
theorem q157 : Cond.instanceMethod yX1_doStep ∈ tbl := tin 218 (by decide +kernel) rfl
theorem qs7 : Cond.selects RX1 yX1_doStep yX1_doStep ∈ tbl := tin 7 (by decide +kernel) rfl
theorem cw_X1_65 : CWD RX1 65 yX1_doStep cX1_doStep 4 none 1 := ⟨q155, q157, qs7, q158, q2, ⟨by decide +kernel, by decide +kernel⟩, by decide +kernel⟩
theorem q159 : Cond.methodLink RX1 91 yX1_read ∈ tbl := tin 220 (by decide +kernel) rfl
theorem q162 : Cond.code yX1_read cX1_read 3 (some .int) ∈ tbl := tin 223 (by decide +kernel) rfl
theorem q161 : Cond.instanceMethod yX1_read ∈ tbl := tin 222 (by decide +kernel) rfl
theorem qs8 : Cond.selects RX1 yX1_read yX1_read ∈ tbl := tin 8 (by decide +kernel) rfl
theorem cw_X1_91 : CWD RX1 91 yX1_read cX1_read 3 (some .int) 2 := ⟨q159, q161, qs8, q162, q2, ⟨by decide +kernel, by decide +kernel⟩, by decide +kernel⟩
theorem q163 : Cond.methodLinkNest RX1 109 yX0_hasWritten RX2 ∈ tbl := tin 224 (by decide +kernel) rfl
theorem q166 : Cond.code yX0_hasWritten cX0_hasWritten 2 (some .boolean) ∈ tbl := tin 227 (by decide +kernel) rfl
theorem q165 : Cond.instanceMethod yX0_hasWritten ∈ tbl := tin 226 (by decide +kernel) rfl
theorem qs9 : Cond.selects RX0 yX0_hasWritten yX0_hasWritten ∈ tbl := tin 9 (by decide +kernel) rfl
theorem cw_X1_109 : CND RX1 109 yX0_hasWritten RX2 cX0_hasWritten 2 (some .boolean) 1 := ⟨q163, q165, qs9, q166, q3, ⟨by decide +kernel, by decide +kernel⟩, by decide +kernel⟩
theorem q167 : Cond.methodLinkNest RX1 113 yX0_remembers RX2 ∈ tbl := tin 228 (by decide +kernel) rfl
theorem q170 : Cond.code yX0_remembers cX0_remembers 2 (some .boolean) ∈ tbl := tin 231 (by decide +kernel) rfl
theorem q169 : Cond.instanceMethod yX0_remembers ∈ tbl := tin 230 (by decide +kernel) rfl
theorem qs10 : Cond.selects RX0 yX0_remembers yX0_remembers ∈ tbl := tin 10 (by decide +kernel) rfl
theorem cw_X1_113 : CND RX1 113 yX0_remembers RX2 cX0_remembers 2 (some .boolean) 1 := ⟨q167, q169, qs10, q170, q3, ⟨by decide +kernel, by decide +kernel⟩, by decide +kernel⟩
theorem q171 : Cond.methodLink RX1 98 yX1_held ∈ tbl := tin 232 (by decide +kernel) rfl
theorem q173 : Cond.code yX1_held cX1_held 1 (some .int) ∈ tbl := tin 234 (by decide +kernel) rfl
theorem q172 : Cond.static yX1_held ∈ tbl := tin 233 (by decide +kernel) rfl
theorem cw_X1_98 : CSD RX1 98 yX1_held cX1_held 1 (some .int) 1 := ⟨q171, q172, q173, q2, ⟨by decide +kernel, by decide +kernel⟩, by decide +kernel⟩
theorem q177 : Cond.methodLink RX1 105 yX1_carry ∈ tbl := tin 238 (by decide +kernel) rfl
theorem q180 : Cond.code yX1_carry cX1_carry 7 none ∈ tbl := tin 241 (by decide +kernel) rfl
theorem q179 : Cond.instanceMethod yX1_carry ∈ tbl := tin 240 (by decide +kernel) rfl
theorem qs11 : Cond.selects RX1 yX1_carry yX1_carry ∈ tbl := tin 11 (by decide +kernel) rfl
theorem cw_X1_105 : CWD RX1 105 yX1_carry cX1_carry 7 none 4 := ⟨q177, q179, qs11, q180, q2, ⟨by decide +kernel, by decide +kernel⟩, by decide +kernel⟩
theorem q181 : Cond.methodLink RX1 68 yX1_isOutdated ∈ tbl := tin 242 (by decide +kernel) rfl
theorem q184 : Cond.code yX1_isOutdated cX1_isOutdated 3 (some .boolean) ∈ tbl := tin 245 (by decide +kernel) rfl
theorem q183 : Cond.instanceMethod yX1_isOutdated ∈ tbl := tin 244 (by decide +kernel) rfl
theorem qs12 : Cond.selects RX1 yX1_isOutdated yX1_isOutdated ∈ tbl := tin 12 (by decide +kernel) rfl
theorem cw_X1_68 : CWD RX1 68 yX1_isOutdated cX1_isOutdated 3 (some .boolean) 1 := ⟨q181, q183, qs12, q184, q2, ⟨by decide +kernel, by decide +kernel⟩, by decide +kernel⟩
theorem q185 : Cond.methodLinkNest RX1 75 yX0_startOver RX2 ∈ tbl := tin 246 (by decide +kernel) rfl
theorem cw_X1_75 : CND RX1 75 yX0_startOver RX2 cX0_startOver 2 none 0 := ⟨q185, q37, qs0, q38, q3, ⟨by decide +kernel, by decide +kernel⟩, by decide +kernel⟩
theorem q186 : Cond.methodLink RX1 78 yX1_close ∈ tbl := tin 247 (by decide +kernel) rfl
theorem q189 : Cond.code yX1_close cX1_close 4 none ∈ tbl := tin 250 (by decide +kernel) rfl
theorem q188 : Cond.instanceMethod yX1_close ∈ tbl := tin 249 (by decide +kernel) rfl
theorem qs13 : Cond.selects RX1 yX1_close yX1_close ∈ tbl := tin 13 (by decide +kernel) rfl
theorem cw_X1_78 : CWD RX1 78 yX1_close cX1_close 4 none 1 := ⟨q186, q188, qs13, q189, q2, ⟨by decide +kernel, by decide +kernel⟩, by decide +kernel⟩
theorem q190 : Cond.methodLinkNest RX1 132 yX0_countWritten RX2 ∈ tbl := tin 251 (by decide +kernel) rfl
theorem q193 : Cond.code yX0_countWritten cX0_countWritten 3 (some .int) ∈ tbl := tin 254 (by decide +kernel) rfl
theorem q192 : Cond.instanceMethod yX0_countWritten ∈ tbl := tin 253 (by decide +kernel) rfl
theorem qs14 : Cond.selects RX0 yX0_countWritten yX0_countWritten ∈ tbl := tin 14 (by decide +kernel) rfl
theorem cw_X1_132 : CND RX1 132 yX0_countWritten RX2 cX0_countWritten 3 (some .int) 0 := ⟨q190, q192, qs14, q193, q3, ⟨by decide +kernel, by decide +kernel⟩, by decide +kernel⟩
theorem q194 : Cond.methodLink RX0 54 yX0_hasWritten ∈ tbl := tin 255 (by decide +kernel) rfl
theorem cw_X0_54 : CWD RX0 54 yX0_hasWritten cX0_hasWritten 2 (some .boolean) 1 := ⟨q194, q165, qs9, q166, q3, ⟨by decide +kernel, by decide +kernel⟩, by decide +kernel⟩
theorem q195 : Cond.methodLink RX1 51 yX1_keepClosing ∈ tbl := tin 256 (by decide +kernel) rfl
theorem q198 : Cond.code yX1_keepClosing cX1_keepClosing 4 none ∈ tbl := tin 259 (by decide +kernel) rfl
theorem q197 : Cond.instanceMethod yX1_keepClosing ∈ tbl := tin 258 (by decide +kernel) rfl
theorem qs15 : Cond.selects RX1 yX1_keepClosing yX1_keepClosing ∈ tbl := tin 15 (by decide +kernel) rfl
theorem cw_X1_51 : CWD RX1 51 yX1_keepClosing cX1_keepClosing 4 none 2 := ⟨q195, q197, qs15, q198, q2, ⟨by decide +kernel, by decide +kernel⟩, by decide +kernel⟩
theorem q199 : Cond.methodLink RX1 55 yX1_sumAmounts ∈ tbl := tin 260 (by decide +kernel) rfl
theorem q202 : Cond.code yX1_sumAmounts cX1_sumAmounts 3 (some .int) ∈ tbl := tin 263 (by decide +kernel) rfl
theorem q201 : Cond.instanceMethod yX1_sumAmounts ∈ tbl := tin 262 (by decide +kernel) rfl
theorem qs16 : Cond.selects RX1 yX1_sumAmounts yX1_sumAmounts ∈ tbl := tin 16 (by decide +kernel) rfl
theorem cw_X1_55 : CWD RX1 55 yX1_sumAmounts cX1_sumAmounts 3 (some .int) 0 := ⟨q199, q201, qs16, q202, q2, ⟨by decide +kernel, by decide +kernel⟩, by decide +kernel⟩
theorem q203 : Cond.methodLink RL 135 yX2_advise ∈ tbl := tin 264 (by decide +kernel) rfl
theorem q206 : Cond.code yX2_advise cX2_advise 7 (some .int) ∈ tbl := tin 267 (by decide +kernel) rfl
theorem q204 : Cond.instanceMethod yX2_advise ∈ tbl := tin 265 (by decide +kernel) rfl
theorem q205 : Cond.selects RX2 yX2_advise yX2_advise ∈ tbl := tin 266 (by decide +kernel) rfl
theorem cw_L_135 : CWD RL 135 yX2_advise cX2_advise 7 (some .int) 0 := ⟨q203, q204, q205, q206, q1, ⟨by decide +kernel, by decide +kernel⟩, by decide +kernel⟩
theorem q207 : Cond.methodLinkNest RX2 94 yX0_isAtWork RX2 ∈ tbl := tin 268 (by decide +kernel) rfl
theorem cw_X2_94 : CND RX2 94 yX0_isAtWork RX2 cX0_isAtWork 1 (some .boolean) 0 := ⟨q207, q145, qs4, q146, q3, ⟨by decide +kernel, by decide +kernel⟩, by decide +kernel⟩
theorem q208 : Cond.methodLinkNest RX2 159 yX1_countClashes RX2 ∈ tbl := tin 269 (by decide +kernel) rfl
theorem q211 : Cond.code yX1_countClashes cX1_countClashes 4 (some .int) ∈ tbl := tin 272 (by decide +kernel) rfl
theorem q210 : Cond.instanceMethod yX1_countClashes ∈ tbl := tin 271 (by decide +kernel) rfl
theorem qs17 : Cond.selects RX1 yX1_countClashes yX1_countClashes ∈ tbl := tin 17 (by decide +kernel) rfl
theorem cw_X2_159 : CND RX2 159 yX1_countClashes RX2 cX1_countClashes 4 (some .int) 1 := ⟨q208, q210, qs17, q211, q2, ⟨by decide +kernel, by decide +kernel⟩, by decide +kernel⟩
theorem q212 : Cond.methodLink RX1 145 yX1_clashes ∈ tbl := tin 273 (by decide +kernel) rfl
theorem q215 : Cond.code yX1_clashes cX1_clashes 6 (some .boolean) ∈ tbl := tin 276 (by decide +kernel) rfl
theorem q214 : Cond.instanceMethod yX1_clashes ∈ tbl := tin 275 (by decide +kernel) rfl
theorem qs18 : Cond.selects RX1 yX1_clashes yX1_clashes ∈ tbl := tin 18 (by decide +kernel) rfl
theorem cw_X1_145 : CWD RX1 145 yX1_clashes cX1_clashes 6 (some .boolean) 2 := ⟨q212, q214, qs18, q215, q2, ⟨by decide +kernel, by decide +kernel⟩, by decide +kernel⟩
theorem q216 : Cond.methodLink RL 139 yX2_mean ∈ tbl := tin 277 (by decide +kernel) rfl
theorem q219 : Cond.code yX2_mean cX2_mean 1 (some .double) ∈ tbl := tin 280 (by decide +kernel) rfl
theorem q217 : Cond.instanceMethod yX2_mean ∈ tbl := tin 278 (by decide +kernel) rfl
theorem q218 : Cond.selects RX2 yX2_mean yX2_mean ∈ tbl := tin 279 (by decide +kernel) rfl
theorem cw_L_139 : CWD RL 139 yX2_mean cX2_mean 1 (some .double) 0 := ⟨q216, q217, q218, q219, q1, ⟨by decide +kernel, by decide +kernel⟩, by decide +kernel⟩
theorem q220 : Cond.methodLinkNest RX2 162 yX1_sumLost RX2 ∈ tbl := tin 281 (by decide +kernel) rfl
theorem q223 : Cond.code yX1_sumLost cX1_sumLost 3 (some .int) ∈ tbl := tin 284 (by decide +kernel) rfl
theorem q222 : Cond.instanceMethod yX1_sumLost ∈ tbl := tin 283 (by decide +kernel) rfl
theorem qs19 : Cond.selects RX1 yX1_sumLost yX1_sumLost ∈ tbl := tin 19 (by decide +kernel) rfl
theorem cw_X2_162 : CND RX2 162 yX1_sumLost RX2 cX1_sumLost 3 (some .int) 0 := ⟨q220, q222, qs19, q223, q2, ⟨by decide +kernel, by decide +kernel⟩, by decide +kernel⟩
theorem q224 : Cond.methodLink RL 144 yX2_digest ∈ tbl := tin 285 (by decide +kernel) rfl
theorem q227 : Cond.code yX2_digest cX2_digest 4 (some .long) ∈ tbl := tin 288 (by decide +kernel) rfl
theorem q225 : Cond.instanceMethod yX2_digest ∈ tbl := tin 286 (by decide +kernel) rfl
theorem q226 : Cond.selects RX2 yX2_digest yX2_digest ∈ tbl := tin 287 (by decide +kernel) rfl
theorem cw_L_144 : CWD RL 144 yX2_digest cX2_digest 4 (some .long) 0 := ⟨q224, q225, q226, q227, q1, ⟨by decide +kernel, by decide +kernel⟩, by decide +kernel⟩
theorem q230 : Cond.methodLinkNest RX2 143 yX1_countFact RX2 ∈ tbl := tin 291 (by decide +kernel) rfl
theorem q233 : Cond.code yX1_countFact cX1_countFact 2 (some .int) ∈ tbl := tin 294 (by decide +kernel) rfl
theorem q232 : Cond.instanceMethod yX1_countFact ∈ tbl := tin 293 (by decide +kernel) rfl
theorem qs20 : Cond.selects RX1 yX1_countFact yX1_countFact ∈ tbl := tin 20 (by decide +kernel) rfl
theorem cw_X2_143 : CND RX2 143 yX1_countFact RX2 cX1_countFact 2 (some .int) 1 := ⟨q230, q232, qs20, q233, q2, ⟨by decide +kernel, by decide +kernel⟩, by decide +kernel⟩
theorem q234 : Cond.methodLink RX1 149 yX1_countDone ∈ tbl := tin 295 (by decide +kernel) rfl
theorem q237 : Cond.code yX1_countDone cX1_countDone 3 (some .int) ∈ tbl := tin 298 (by decide +kernel) rfl
theorem q236 : Cond.instanceMethod yX1_countDone ∈ tbl := tin 297 (by decide +kernel) rfl
theorem qs21 : Cond.selects RX1 yX1_countDone yX1_countDone ∈ tbl := tin 21 (by decide +kernel) rfl
theorem cw_X1_149 : CWD RX1 149 yX1_countDone cX1_countDone 3 (some .int) 0 := ⟨q234, q236, qs21, q237, q2, ⟨by decide +kernel, by decide +kernel⟩, by decide +kernel⟩
theorem q238 : Cond.methodLink RX1 152 yX1_sumLost ∈ tbl := tin 299 (by decide +kernel) rfl
theorem cw_X1_152 : CWD RX1 152 yX1_sumLost cX1_sumLost 3 (some .int) 0 := ⟨q238, q222, qs19, q223, q2, ⟨by decide +kernel, by decide +kernel⟩, by decide +kernel⟩
theorem q239 : Cond.methodLink RX1 155 yX1_countLosers ∈ tbl := tin 300 (by decide +kernel) rfl
theorem q242 : Cond.code yX1_countLosers cX1_countLosers 3 (some .int) ∈ tbl := tin 303 (by decide +kernel) rfl
theorem q241 : Cond.instanceMethod yX1_countLosers ∈ tbl := tin 302 (by decide +kernel) rfl
theorem qs22 : Cond.selects RX1 yX1_countLosers yX1_countLosers ∈ tbl := tin 22 (by decide +kernel) rfl
theorem cw_X1_155 : CWD RX1 155 yX1_countLosers cX1_countLosers 3 (some .int) 0 := ⟨q239, q241, qs22, q242, q2, ⟨by decide +kernel, by decide +kernel⟩, by decide +kernel⟩
theorem q243 : Cond.methodLink RX1 167 yX1_wouldLose ∈ tbl := tin 304 (by decide +kernel) rfl
theorem q246 : Cond.code yX1_wouldLose cX1_wouldLose 2 (some .boolean) ∈ tbl := tin 307 (by decide +kernel) rfl
theorem q245 : Cond.instanceMethod yX1_wouldLose ∈ tbl := tin 306 (by decide +kernel) rfl
theorem qs23 : Cond.selects RX1 yX1_wouldLose yX1_wouldLose ∈ tbl := tin 23 (by decide +kernel) rfl
theorem cw_X1_167 : CWD RX1 167 yX1_wouldLose cX1_wouldLose 2 (some .boolean) 1 := ⟨q243, q245, qs23, q246, q2, ⟨by decide +kernel, by decide +kernel⟩, by decide +kernel⟩
theorem q247 : Cond.methodLink RX2 169 yX2_digestDrawers ∈ tbl := tin 308 (by decide +kernel) rfl
theorem q250 : Cond.code yX2_digestDrawers cX2_digestDrawers 7 (some .long) ∈ tbl := tin 311 (by decide +kernel) rfl
theorem q249 : Cond.instanceMethod yX2_digestDrawers ∈ tbl := tin 310 (by decide +kernel) rfl
theorem qs24 : Cond.selects RX2 yX2_digestDrawers yX2_digestDrawers ∈ tbl := tin 24 (by decide +kernel) rfl
theorem cw_X2_169 : CWD RX2 169 yX2_digestDrawers cX2_digestDrawers 7 (some .long) 1 := ⟨q247, q249, qs24, q250, q1, ⟨by decide +kernel, by decide +kernel⟩, by decide +kernel⟩
theorem q251 : Cond.methodLinkNest RX2 113 yX1_drawerFact RX2 ∈ tbl := tin 312 (by decide +kernel) rfl
theorem q254 : Cond.code yX1_drawerFact cX1_drawerFact 3 (some .int) ∈ tbl := tin 315 (by decide +kernel) rfl
theorem q253 : Cond.instanceMethod yX1_drawerFact ∈ tbl := tin 314 (by decide +kernel) rfl
theorem qs25 : Cond.selects RX1 yX1_drawerFact yX1_drawerFact ∈ tbl := tin 25 (by decide +kernel) rfl
theorem cw_X2_113 : CND RX2 113 yX1_drawerFact RX2 cX1_drawerFact 3 (some .int) 2 := ⟨q251, q253, qs25, q254, q2, ⟨by decide +kernel, by decide +kernel⟩, by decide +kernel⟩
theorem q255 : Cond.methodLink RX1 158 yX1_countRememberers ∈ tbl := tin 316 (by decide +kernel) rfl
theorem q258 : Cond.code yX1_countRememberers cX1_countRememberers 4 (some .int) ∈ tbl := tin 319 (by decide +kernel) rfl
theorem q257 : Cond.instanceMethod yX1_countRememberers ∈ tbl := tin 318 (by decide +kernel) rfl
theorem qs26 : Cond.selects RX1 yX1_countRememberers yX1_countRememberers ∈ tbl := tin 26 (by decide +kernel) rfl
theorem cw_X1_158 : CWD RX1 158 yX1_countRememberers cX1_countRememberers 4 (some .int) 1 := ⟨q255, q257, qs26, q258, q2, ⟨by decide +kernel, by decide +kernel⟩, by decide +kernel⟩
theorem q259 : Cond.methodLink RX1 161 yX1_countWriters ∈ tbl := tin 320 (by decide +kernel) rfl
theorem q262 : Cond.code yX1_countWriters cX1_countWriters 4 (some .int) ∈ tbl := tin 323 (by decide +kernel) rfl
theorem q261 : Cond.instanceMethod yX1_countWriters ∈ tbl := tin 322 (by decide +kernel) rfl
theorem qs27 : Cond.selects RX1 yX1_countWriters yX1_countWriters ∈ tbl := tin 27 (by decide +kernel) rfl
theorem cw_X1_161 : CWD RX1 161 yX1_countWriters cX1_countWriters 4 (some .int) 1 := ⟨q259, q261, qs27, q262, q2, ⟨by decide +kernel, by decide +kernel⟩, by decide +kernel⟩
theorem q263 : Cond.methodLink RX2 173 yX2_digestClerks ∈ tbl := tin 324 (by decide +kernel) rfl
theorem q266 : Cond.code yX2_digestClerks cX2_digestClerks 8 (some .long) ∈ tbl := tin 327 (by decide +kernel) rfl
theorem q265 : Cond.instanceMethod yX2_digestClerks ∈ tbl := tin 326 (by decide +kernel) rfl
theorem qs28 : Cond.selects RX2 yX2_digestClerks yX2_digestClerks ∈ tbl := tin 28 (by decide +kernel) rfl
theorem cw_X2_173 : CWD RX2 173 yX2_digestClerks cX2_digestClerks 8 (some .long) 1 := ⟨q263, q265, qs28, q266, q1, ⟨by decide +kernel, by decide +kernel⟩, by decide +kernel⟩
theorem q267 : Cond.methodLinkNest RX2 117 yX1_clerkFact RX2 ∈ tbl := tin 328 (by decide +kernel) rfl
theorem q270 : Cond.code yX1_clerkFact cX1_clerkFact 4 (some .int) ∈ tbl := tin 331 (by decide +kernel) rfl
theorem q269 : Cond.instanceMethod yX1_clerkFact ∈ tbl := tin 330 (by decide +kernel) rfl
theorem qs29 : Cond.selects RX1 yX1_clerkFact yX1_clerkFact ∈ tbl := tin 29 (by decide +kernel) rfl
theorem cw_X2_117 : CND RX2 117 yX1_clerkFact RX2 cX1_clerkFact 4 (some .int) 2 := ⟨q267, q269, qs29, q270, q2, ⟨by decide +kernel, by decide +kernel⟩, by decide +kernel⟩
theorem q271 : Cond.methodLinkNest RX1 164 yX0_countRemembered RX2 ∈ tbl := tin 332 (by decide +kernel) rfl
theorem q274 : Cond.code yX0_countRemembered cX0_countRemembered 3 (some .int) ∈ tbl := tin 335 (by decide +kernel) rfl
theorem q273 : Cond.instanceMethod yX0_countRemembered ∈ tbl := tin 334 (by decide +kernel) rfl
theorem qs30 : Cond.selects RX0 yX0_countRemembered yX0_countRemembered ∈ tbl := tin 30 (by decide +kernel) rfl
theorem cw_X1_164 : CND RX1 164 yX0_countRemembered RX2 cX0_countRemembered 3 (some .int) 0 := ⟨q271, q273, qs30, q274, q3, ⟨by decide +kernel, by decide +kernel⟩, by decide +kernel⟩
theorem q275 : Cond.methodLink RX0 50 yX0_remembers ∈ tbl := tin 336 (by decide +kernel) rfl
theorem cw_X0_50 : CWD RX0 50 yX0_remembers cX0_remembers 2 (some .boolean) 1 := ⟨q275, q169, qs10, q170, q3, ⟨by decide +kernel, by decide +kernel⟩, by decide +kernel⟩
theorem q276 : Cond.methodLinkNest RX2 120 yX0_slipFact RX2 ∈ tbl := tin 337 (by decide +kernel) rfl
theorem q279 : Cond.code yX0_slipFact cX0_slipFact 3 (some .int) ∈ tbl := tin 340 (by decide +kernel) rfl
theorem q278 : Cond.instanceMethod yX0_slipFact ∈ tbl := tin 339 (by decide +kernel) rfl
theorem qs31 : Cond.selects RX0 yX0_slipFact yX0_slipFact ∈ tbl := tin 31 (by decide +kernel) rfl
theorem cw_X2_120 : CND RX2 120 yX0_slipFact RX2 cX0_slipFact 3 (some .int) 2 := ⟨q276, q278, qs31, q279, q3, ⟨by decide +kernel, by decide +kernel⟩, by decide +kernel⟩
theorem q280 : Cond.methodLink RX2 176 yX2_digestClosings ∈ tbl := tin 341 (by decide +kernel) rfl
theorem q283 : Cond.code yX2_digestClosings cX2_digestClosings 8 (some .long) ∈ tbl := tin 344 (by decide +kernel) rfl
theorem q282 : Cond.instanceMethod yX2_digestClosings ∈ tbl := tin 343 (by decide +kernel) rfl
theorem qs32 : Cond.selects RX2 yX2_digestClosings yX2_digestClosings ∈ tbl := tin 32 (by decide +kernel) rfl
theorem cw_X2_176 : CWD RX2 176 yX2_digestClosings cX2_digestClosings 8 (some .long) 1 := ⟨q280, q282, qs32, q283, q1, ⟨by decide +kernel, by decide +kernel⟩, by decide +kernel⟩
theorem q284 : Cond.methodLinkNest RX2 131 yX1_closingsKept RX2 ∈ tbl := tin 345 (by decide +kernel) rfl
theorem q287 : Cond.code yX1_closingsKept cX1_closingsKept 1 (some .int) ∈ tbl := tin 348 (by decide +kernel) rfl
theorem q286 : Cond.instanceMethod yX1_closingsKept ∈ tbl := tin 347 (by decide +kernel) rfl
theorem qs33 : Cond.selects RX1 yX1_closingsKept yX1_closingsKept ∈ tbl := tin 33 (by decide +kernel) rfl
theorem cw_X2_131 : CND RX2 131 yX1_closingsKept RX2 cX1_closingsKept 1 (some .int) 0 := ⟨q284, q286, qs33, q287, q2, ⟨by decide +kernel, by decide +kernel⟩, by decide +kernel⟩
theorem q288 : Cond.methodLinkNest RX2 136 yX1_closingFact RX2 ∈ tbl := tin 349 (by decide +kernel) rfl
theorem q291 : Cond.code yX1_closingFact cX1_closingFact 3 (some .int) ∈ tbl := tin 352 (by decide +kernel) rfl
theorem q290 : Cond.instanceMethod yX1_closingFact ∈ tbl := tin 351 (by decide +kernel) rfl
theorem qs34 : Cond.selects RX1 yX1_closingFact yX1_closingFact ∈ tbl := tin 34 (by decide +kernel) rfl
theorem cw_X2_136 : CND RX2 136 yX1_closingFact RX2 cX1_closingFact 3 (some .int) 2 := ⟨q288, q290, qs34, q291, q2, ⟨by decide +kernel, by decide +kernel⟩, by decide +kernel⟩
theorem q296 : Cond.methodLink RL 7 yX2_till ∈ tbl := tin 357 (by decide +kernel) rfl
theorem q299 : Cond.code yX2_till cX2_till 3 (some .int) ∈ tbl := tin 360 (by decide +kernel) rfl
theorem q297 : Cond.instanceMethod yX2_till ∈ tbl := tin 358 (by decide +kernel) rfl
theorem q298 : Cond.selects RX2 yX2_till yX2_till ∈ tbl := tin 359 (by decide +kernel) rfl
theorem cw_L_7 : CWD RL 7 yX2_till cX2_till 3 (some .int) 1 := ⟨q296, q297, q298, q299, q1, ⟨by decide +kernel, by decide +kernel⟩, by decide +kernel⟩
theorem q368 : Cond.methodLinkNest RX2 30 yX1_beginAnew RX2 ∈ tbl := tin 429 (by decide +kernel) rfl
theorem q371 : Cond.code yX1_beginAnew cX1_beginAnew 3 none ∈ tbl := tin 432 (by decide +kernel) rfl
theorem q370 : Cond.instanceMethod yX1_beginAnew ∈ tbl := tin 431 (by decide +kernel) rfl
theorem qs36 : Cond.selects RX1 yX1_beginAnew yX1_beginAnew ∈ tbl := tin 36 (by decide +kernel) rfl
theorem cw_X2_30 : CND RX2 30 yX1_beginAnew RX2 cX1_beginAnew 3 none 1 := ⟨q368, q370, qs36, q371, q2, ⟨by decide +kernel, by decide +kernel⟩, by decide +kernel⟩
theorem q376 : Cond.methodLink RL 15 yX2_pay ∈ tbl := tin 437 (by decide +kernel) rfl
theorem q379 : Cond.code yX2_pay cX2_pay 4 (some .int) ∈ tbl := tin 440 (by decide +kernel) rfl
theorem q377 : Cond.instanceMethod yX2_pay ∈ tbl := tin 438 (by decide +kernel) rfl
theorem q378 : Cond.selects RX2 yX2_pay yX2_pay ∈ tbl := tin 439 (by decide +kernel) rfl
theorem cw_L_15 : CWD RL 15 yX2_pay cX2_pay 4 (some .int) 2 := ⟨q376, q377, q378, q379, q1, ⟨by decide +kernel, by decide +kernel⟩, by decide +kernel⟩
theorem q380 : Cond.methodLink RX2 34 yX2_needDrawer ∈ tbl := tin 441 (by decide +kernel) rfl
theorem q383 : Cond.code yX2_needDrawer cX2_needDrawer 2 none ∈ tbl := tin 444 (by decide +kernel) rfl
theorem q382 : Cond.instanceMethod yX2_needDrawer ∈ tbl := tin 443 (by decide +kernel) rfl
theorem qs37 : Cond.selects RX2 yX2_needDrawer yX2_needDrawer ∈ tbl := tin 37 (by decide +kernel) rfl
theorem cw_X2_34 : CWD RX2 34 yX2_needDrawer cX2_needDrawer 2 none 1 := ⟨q380, q382, qs37, q383, q1, ⟨by decide +kernel, by decide +kernel⟩, by decide +kernel⟩
theorem q401 : Cond.methodLinkNest RX2 43 yX1_payByHand RX2 ∈ tbl := tin 462 (by decide +kernel) rfl
theorem q404 : Cond.code yX1_payByHand cX1_payByHand 3 none ∈ tbl := tin 465 (by decide +kernel) rfl
theorem q403 : Cond.instanceMethod yX1_payByHand ∈ tbl := tin 464 (by decide +kernel) rfl
theorem qs38 : Cond.selects RX1 yX1_payByHand yX1_payByHand ∈ tbl := tin 38 (by decide +kernel) rfl
theorem cw_X2_43 : CND RX2 43 yX1_payByHand RX2 cX1_payByHand 3 none 2 := ⟨q401, q403, qs38, q404, q2, ⟨by decide +kernel, by decide +kernel⟩, by decide +kernel⟩
theorem q409 : Cond.methodLink RL 21 yX2_clerk ∈ tbl := tin 470 (by decide +kernel) rfl
theorem q412 : Cond.code yX2_clerk cX2_clerk 1 (some .int) ∈ tbl := tin 473 (by decide +kernel) rfl
theorem q410 : Cond.instanceMethod yX2_clerk ∈ tbl := tin 471 (by decide +kernel) rfl
theorem q411 : Cond.selects RX2 yX2_clerk yX2_clerk ∈ tbl := tin 472 (by decide +kernel) rfl
theorem cw_L_21 : CWD RL 21 yX2_clerk cX2_clerk 1 (some .int) 0 := ⟨q409, q410, q411, q412, q1, ⟨by decide +kernel, by decide +kernel⟩, by decide +kernel⟩
theorem q429 : Cond.methodLinkNest RX2 55 yX1_addClerk RX2 ∈ tbl := tin 490 (by decide +kernel) rfl
theorem q432 : Cond.code yX1_addClerk cX1_addClerk 2 (some .int) ∈ tbl := tin 493 (by decide +kernel) rfl
theorem q431 : Cond.instanceMethod yX1_addClerk ∈ tbl := tin 492 (by decide +kernel) rfl
theorem qs39 : Cond.selects RX1 yX1_addClerk yX1_addClerk ∈ tbl := tin 39 (by decide +kernel) rfl
theorem cw_X2_55 : CND RX2 55 yX1_addClerk RX2 cX1_addClerk 2 (some .int) 0 := ⟨q429, q431, qs39, q432, q2, ⟨by decide +kernel, by decide +kernel⟩, by decide +kernel⟩
theorem q433 : Cond.methodLinkNest RX1 48 yX0_beginAnew RX2 ∈ tbl := tin 494 (by decide +kernel) rfl
theorem q436 : Cond.code yX0_beginAnew cX0_beginAnew 1 none ∈ tbl := tin 497 (by decide +kernel) rfl
theorem q435 : Cond.instanceMethod yX0_beginAnew ∈ tbl := tin 496 (by decide +kernel) rfl
theorem qs40 : Cond.selects RX0 yX0_beginAnew yX0_beginAnew ∈ tbl := tin 40 (by decide +kernel) rfl
theorem cw_X1_48 : CND RX1 48 yX0_beginAnew RX2 cX0_beginAnew 1 none 0 := ⟨q433, q435, qs40, q436, q3, ⟨by decide +kernel, by decide +kernel⟩, by decide +kernel⟩
theorem q440 : Cond.methodLink RL 27 yX2_say ∈ tbl := tin 501 (by decide +kernel) rfl
theorem q443 : Cond.code yX2_say cX2_say 7 (some .int) ∈ tbl := tin 504 (by decide +kernel) rfl
theorem q441 : Cond.instanceMethod yX2_say ∈ tbl := tin 502 (by decide +kernel) rfl
theorem q442 : Cond.selects RX2 yX2_say yX2_say ∈ tbl := tin 503 (by decide +kernel) rfl
theorem cw_L_27 : CWD RL 27 yX2_say cX2_say 7 (some .int) 5 := ⟨q440, q441, q442, q443, q1, ⟨by decide +kernel, by decide +kernel⟩, by decide +kernel⟩
theorem q444 : Cond.methodLink RX2 59 yX2_needClerk ∈ tbl := tin 505 (by decide +kernel) rfl
theorem q447 : Cond.code yX2_needClerk cX2_needClerk 2 none ∈ tbl := tin 508 (by decide +kernel) rfl
theorem q446 : Cond.instanceMethod yX2_needClerk ∈ tbl := tin 507 (by decide +kernel) rfl
theorem qs41 : Cond.selects RX2 yX2_needClerk yX2_needClerk ∈ tbl := tin 41 (by decide +kernel) rfl
theorem cw_X2_59 : CWD RX2 59 yX2_needClerk cX2_needClerk 2 none 1 := ⟨q444, q446, qs41, q447, q1, ⟨by decide +kernel, by decide +kernel⟩, by decide +kernel⟩
theorem q449 : Cond.methodLink RX2 62 yX2_needWhat ∈ tbl := tin 510 (by decide +kernel) rfl
theorem q451 : Cond.code yX2_needWhat cX2_needWhat 3 none ∈ tbl := tin 512 (by decide +kernel) rfl
theorem q450 : Cond.static yX2_needWhat ∈ tbl := tin 511 (by decide +kernel) rfl
theorem cw_X2_62 : CSD RX2 62 yX2_needWhat cX2_needWhat 3 none 3 := ⟨q449, q450, q451, q1, ⟨by decide +kernel, by decide +kernel⟩, by decide +kernel⟩
theorem q453 : Cond.methodLink RX2 66 yX2_fitsKind ∈ tbl := tin 514 (by decide +kernel) rfl
theorem q455 : Cond.code yX2_fitsKind cX2_fitsKind 4 (some .boolean) ∈ tbl := tin 516 (by decide +kernel) rfl
theorem q454 : Cond.static yX2_fitsKind ∈ tbl := tin 515 (by decide +kernel) rfl
theorem cw_X2_66 : CSD RX2 66 yX2_fitsKind cX2_fitsKind 4 (some .boolean) 4 := ⟨q453, q454, q455, q1, ⟨by decide +kernel, by decide +kernel⟩, by decide +kernel⟩
theorem q458 : Cond.methodLinkNest RX2 90 yX0_addStep RX2 ∈ tbl := tin 519 (by decide +kernel) rfl
theorem q461 : Cond.code yX0_addStep cX0_addStep 5 none ∈ tbl := tin 522 (by decide +kernel) rfl
theorem q460 : Cond.instanceMethod yX0_addStep ∈ tbl := tin 521 (by decide +kernel) rfl
theorem qs42 : Cond.selects RX0 yX0_addStep yX0_addStep ∈ tbl := tin 42 (by decide +kernel) rfl
theorem cw_X2_90 : CND RX2 90 yX0_addStep RX2 cX0_addStep 5 none 4 := ⟨q458, q460, qs42, q461, q3, ⟨by decide +kernel, by decide +kernel⟩, by decide +kernel⟩
theorem q465 : Cond.methodLink RL 31 yX2_turn ∈ tbl := tin 526 (by decide +kernel) rfl
theorem q468 : Cond.code yX2_turn cX2_turn 2 (some .int) ∈ tbl := tin 529 (by decide +kernel) rfl
theorem q466 : Cond.instanceMethod yX2_turn ∈ tbl := tin 527 (by decide +kernel) rfl
theorem q467 : Cond.selects RX2 yX2_turn yX2_turn ∈ tbl := tin 528 (by decide +kernel) rfl
theorem cw_L_31 : CWD RL 31 yX2_turn cX2_turn 2 (some .int) 1 := ⟨q465, q466, q467, q468, q1, ⟨by decide +kernel, by decide +kernel⟩, by decide +kernel⟩
theorem q470 : Cond.methodLinkNest RX2 100 yX1_takeTurn RX2 ∈ tbl := tin 531 (by decide +kernel) rfl
theorem cw_X2_100 : CND RX2 100 yX1_takeTurn RX2 cX1_takeTurn 3 (some .int) 1 := ⟨q470, q153, qs6, q154, q2, ⟨by decide +kernel, by decide +kernel⟩, by decide +kernel⟩
theorem q474 : Cond.methodLink RL 34 yX2_drop ∈ tbl := tin 535 (by decide +kernel) rfl
theorem q477 : Cond.code yX2_drop cX2_drop 4 (some .int) ∈ tbl := tin 538 (by decide +kernel) rfl
theorem q475 : Cond.instanceMethod yX2_drop ∈ tbl := tin 536 (by decide +kernel) rfl
theorem q476 : Cond.selects RX2 yX2_drop yX2_drop ∈ tbl := tin 537 (by decide +kernel) rfl
theorem cw_L_34 : CWD RL 34 yX2_drop cX2_drop 4 (some .int) 1 := ⟨q474, q475, q476, q477, q1, ⟨by decide +kernel, by decide +kernel⟩, by decide +kernel⟩
theorem q478 : Cond.methodLinkNest RX2 104 yX0_startOver RX2 ∈ tbl := tin 539 (by decide +kernel) rfl
theorem cw_X2_104 : CND RX2 104 yX0_startOver RX2 cX0_startOver 2 none 0 := ⟨q478, q37, qs0, q38, q3, ⟨by decide +kernel, by decide +kernel⟩, by decide +kernel⟩
theorem q482 : Cond.methodLink RL 37 yX2_pass ∈ tbl := tin 543 (by decide +kernel) rfl
theorem q485 : Cond.code yX2_pass cX2_pass 2 (some .int) ∈ tbl := tin 546 (by decide +kernel) rfl
theorem q483 : Cond.instanceMethod yX2_pass ∈ tbl := tin 544 (by decide +kernel) rfl
theorem q484 : Cond.selects RX2 yX2_pass yX2_pass ∈ tbl := tin 545 (by decide +kernel) rfl
theorem cw_L_37 : CWD RL 37 yX2_pass cX2_pass 2 (some .int) 1 := ⟨q482, q483, q484, q485, q1, ⟨by decide +kernel, by decide +kernel⟩, by decide +kernel⟩
theorem q486 : Cond.methodLink RX2 107 yX2_needRounds ∈ tbl := tin 547 (by decide +kernel) rfl
theorem q488 : Cond.code yX2_needRounds cX2_needRounds 1 none ∈ tbl := tin 549 (by decide +kernel) rfl
theorem q487 : Cond.static yX2_needRounds ∈ tbl := tin 548 (by decide +kernel) rfl
theorem cw_X2_107 : CSD RX2 107 yX2_needRounds cX2_needRounds 1 none 1 := ⟨q486, q487, q488, q1, ⟨by decide +kernel, by decide +kernel⟩, by decide +kernel⟩
theorem q490 : Cond.methodLinkNest RX2 110 yX1_goRounds RX2 ∈ tbl := tin 551 (by decide +kernel) rfl
theorem q493 : Cond.code yX1_goRounds cX1_goRounds 4 (some .int) ∈ tbl := tin 554 (by decide +kernel) rfl
theorem q492 : Cond.instanceMethod yX1_goRounds ∈ tbl := tin 553 (by decide +kernel) rfl
theorem qs43 : Cond.selects RX1 yX1_goRounds yX1_goRounds ∈ tbl := tin 43 (by decide +kernel) rfl
theorem cw_X2_110 : CND RX2 110 yX1_goRounds RX2 cX1_goRounds 4 (some .int) 1 := ⟨q490, q492, qs43, q493, q2, ⟨by decide +kernel, by decide +kernel⟩, by decide +kernel⟩
theorem q494 : Cond.methodLink RX1 135 yX1_goRound ∈ tbl := tin 555 (by decide +kernel) rfl
theorem cw_X1_135 : CWD RX1 135 yX1_goRound cX1_goRound 3 (some .int) 0 := ⟨q494, q149, qs5, q150, q2, ⟨by decide +kernel, by decide +kernel⟩, by decide +kernel⟩
theorem q498 : Cond.methodLink RL 40 yX2_drawer ∈ tbl := tin 559 (by decide +kernel) rfl
theorem q501 : Cond.code yX2_drawer cX2_drawer 3 (some .int) ∈ tbl := tin 562 (by decide +kernel) rfl
theorem q499 : Cond.instanceMethod yX2_drawer ∈ tbl := tin 560 (by decide +kernel) rfl
theorem q500 : Cond.selects RX2 yX2_drawer yX2_drawer ∈ tbl := tin 561 (by decide +kernel) rfl
theorem cw_L_40 : CWD RL 40 yX2_drawer cX2_drawer 3 (some .int) 2 := ⟨q498, q499, q500, q501, q1, ⟨by decide +kernel, by decide +kernel⟩, by decide +kernel⟩
theorem q505 : Cond.methodLink RL 43 yX2_told ∈ tbl := tin 566 (by decide +kernel) rfl
theorem q508 : Cond.code yX2_told cX2_told 3 (some .int) ∈ tbl := tin 569 (by decide +kernel) rfl
theorem q506 : Cond.instanceMethod yX2_told ∈ tbl := tin 567 (by decide +kernel) rfl
theorem q507 : Cond.selects RX2 yX2_told yX2_told ∈ tbl := tin 568 (by decide +kernel) rfl
theorem cw_L_43 : CWD RL 43 yX2_told cX2_told 3 (some .int) 2 := ⟨q505, q506, q507, q508, q1, ⟨by decide +kernel, by decide +kernel⟩, by decide +kernel⟩
theorem q512 : Cond.methodLink RL 46 yX2_slip ∈ tbl := tin 573 (by decide +kernel) rfl
theorem q515 : Cond.code yX2_slip cX2_slip 4 (some .int) ∈ tbl := tin 576 (by decide +kernel) rfl
theorem q513 : Cond.instanceMethod yX2_slip ∈ tbl := tin 574 (by decide +kernel) rfl
theorem q514 : Cond.selects RX2 yX2_slip yX2_slip ∈ tbl := tin 575 (by decide +kernel) rfl
theorem cw_L_46 : CWD RL 46 yX2_slip cX2_slip 4 (some .int) 3 := ⟨q512, q513, q514, q515, q1, ⟨by decide +kernel, by decide +kernel⟩, by decide +kernel⟩
theorem q519 : Cond.methodLink RL 50 yX2_step ∈ tbl := tin 580 (by decide +kernel) rfl
theorem q522 : Cond.code yX2_step cX2_step 5 (some .int) ∈ tbl := tin 583 (by decide +kernel) rfl
theorem q520 : Cond.instanceMethod yX2_step ∈ tbl := tin 581 (by decide +kernel) rfl
theorem q521 : Cond.selects RX2 yX2_step yX2_step ∈ tbl := tin 582 (by decide +kernel) rfl
theorem cw_L_50 : CWD RL 50 yX2_step cX2_step 5 (some .int) 3 := ⟨q519, q520, q521, q522, q1, ⟨by decide +kernel, by decide +kernel⟩, by decide +kernel⟩
theorem q524 : Cond.methodLinkNest RX2 128 yX0_stepFact RX2 ∈ tbl := tin 585 (by decide +kernel) rfl
theorem q527 : Cond.code yX0_stepFact cX0_stepFact 3 (some .int) ∈ tbl := tin 588 (by decide +kernel) rfl
theorem q526 : Cond.instanceMethod yX0_stepFact ∈ tbl := tin 587 (by decide +kernel) rfl
theorem qs44 : Cond.selects RX0 yX0_stepFact yX0_stepFact ∈ tbl := tin 44 (by decide +kernel) rfl
theorem cw_X2_128 : CND RX2 128 yX0_stepFact RX2 cX0_stepFact 3 (some .int) 2 := ⟨q524, q526, qs44, q527, q3, ⟨by decide +kernel, by decide +kernel⟩, by decide +kernel⟩
theorem q531 : Cond.methodLink RL 53 yX2_closing ∈ tbl := tin 592 (by decide +kernel) rfl
theorem q534 : Cond.code yX2_closing cX2_closing 3 (some .int) ∈ tbl := tin 595 (by decide +kernel) rfl
theorem q532 : Cond.instanceMethod yX2_closing ∈ tbl := tin 593 (by decide +kernel) rfl
theorem q533 : Cond.selects RX2 yX2_closing yX2_closing ∈ tbl := tin 594 (by decide +kernel) rfl
theorem cw_L_53 : CWD RL 53 yX2_closing cX2_closing 3 (some .int) 2 := ⟨q531, q532, q533, q534, q1, ⟨by decide +kernel, by decide +kernel⟩, by decide +kernel⟩
theorem q539 : Cond.methodLink RL 56 yX2_clash ∈ tbl := tin 600 (by decide +kernel) rfl
theorem q542 : Cond.code yX2_clash cX2_clash 3 (some .boolean) ∈ tbl := tin 603 (by decide +kernel) rfl
theorem q540 : Cond.instanceMethod yX2_clash ∈ tbl := tin 601 (by decide +kernel) rfl
theorem q541 : Cond.selects RX2 yX2_clash yX2_clash ∈ tbl := tin 602 (by decide +kernel) rfl
theorem cw_L_56 : CWD RL 56 yX2_clash cX2_clash 3 (some .boolean) 2 := ⟨q539, q540, q541, q542, q1, ⟨by decide +kernel, by decide +kernel⟩, by decide +kernel⟩
theorem q543 : Cond.methodLinkNest RX2 139 yX1_clashes RX2 ∈ tbl := tin 604 (by decide +kernel) rfl
theorem cw_X2_139 : CND RX2 139 yX1_clashes RX2 cX1_clashes 6 (some .boolean) 2 := ⟨q543, q214, qs18, q215, q2, ⟨by decide +kernel, by decide +kernel⟩, by decide +kernel⟩
theorem q547 : Cond.methodLink RL 60 yX2_count ∈ tbl := tin 608 (by decide +kernel) rfl
theorem q550 : Cond.code yX2_count cX2_count 2 (some .int) ∈ tbl := tin 611 (by decide +kernel) rfl
theorem q548 : Cond.instanceMethod yX2_count ∈ tbl := tin 609 (by decide +kernel) rfl
theorem q549 : Cond.selects RX2 yX2_count yX2_count ∈ tbl := tin 610 (by decide +kernel) rfl
theorem cw_L_60 : CWD RL 60 yX2_count cX2_count 2 (some .int) 1 := ⟨q547, q548, q549, q550, q1, ⟨by decide +kernel, by decide +kernel⟩, by decide +kernel⟩
theorem q554 : Cond.methodLink RL 63 yX2_alone ∈ tbl := tin 615 (by decide +kernel) rfl
theorem q557 : Cond.code yX2_alone cX2_alone 3 (some .int) ∈ tbl := tin 618 (by decide +kernel) rfl
theorem q555 : Cond.instanceMethod yX2_alone ∈ tbl := tin 616 (by decide +kernel) rfl
theorem q556 : Cond.selects RX2 yX2_alone yX2_alone ∈ tbl := tin 617 (by decide +kernel) rfl
theorem cw_L_63 : CWD RL 63 yX2_alone cX2_alone 3 (some .int) 2 := ⟨q554, q555, q556, q557, q1, ⟨by decide +kernel, by decide +kernel⟩, by decide +kernel⟩
theorem q558 : Cond.methodLinkNest RX2 150 yX1_workAlone RX2 ∈ tbl := tin 619 (by decide +kernel) rfl
theorem q561 : Cond.code yX1_workAlone cX1_workAlone 4 none ∈ tbl := tin 622 (by decide +kernel) rfl
theorem q560 : Cond.instanceMethod yX1_workAlone ∈ tbl := tin 621 (by decide +kernel) rfl
theorem qs45 : Cond.selects RX1 yX1_workAlone yX1_workAlone ∈ tbl := tin 45 (by decide +kernel) rfl
theorem cw_X2_150 : CND RX2 150 yX1_workAlone RX2 cX1_workAlone 4 none 1 := ⟨q558, q560, qs45, q561, q2, ⟨by decide +kernel, by decide +kernel⟩, by decide +kernel⟩
theorem q565 : Cond.methodLink RL 66 yX2_foresee ∈ tbl := tin 626 (by decide +kernel) rfl
theorem q568 : Cond.code yX2_foresee cX2_foresee 3 (some .int) ∈ tbl := tin 629 (by decide +kernel) rfl
theorem q566 : Cond.instanceMethod yX2_foresee ∈ tbl := tin 627 (by decide +kernel) rfl
theorem q567 : Cond.selects RX2 yX2_foresee yX2_foresee ∈ tbl := tin 628 (by decide +kernel) rfl
theorem cw_L_66 : CWD RL 66 yX2_foresee cX2_foresee 3 (some .int) 2 := ⟨q565, q566, q567, q568, q1, ⟨by decide +kernel, by decide +kernel⟩, by decide +kernel⟩
theorem q4 : Cond.initialized RX4 ∈ tbl := tin 65 (by decide +kernel) rfl
theorem q571 : Cond.methodLink RL 72 yX4_init ∈ tbl := tin 632 (by decide +kernel) rfl
theorem q573 : Cond.code yX4_init cX4_init 1 none ∈ tbl := tin 634 (by decide +kernel) rfl
theorem q572 : Cond.instanceMethod yX4_init ∈ tbl := tin 633 (by decide +kernel) rfl
theorem q5 : Cond.initialized RX3 ∈ tbl := tin 66 (by decide +kernel) rfl
theorem q577 : Cond.methodLinkNest RX4 9 yX3_init RX4 ∈ tbl := tin 638 (by decide +kernel) rfl
theorem q579 : Cond.code yX3_init cX3_init 1 none ∈ tbl := tin 640 (by decide +kernel) rfl
theorem q578 : Cond.instanceMethod yX3_init ∈ tbl := tin 639 (by decide +kernel) rfl
theorem q656 : Cond.methodLink RL 79 yX4_thrown ∈ tbl := tin 717 (by decide +kernel) rfl
theorem q659 : Cond.code yX4_thrown cX4_thrown 1 (some .int) ∈ tbl := tin 720 (by decide +kernel) rfl
theorem q657 : Cond.instanceMethod yX4_thrown ∈ tbl := tin 718 (by decide +kernel) rfl
theorem q658 : Cond.selects RX4 yX4_thrown yX4_thrown ∈ tbl := tin 719 (by decide +kernel) rfl
theorem cw_L_79 : CWD RL 79 yX4_thrown cX4_thrown 1 (some .int) 0 := ⟨q656, q657, q658, q659, q4, ⟨by decide +kernel, by decide +kernel⟩, by decide +kernel⟩
theorem q660 : Cond.methodLink RL 78 yX4_till ∈ tbl := tin 721 (by decide +kernel) rfl
theorem q663 : Cond.code yX4_till cX4_till 3 (some .int) ∈ tbl := tin 724 (by decide +kernel) rfl
theorem q661 : Cond.instanceMethod yX4_till ∈ tbl := tin 722 (by decide +kernel) rfl
theorem q662 : Cond.selects RX4 yX4_till yX4_till ∈ tbl := tin 723 (by decide +kernel) rfl
theorem cw_L_78 : CWD RL 78 yX4_till cX4_till 3 (some .int) 1 := ⟨q660, q661, q662, q663, q4, ⟨by decide +kernel, by decide +kernel⟩, by decide +kernel⟩
theorem q664 : Cond.methodLink RX4 26 yX4_isIn ∈ tbl := tin 725 (by decide +kernel) rfl
theorem q666 : Cond.code yX4_isIn cX4_isIn 3 (some .boolean) ∈ tbl := tin 727 (by decide +kernel) rfl
theorem q665 : Cond.static yX4_isIn ∈ tbl := tin 726 (by decide +kernel) rfl
theorem cw_X4_26 : CSD RX4 26 yX4_isIn cX4_isIn 3 (some .boolean) 3 := ⟨q664, q665, q666, q4, ⟨by decide +kernel, by decide +kernel⟩, by decide +kernel⟩
theorem q667 : Cond.methodLink RX4 33 yX4_no ∈ tbl := tin 728 (by decide +kernel) rfl
theorem q670 : Cond.code yX4_no cX4_no 2 (some .int) ∈ tbl := tin 731 (by decide +kernel) rfl
theorem q669 : Cond.instanceMethod yX4_no ∈ tbl := tin 730 (by decide +kernel) rfl
theorem qs46 : Cond.selects RX4 yX4_no yX4_no ∈ tbl := tin 46 (by decide +kernel) rfl
theorem cw_X4_33 : CWD RX4 33 yX4_no cX4_no 2 (some .int) 1 := ⟨q667, q669, qs46, q670, q4, ⟨by decide +kernel, by decide +kernel⟩, by decide +kernel⟩
theorem q671 : Cond.methodLink RX4 37 yX3_begin ∈ tbl := tin 732 (by decide +kernel) rfl
theorem q674 : Cond.code yX3_begin cX3_begin 3 none ∈ tbl := tin 735 (by decide +kernel) rfl
theorem q672 : Cond.instanceMethod yX3_begin ∈ tbl := tin 733 (by decide +kernel) rfl
theorem q673 : Cond.selects RX3 yX3_begin yX3_begin ∈ tbl := tin 734 (by decide +kernel) rfl
theorem cw_X4_37 : CWD RX4 37 yX3_begin cX3_begin 3 none 1 := ⟨q671, q672, q673, q674, q5, ⟨by decide +kernel, by decide +kernel⟩, by decide +kernel⟩
theorem q675 : Cond.methodLink RL 85 yX4_pay ∈ tbl := tin 736 (by decide +kernel) rfl
theorem q678 : Cond.code yX4_pay cX4_pay 4 (some .int) ∈ tbl := tin 739 (by decide +kernel) rfl
theorem q676 : Cond.instanceMethod yX4_pay ∈ tbl := tin 737 (by decide +kernel) rfl
theorem q677 : Cond.selects RX4 yX4_pay yX4_pay ∈ tbl := tin 738 (by decide +kernel) rfl
theorem cw_L_85 : CWD RL 85 yX4_pay cX4_pay 4 (some .int) 2 := ⟨q675, q676, q677, q678, q4, ⟨by decide +kernel, by decide +kernel⟩, by decide +kernel⟩
theorem q679 : Cond.methodLink RX4 41 yX4_isDrawer ∈ tbl := tin 740 (by decide +kernel) rfl
theorem q682 : Cond.code yX4_isDrawer cX4_isDrawer 2 (some .boolean) ∈ tbl := tin 743 (by decide +kernel) rfl
theorem q681 : Cond.instanceMethod yX4_isDrawer ∈ tbl := tin 742 (by decide +kernel) rfl
theorem qs47 : Cond.selects RX4 yX4_isDrawer yX4_isDrawer ∈ tbl := tin 47 (by decide +kernel) rfl
theorem cw_X4_41 : CWD RX4 41 yX4_isDrawer cX4_isDrawer 2 (some .boolean) 1 := ⟨q679, q681, qs47, q682, q4, ⟨by decide +kernel, by decide +kernel⟩, by decide +kernel⟩
theorem q683 : Cond.methodLink RX4 49 yX3_pay ∈ tbl := tin 744 (by decide +kernel) rfl
theorem q686 : Cond.code yX3_pay cX3_pay 3 none ∈ tbl := tin 747 (by decide +kernel) rfl
theorem q684 : Cond.instanceMethod yX3_pay ∈ tbl := tin 745 (by decide +kernel) rfl
theorem q685 : Cond.selects RX3 yX3_pay yX3_pay ∈ tbl := tin 746 (by decide +kernel) rfl
theorem cw_X4_49 : CWD RX4 49 yX3_pay cX3_pay 3 none 2 := ⟨q683, q684, q685, q686, q5, ⟨by decide +kernel, by decide +kernel⟩, by decide +kernel⟩
theorem q687 : Cond.methodLink RX3 99 yX3_record ∈ tbl := tin 748 (by decide +kernel) rfl
theorem q690 : Cond.code yX3_record cX3_record 3 none ∈ tbl := tin 751 (by decide +kernel) rfl
theorem q689 : Cond.instanceMethod yX3_record ∈ tbl := tin 750 (by decide +kernel) rfl
theorem qs48 : Cond.selects RX3 yX3_record yX3_record ∈ tbl := tin 48 (by decide +kernel) rfl
theorem cw_X3_99 : CWD RX3 99 yX3_record cX3_record 3 none 2 := ⟨q687, q689, qs48, q690, q5, ⟨by decide +kernel, by decide +kernel⟩, by decide +kernel⟩
theorem q691 : Cond.methodLink RX3 95 yX3_sum ∈ tbl := tin 752 (by decide +kernel) rfl
theorem q694 : Cond.code yX3_sum cX3_sum 3 (some .int) ∈ tbl := tin 755 (by decide +kernel) rfl
theorem q692 : Cond.instanceMethod yX3_sum ∈ tbl := tin 753 (by decide +kernel) rfl
theorem q693 : Cond.selects RX3 yX3_sum yX3_sum ∈ tbl := tin 754 (by decide +kernel) rfl
theorem cw_X3_95 : CWD RX3 95 yX3_sum cX3_sum 3 (some .int) 0 := ⟨q691, q692, q693, q694, q5, ⟨by decide +kernel, by decide +kernel⟩, by decide +kernel⟩
theorem q695 : Cond.methodLink RL 89 yX4_clerk ∈ tbl := tin 756 (by decide +kernel) rfl
theorem q698 : Cond.code yX4_clerk cX4_clerk 1 (some .int) ∈ tbl := tin 759 (by decide +kernel) rfl
theorem q696 : Cond.instanceMethod yX4_clerk ∈ tbl := tin 757 (by decide +kernel) rfl
theorem q697 : Cond.selects RX4 yX4_clerk yX4_clerk ∈ tbl := tin 758 (by decide +kernel) rfl
theorem cw_L_89 : CWD RL 89 yX4_clerk cX4_clerk 1 (some .int) 0 := ⟨q695, q696, q697, q698, q4, ⟨by decide +kernel, by decide +kernel⟩, by decide +kernel⟩
theorem q699 : Cond.methodLink RX4 53 yX3_addClerk ∈ tbl := tin 760 (by decide +kernel) rfl
theorem q702 : Cond.code yX3_addClerk cX3_addClerk 1 (some .int) ∈ tbl := tin 763 (by decide +kernel) rfl
theorem q700 : Cond.instanceMethod yX3_addClerk ∈ tbl := tin 761 (by decide +kernel) rfl
theorem q701 : Cond.selects RX3 yX3_addClerk yX3_addClerk ∈ tbl := tin 762 (by decide +kernel) rfl
theorem cw_X4_53 : CWD RX4 53 yX3_addClerk cX3_addClerk 1 (some .int) 0 := ⟨q699, q700, q701, q702, q5, ⟨by decide +kernel, by decide +kernel⟩, by decide +kernel⟩
theorem q703 : Cond.methodLink RX3 71 yX3_clear ∈ tbl := tin 764 (by decide +kernel) rfl
theorem q706 : Cond.code yX3_clear cX3_clear 3 none ∈ tbl := tin 767 (by decide +kernel) rfl
theorem q704 : Cond.instanceMethod yX3_clear ∈ tbl := tin 765 (by decide +kernel) rfl
theorem q705 : Cond.selects RX3 yX3_clear yX3_clear ∈ tbl := tin 766 (by decide +kernel) rfl
theorem cw_X3_71 : CWD RX3 71 yX3_clear cX3_clear 3 none 1 := ⟨q703, q704, q705, q706, q5, ⟨by decide +kernel, by decide +kernel⟩, by decide +kernel⟩
theorem q707 : Cond.methodLink RL 93 yX4_say ∈ tbl := tin 768 (by decide +kernel) rfl
theorem q710 : Cond.code yX4_say cX4_say 7 (some .int) ∈ tbl := tin 771 (by decide +kernel) rfl
theorem q708 : Cond.instanceMethod yX4_say ∈ tbl := tin 769 (by decide +kernel) rfl
theorem q709 : Cond.selects RX4 yX4_say yX4_say ∈ tbl := tin 770 (by decide +kernel) rfl
theorem cw_L_93 : CWD RL 93 yX4_say cX4_say 7 (some .int) 5 := ⟨q707, q708, q709, q710, q4, ⟨by decide +kernel, by decide +kernel⟩, by decide +kernel⟩
theorem q711 : Cond.methodLink RX4 57 yX4_isClerk ∈ tbl := tin 772 (by decide +kernel) rfl
theorem q714 : Cond.code yX4_isClerk cX4_isClerk 2 (some .boolean) ∈ tbl := tin 775 (by decide +kernel) rfl
theorem q713 : Cond.instanceMethod yX4_isClerk ∈ tbl := tin 774 (by decide +kernel) rfl
theorem qs49 : Cond.selects RX4 yX4_isClerk yX4_isClerk ∈ tbl := tin 49 (by decide +kernel) rfl
theorem cw_X4_57 : CWD RX4 57 yX4_isClerk cX4_isClerk 2 (some .boolean) 1 := ⟨q711, q713, qs49, q714, q4, ⟨by decide +kernel, by decide +kernel⟩, by decide +kernel⟩
theorem q718 : Cond.methodLink RL 96 yX4_turn ∈ tbl := tin 779 (by decide +kernel) rfl
theorem q721 : Cond.code yX4_turn cX4_turn 2 (some .int) ∈ tbl := tin 782 (by decide +kernel) rfl
theorem q719 : Cond.instanceMethod yX4_turn ∈ tbl := tin 780 (by decide +kernel) rfl
theorem q720 : Cond.selects RX4 yX4_turn yX4_turn ∈ tbl := tin 781 (by decide +kernel) rfl
theorem cw_L_96 : CWD RL 96 yX4_turn cX4_turn 2 (some .int) 1 := ⟨q718, q719, q720, q721, q4, ⟨by decide +kernel, by decide +kernel⟩, by decide +kernel⟩
theorem q722 : Cond.methodLink RX4 78 yX3_goesOn ∈ tbl := tin 783 (by decide +kernel) rfl
theorem q725 : Cond.code yX3_goesOn cX3_goesOn 2 (some .boolean) ∈ tbl := tin 786 (by decide +kernel) rfl
theorem q723 : Cond.instanceMethod yX3_goesOn ∈ tbl := tin 784 (by decide +kernel) rfl
theorem q724 : Cond.selects RX3 yX3_goesOn yX3_goesOn ∈ tbl := tin 785 (by decide +kernel) rfl
theorem cw_X4_78 : CWD RX4 78 yX3_goesOn cX3_goesOn 2 (some .boolean) 1 := ⟨q722, q723, q724, q725, q5, ⟨by decide +kernel, by decide +kernel⟩, by decide +kernel⟩
theorem q726 : Cond.methodLink RX4 81 yX3_turn ∈ tbl := tin 787 (by decide +kernel) rfl
theorem q729 : Cond.code yX3_turn cX3_turn 2 (some .int) ∈ tbl := tin 790 (by decide +kernel) rfl
theorem q727 : Cond.instanceMethod yX3_turn ∈ tbl := tin 788 (by decide +kernel) rfl
theorem q728 : Cond.selects RX3 yX3_turn yX3_turn ∈ tbl := tin 789 (by decide +kernel) rfl
theorem cw_X4_81 : CWD RX4 81 yX3_turn cX3_turn 2 (some .int) 1 := ⟨q726, q727, q728, q729, q5, ⟨by decide +kernel, by decide +kernel⟩, by decide +kernel⟩
theorem q730 : Cond.methodLink RX3 103 yX3_act ∈ tbl := tin 791 (by decide +kernel) rfl
theorem q733 : Cond.code yX3_act cX3_act 8 none ∈ tbl := tin 794 (by decide +kernel) rfl
theorem q732 : Cond.instanceMethod yX3_act ∈ tbl := tin 793 (by decide +kernel) rfl
theorem qs50 : Cond.selects RX3 yX3_act yX3_act ∈ tbl := tin 50 (by decide +kernel) rfl
theorem cw_X3_103 : CWD RX3 103 yX3_act cX3_act 8 none 2 := ⟨q730, q732, qs50, q733, q5, ⟨by decide +kernel, by decide +kernel⟩, by decide +kernel⟩
theorem q734 : Cond.methodLink RX3 84 yX3_step ∈ tbl := tin 795 (by decide +kernel) rfl
theorem q737 : Cond.code yX3_step cX3_step 4 (some .int) ∈ tbl := tin 798 (by decide +kernel) rfl
theorem q735 : Cond.instanceMethod yX3_step ∈ tbl := tin 796 (by decide +kernel) rfl
theorem q736 : Cond.selects RX3 yX3_step yX3_step ∈ tbl := tin 797 (by decide +kernel) rfl
theorem cw_X3_84 : CWD RX3 84 yX3_step cX3_step 4 (some .int) 3 := ⟨q734, q735, q736, q737, q5, ⟨by decide +kernel, by decide +kernel⟩, by decide +kernel⟩
theorem q738 : Cond.methodLink RX3 88 yX3_read ∈ tbl := tin 799 (by decide +kernel) rfl
theorem q741 : Cond.code yX3_read cX3_read 4 (some .int) ∈ tbl := tin 802 (by decide +kernel) rfl
theorem q740 : Cond.instanceMethod yX3_read ∈ tbl := tin 801 (by decide +kernel) rfl
theorem qs51 : Cond.selects RX3 yX3_read yX3_read ∈ tbl := tin 51 (by decide +kernel) rfl
theorem cw_X3_88 : CWD RX3 88 yX3_read cX3_read 4 (some .int) 2 := ⟨q738, q740, qs51, q741, q5, ⟨by decide +kernel, by decide +kernel⟩, by decide +kernel⟩
theorem q742 : Cond.methodLink RX3 91 yX3_write ∈ tbl := tin 803 (by decide +kernel) rfl
theorem q745 : Cond.code yX3_write cX3_write 4 none ∈ tbl := tin 806 (by decide +kernel) rfl
theorem q744 : Cond.instanceMethod yX3_write ∈ tbl := tin 805 (by decide +kernel) rfl
theorem qs52 : Cond.selects RX3 yX3_write yX3_write ∈ tbl := tin 52 (by decide +kernel) rfl
theorem cw_X3_91 : CWD RX3 91 yX3_write cX3_write 4 none 3 := ⟨q742, q744, qs52, q745, q5, ⟨by decide +kernel, by decide +kernel⟩, by decide +kernel⟩
theorem q750 : Cond.methodLink RX3 106 yX3_wouldLose ∈ tbl := tin 811 (by decide +kernel) rfl
theorem q753 : Cond.code yX3_wouldLose cX3_wouldLose 3 (some .boolean) ∈ tbl := tin 814 (by decide +kernel) rfl
theorem q751 : Cond.instanceMethod yX3_wouldLose ∈ tbl := tin 812 (by decide +kernel) rfl
theorem q752 : Cond.selects RX3 yX3_wouldLose yX3_wouldLose ∈ tbl := tin 813 (by decide +kernel) rfl
theorem cw_X3_106 : CWD RX3 106 yX3_wouldLose cX3_wouldLose 3 (some .boolean) 1 := ⟨q750, q751, q752, q753, q5, ⟨by decide +kernel, by decide +kernel⟩, by decide +kernel⟩
theorem q754 : Cond.methodLink RX3 110 yX3_close ∈ tbl := tin 815 (by decide +kernel) rfl
theorem q757 : Cond.code yX3_close cX3_close 4 none ∈ tbl := tin 818 (by decide +kernel) rfl
theorem q756 : Cond.instanceMethod yX3_close ∈ tbl := tin 817 (by decide +kernel) rfl
theorem qs53 : Cond.selects RX3 yX3_close yX3_close ∈ tbl := tin 53 (by decide +kernel) rfl
theorem cw_X3_110 : CWD RX3 110 yX3_close cX3_close 4 none 1 := ⟨q754, q756, qs53, q757, q5, ⟨by decide +kernel, by decide +kernel⟩, by decide +kernel⟩
theorem q758 : Cond.methodLink RL 99 yX4_drop ∈ tbl := tin 819 (by decide +kernel) rfl
theorem q761 : Cond.code yX4_drop cX4_drop 3 (some .int) ∈ tbl := tin 822 (by decide +kernel) rfl
theorem q759 : Cond.instanceMethod yX4_drop ∈ tbl := tin 820 (by decide +kernel) rfl
theorem q760 : Cond.selects RX4 yX4_drop yX4_drop ∈ tbl := tin 821 (by decide +kernel) rfl
theorem cw_L_99 : CWD RL 99 yX4_drop cX4_drop 3 (some .int) 1 := ⟨q758, q759, q760, q761, q4, ⟨by decide +kernel, by decide +kernel⟩, by decide +kernel⟩
theorem q762 : Cond.methodLink RX4 84 yX3_clear ∈ tbl := tin 823 (by decide +kernel) rfl
theorem cw_X4_84 : CWD RX4 84 yX3_clear cX3_clear 3 none 1 := ⟨q762, q704, q705, q706, q5, ⟨by decide +kernel, by decide +kernel⟩, by decide +kernel⟩
theorem q763 : Cond.methodLink RL 102 yX4_pass ∈ tbl := tin 824 (by decide +kernel) rfl
theorem q766 : Cond.code yX4_pass cX4_pass 4 (some .int) ∈ tbl := tin 827 (by decide +kernel) rfl
theorem q764 : Cond.instanceMethod yX4_pass ∈ tbl := tin 825 (by decide +kernel) rfl
theorem q765 : Cond.selects RX4 yX4_pass yX4_pass ∈ tbl := tin 826 (by decide +kernel) rfl
theorem cw_L_102 : CWD RL 102 yX4_pass cX4_pass 4 (some .int) 1 := ⟨q763, q764, q765, q766, q4, ⟨by decide +kernel, by decide +kernel⟩, by decide +kernel⟩
theorem q767 : Cond.methodLink RX4 87 yX3_round ∈ tbl := tin 828 (by decide +kernel) rfl
theorem q770 : Cond.code yX3_round cX3_round 3 (some .int) ∈ tbl := tin 831 (by decide +kernel) rfl
theorem q768 : Cond.instanceMethod yX3_round ∈ tbl := tin 829 (by decide +kernel) rfl
theorem q769 : Cond.selects RX3 yX3_round yX3_round ∈ tbl := tin 830 (by decide +kernel) rfl
theorem cw_X4_87 : CWD RX4 87 yX3_round cX3_round 3 (some .int) 0 := ⟨q767, q768, q769, q770, q5, ⟨by decide +kernel, by decide +kernel⟩, by decide +kernel⟩
theorem q771 : Cond.methodLink RX3 113 yX3_goesOn ∈ tbl := tin 832 (by decide +kernel) rfl
theorem cw_X3_113 : CWD RX3 113 yX3_goesOn cX3_goesOn 2 (some .boolean) 1 := ⟨q771, q723, q724, q725, q5, ⟨by decide +kernel, by decide +kernel⟩, by decide +kernel⟩
theorem q772 : Cond.methodLink RX3 116 yX3_turn ∈ tbl := tin 833 (by decide +kernel) rfl
theorem cw_X3_116 : CWD RX3 116 yX3_turn cX3_turn 2 (some .int) 1 := ⟨q772, q727, q728, q729, q5, ⟨by decide +kernel, by decide +kernel⟩, by decide +kernel⟩
theorem q773 : Cond.methodLink RL 105 yX4_drawer ∈ tbl := tin 834 (by decide +kernel) rfl
theorem q776 : Cond.code yX4_drawer cX4_drawer 3 (some .int) ∈ tbl := tin 837 (by decide +kernel) rfl
theorem q774 : Cond.instanceMethod yX4_drawer ∈ tbl := tin 835 (by decide +kernel) rfl
theorem q775 : Cond.selects RX4 yX4_drawer yX4_drawer ∈ tbl := tin 836 (by decide +kernel) rfl
theorem cw_L_105 : CWD RL 105 yX4_drawer cX4_drawer 3 (some .int) 2 := ⟨q773, q774, q775, q776, q4, ⟨by decide +kernel, by decide +kernel⟩, by decide +kernel⟩
theorem q777 : Cond.methodLink RX4 99 yX4_drawerTold ∈ tbl := tin 838 (by decide +kernel) rfl
theorem q780 : Cond.code yX4_drawerTold cX4_drawerTold 5 (some .int) ∈ tbl := tin 841 (by decide +kernel) rfl
theorem q779 : Cond.instanceMethod yX4_drawerTold ∈ tbl := tin 840 (by decide +kernel) rfl
theorem qs54 : Cond.selects RX4 yX4_drawerTold yX4_drawerTold ∈ tbl := tin 54 (by decide +kernel) rfl
theorem cw_X4_99 : CWD RX4 99 yX4_drawerTold cX4_drawerTold 5 (some .int) 2 := ⟨q777, q779, qs54, q780, q4, ⟨by decide +kernel, by decide +kernel⟩, by decide +kernel⟩
theorem q781 : Cond.methodLink RL 108 yX4_told ∈ tbl := tin 842 (by decide +kernel) rfl
theorem q784 : Cond.code yX4_told cX4_told 3 (some .int) ∈ tbl := tin 845 (by decide +kernel) rfl
theorem q782 : Cond.instanceMethod yX4_told ∈ tbl := tin 843 (by decide +kernel) rfl
theorem q783 : Cond.selects RX4 yX4_told yX4_told ∈ tbl := tin 844 (by decide +kernel) rfl
theorem cw_L_108 : CWD RL 108 yX4_told cX4_told 3 (some .int) 2 := ⟨q781, q782, q783, q784, q4, ⟨by decide +kernel, by decide +kernel⟩, by decide +kernel⟩
theorem q785 : Cond.methodLink RX4 113 yX4_clerkTold ∈ tbl := tin 846 (by decide +kernel) rfl
theorem q788 : Cond.code yX4_clerkTold cX4_clerkTold 3 (some .int) ∈ tbl := tin 849 (by decide +kernel) rfl
theorem q787 : Cond.instanceMethod yX4_clerkTold ∈ tbl := tin 848 (by decide +kernel) rfl
theorem qs55 : Cond.selects RX4 yX4_clerkTold yX4_clerkTold ∈ tbl := tin 55 (by decide +kernel) rfl
theorem cw_X4_113 : CWD RX4 113 yX4_clerkTold cX4_clerkTold 3 (some .int) 2 := ⟨q785, q787, qs55, q788, q4, ⟨by decide +kernel, by decide +kernel⟩, by decide +kernel⟩
theorem q789 : Cond.methodLink RX4 106 yX4_many ∈ tbl := tin 850 (by decide +kernel) rfl
theorem q792 : Cond.code yX4_many cX4_many 5 (some .int) ∈ tbl := tin 853 (by decide +kernel) rfl
theorem q791 : Cond.instanceMethod yX4_many ∈ tbl := tin 852 (by decide +kernel) rfl
theorem qs56 : Cond.selects RX4 yX4_many yX4_many ∈ tbl := tin 56 (by decide +kernel) rfl
theorem cw_X4_106 : CWD RX4 106 yX4_many cX4_many 5 (some .int) 2 := ⟨q789, q791, qs56, q792, q4, ⟨by decide +kernel, by decide +kernel⟩, by decide +kernel⟩
theorem q793 : Cond.methodLink RX4 110 yX3_wouldLose ∈ tbl := tin 854 (by decide +kernel) rfl
theorem cw_X4_110 : CWD RX4 110 yX3_wouldLose cX3_wouldLose 3 (some .boolean) 1 := ⟨q793, q751, q752, q753, q5, ⟨by decide +kernel, by decide +kernel⟩, by decide +kernel⟩
theorem q794 : Cond.methodLink RL 112 yX4_slip ∈ tbl := tin 855 (by decide +kernel) rfl
theorem q797 : Cond.code yX4_slip cX4_slip 4 (some .int) ∈ tbl := tin 858 (by decide +kernel) rfl
theorem q795 : Cond.instanceMethod yX4_slip ∈ tbl := tin 856 (by decide +kernel) rfl
theorem q796 : Cond.selects RX4 yX4_slip yX4_slip ∈ tbl := tin 857 (by decide +kernel) rfl
theorem cw_L_112 : CWD RL 112 yX4_slip cX4_slip 4 (some .int) 3 := ⟨q794, q795, q796, q797, q4, ⟨by decide +kernel, by decide +kernel⟩, by decide +kernel⟩
theorem q798 : Cond.methodLink RX4 119 yX4_slipTold ∈ tbl := tin 859 (by decide +kernel) rfl
theorem q801 : Cond.code yX4_slipTold cX4_slipTold 5 (some .int) ∈ tbl := tin 862 (by decide +kernel) rfl
theorem q800 : Cond.instanceMethod yX4_slipTold ∈ tbl := tin 861 (by decide +kernel) rfl
theorem qs57 : Cond.selects RX4 yX4_slipTold yX4_slipTold ∈ tbl := tin 57 (by decide +kernel) rfl
theorem cw_X4_119 : CWD RX4 119 yX4_slipTold cX4_slipTold 5 (some .int) 3 := ⟨q798, q800, qs57, q801, q4, ⟨by decide +kernel, by decide +kernel⟩, by decide +kernel⟩
theorem q802 : Cond.methodLink RL 115 yX4_step ∈ tbl := tin 863 (by decide +kernel) rfl
theorem q805 : Cond.code yX4_step cX4_step 4 (some .int) ∈ tbl := tin 866 (by decide +kernel) rfl
theorem q803 : Cond.instanceMethod yX4_step ∈ tbl := tin 864 (by decide +kernel) rfl
theorem q804 : Cond.selects RX4 yX4_step yX4_step ∈ tbl := tin 865 (by decide +kernel) rfl
theorem cw_L_115 : CWD RL 115 yX4_step cX4_step 4 (some .int) 3 := ⟨q802, q803, q804, q805, q4, ⟨by decide +kernel, by decide +kernel⟩, by decide +kernel⟩
theorem q806 : Cond.methodLink RX4 123 yX3_step ∈ tbl := tin 867 (by decide +kernel) rfl
theorem cw_X4_123 : CWD RX4 123 yX3_step cX3_step 4 (some .int) 3 := ⟨q806, q735, q736, q737, q5, ⟨by decide +kernel, by decide +kernel⟩, by decide +kernel⟩
theorem q807 : Cond.methodLink RL 118 yX4_closing ∈ tbl := tin 868 (by decide +kernel) rfl
theorem q810 : Cond.code yX4_closing cX4_closing 3 (some .int) ∈ tbl := tin 871 (by decide +kernel) rfl
theorem q808 : Cond.instanceMethod yX4_closing ∈ tbl := tin 869 (by decide +kernel) rfl
theorem q809 : Cond.selects RX4 yX4_closing yX4_closing ∈ tbl := tin 870 (by decide +kernel) rfl
theorem cw_L_118 : CWD RL 118 yX4_closing cX4_closing 3 (some .int) 2 := ⟨q807, q808, q809, q810, q4, ⟨by decide +kernel, by decide +kernel⟩, by decide +kernel⟩
theorem q812 : Cond.methodLink RX4 143 yX4_closingTold ∈ tbl := tin 873 (by decide +kernel) rfl
theorem q815 : Cond.code yX4_closingTold cX4_closingTold 4 (some .int) ∈ tbl := tin 876 (by decide +kernel) rfl
theorem q814 : Cond.instanceMethod yX4_closingTold ∈ tbl := tin 875 (by decide +kernel) rfl
theorem qs58 : Cond.selects RX4 yX4_closingTold yX4_closingTold ∈ tbl := tin 58 (by decide +kernel) rfl
theorem cw_X4_143 : CWD RX4 143 yX4_closingTold cX4_closingTold 4 (some .int) 2 := ⟨q812, q814, qs58, q815, q4, ⟨by decide +kernel, by decide +kernel⟩, by decide +kernel⟩
theorem q816 : Cond.methodLink RL 121 yX4_clash ∈ tbl := tin 877 (by decide +kernel) rfl
theorem q819 : Cond.code yX4_clash cX4_clash 3 (some .boolean) ∈ tbl := tin 880 (by decide +kernel) rfl
theorem q817 : Cond.instanceMethod yX4_clash ∈ tbl := tin 878 (by decide +kernel) rfl
theorem q818 : Cond.selects RX4 yX4_clash yX4_clash ∈ tbl := tin 879 (by decide +kernel) rfl
theorem cw_L_121 : CWD RL 121 yX4_clash cX4_clash 3 (some .boolean) 2 := ⟨q816, q817, q818, q819, q4, ⟨by decide +kernel, by decide +kernel⟩, by decide +kernel⟩
theorem q820 : Cond.methodLink RX4 146 yX4_clashes ∈ tbl := tin 881 (by decide +kernel) rfl
theorem q823 : Cond.code yX4_clashes cX4_clashes 4 (some .boolean) ∈ tbl := tin 884 (by decide +kernel) rfl
theorem q822 : Cond.instanceMethod yX4_clashes ∈ tbl := tin 883 (by decide +kernel) rfl
theorem qs59 : Cond.selects RX4 yX4_clashes yX4_clashes ∈ tbl := tin 59 (by decide +kernel) rfl
theorem cw_X4_146 : CWD RX4 146 yX4_clashes cX4_clashes 4 (some .boolean) 2 := ⟨q820, q822, qs59, q823, q4, ⟨by decide +kernel, by decide +kernel⟩, by decide +kernel⟩
theorem q824 : Cond.methodLink RL 124 yX4_count ∈ tbl := tin 885 (by decide +kernel) rfl
theorem q827 : Cond.code yX4_count cX4_count 2 (some .int) ∈ tbl := tin 888 (by decide +kernel) rfl
theorem q825 : Cond.instanceMethod yX4_count ∈ tbl := tin 886 (by decide +kernel) rfl
theorem q826 : Cond.selects RX4 yX4_count yX4_count ∈ tbl := tin 887 (by decide +kernel) rfl
theorem cw_L_124 : CWD RL 124 yX4_count cX4_count 2 (some .int) 1 := ⟨q824, q825, q826, q827, q4, ⟨by decide +kernel, by decide +kernel⟩, by decide +kernel⟩
theorem q828 : Cond.methodLink RX4 150 yX3_counted ∈ tbl := tin 889 (by decide +kernel) rfl
theorem q831 : Cond.code yX3_counted cX3_counted 6 (some .int) ∈ tbl := tin 892 (by decide +kernel) rfl
theorem q829 : Cond.instanceMethod yX3_counted ∈ tbl := tin 890 (by decide +kernel) rfl
theorem q830 : Cond.selects RX3 yX3_counted yX3_counted ∈ tbl := tin 891 (by decide +kernel) rfl
theorem cw_X4_150 : CWD RX4 150 yX3_counted cX3_counted 6 (some .int) 1 := ⟨q828, q829, q830, q831, q5, ⟨by decide +kernel, by decide +kernel⟩, by decide +kernel⟩
theorem q832 : Cond.methodLink RL 127 yX4_alone ∈ tbl := tin 893 (by decide +kernel) rfl
theorem q835 : Cond.code yX4_alone cX4_alone 4 (some .int) ∈ tbl := tin 896 (by decide +kernel) rfl
theorem q833 : Cond.instanceMethod yX4_alone ∈ tbl := tin 894 (by decide +kernel) rfl
theorem q834 : Cond.selects RX4 yX4_alone yX4_alone ∈ tbl := tin 895 (by decide +kernel) rfl
theorem cw_L_127 : CWD RL 127 yX4_alone cX4_alone 4 (some .int) 2 := ⟨q832, q833, q834, q835, q4, ⟨by decide +kernel, by decide +kernel⟩, by decide +kernel⟩
theorem q836 : Cond.methodLink RX4 153 yX3_become ∈ tbl := tin 897 (by decide +kernel) rfl
theorem q839 : Cond.code yX3_become cX3_become 2 none ∈ tbl := tin 900 (by decide +kernel) rfl
theorem q837 : Cond.instanceMethod yX3_become ∈ tbl := tin 898 (by decide +kernel) rfl
theorem q838 : Cond.selects RX3 yX3_become yX3_become ∈ tbl := tin 899 (by decide +kernel) rfl
theorem cw_X4_153 : CWD RX4 153 yX3_become cX3_become 2 none 1 := ⟨q836, q837, q838, q839, q5, ⟨by decide +kernel, by decide +kernel⟩, by decide +kernel⟩
theorem q840 : Cond.methodLink RX3 67 yX3_copy ∈ tbl := tin 901 (by decide +kernel) rfl
theorem q842 : Cond.code yX3_copy cX3_copy 2 none ∈ tbl := tin 903 (by decide +kernel) rfl
theorem q841 : Cond.static yX3_copy ∈ tbl := tin 902 (by decide +kernel) rfl
theorem cw_X3_67 : CSD RX3 67 yX3_copy cX3_copy 2 none 2 := ⟨q840, q841, q842, q5, ⟨by decide +kernel, by decide +kernel⟩, by decide +kernel⟩
theorem q844 : Cond.methodLink RL 131 yX4_until ∈ tbl := tin 905 (by decide +kernel) rfl
theorem q847 : Cond.code yX4_until cX4_until 2 (some .int) ∈ tbl := tin 908 (by decide +kernel) rfl
theorem q845 : Cond.instanceMethod yX4_until ∈ tbl := tin 906 (by decide +kernel) rfl
theorem q846 : Cond.selects RX4 yX4_until yX4_until ∈ tbl := tin 907 (by decide +kernel) rfl
theorem cw_L_131 : CWD RL 131 yX4_until cX4_until 2 (some .int) 0 := ⟨q844, q845, q846, q847, q4, ⟨by decide +kernel, by decide +kernel⟩, by decide +kernel⟩
theorem q848 : Cond.methodLink RX4 157 yX3_areDone ∈ tbl := tin 909 (by decide +kernel) rfl
theorem q851 : Cond.code yX3_areDone cX3_areDone 2 (some .boolean) ∈ tbl := tin 912 (by decide +kernel) rfl
theorem q849 : Cond.instanceMethod yX3_areDone ∈ tbl := tin 910 (by decide +kernel) rfl
theorem q850 : Cond.selects RX3 yX3_areDone yX3_areDone ∈ tbl := tin 911 (by decide +kernel) rfl
theorem cw_X4_157 : CWD RX4 157 yX3_areDone cX3_areDone 2 (some .boolean) 0 := ⟨q848, q849, q850, q851, q5, ⟨by decide +kernel, by decide +kernel⟩, by decide +kernel⟩
theorem q852 : Cond.methodLink RL 134 yX4_foresee ∈ tbl := tin 913 (by decide +kernel) rfl
theorem q855 : Cond.code yX4_foresee cX4_foresee 4 (some .int) ∈ tbl := tin 916 (by decide +kernel) rfl
theorem q853 : Cond.instanceMethod yX4_foresee ∈ tbl := tin 914 (by decide +kernel) rfl
theorem q854 : Cond.selects RX4 yX4_foresee yX4_foresee ∈ tbl := tin 915 (by decide +kernel) rfl
theorem cw_L_134 : CWD RL 134 yX4_foresee cX4_foresee 4 (some .int) 2 := ⟨q852, q853, q854, q855, q4, ⟨by decide +kernel, by decide +kernel⟩, by decide +kernel⟩
theorem q856 : Cond.methodLink RL 138 yX4_advise ∈ tbl := tin 917 (by decide +kernel) rfl
theorem q859 : Cond.code yX4_advise cX4_advise 4 (some .int) ∈ tbl := tin 920 (by decide +kernel) rfl
theorem q857 : Cond.instanceMethod yX4_advise ∈ tbl := tin 918 (by decide +kernel) rfl
theorem q858 : Cond.selects RX4 yX4_advise yX4_advise ∈ tbl := tin 919 (by decide +kernel) rfl
theorem cw_L_138 : CWD RL 138 yX4_advise cX4_advise 4 (some .int) 0 := ⟨q856, q857, q858, q859, q4, ⟨by decide +kernel, by decide +kernel⟩, by decide +kernel⟩
theorem q860 : Cond.methodLink RX4 161 yX4_clashesOf ∈ tbl := tin 921 (by decide +kernel) rfl
theorem q863 : Cond.code yX4_clashesOf cX4_clashesOf 4 (some .int) ∈ tbl := tin 924 (by decide +kernel) rfl
theorem q862 : Cond.instanceMethod yX4_clashesOf ∈ tbl := tin 923 (by decide +kernel) rfl
theorem qs60 : Cond.selects RX4 yX4_clashesOf yX4_clashesOf ∈ tbl := tin 60 (by decide +kernel) rfl
theorem cw_X4_161 : CWD RX4 161 yX4_clashesOf cX4_clashesOf 4 (some .int) 1 := ⟨q860, q862, qs60, q863, q4, ⟨by decide +kernel, by decide +kernel⟩, by decide +kernel⟩
theorem q864 : Cond.methodLink RL 143 yX4_mean ∈ tbl := tin 925 (by decide +kernel) rfl
theorem q867 : Cond.code yX4_mean cX4_mean 1 (some .double) ∈ tbl := tin 928 (by decide +kernel) rfl
theorem q865 : Cond.instanceMethod yX4_mean ∈ tbl := tin 926 (by decide +kernel) rfl
theorem q866 : Cond.selects RX4 yX4_mean yX4_mean ∈ tbl := tin 927 (by decide +kernel) rfl
theorem cw_L_143 : CWD RL 143 yX4_mean cX4_mean 1 (some .double) 0 := ⟨q864, q865, q866, q867, q4, ⟨by decide +kernel, by decide +kernel⟩, by decide +kernel⟩
theorem q868 : Cond.methodLink RL 148 yX4_digest ∈ tbl := tin 929 (by decide +kernel) rfl
theorem q871 : Cond.code yX4_digest cX4_digest 6 (some .long) ∈ tbl := tin 932 (by decide +kernel) rfl
theorem q869 : Cond.instanceMethod yX4_digest ∈ tbl := tin 930 (by decide +kernel) rfl
theorem q870 : Cond.selects RX4 yX4_digest yX4_digest ∈ tbl := tin 931 (by decide +kernel) rfl
theorem cw_L_148 : CWD RL 148 yX4_digest cX4_digest 6 (some .long) 0 := ⟨q868, q869, q870, q871, q4, ⟨by decide +kernel, by decide +kernel⟩, by decide +kernel⟩
theorem q0 : Cond.initialized RL ∈ tbl := tin 61 (by decide +kernel) rfl
theorem q6 : Cond.initialized "java/lang/Throwable" ∈ tbl := tin 67 (by decide +kernel) rfl
theorem q7 : Cond.initialized "java/lang/Exception" ∈ tbl := tin 68 (by decide +kernel) rfl
theorem q8 : Cond.initialized "java/lang/RuntimeException" ∈ tbl := tin 69 (by decide +kernel) rfl
theorem q9 : Cond.initialized "java/lang/IllegalArgumentException" ∈ tbl := tin 70 (by decide +kernel) rfl
theorem q10 : Cond.initialized "java/lang/IndexOutOfBoundsException" ∈ tbl := tin 71 (by decide +kernel) rfl
theorem q11 : Cond.initialized "java/lang/IllegalStateException" ∈ tbl := tin 72 (by decide +kernel) rfl
theorem q12 : Cond.initialized "java/lang/System" ∈ tbl := tin 73 (by decide +kernel) rfl
theorem q13 : Cond.initialized "java/lang/Math" ∈ tbl := tin 74 (by decide +kernel) rfl
theorem q14 : Cond.classLink RL 8 RX2 ∈ tbl := tin 75 (by decide +kernel) rfl
theorem q15 : Cond.instantiable RX2 2 ∈ tbl := tin 76 (by decide +kernel) rfl
theorem q22 : Cond.classLink RX2 7 RX1 ∈ tbl := tin 83 (by decide +kernel) rfl
theorem q23 : Cond.instantiable RX1 9 ∈ tbl := tin 84 (by decide +kernel) rfl
theorem q28 : Cond.classLink RX1 22 RX0 ∈ tbl := tin 89 (by decide +kernel) rfl
theorem q29 : Cond.arrayOver (.object RX0) ∈ tbl := tin 90 (by decide +kernel) rfl
theorem q30 : Cond.instantiable RX0 11 ∈ tbl := tin 91 (by decide +kernel) rfl
theorem q87 : Cond.arrayClass .int ∈ tbl := tin 148 (by decide +kernel) rfl
theorem q228 : Cond.constantLong RX2 165 1811 ∈ tbl := tin 289 (by decide +kernel) rfl
theorem q229 : Cond.constantLong RX2 167 31 ∈ tbl := tin 290 (by decide +kernel) rfl
theorem q295 : Cond.classLink RL 13 "java/lang/IllegalArgumentException" ∈ tbl := tin 356 (by decide +kernel) rfl
theorem q300 : Cond.classLink RX2 19 "java/lang/IllegalArgumentException" ∈ tbl := tin 361 (by decide +kernel) rfl
theorem q301 : Cond.instantiable "java/lang/IllegalArgumentException" 6 ∈ tbl := tin 362 (by decide +kernel) rfl
theorem q302 : Cond.castable "java/lang/IllegalArgumentException" "java/lang/IllegalArgumentException" ∈ tbl := tin 363 (by decide +kernel) rfl
theorem q339 : Cond.instantiable "java/lang/Throwable" 6 ∈ tbl := tin 400 (by decide +kernel) rfl
theorem q367 : Cond.arrayClass .byte ∈ tbl := tin 428 (by decide +kernel) rfl
theorem q375 : Cond.classLink RL 19 "java/lang/IndexOutOfBoundsException" ∈ tbl := tin 436 (by decide +kernel) rfl
theorem q384 : Cond.classLink RX2 123 "java/lang/IndexOutOfBoundsException" ∈ tbl := tin 445 (by decide +kernel) rfl
theorem q385 : Cond.instantiable "java/lang/IndexOutOfBoundsException" 6 ∈ tbl := tin 446 (by decide +kernel) rfl
theorem q386 : Cond.castable "java/lang/IndexOutOfBoundsException" "java/lang/IndexOutOfBoundsException" ∈ tbl := tin 447 (by decide +kernel) rfl
theorem q408 : Cond.classLink RL 25 "java/lang/IllegalStateException" ∈ tbl := tin 469 (by decide +kernel) rfl
theorem q413 : Cond.classLink RX2 50 "java/lang/IllegalStateException" ∈ tbl := tin 474 (by decide +kernel) rfl
theorem q414 : Cond.instantiable "java/lang/IllegalStateException" 6 ∈ tbl := tin 475 (by decide +kernel) rfl
theorem q415 : Cond.castable "java/lang/IllegalStateException" "java/lang/IllegalStateException" ∈ tbl := tin 476 (by decide +kernel) rfl
theorem q569 : Cond.classLink RL 70 RX4 ∈ tbl := tin 630 (by decide +kernel) rfl
theorem q570 : Cond.instantiable RX4 3 ∈ tbl := tin 631 (by decide +kernel) rfl
theorem q575 : Cond.classLink RX4 7 RX3 ∈ tbl := tin 636 (by decide +kernel) rfl
theorem q576 : Cond.instantiable RX3 16 ∈ tbl := tin 637 (by decide +kernel) rfl
theorem q872 : Cond.constantLong RX4 164 1811 ∈ tbl := tin 933 (by decide +kernel) rfl
theorem q873 : Cond.constantLong RX4 166 31 ∈ tbl := tin 934 (by decide +kernel) rfl
theorem q874 : Cond.arrayClass .long ∈ tbl := tin 935 (by decide +kernel) rfl
theorem qm174 : Cond.methodLink RX1 122 Lib.Math.min.name ∈ tbl := tin 235 (by decide +kernel) rfl
theorem qm175 : Cond.static Lib.Math.min.name ∈ tbl := tin 236 (by decide +kernel) rfl
theorem qm176 : Cond.code Lib.Math.min.name Lib.Math.min.code 2 (some .int) ∈ tbl := tin 237 (by decide +kernel) rfl
theorem qm746 : Cond.methodLink RX3 75 Lib.Math.min.name ∈ tbl := tin 807 (by decide +kernel) rfl
theorem qm747 : Cond.methodLink RX3 81 Lib.Math.max.name ∈ tbl := tin 808 (by decide +kernel) rfl
theorem qm748 : Cond.static Lib.Math.max.name ∈ tbl := tin 809 (by decide +kernel) rfl
theorem qm749 : Cond.code Lib.Math.max.name Lib.Math.max.code 2 (some .int) ∈ tbl := tin 810 (by decide +kernel) rfl
theorem qm811 : Cond.methodLink RX4 138 Lib.Math.min.name ∈ tbl := tin 872 (by decide +kernel) rfl
