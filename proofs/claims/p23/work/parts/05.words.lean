theorem inT0 : ∀ w ∈ u_ws RX0 TX0 11, w ∈ tbl := by
  have e : u_ws RX0 TX0 11 = [108, 110, 112, 114, 116, 118, 120, 122, 124, 126, 128].filterMap (fun i => lw_tbl[i]?) := by decide +kernel
  have h : (u_ws RX0 TX0 11).all tbw = true := by decide +kernel
  intro w hw
  have h1 := List.all_eq_true.mp h w hw
  rw [e] at hw
  obtain ⟨i, -, hi⟩ := List.mem_filterMap.mp hw
  exact tin i hi h1
theorem inT1 : ∀ w ∈ u_ws RX1 TX1 9, w ∈ tbl := by
  have e : u_ws RX1 TX1 9 = [145, 147, 149, 151, 153, 155, 157, 159, 161].filterMap (fun i => lw_tbl[i]?) := by decide +kernel
  have h : (u_ws RX1 TX1 9).all tbw = true := by decide +kernel
  intro w hw
  have h1 := List.all_eq_true.mp h w hw
  rw [e] at hw
  obtain ⟨i, -, hi⟩ := List.mem_filterMap.mp hw
  exact tin i hi h1
theorem inT2 : ∀ w ∈ u_ws RX2 TX2 2, w ∈ tbl := by
  have e : u_ws RX2 TX2 2 = [166, 168].filterMap (fun i => lw_tbl[i]?) := by decide +kernel
  have h : (u_ws RX2 TX2 2).all tbw = true := by decide +kernel
  intro w hw
  have h1 := List.all_eq_true.mp h w hw
  rw [e] at hw
  obtain ⟨i, -, hi⟩ := List.mem_filterMap.mp hw
  exact tin i hi h1
theorem inT3 : ∀ w ∈ u_ws RX3 TX3 6, w ∈ tbl := by
  have e : u_ws RX3 TX3 6 = [653, 655, 657, 659, 661, 663].filterMap (fun i => lw_tbl[i]?) := by decide +kernel
  have h : (u_ws RX3 TX3 6).all tbw = true := by decide +kernel
  intro w hw
  have h1 := List.all_eq_true.mp h w hw
  rw [e] at hw
  obtain ⟨i, -, hi⟩ := List.mem_filterMap.mp hw
  exact tin i hi h1
theorem inT4 : ∀ w ∈ u_ws RX4 TX4 4, w ∈ tbl := by
  have e : u_ws RX4 TX4 4 = [588, 590, 592, 594].filterMap (fun i => lw_tbl[i]?) := by decide +kernel
  have h : (u_ws RX4 TX4 4).all tbw = true := by decide +kernel
  intro w hw
  have h1 := List.all_eq_true.mp h w hw
  rw [e] at hw
  obtain ⟨i, -, hi⟩ := List.mem_filterMap.mp hw
  exact tin i hi h1
section GF
variable {x : CT} {l : Launch} {R : Room} {g : GT} {nL : Nat} {cc : ByteArray} {k n : Nat} {ws : va_W} {pc : Nat} {lv : List (Nat × Value)} {st : List Value}
theorem q38 : Cond.fieldLink RX0 36 RX0 "steps" "I" ∈ tbl := tin 83 (by decide +kernel) rfl
theorem gf_X0_36 (hx : FX x l R g nL cc RX0) {a : Nat} {fs : List Value} {v : Value} (i : Nat) (he : ws[i]? = some (a, .inr (0, fs))) (hv : fs[0]? = some v) (hd : decode cc pc = .ok (.getfield 36, 3)) (kk : V x k n ws (pc + 3) lv (v :: st)) : V x k n ws pc lv (.ref a :: st) := V_get hx (T := TX0) (N := 11) (ci := 0) rfl inT0 0 (by decide) q38 rfl i he hv hd kk
theorem pf_X0_36 (hx : FX x l R g nL cc RX0) {a : Nat} {fs : List Value} {v : Int32} (i : Nat) (he : ws[i]? = some (a, .inr (0, fs))) (hl : 0 < fs.length) (ws' : va_W) (hw : ws.set i (a, .inr (0, fs.set 0 (.int v))) = ws') (hd : decode cc pc = .ok (.putfield 36, 3)) (kk : V x k n ws' (pc + 3) lv st) : V x k n ws pc lv (.int v :: .ref a :: st) := V_put hx (T := TX0) (N := 11) (ci := 0) rfl inT0 tyX0 tyX0_ok nmX0 0 (by decide) q38 rfl rfl (ty := .int) (by decide +kernel) rfl rfl i he hl ws' hw hd kk
theorem q39 : Cond.fieldLinkNest RX2 85 RX0 "steps" "I" RX2 ∈ tbl := tin 84 (by decide +kernel) rfl
theorem gf_X2_85 (hx : FX x l R g nL cc RX2) {a : Nat} {fs : List Value} {v : Value} (i : Nat) (he : ws[i]? = some (a, .inr (0, fs))) (hv : fs[0]? = some v) (hd : decode cc pc = .ok (.getfield 85, 3)) (kk : V x k n ws (pc + 3) lv (v :: st)) : V x k n ws pc lv (.ref a :: st) := V_getN hx (T := TX0) (N := 11) (ci := 0) rfl inT0 0 (by decide) q39 rfl i he hv hd kk
theorem pf_X2_85 (hx : FX x l R g nL cc RX2) {a : Nat} {fs : List Value} {v : Int32} (i : Nat) (he : ws[i]? = some (a, .inr (0, fs))) (hl : 0 < fs.length) (ws' : va_W) (hw : ws.set i (a, .inr (0, fs.set 0 (.int v))) = ws') (hd : decode cc pc = .ok (.putfield 85, 3)) (kk : V x k n ws' (pc + 3) lv st) : V x k n ws pc lv (.int v :: .ref a :: st) := V_putN hx (T := TX0) (N := 11) (ci := 0) rfl inT0 tyX0 tyX0_ok nmX0 0 (by decide) q39 rfl rfl (ty := .int) (by decide +kernel) rfl rfl i he hl ws' hw hd kk
theorem q40 : Cond.fieldLinkNest RX1 62 RX0 "steps" "I" RX2 ∈ tbl := tin 85 (by decide +kernel) rfl
theorem gf_X1_62 (hx : FX x l R g nL cc RX1) {a : Nat} {fs : List Value} {v : Value} (i : Nat) (he : ws[i]? = some (a, .inr (0, fs))) (hv : fs[0]? = some v) (hd : decode cc pc = .ok (.getfield 62, 3)) (kk : V x k n ws (pc + 3) lv (v :: st)) : V x k n ws pc lv (.ref a :: st) := V_getN hx (T := TX0) (N := 11) (ci := 0) rfl inT0 0 (by decide) q40 rfl i he hv hd kk
theorem pf_X1_62 (hx : FX x l R g nL cc RX1) {a : Nat} {fs : List Value} {v : Int32} (i : Nat) (he : ws[i]? = some (a, .inr (0, fs))) (hl : 0 < fs.length) (ws' : va_W) (hw : ws.set i (a, .inr (0, fs.set 0 (.int v))) = ws') (hd : decode cc pc = .ok (.putfield 62, 3)) (kk : V x k n ws' (pc + 3) lv st) : V x k n ws pc lv (.int v :: .ref a :: st) := V_putN hx (T := TX0) (N := 11) (ci := 0) rfl inT0 tyX0 tyX0_ok nmX0 0 (by decide) q40 rfl rfl (ty := .int) (by decide +kernel) rfl rfl i he hl ws' hw hd kk
theorem q41 : Cond.fieldLink RX0 9 RX0 "kinds" "[I" ∈ tbl := tin 86 (by decide +kernel) rfl
theorem gf_X0_9 (hx : FX x l R g nL cc RX0) {a : Nat} {fs : List Value} {v : Value} (i : Nat) (he : ws[i]? = some (a, .inr (0, fs))) (hv : fs[1]? = some v) (hd : decode cc pc = .ok (.getfield 9, 3)) (kk : V x k n ws (pc + 3) lv (v :: st)) : V x k n ws pc lv (.ref a :: st) := V_get hx (T := TX0) (N := 11) (ci := 0) rfl inT0 1 (by decide) q41 rfl i he hv hd kk
theorem q42 : Cond.fieldLinkNest RX1 88 RX0 "kinds" "[I" RX2 ∈ tbl := tin 87 (by decide +kernel) rfl
theorem gf_X1_88 (hx : FX x l R g nL cc RX1) {a : Nat} {fs : List Value} {v : Value} (i : Nat) (he : ws[i]? = some (a, .inr (0, fs))) (hv : fs[1]? = some v) (hd : decode cc pc = .ok (.getfield 88, 3)) (kk : V x k n ws (pc + 3) lv (v :: st)) : V x k n ws pc lv (.ref a :: st) := V_getN hx (T := TX0) (N := 11) (ci := 0) rfl inT0 1 (by decide) q42 rfl i he hv hd kk
theorem q43 : Cond.fieldLink RX0 15 RX0 "firsts" "[I" ∈ tbl := tin 88 (by decide +kernel) rfl
theorem gf_X0_15 (hx : FX x l R g nL cc RX0) {a : Nat} {fs : List Value} {v : Value} (i : Nat) (he : ws[i]? = some (a, .inr (0, fs))) (hv : fs[2]? = some v) (hd : decode cc pc = .ok (.getfield 15, 3)) (kk : V x k n ws (pc + 3) lv (v :: st)) : V x k n ws pc lv (.ref a :: st) := V_get hx (T := TX0) (N := 11) (ci := 0) rfl inT0 2 (by decide) q43 rfl i he hv hd kk
theorem q44 : Cond.fieldLinkNest RX1 82 RX0 "firsts" "[I" RX2 ∈ tbl := tin 89 (by decide +kernel) rfl
theorem gf_X1_82 (hx : FX x l R g nL cc RX1) {a : Nat} {fs : List Value} {v : Value} (i : Nat) (he : ws[i]? = some (a, .inr (0, fs))) (hv : fs[2]? = some v) (hd : decode cc pc = .ok (.getfield 82, 3)) (kk : V x k n ws (pc + 3) lv (v :: st)) : V x k n ws pc lv (.ref a :: st) := V_getN hx (T := TX0) (N := 11) (ci := 0) rfl inT0 2 (by decide) q44 rfl i he hv hd kk
theorem q45 : Cond.fieldLink RX0 18 RX0 "seconds" "[I" ∈ tbl := tin 90 (by decide +kernel) rfl
theorem gf_X0_18 (hx : FX x l R g nL cc RX0) {a : Nat} {fs : List Value} {v : Value} (i : Nat) (he : ws[i]? = some (a, .inr (0, fs))) (hv : fs[3]? = some v) (hd : decode cc pc = .ok (.getfield 18, 3)) (kk : V x k n ws (pc + 3) lv (v :: st)) : V x k n ws pc lv (.ref a :: st) := V_get hx (T := TX0) (N := 11) (ci := 0) rfl inT0 3 (by decide) q45 rfl i he hv hd kk
theorem q46 : Cond.fieldLinkNest RX1 102 RX0 "seconds" "[I" RX2 ∈ tbl := tin 91 (by decide +kernel) rfl
theorem gf_X1_102 (hx : FX x l R g nL cc RX1) {a : Nat} {fs : List Value} {v : Value} (i : Nat) (he : ws[i]? = some (a, .inr (0, fs))) (hv : fs[3]? = some v) (hd : decode cc pc = .ok (.getfield 102, 3)) (kk : V x k n ws (pc + 3) lv (v :: st)) : V x k n ws pc lv (.ref a :: st) := V_getN hx (T := TX0) (N := 11) (ci := 0) rfl inT0 3 (by decide) q46 rfl i he hv hd kk
theorem q47 : Cond.fieldLink RX0 21 RX0 "numbers" "[I" ∈ tbl := tin 92 (by decide +kernel) rfl
theorem gf_X0_21 (hx : FX x l R g nL cc RX0) {a : Nat} {fs : List Value} {v : Value} (i : Nat) (he : ws[i]? = some (a, .inr (0, fs))) (hv : fs[4]? = some v) (hd : decode cc pc = .ok (.getfield 21, 3)) (kk : V x k n ws (pc + 3) lv (v :: st)) : V x k n ws pc lv (.ref a :: st) := V_get hx (T := TX0) (N := 11) (ci := 0) rfl inT0 4 (by decide) q47 rfl i he hv hd kk
theorem q48 : Cond.fieldLinkNest RX1 85 RX0 "numbers" "[I" RX2 ∈ tbl := tin 93 (by decide +kernel) rfl
theorem gf_X1_85 (hx : FX x l R g nL cc RX1) {a : Nat} {fs : List Value} {v : Value} (i : Nat) (he : ws[i]? = some (a, .inr (0, fs))) (hv : fs[4]? = some v) (hd : decode cc pc = .ok (.getfield 85, 3)) (kk : V x k n ws (pc + 3) lv (v :: st)) : V x k n ws pc lv (.ref a :: st) := V_getN hx (T := TX0) (N := 11) (ci := 0) rfl inT0 4 (by decide) q48 rfl i he hv hd kk
theorem q49 : Cond.fieldLink RX0 43 RX0 "place" "I" ∈ tbl := tin 94 (by decide +kernel) rfl
theorem gf_X0_43 (hx : FX x l R g nL cc RX0) {a : Nat} {fs : List Value} {v : Value} (i : Nat) (he : ws[i]? = some (a, .inr (0, fs))) (hv : fs[5]? = some v) (hd : decode cc pc = .ok (.getfield 43, 3)) (kk : V x k n ws (pc + 3) lv (v :: st)) : V x k n ws pc lv (.ref a :: st) := V_get hx (T := TX0) (N := 11) (ci := 0) rfl inT0 5 (by decide) q49 rfl i he hv hd kk
theorem pf_X0_43 (hx : FX x l R g nL cc RX0) {a : Nat} {fs : List Value} {v : Int32} (i : Nat) (he : ws[i]? = some (a, .inr (0, fs))) (hl : 5 < fs.length) (ws' : va_W) (hw : ws.set i (a, .inr (0, fs.set 5 (.int v))) = ws') (hd : decode cc pc = .ok (.putfield 43, 3)) (kk : V x k n ws' (pc + 3) lv st) : V x k n ws pc lv (.int v :: .ref a :: st) := V_put hx (T := TX0) (N := 11) (ci := 0) rfl inT0 tyX0 tyX0_ok nmX0 5 (by decide) q49 rfl rfl (ty := .int) (by decide +kernel) rfl rfl i he hl ws' hw hd kk
theorem q50 : Cond.fieldLinkNest RX2 82 RX0 "place" "I" RX2 ∈ tbl := tin 95 (by decide +kernel) rfl
theorem gf_X2_82 (hx : FX x l R g nL cc RX2) {a : Nat} {fs : List Value} {v : Value} (i : Nat) (he : ws[i]? = some (a, .inr (0, fs))) (hv : fs[5]? = some v) (hd : decode cc pc = .ok (.getfield 82, 3)) (kk : V x k n ws (pc + 3) lv (v :: st)) : V x k n ws pc lv (.ref a :: st) := V_getN hx (T := TX0) (N := 11) (ci := 0) rfl inT0 5 (by decide) q50 rfl i he hv hd kk
theorem pf_X2_82 (hx : FX x l R g nL cc RX2) {a : Nat} {fs : List Value} {v : Int32} (i : Nat) (he : ws[i]? = some (a, .inr (0, fs))) (hl : 5 < fs.length) (ws' : va_W) (hw : ws.set i (a, .inr (0, fs.set 5 (.int v))) = ws') (hd : decode cc pc = .ok (.putfield 82, 3)) (kk : V x k n ws' (pc + 3) lv st) : V x k n ws pc lv (.int v :: .ref a :: st) := V_putN hx (T := TX0) (N := 11) (ci := 0) rfl inT0 tyX0 tyX0_ok nmX0 5 (by decide) q50 rfl rfl (ty := .int) (by decide +kernel) rfl rfl i he hl ws' hw hd kk
theorem q51 : Cond.fieldLinkNest RX1 59 RX0 "place" "I" RX2 ∈ tbl := tin 96 (by decide +kernel) rfl
theorem gf_X1_59 (hx : FX x l R g nL cc RX1) {a : Nat} {fs : List Value} {v : Value} (i : Nat) (he : ws[i]? = some (a, .inr (0, fs))) (hv : fs[5]? = some v) (hd : decode cc pc = .ok (.getfield 59, 3)) (kk : V x k n ws (pc + 3) lv (v :: st)) : V x k n ws pc lv (.ref a :: st) := V_getN hx (T := TX0) (N := 11) (ci := 0) rfl inT0 5 (by decide) q51 rfl i he hv hd kk
theorem pf_X1_59 (hx : FX x l R g nL cc RX1) {a : Nat} {fs : List Value} {v : Int32} (i : Nat) (he : ws[i]? = some (a, .inr (0, fs))) (hl : 5 < fs.length) (ws' : va_W) (hw : ws.set i (a, .inr (0, fs.set 5 (.int v))) = ws') (hd : decode cc pc = .ok (.putfield 59, 3)) (kk : V x k n ws' (pc + 3) lv st) : V x k n ws pc lv (.int v :: .ref a :: st) := V_putN hx (T := TX0) (N := 11) (ci := 0) rfl inT0 tyX0 tyX0_ok nmX0 5 (by decide) q51 rfl rfl (ty := .int) (by decide +kernel) rfl rfl i he hl ws' hw hd kk
theorem q52 : Cond.fieldLink RX0 46 RX0 "done" "Z" ∈ tbl := tin 97 (by decide +kernel) rfl
theorem gf_X0_46 (hx : FX x l R g nL cc RX0) {a : Nat} {fs : List Value} {v : Value} (i : Nat) (he : ws[i]? = some (a, .inr (0, fs))) (hv : fs[6]? = some v) (hd : decode cc pc = .ok (.getfield 46, 3)) (kk : V x k n ws (pc + 3) lv (v :: st)) : V x k n ws pc lv (.ref a :: st) := V_get hx (T := TX0) (N := 11) (ci := 0) rfl inT0 6 (by decide) q52 rfl i he hv hd kk
theorem pf_X0_46 (hx : FX x l R g nL cc RX0) {a : Nat} {fs : List Value} {v : Int32} (hn : narrow .boolean (.int v) = .int v) (hfit : fits .boolean (.int v) = true) (i : Nat) (he : ws[i]? = some (a, .inr (0, fs))) (hl : 6 < fs.length) (ws' : va_W) (hw : ws.set i (a, .inr (0, fs.set 6 (.int v))) = ws') (hd : decode cc pc = .ok (.putfield 46, 3)) (kk : V x k n ws' (pc + 3) lv st) : V x k n ws pc lv (.int v :: .ref a :: st) := V_put hx (T := TX0) (N := 11) (ci := 0) rfl inT0 tyX0 tyX0_ok nmX0 6 (by decide) q52 rfl rfl (ty := .boolean) (by decide +kernel) hn hfit i he hl ws' hw hd kk
theorem q53 : Cond.fieldLinkNest RX2 76 RX0 "done" "Z" RX2 ∈ tbl := tin 98 (by decide +kernel) rfl
theorem gf_X2_76 (hx : FX x l R g nL cc RX2) {a : Nat} {fs : List Value} {v : Value} (i : Nat) (he : ws[i]? = some (a, .inr (0, fs))) (hv : fs[6]? = some v) (hd : decode cc pc = .ok (.getfield 76, 3)) (kk : V x k n ws (pc + 3) lv (v :: st)) : V x k n ws pc lv (.ref a :: st) := V_getN hx (T := TX0) (N := 11) (ci := 0) rfl inT0 6 (by decide) q53 rfl i he hv hd kk
theorem pf_X2_76 (hx : FX x l R g nL cc RX2) {a : Nat} {fs : List Value} {v : Int32} (hn : narrow .boolean (.int v) = .int v) (hfit : fits .boolean (.int v) = true) (i : Nat) (he : ws[i]? = some (a, .inr (0, fs))) (hl : 6 < fs.length) (ws' : va_W) (hw : ws.set i (a, .inr (0, fs.set 6 (.int v))) = ws') (hd : decode cc pc = .ok (.putfield 76, 3)) (kk : V x k n ws' (pc + 3) lv st) : V x k n ws pc lv (.int v :: .ref a :: st) := V_putN hx (T := TX0) (N := 11) (ci := 0) rfl inT0 tyX0 tyX0_ok nmX0 6 (by decide) q53 rfl rfl (ty := .boolean) (by decide +kernel) hn hfit i he hl ws' hw hd kk
theorem q54 : Cond.fieldLinkNest RX1 128 RX0 "done" "Z" RX2 ∈ tbl := tin 99 (by decide +kernel) rfl
theorem gf_X1_128 (hx : FX x l R g nL cc RX1) {a : Nat} {fs : List Value} {v : Value} (i : Nat) (he : ws[i]? = some (a, .inr (0, fs))) (hv : fs[6]? = some v) (hd : decode cc pc = .ok (.getfield 128, 3)) (kk : V x k n ws (pc + 3) lv (v :: st)) : V x k n ws pc lv (.ref a :: st) := V_getN hx (T := TX0) (N := 11) (ci := 0) rfl inT0 6 (by decide) q54 rfl i he hv hd kk
theorem pf_X1_128 (hx : FX x l R g nL cc RX1) {a : Nat} {fs : List Value} {v : Int32} (hn : narrow .boolean (.int v) = .int v) (hfit : fits .boolean (.int v) = true) (i : Nat) (he : ws[i]? = some (a, .inr (0, fs))) (hl : 6 < fs.length) (ws' : va_W) (hw : ws.set i (a, .inr (0, fs.set 6 (.int v))) = ws') (hd : decode cc pc = .ok (.putfield 128, 3)) (kk : V x k n ws' (pc + 3) lv st) : V x k n ws pc lv (.int v :: .ref a :: st) := V_putN hx (T := TX0) (N := 11) (ci := 0) rfl inT0 tyX0 tyX0_ok nmX0 6 (by decide) q54 rfl rfl (ty := .boolean) (by decide +kernel) hn hfit i he hl ws' hw hd kk
theorem q55 : Cond.fieldLink RX0 40 RX0 "lost" "I" ∈ tbl := tin 100 (by decide +kernel) rfl
theorem gf_X0_40 (hx : FX x l R g nL cc RX0) {a : Nat} {fs : List Value} {v : Value} (i : Nat) (he : ws[i]? = some (a, .inr (0, fs))) (hv : fs[7]? = some v) (hd : decode cc pc = .ok (.getfield 40, 3)) (kk : V x k n ws (pc + 3) lv (v :: st)) : V x k n ws pc lv (.ref a :: st) := V_get hx (T := TX0) (N := 11) (ci := 0) rfl inT0 7 (by decide) q55 rfl i he hv hd kk
theorem pf_X0_40 (hx : FX x l R g nL cc RX0) {a : Nat} {fs : List Value} {v : Int32} (i : Nat) (he : ws[i]? = some (a, .inr (0, fs))) (hl : 7 < fs.length) (ws' : va_W) (hw : ws.set i (a, .inr (0, fs.set 7 (.int v))) = ws') (hd : decode cc pc = .ok (.putfield 40, 3)) (kk : V x k n ws' (pc + 3) lv st) : V x k n ws pc lv (.int v :: .ref a :: st) := V_put hx (T := TX0) (N := 11) (ci := 0) rfl inT0 tyX0 tyX0_ok nmX0 7 (by decide) q55 rfl rfl (ty := .int) (by decide +kernel) rfl rfl i he hl ws' hw hd kk
theorem q56 : Cond.fieldLinkNest RX1 72 RX0 "lost" "I" RX2 ∈ tbl := tin 101 (by decide +kernel) rfl
theorem gf_X1_72 (hx : FX x l R g nL cc RX1) {a : Nat} {fs : List Value} {v : Value} (i : Nat) (he : ws[i]? = some (a, .inr (0, fs))) (hv : fs[7]? = some v) (hd : decode cc pc = .ok (.getfield 72, 3)) (kk : V x k n ws (pc + 3) lv (v :: st)) : V x k n ws pc lv (.ref a :: st) := V_getN hx (T := TX0) (N := 11) (ci := 0) rfl inT0 7 (by decide) q56 rfl i he hv hd kk
theorem pf_X1_72 (hx : FX x l R g nL cc RX1) {a : Nat} {fs : List Value} {v : Int32} (i : Nat) (he : ws[i]? = some (a, .inr (0, fs))) (hl : 7 < fs.length) (ws' : va_W) (hw : ws.set i (a, .inr (0, fs.set 7 (.int v))) = ws') (hd : decode cc pc = .ok (.putfield 72, 3)) (kk : V x k n ws' (pc + 3) lv st) : V x k n ws pc lv (.int v :: .ref a :: st) := V_putN hx (T := TX0) (N := 11) (ci := 0) rfl inT0 tyX0 tyX0_ok nmX0 7 (by decide) q56 rfl rfl (ty := .int) (by decide +kernel) rfl rfl i he hl ws' hw hd kk
theorem q57 : Cond.fieldLink RX0 24 RX0 "remembered" "[I" ∈ tbl := tin 102 (by decide +kernel) rfl
theorem gf_X0_24 (hx : FX x l R g nL cc RX0) {a : Nat} {fs : List Value} {v : Value} (i : Nat) (he : ws[i]? = some (a, .inr (0, fs))) (hv : fs[8]? = some v) (hd : decode cc pc = .ok (.getfield 24, 3)) (kk : V x k n ws (pc + 3) lv (v :: st)) : V x k n ws pc lv (.ref a :: st) := V_get hx (T := TX0) (N := 11) (ci := 0) rfl inT0 8 (by decide) q57 rfl i he hv hd kk
theorem q58 : Cond.fieldLinkNest RX1 116 RX0 "remembered" "[I" RX2 ∈ tbl := tin 103 (by decide +kernel) rfl
theorem gf_X1_116 (hx : FX x l R g nL cc RX1) {a : Nat} {fs : List Value} {v : Value} (i : Nat) (he : ws[i]? = some (a, .inr (0, fs))) (hv : fs[8]? = some v) (hd : decode cc pc = .ok (.getfield 116, 3)) (kk : V x k n ws (pc + 3) lv (v :: st)) : V x k n ws pc lv (.ref a :: st) := V_getN hx (T := TX0) (N := 11) (ci := 0) rfl inT0 8 (by decide) q58 rfl i he hv hd kk
theorem q59 : Cond.fieldLink RX0 27 RX0 "rememberedSeals" "[I" ∈ tbl := tin 104 (by decide +kernel) rfl
theorem gf_X0_27 (hx : FX x l R g nL cc RX0) {a : Nat} {fs : List Value} {v : Value} (i : Nat) (he : ws[i]? = some (a, .inr (0, fs))) (hv : fs[9]? = some v) (hd : decode cc pc = .ok (.getfield 27, 3)) (kk : V x k n ws (pc + 3) lv (v :: st)) : V x k n ws pc lv (.ref a :: st) := V_get hx (T := TX0) (N := 11) (ci := 0) rfl inT0 9 (by decide) q59 rfl i he hv hd kk
theorem q60 : Cond.fieldLinkNest RX1 119 RX0 "rememberedSeals" "[I" RX2 ∈ tbl := tin 105 (by decide +kernel) rfl
theorem gf_X1_119 (hx : FX x l R g nL cc RX1) {a : Nat} {fs : List Value} {v : Value} (i : Nat) (he : ws[i]? = some (a, .inr (0, fs))) (hv : fs[9]? = some v) (hd : decode cc pc = .ok (.getfield 119, 3)) (kk : V x k n ws (pc + 3) lv (v :: st)) : V x k n ws pc lv (.ref a :: st) := V_getN hx (T := TX0) (N := 11) (ci := 0) rfl inT0 9 (by decide) q60 rfl i he hv hd kk
theorem q61 : Cond.fieldLink RX0 30 RX0 "own" "[I" ∈ tbl := tin 106 (by decide +kernel) rfl
theorem gf_X0_30 (hx : FX x l R g nL cc RX0) {a : Nat} {fs : List Value} {v : Value} (i : Nat) (he : ws[i]? = some (a, .inr (0, fs))) (hv : fs[10]? = some v) (hd : decode cc pc = .ok (.getfield 30, 3)) (kk : V x k n ws (pc + 3) lv (v :: st)) : V x k n ws pc lv (.ref a :: st) := V_get hx (T := TX0) (N := 11) (ci := 0) rfl inT0 10 (by decide) q61 rfl i he hv hd kk
theorem q62 : Cond.fieldLinkNest RX1 95 RX0 "own" "[I" RX2 ∈ tbl := tin 107 (by decide +kernel) rfl
theorem gf_X1_95 (hx : FX x l R g nL cc RX1) {a : Nat} {fs : List Value} {v : Value} (i : Nat) (he : ws[i]? = some (a, .inr (0, fs))) (hv : fs[10]? = some v) (hd : decode cc pc = .ok (.getfield 95, 3)) (kk : V x k n ws (pc + 3) lv (v :: st)) : V x k n ws pc lv (.ref a :: st) := V_getN hx (T := TX0) (N := 11) (ci := 0) rfl inT0 10 (by decide) q62 rfl i he hv hd kk
theorem q87 : Cond.fieldLink RX1 9 RX1 "drawers" "I" ∈ tbl := tin 132 (by decide +kernel) rfl
theorem gf_X1_9 (hx : FX x l R g nL cc RX1) {a : Nat} {fs : List Value} {v : Value} (i : Nat) (he : ws[i]? = some (a, .inr (1, fs))) (hv : fs[0]? = some v) (hd : decode cc pc = .ok (.getfield 9, 3)) (kk : V x k n ws (pc + 3) lv (v :: st)) : V x k n ws pc lv (.ref a :: st) := V_get hx (T := TX1) (N := 9) (ci := 1) rfl inT1 0 (by decide) q87 rfl i he hv hd kk
theorem pf_X1_9 (hx : FX x l R g nL cc RX1) {a : Nat} {fs : List Value} {v : Int32} (i : Nat) (he : ws[i]? = some (a, .inr (1, fs))) (hl : 0 < fs.length) (ws' : va_W) (hw : ws.set i (a, .inr (1, fs.set 0 (.int v))) = ws') (hd : decode cc pc = .ok (.putfield 9, 3)) (kk : V x k n ws' (pc + 3) lv st) : V x k n ws pc lv (.int v :: .ref a :: st) := V_put hx (T := TX1) (N := 9) (ci := 1) rfl inT1 tyX1 tyX1_ok nmX1 0 (by decide) q87 rfl rfl (ty := .int) (by decide +kernel) rfl rfl i he hl ws' hw hd kk
theorem q88 : Cond.fieldLinkNest RX2 26 RX1 "drawers" "I" RX2 ∈ tbl := tin 133 (by decide +kernel) rfl
theorem gf_X2_26 (hx : FX x l R g nL cc RX2) {a : Nat} {fs : List Value} {v : Value} (i : Nat) (he : ws[i]? = some (a, .inr (1, fs))) (hv : fs[0]? = some v) (hd : decode cc pc = .ok (.getfield 26, 3)) (kk : V x k n ws (pc + 3) lv (v :: st)) : V x k n ws pc lv (.ref a :: st) := V_getN hx (T := TX1) (N := 9) (ci := 1) rfl inT1 0 (by decide) q88 rfl i he hv hd kk
theorem pf_X2_26 (hx : FX x l R g nL cc RX2) {a : Nat} {fs : List Value} {v : Int32} (i : Nat) (he : ws[i]? = some (a, .inr (1, fs))) (hl : 0 < fs.length) (ws' : va_W) (hw : ws.set i (a, .inr (1, fs.set 0 (.int v))) = ws') (hd : decode cc pc = .ok (.putfield 26, 3)) (kk : V x k n ws' (pc + 3) lv st) : V x k n ws pc lv (.int v :: .ref a :: st) := V_putN hx (T := TX1) (N := 9) (ci := 1) rfl inT1 tyX1 tyX1_ok nmX1 0 (by decide) q88 rfl rfl (ty := .int) (by decide +kernel) rfl rfl i he hl ws' hw hd kk
theorem q89 : Cond.fieldLink RX1 15 RX1 "amounts" "[I" ∈ tbl := tin 134 (by decide +kernel) rfl
theorem gf_X1_15 (hx : FX x l R g nL cc RX1) {a : Nat} {fs : List Value} {v : Value} (i : Nat) (he : ws[i]? = some (a, .inr (1, fs))) (hv : fs[1]? = some v) (hd : decode cc pc = .ok (.getfield 15, 3)) (kk : V x k n ws (pc + 3) lv (v :: st)) : V x k n ws pc lv (.ref a :: st) := V_get hx (T := TX1) (N := 9) (ci := 1) rfl inT1 1 (by decide) q89 rfl i he hv hd kk
theorem q90 : Cond.fieldLinkNest RX2 39 RX1 "amounts" "[I" RX2 ∈ tbl := tin 135 (by decide +kernel) rfl
theorem gf_X2_39 (hx : FX x l R g nL cc RX2) {a : Nat} {fs : List Value} {v : Value} (i : Nat) (he : ws[i]? = some (a, .inr (1, fs))) (hv : fs[1]? = some v) (hd : decode cc pc = .ok (.getfield 39, 3)) (kk : V x k n ws (pc + 3) lv (v :: st)) : V x k n ws pc lv (.ref a :: st) := V_getN hx (T := TX1) (N := 9) (ci := 1) rfl inT1 1 (by decide) q90 rfl i he hv hd kk
theorem q91 : Cond.fieldLink RX1 19 RX1 "seals" "[I" ∈ tbl := tin 136 (by decide +kernel) rfl
theorem gf_X1_19 (hx : FX x l R g nL cc RX1) {a : Nat} {fs : List Value} {v : Value} (i : Nat) (he : ws[i]? = some (a, .inr (1, fs))) (hv : fs[2]? = some v) (hd : decode cc pc = .ok (.getfield 19, 3)) (kk : V x k n ws (pc + 3) lv (v :: st)) : V x k n ws pc lv (.ref a :: st) := V_get hx (T := TX1) (N := 9) (ci := 1) rfl inT1 2 (by decide) q91 rfl i he hv hd kk
theorem q92 : Cond.fieldLink RX1 38 RX1 "clerkCount" "I" ∈ tbl := tin 137 (by decide +kernel) rfl
theorem gf_X1_38 (hx : FX x l R g nL cc RX1) {a : Nat} {fs : List Value} {v : Value} (i : Nat) (he : ws[i]? = some (a, .inr (1, fs))) (hv : fs[3]? = some v) (hd : decode cc pc = .ok (.getfield 38, 3)) (kk : V x k n ws (pc + 3) lv (v :: st)) : V x k n ws pc lv (.ref a :: st) := V_get hx (T := TX1) (N := 9) (ci := 1) rfl inT1 3 (by decide) q92 rfl i he hv hd kk
theorem pf_X1_38 (hx : FX x l R g nL cc RX1) {a : Nat} {fs : List Value} {v : Int32} (i : Nat) (he : ws[i]? = some (a, .inr (1, fs))) (hl : 3 < fs.length) (ws' : va_W) (hw : ws.set i (a, .inr (1, fs.set 3 (.int v))) = ws') (hd : decode cc pc = .ok (.putfield 38, 3)) (kk : V x k n ws' (pc + 3) lv st) : V x k n ws pc lv (.int v :: .ref a :: st) := V_put hx (T := TX1) (N := 9) (ci := 1) rfl inT1 tyX1 tyX1_ok nmX1 3 (by decide) q92 rfl rfl (ty := .int) (by decide +kernel) rfl rfl i he hl ws' hw hd kk
theorem q93 : Cond.fieldLinkNest RX2 47 RX1 "clerkCount" "I" RX2 ∈ tbl := tin 138 (by decide +kernel) rfl
theorem gf_X2_47 (hx : FX x l R g nL cc RX2) {a : Nat} {fs : List Value} {v : Value} (i : Nat) (he : ws[i]? = some (a, .inr (1, fs))) (hv : fs[3]? = some v) (hd : decode cc pc = .ok (.getfield 47, 3)) (kk : V x k n ws (pc + 3) lv (v :: st)) : V x k n ws pc lv (.ref a :: st) := V_getN hx (T := TX1) (N := 9) (ci := 1) rfl inT1 3 (by decide) q93 rfl i he hv hd kk
theorem pf_X2_47 (hx : FX x l R g nL cc RX2) {a : Nat} {fs : List Value} {v : Int32} (i : Nat) (he : ws[i]? = some (a, .inr (1, fs))) (hl : 3 < fs.length) (ws' : va_W) (hw : ws.set i (a, .inr (1, fs.set 3 (.int v))) = ws') (hd : decode cc pc = .ok (.putfield 47, 3)) (kk : V x k n ws' (pc + 3) lv st) : V x k n ws pc lv (.int v :: .ref a :: st) := V_putN hx (T := TX1) (N := 9) (ci := 1) rfl inT1 tyX1 tyX1_ok nmX1 3 (by decide) q93 rfl rfl (ty := .int) (by decide +kernel) rfl rfl i he hl ws' hw hd kk
theorem q94 : Cond.fieldLink RX1 24 RX1 "clerks" "[LTillOptimists$Clerk;" ∈ tbl := tin 139 (by decide +kernel) rfl
theorem gf_X1_24 (hx : FX x l R g nL cc RX1) {a : Nat} {fs : List Value} {v : Value} (i : Nat) (he : ws[i]? = some (a, .inr (1, fs))) (hv : fs[4]? = some v) (hd : decode cc pc = .ok (.getfield 24, 3)) (kk : V x k n ws (pc + 3) lv (v :: st)) : V x k n ws pc lv (.ref a :: st) := V_get hx (T := TX1) (N := 9) (ci := 1) rfl inT1 4 (by decide) q94 rfl i he hv hd kk
theorem q95 : Cond.fieldLinkNest RX2 72 RX1 "clerks" "[LTillOptimists$Clerk;" RX2 ∈ tbl := tin 140 (by decide +kernel) rfl
theorem gf_X2_72 (hx : FX x l R g nL cc RX2) {a : Nat} {fs : List Value} {v : Value} (i : Nat) (he : ws[i]? = some (a, .inr (1, fs))) (hv : fs[4]? = some v) (hd : decode cc pc = .ok (.getfield 72, 3)) (kk : V x k n ws (pc + 3) lv (v :: st)) : V x k n ws pc lv (.ref a :: st) := V_getN hx (T := TX1) (N := 9) (ci := 1) rfl inT1 4 (by decide) q95 rfl i he hv hd kk
theorem q96 : Cond.fieldLink RX1 41 RX1 "closings" "I" ∈ tbl := tin 141 (by decide +kernel) rfl
theorem gf_X1_41 (hx : FX x l R g nL cc RX1) {a : Nat} {fs : List Value} {v : Value} (i : Nat) (he : ws[i]? = some (a, .inr (1, fs))) (hv : fs[5]? = some v) (hd : decode cc pc = .ok (.getfield 41, 3)) (kk : V x k n ws (pc + 3) lv (v :: st)) : V x k n ws pc lv (.ref a :: st) := V_get hx (T := TX1) (N := 9) (ci := 1) rfl inT1 5 (by decide) q96 rfl i he hv hd kk
theorem pf_X1_41 (hx : FX x l R g nL cc RX1) {a : Nat} {fs : List Value} {v : Int32} (i : Nat) (he : ws[i]? = some (a, .inr (1, fs))) (hl : 5 < fs.length) (ws' : va_W) (hw : ws.set i (a, .inr (1, fs.set 5 (.int v))) = ws') (hd : decode cc pc = .ok (.putfield 41, 3)) (kk : V x k n ws' (pc + 3) lv st) : V x k n ws pc lv (.int v :: .ref a :: st) := V_put hx (T := TX1) (N := 9) (ci := 1) rfl inT1 tyX1 tyX1_ok nmX1 5 (by decide) q96 rfl rfl (ty := .int) (by decide +kernel) rfl rfl i he hl ws' hw hd kk
theorem q97 : Cond.fieldLink RX1 29 RX1 "closers" "[I" ∈ tbl := tin 142 (by decide +kernel) rfl
theorem gf_X1_29 (hx : FX x l R g nL cc RX1) {a : Nat} {fs : List Value} {v : Value} (i : Nat) (he : ws[i]? = some (a, .inr (1, fs))) (hv : fs[6]? = some v) (hd : decode cc pc = .ok (.getfield 29, 3)) (kk : V x k n ws (pc + 3) lv (v :: st)) : V x k n ws pc lv (.ref a :: st) := V_get hx (T := TX1) (N := 9) (ci := 1) rfl inT1 6 (by decide) q97 rfl i he hv hd kk
theorem q98 : Cond.fieldLink RX1 32 RX1 "writtens" "[I" ∈ tbl := tin 143 (by decide +kernel) rfl
theorem gf_X1_32 (hx : FX x l R g nL cc RX1) {a : Nat} {fs : List Value} {v : Value} (i : Nat) (he : ws[i]? = some (a, .inr (1, fs))) (hv : fs[7]? = some v) (hd : decode cc pc = .ok (.getfield 32, 3)) (kk : V x k n ws (pc + 3) lv (v :: st)) : V x k n ws pc lv (.ref a :: st) := V_get hx (T := TX1) (N := 9) (ci := 1) rfl inT1 7 (by decide) q98 rfl i he hv hd kk
theorem q99 : Cond.fieldLink RX1 35 RX1 "sums" "[I" ∈ tbl := tin 144 (by decide +kernel) rfl
theorem gf_X1_35 (hx : FX x l R g nL cc RX1) {a : Nat} {fs : List Value} {v : Value} (i : Nat) (he : ws[i]? = some (a, .inr (1, fs))) (hv : fs[8]? = some v) (hd : decode cc pc = .ok (.getfield 35, 3)) (kk : V x k n ws (pc + 3) lv (v :: st)) : V x k n ws pc lv (.ref a :: st) := V_get hx (T := TX1) (N := 9) (ci := 1) rfl inT1 8 (by decide) q99 rfl i he hv hd kk
theorem q119 : Cond.fieldLink RX2 10 RX2 "now" "LTillOptimists$Shop;" ∈ tbl := tin 164 (by decide +kernel) rfl
theorem gf_X2_10 (hx : FX x l R g nL cc RX2) {a : Nat} {fs : List Value} {v : Value} (i : Nat) (he : ws[i]? = some (a, .inr (2, fs))) (hv : fs[0]? = some v) (hd : decode cc pc = .ok (.getfield 10, 3)) (kk : V x k n ws (pc + 3) lv (v :: st)) : V x k n ws pc lv (.ref a :: st) := V_get hx (T := TX2) (N := 2) (ci := 2) rfl inT2 0 (by decide) q119 rfl i he hv hd kk
theorem q120 : Cond.fieldLink RX2 16 RX2 "trial" "LTillOptimists$Shop;" ∈ tbl := tin 165 (by decide +kernel) rfl
theorem gf_X2_16 (hx : FX x l R g nL cc RX2) {a : Nat} {fs : List Value} {v : Value} (i : Nat) (he : ws[i]? = some (a, .inr (2, fs))) (hv : fs[1]? = some v) (hd : decode cc pc = .ok (.getfield 16, 3)) (kk : V x k n ws (pc + 3) lv (v :: st)) : V x k n ws pc lv (.ref a :: st) := V_get hx (T := TX2) (N := 2) (ci := 2) rfl inT2 1 (by decide) q120 rfl i he hv hd kk
theorem q535 : Cond.fieldLink RX4 21 RX4 "amounts" "[I" ∈ tbl := tin 580 (by decide +kernel) rfl
theorem gf_X4_21 (hx : FX x l R g nL cc RX4) {a : Nat} {fs : List Value} {v : Value} (i : Nat) (he : ws[i]? = some (a, .inr (4, fs))) (hv : fs[0]? = some v) (hd : decode cc pc = .ok (.getfield 21, 3)) (kk : V x k n ws (pc + 3) lv (v :: st)) : V x k n ws pc lv (.ref a :: st) := V_get hx (T := TX4) (N := 4) (ci := 4) rfl inT4 0 (by decide) q535 rfl i he hv hd kk
theorem pf_X4_21 (hx : FX x l R g nL cc RX4) {a v : Nat} {fs : List Value} (i : Nat) (he : ws[i]? = some (a, .inr (4, fs))) (hl : 0 < fs.length) (ws' : va_W) (hw : ws.set i (a, .inr (4, fs.set 0 (.ref v))) = ws') (hd : decode cc pc = .ok (.putfield 21, 3)) (kk : V x k n ws' (pc + 3) lv st) : V x k n ws pc lv (.ref v :: .ref a :: st) := V_put hx (T := TX4) (N := 4) (ci := 4) rfl inT4 tyX4 tyX4_ok nmX4 0 (by decide) q535 rfl rfl (ty := .array .int) (by decide +kernel) rfl rfl i he hl ws' hw hd kk
theorem q536 : Cond.fieldLink RL 9 RX4 "amounts" "[I" ∈ tbl := tin 581 (by decide +kernel) rfl
theorem gf_L_9 (hx : FX x l R g nL cc RL) {a : Nat} {fs : List Value} {v : Value} (i : Nat) (he : ws[i]? = some (a, .inr (4, fs))) (hv : fs[0]? = some v) (hd : decode cc pc = .ok (.getfield 9, 3)) (kk : V x k n ws (pc + 3) lv (v :: st)) : V x k n ws pc lv (.ref a :: st) := V_get hx (T := TX4) (N := 4) (ci := 4) rfl inT4 0 (by decide) q536 rfl i he hv hd kk
theorem pf_L_9 (hx : FX x l R g nL cc RL) {a v : Nat} {fs : List Value} (i : Nat) (he : ws[i]? = some (a, .inr (4, fs))) (hl : 0 < fs.length) (ws' : va_W) (hw : ws.set i (a, .inr (4, fs.set 0 (.ref v))) = ws') (hd : decode cc pc = .ok (.putfield 9, 3)) (kk : V x k n ws' (pc + 3) lv st) : V x k n ws pc lv (.ref v :: .ref a :: st) := V_put hx (T := TX4) (N := 4) (ci := 4) rfl inT4 tyX4 tyX4_ok nmX4 0 (by decide) q536 rfl rfl (ty := .array .int) (by decide +kernel) rfl rfl i he hl ws' hw hd kk
theorem q537 : Cond.fieldLink RX3 41 RX4 "amounts" "[I" ∈ tbl := tin 582 (by decide +kernel) rfl
theorem gf_X3_41 (hx : FX x l R g nL cc RX3) {a : Nat} {fs : List Value} {v : Value} (i : Nat) (he : ws[i]? = some (a, .inr (4, fs))) (hv : fs[0]? = some v) (hd : decode cc pc = .ok (.getfield 41, 3)) (kk : V x k n ws (pc + 3) lv (v :: st)) : V x k n ws pc lv (.ref a :: st) := V_get hx (T := TX4) (N := 4) (ci := 4) rfl inT4 0 (by decide) q537 rfl i he hv hd kk
theorem pf_X3_41 (hx : FX x l R g nL cc RX3) {a v : Nat} {fs : List Value} (i : Nat) (he : ws[i]? = some (a, .inr (4, fs))) (hl : 0 < fs.length) (ws' : va_W) (hw : ws.set i (a, .inr (4, fs.set 0 (.ref v))) = ws') (hd : decode cc pc = .ok (.putfield 41, 3)) (kk : V x k n ws' (pc + 3) lv st) : V x k n ws pc lv (.ref v :: .ref a :: st) := V_put hx (T := TX4) (N := 4) (ci := 4) rfl inT4 tyX4 tyX4_ok nmX4 0 (by decide) q537 rfl rfl (ty := .array .int) (by decide +kernel) rfl rfl i he hl ws' hw hd kk
theorem q538 : Cond.fieldLink RX4 24 RX4 "seals" "[I" ∈ tbl := tin 583 (by decide +kernel) rfl
theorem gf_X4_24 (hx : FX x l R g nL cc RX4) {a : Nat} {fs : List Value} {v : Value} (i : Nat) (he : ws[i]? = some (a, .inr (4, fs))) (hv : fs[1]? = some v) (hd : decode cc pc = .ok (.getfield 24, 3)) (kk : V x k n ws (pc + 3) lv (v :: st)) : V x k n ws pc lv (.ref a :: st) := V_get hx (T := TX4) (N := 4) (ci := 4) rfl inT4 1 (by decide) q538 rfl i he hv hd kk
theorem pf_X4_24 (hx : FX x l R g nL cc RX4) {a v : Nat} {fs : List Value} (i : Nat) (he : ws[i]? = some (a, .inr (4, fs))) (hl : 1 < fs.length) (ws' : va_W) (hw : ws.set i (a, .inr (4, fs.set 1 (.ref v))) = ws') (hd : decode cc pc = .ok (.putfield 24, 3)) (kk : V x k n ws' (pc + 3) lv st) : V x k n ws pc lv (.ref v :: .ref a :: st) := V_put hx (T := TX4) (N := 4) (ci := 4) rfl inT4 tyX4 tyX4_ok nmX4 1 (by decide) q538 rfl rfl (ty := .array .int) (by decide +kernel) rfl rfl i he hl ws' hw hd kk
theorem q539 : Cond.fieldLink RX3 46 RX4 "seals" "[I" ∈ tbl := tin 584 (by decide +kernel) rfl
theorem gf_X3_46 (hx : FX x l R g nL cc RX3) {a : Nat} {fs : List Value} {v : Value} (i : Nat) (he : ws[i]? = some (a, .inr (4, fs))) (hv : fs[1]? = some v) (hd : decode cc pc = .ok (.getfield 46, 3)) (kk : V x k n ws (pc + 3) lv (v :: st)) : V x k n ws pc lv (.ref a :: st) := V_get hx (T := TX4) (N := 4) (ci := 4) rfl inT4 1 (by decide) q539 rfl i he hv hd kk
theorem pf_X3_46 (hx : FX x l R g nL cc RX3) {a v : Nat} {fs : List Value} (i : Nat) (he : ws[i]? = some (a, .inr (4, fs))) (hl : 1 < fs.length) (ws' : va_W) (hw : ws.set i (a, .inr (4, fs.set 1 (.ref v))) = ws') (hd : decode cc pc = .ok (.putfield 46, 3)) (kk : V x k n ws' (pc + 3) lv st) : V x k n ws pc lv (.ref v :: .ref a :: st) := V_put hx (T := TX4) (N := 4) (ci := 4) rfl inT4 tyX4 tyX4_ok nmX4 1 (by decide) q539 rfl rfl (ty := .array .int) (by decide +kernel) rfl rfl i he hl ws' hw hd kk
theorem q540 : Cond.fieldLink RX4 9 RX4 "clerks" "[LTillOptimistsLaw$Clerk;" ∈ tbl := tin 585 (by decide +kernel) rfl
theorem gf_X4_9 (hx : FX x l R g nL cc RX4) {a : Nat} {fs : List Value} {v : Value} (i : Nat) (he : ws[i]? = some (a, .inr (4, fs))) (hv : fs[2]? = some v) (hd : decode cc pc = .ok (.getfield 9, 3)) (kk : V x k n ws (pc + 3) lv (v :: st)) : V x k n ws pc lv (.ref a :: st) := V_get hx (T := TX4) (N := 4) (ci := 4) rfl inT4 2 (by decide) q540 rfl i he hv hd kk
theorem pf_X4_9 (hx : FX x l R g nL cc RX4) {a v : Nat} {fs : List Value} (i : Nat) (he : ws[i]? = some (a, .inr (4, fs))) (hl : 2 < fs.length) (ws' : va_W) (hw : ws.set i (a, .inr (4, fs.set 2 (.ref v))) = ws') (hd : decode cc pc = .ok (.putfield 9, 3)) (kk : V x k n ws' (pc + 3) lv st) : V x k n ws pc lv (.ref v :: .ref a :: st) := V_put hx (T := TX4) (N := 4) (ci := 4) rfl inT4 tyX4 tyX4_ok nmX4 2 (by decide) q540 rfl rfl (ty := .array (.object RX3)) (by decide +kernel) rfl rfl i he hl ws' hw hd kk
theorem q541 : Cond.fieldLink RL 21 RX4 "clerks" "[LTillOptimistsLaw$Clerk;" ∈ tbl := tin 586 (by decide +kernel) rfl
theorem gf_L_21 (hx : FX x l R g nL cc RL) {a : Nat} {fs : List Value} {v : Value} (i : Nat) (he : ws[i]? = some (a, .inr (4, fs))) (hv : fs[2]? = some v) (hd : decode cc pc = .ok (.getfield 21, 3)) (kk : V x k n ws (pc + 3) lv (v :: st)) : V x k n ws pc lv (.ref a :: st) := V_get hx (T := TX4) (N := 4) (ci := 4) rfl inT4 2 (by decide) q541 rfl i he hv hd kk
theorem pf_L_21 (hx : FX x l R g nL cc RL) {a v : Nat} {fs : List Value} (i : Nat) (he : ws[i]? = some (a, .inr (4, fs))) (hl : 2 < fs.length) (ws' : va_W) (hw : ws.set i (a, .inr (4, fs.set 2 (.ref v))) = ws') (hd : decode cc pc = .ok (.putfield 21, 3)) (kk : V x k n ws' (pc + 3) lv st) : V x k n ws pc lv (.ref v :: .ref a :: st) := V_put hx (T := TX4) (N := 4) (ci := 4) rfl inT4 tyX4 tyX4_ok nmX4 2 (by decide) q541 rfl rfl (ty := .array (.object RX3)) (by decide +kernel) rfl rfl i he hl ws' hw hd kk
theorem q542 : Cond.fieldLink RX4 17 RX4 "closings" "[[I" ∈ tbl := tin 587 (by decide +kernel) rfl
theorem gf_X4_17 (hx : FX x l R g nL cc RX4) {a : Nat} {fs : List Value} {v : Value} (i : Nat) (he : ws[i]? = some (a, .inr (4, fs))) (hv : fs[3]? = some v) (hd : decode cc pc = .ok (.getfield 17, 3)) (kk : V x k n ws (pc + 3) lv (v :: st)) : V x k n ws pc lv (.ref a :: st) := V_get hx (T := TX4) (N := 4) (ci := 4) rfl inT4 3 (by decide) q542 rfl i he hv hd kk
theorem pf_X4_17 (hx : FX x l R g nL cc RX4) {a v : Nat} {fs : List Value} (i : Nat) (he : ws[i]? = some (a, .inr (4, fs))) (hl : 3 < fs.length) (ws' : va_W) (hw : ws.set i (a, .inr (4, fs.set 3 (.ref v))) = ws') (hd : decode cc pc = .ok (.putfield 17, 3)) (kk : V x k n ws' (pc + 3) lv st) : V x k n ws pc lv (.ref v :: .ref a :: st) := V_put hx (T := TX4) (N := 4) (ci := 4) rfl inT4 tyX4 tyX4_ok nmX4 3 (by decide) q542 rfl rfl (ty := .array (.array .int)) (by decide +kernel) rfl rfl i he hl ws' hw hd kk
theorem q594 : Cond.fieldLink RX3 9 RX3 "program" "[[I" ∈ tbl := tin 639 (by decide +kernel) rfl
theorem gf_X3_9 (hx : FX x l R g nL cc RX3) {a : Nat} {fs : List Value} {v : Value} (i : Nat) (he : ws[i]? = some (a, .inr (3, fs))) (hv : fs[0]? = some v) (hd : decode cc pc = .ok (.getfield 9, 3)) (kk : V x k n ws (pc + 3) lv (v :: st)) : V x k n ws pc lv (.ref a :: st) := V_get hx (T := TX3) (N := 6) (ci := 3) rfl inT3 0 (by decide) q594 rfl i he hv hd kk
theorem pf_X3_9 (hx : FX x l R g nL cc RX3) {a v : Nat} {fs : List Value} (i : Nat) (he : ws[i]? = some (a, .inr (3, fs))) (hl : 0 < fs.length) (ws' : va_W) (hw : ws.set i (a, .inr (3, fs.set 0 (.ref v))) = ws') (hd : decode cc pc = .ok (.putfield 9, 3)) (kk : V x k n ws' (pc + 3) lv st) : V x k n ws pc lv (.ref v :: .ref a :: st) := V_put hx (T := TX3) (N := 6) (ci := 3) rfl inT3 tyX3 tyX3_ok nmX3 0 (by decide) q594 rfl rfl (ty := .array (.array .int)) (by decide +kernel) rfl rfl i he hl ws' hw hd kk
theorem q595 : Cond.fieldLink RL 35 RX3 "program" "[[I" ∈ tbl := tin 640 (by decide +kernel) rfl
theorem gf_L_35 (hx : FX x l R g nL cc RL) {a : Nat} {fs : List Value} {v : Value} (i : Nat) (he : ws[i]? = some (a, .inr (3, fs))) (hv : fs[0]? = some v) (hd : decode cc pc = .ok (.getfield 35, 3)) (kk : V x k n ws (pc + 3) lv (v :: st)) : V x k n ws pc lv (.ref a :: st) := V_get hx (T := TX3) (N := 6) (ci := 3) rfl inT3 0 (by decide) q595 rfl i he hv hd kk
theorem pf_L_35 (hx : FX x l R g nL cc RL) {a v : Nat} {fs : List Value} (i : Nat) (he : ws[i]? = some (a, .inr (3, fs))) (hl : 0 < fs.length) (ws' : va_W) (hw : ws.set i (a, .inr (3, fs.set 0 (.ref v))) = ws') (hd : decode cc pc = .ok (.putfield 35, 3)) (kk : V x k n ws' (pc + 3) lv st) : V x k n ws pc lv (.ref v :: .ref a :: st) := V_put hx (T := TX3) (N := 6) (ci := 3) rfl inT3 tyX3 tyX3_ok nmX3 0 (by decide) q595 rfl rfl (ty := .array (.array .int)) (by decide +kernel) rfl rfl i he hl ws' hw hd kk
theorem q596 : Cond.fieldLink RX4 53 RX3 "program" "[[I" ∈ tbl := tin 641 (by decide +kernel) rfl
theorem gf_X4_53 (hx : FX x l R g nL cc RX4) {a : Nat} {fs : List Value} {v : Value} (i : Nat) (he : ws[i]? = some (a, .inr (3, fs))) (hv : fs[0]? = some v) (hd : decode cc pc = .ok (.getfield 53, 3)) (kk : V x k n ws (pc + 3) lv (v :: st)) : V x k n ws pc lv (.ref a :: st) := V_get hx (T := TX3) (N := 6) (ci := 3) rfl inT3 0 (by decide) q596 rfl i he hv hd kk
theorem pf_X4_53 (hx : FX x l R g nL cc RX4) {a v : Nat} {fs : List Value} (i : Nat) (he : ws[i]? = some (a, .inr (3, fs))) (hl : 0 < fs.length) (ws' : va_W) (hw : ws.set i (a, .inr (3, fs.set 0 (.ref v))) = ws') (hd : decode cc pc = .ok (.putfield 53, 3)) (kk : V x k n ws' (pc + 3) lv st) : V x k n ws pc lv (.ref v :: .ref a :: st) := V_put hx (T := TX3) (N := 6) (ci := 3) rfl inT3 tyX3 tyX3_ok nmX3 0 (by decide) q596 rfl rfl (ty := .array (.array .int)) (by decide +kernel) rfl rfl i he hl ws' hw hd kk
theorem q597 : Cond.fieldLink RL 31 RX3 "place" "I" ∈ tbl := tin 642 (by decide +kernel) rfl
theorem gf_L_31 (hx : FX x l R g nL cc RL) {a : Nat} {fs : List Value} {v : Value} (i : Nat) (he : ws[i]? = some (a, .inr (3, fs))) (hv : fs[1]? = some v) (hd : decode cc pc = .ok (.getfield 31, 3)) (kk : V x k n ws (pc + 3) lv (v :: st)) : V x k n ws pc lv (.ref a :: st) := V_get hx (T := TX3) (N := 6) (ci := 3) rfl inT3 1 (by decide) q597 rfl i he hv hd kk
theorem pf_L_31 (hx : FX x l R g nL cc RL) {a : Nat} {fs : List Value} {v : Int32} (i : Nat) (he : ws[i]? = some (a, .inr (3, fs))) (hl : 1 < fs.length) (ws' : va_W) (hw : ws.set i (a, .inr (3, fs.set 1 (.int v))) = ws') (hd : decode cc pc = .ok (.putfield 31, 3)) (kk : V x k n ws' (pc + 3) lv st) : V x k n ws pc lv (.int v :: .ref a :: st) := V_put hx (T := TX3) (N := 6) (ci := 3) rfl inT3 tyX3 tyX3_ok nmX3 1 (by decide) q597 rfl rfl (ty := .int) (by decide +kernel) rfl rfl i he hl ws' hw hd kk
theorem q598 : Cond.fieldLink RX3 22 RX3 "place" "I" ∈ tbl := tin 643 (by decide +kernel) rfl
theorem gf_X3_22 (hx : FX x l R g nL cc RX3) {a : Nat} {fs : List Value} {v : Value} (i : Nat) (he : ws[i]? = some (a, .inr (3, fs))) (hv : fs[1]? = some v) (hd : decode cc pc = .ok (.getfield 22, 3)) (kk : V x k n ws (pc + 3) lv (v :: st)) : V x k n ws pc lv (.ref a :: st) := V_get hx (T := TX3) (N := 6) (ci := 3) rfl inT3 1 (by decide) q598 rfl i he hv hd kk
theorem pf_X3_22 (hx : FX x l R g nL cc RX3) {a : Nat} {fs : List Value} {v : Int32} (i : Nat) (he : ws[i]? = some (a, .inr (3, fs))) (hl : 1 < fs.length) (ws' : va_W) (hw : ws.set i (a, .inr (3, fs.set 1 (.int v))) = ws') (hd : decode cc pc = .ok (.putfield 22, 3)) (kk : V x k n ws' (pc + 3) lv st) : V x k n ws pc lv (.int v :: .ref a :: st) := V_put hx (T := TX3) (N := 6) (ci := 3) rfl inT3 tyX3 tyX3_ok nmX3 1 (by decide) q598 rfl rfl (ty := .int) (by decide +kernel) rfl rfl i he hl ws' hw hd kk
theorem q599 : Cond.fieldLink RX4 56 RX3 "place" "I" ∈ tbl := tin 644 (by decide +kernel) rfl
theorem gf_X4_56 (hx : FX x l R g nL cc RX4) {a : Nat} {fs : List Value} {v : Value} (i : Nat) (he : ws[i]? = some (a, .inr (3, fs))) (hv : fs[1]? = some v) (hd : decode cc pc = .ok (.getfield 56, 3)) (kk : V x k n ws (pc + 3) lv (v :: st)) : V x k n ws pc lv (.ref a :: st) := V_get hx (T := TX3) (N := 6) (ci := 3) rfl inT3 1 (by decide) q599 rfl i he hv hd kk
theorem pf_X4_56 (hx : FX x l R g nL cc RX4) {a : Nat} {fs : List Value} {v : Int32} (i : Nat) (he : ws[i]? = some (a, .inr (3, fs))) (hl : 1 < fs.length) (ws' : va_W) (hw : ws.set i (a, .inr (3, fs.set 1 (.int v))) = ws') (hd : decode cc pc = .ok (.putfield 56, 3)) (kk : V x k n ws' (pc + 3) lv st) : V x k n ws pc lv (.int v :: .ref a :: st) := V_put hx (T := TX3) (N := 6) (ci := 3) rfl inT3 tyX3 tyX3_ok nmX3 1 (by decide) q599 rfl rfl (ty := .int) (by decide +kernel) rfl rfl i he hl ws' hw hd kk
theorem q600 : Cond.fieldLink RL 25 RX3 "isDone" "Z" ∈ tbl := tin 645 (by decide +kernel) rfl
theorem gf_L_25 (hx : FX x l R g nL cc RL) {a : Nat} {fs : List Value} {v : Value} (i : Nat) (he : ws[i]? = some (a, .inr (3, fs))) (hv : fs[2]? = some v) (hd : decode cc pc = .ok (.getfield 25, 3)) (kk : V x k n ws (pc + 3) lv (v :: st)) : V x k n ws pc lv (.ref a :: st) := V_get hx (T := TX3) (N := 6) (ci := 3) rfl inT3 2 (by decide) q600 rfl i he hv hd kk
theorem pf_L_25 (hx : FX x l R g nL cc RL) {a : Nat} {fs : List Value} {v : Int32} (hn : narrow .boolean (.int v) = .int v) (hfit : fits .boolean (.int v) = true) (i : Nat) (he : ws[i]? = some (a, .inr (3, fs))) (hl : 2 < fs.length) (ws' : va_W) (hw : ws.set i (a, .inr (3, fs.set 2 (.int v))) = ws') (hd : decode cc pc = .ok (.putfield 25, 3)) (kk : V x k n ws' (pc + 3) lv st) : V x k n ws pc lv (.int v :: .ref a :: st) := V_put hx (T := TX3) (N := 6) (ci := 3) rfl inT3 tyX3 tyX3_ok nmX3 2 (by decide) q600 rfl rfl (ty := .boolean) (by decide +kernel) hn hfit i he hl ws' hw hd kk
theorem q601 : Cond.fieldLink RX3 26 RX3 "isDone" "Z" ∈ tbl := tin 646 (by decide +kernel) rfl
theorem gf_X3_26 (hx : FX x l R g nL cc RX3) {a : Nat} {fs : List Value} {v : Value} (i : Nat) (he : ws[i]? = some (a, .inr (3, fs))) (hv : fs[2]? = some v) (hd : decode cc pc = .ok (.getfield 26, 3)) (kk : V x k n ws (pc + 3) lv (v :: st)) : V x k n ws pc lv (.ref a :: st) := V_get hx (T := TX3) (N := 6) (ci := 3) rfl inT3 2 (by decide) q601 rfl i he hv hd kk
theorem pf_X3_26 (hx : FX x l R g nL cc RX3) {a : Nat} {fs : List Value} {v : Int32} (hn : narrow .boolean (.int v) = .int v) (hfit : fits .boolean (.int v) = true) (i : Nat) (he : ws[i]? = some (a, .inr (3, fs))) (hl : 2 < fs.length) (ws' : va_W) (hw : ws.set i (a, .inr (3, fs.set 2 (.int v))) = ws') (hd : decode cc pc = .ok (.putfield 26, 3)) (kk : V x k n ws' (pc + 3) lv st) : V x k n ws pc lv (.int v :: .ref a :: st) := V_put hx (T := TX3) (N := 6) (ci := 3) rfl inT3 tyX3 tyX3_ok nmX3 2 (by decide) q601 rfl rfl (ty := .boolean) (by decide +kernel) hn hfit i he hl ws' hw hd kk
theorem q602 : Cond.fieldLink RX4 49 RX3 "isDone" "Z" ∈ tbl := tin 647 (by decide +kernel) rfl
theorem gf_X4_49 (hx : FX x l R g nL cc RX4) {a : Nat} {fs : List Value} {v : Value} (i : Nat) (he : ws[i]? = some (a, .inr (3, fs))) (hv : fs[2]? = some v) (hd : decode cc pc = .ok (.getfield 49, 3)) (kk : V x k n ws (pc + 3) lv (v :: st)) : V x k n ws pc lv (.ref a :: st) := V_get hx (T := TX3) (N := 6) (ci := 3) rfl inT3 2 (by decide) q602 rfl i he hv hd kk
theorem pf_X4_49 (hx : FX x l R g nL cc RX4) {a : Nat} {fs : List Value} {v : Int32} (hn : narrow .boolean (.int v) = .int v) (hfit : fits .boolean (.int v) = true) (i : Nat) (he : ws[i]? = some (a, .inr (3, fs))) (hl : 2 < fs.length) (ws' : va_W) (hw : ws.set i (a, .inr (3, fs.set 2 (.int v))) = ws') (hd : decode cc pc = .ok (.putfield 49, 3)) (kk : V x k n ws' (pc + 3) lv st) : V x k n ws pc lv (.int v :: .ref a :: st) := V_put hx (T := TX3) (N := 6) (ci := 3) rfl inT3 tyX3 tyX3_ok nmX3 2 (by decide) q602 rfl rfl (ty := .boolean) (by decide +kernel) hn hfit i he hl ws' hw hd kk
theorem q603 : Cond.fieldLink RX4 71 RX3 "lost" "I" ∈ tbl := tin 648 (by decide +kernel) rfl
theorem gf_X4_71 (hx : FX x l R g nL cc RX4) {a : Nat} {fs : List Value} {v : Value} (i : Nat) (he : ws[i]? = some (a, .inr (3, fs))) (hv : fs[3]? = some v) (hd : decode cc pc = .ok (.getfield 71, 3)) (kk : V x k n ws (pc + 3) lv (v :: st)) : V x k n ws pc lv (.ref a :: st) := V_get hx (T := TX3) (N := 6) (ci := 3) rfl inT3 3 (by decide) q603 rfl i he hv hd kk
theorem pf_X4_71 (hx : FX x l R g nL cc RX4) {a : Nat} {fs : List Value} {v : Int32} (i : Nat) (he : ws[i]? = some (a, .inr (3, fs))) (hl : 3 < fs.length) (ws' : va_W) (hw : ws.set i (a, .inr (3, fs.set 3 (.int v))) = ws') (hd : decode cc pc = .ok (.putfield 71, 3)) (kk : V x k n ws' (pc + 3) lv st) : V x k n ws pc lv (.int v :: .ref a :: st) := V_put hx (T := TX3) (N := 6) (ci := 3) rfl inT3 tyX3 tyX3_ok nmX3 3 (by decide) q603 rfl rfl (ty := .int) (by decide +kernel) rfl rfl i he hl ws' hw hd kk
theorem q604 : Cond.fieldLink RX3 15 RX3 "seen" "[[I" ∈ tbl := tin 649 (by decide +kernel) rfl
theorem gf_X3_15 (hx : FX x l R g nL cc RX3) {a : Nat} {fs : List Value} {v : Value} (i : Nat) (he : ws[i]? = some (a, .inr (3, fs))) (hv : fs[4]? = some v) (hd : decode cc pc = .ok (.getfield 15, 3)) (kk : V x k n ws (pc + 3) lv (v :: st)) : V x k n ws pc lv (.ref a :: st) := V_get hx (T := TX3) (N := 6) (ci := 3) rfl inT3 4 (by decide) q604 rfl i he hv hd kk
theorem pf_X3_15 (hx : FX x l R g nL cc RX3) {a v : Nat} {fs : List Value} (i : Nat) (he : ws[i]? = some (a, .inr (3, fs))) (hl : 4 < fs.length) (ws' : va_W) (hw : ws.set i (a, .inr (3, fs.set 4 (.ref v))) = ws') (hd : decode cc pc = .ok (.putfield 15, 3)) (kk : V x k n ws' (pc + 3) lv st) : V x k n ws pc lv (.ref v :: .ref a :: st) := V_put hx (T := TX3) (N := 6) (ci := 3) rfl inT3 tyX3 tyX3_ok nmX3 4 (by decide) q604 rfl rfl (ty := .array (.array .int)) (by decide +kernel) rfl rfl i he hl ws' hw hd kk
theorem q605 : Cond.fieldLink RX4 89 RX3 "seen" "[[I" ∈ tbl := tin 650 (by decide +kernel) rfl
theorem gf_X4_89 (hx : FX x l R g nL cc RX4) {a : Nat} {fs : List Value} {v : Value} (i : Nat) (he : ws[i]? = some (a, .inr (3, fs))) (hv : fs[4]? = some v) (hd : decode cc pc = .ok (.getfield 89, 3)) (kk : V x k n ws (pc + 3) lv (v :: st)) : V x k n ws pc lv (.ref a :: st) := V_get hx (T := TX3) (N := 6) (ci := 3) rfl inT3 4 (by decide) q605 rfl i he hv hd kk
theorem pf_X4_89 (hx : FX x l R g nL cc RX4) {a v : Nat} {fs : List Value} (i : Nat) (he : ws[i]? = some (a, .inr (3, fs))) (hl : 4 < fs.length) (ws' : va_W) (hw : ws.set i (a, .inr (3, fs.set 4 (.ref v))) = ws') (hd : decode cc pc = .ok (.putfield 89, 3)) (kk : V x k n ws' (pc + 3) lv st) : V x k n ws pc lv (.ref v :: .ref a :: st) := V_put hx (T := TX3) (N := 6) (ci := 3) rfl inT3 tyX3 tyX3_ok nmX3 4 (by decide) q605 rfl rfl (ty := .array (.array .int)) (by decide +kernel) rfl rfl i he hl ws' hw hd kk
theorem q606 : Cond.fieldLink RX3 18 RX3 "own" "[[I" ∈ tbl := tin 651 (by decide +kernel) rfl
theorem gf_X3_18 (hx : FX x l R g nL cc RX3) {a : Nat} {fs : List Value} {v : Value} (i : Nat) (he : ws[i]? = some (a, .inr (3, fs))) (hv : fs[5]? = some v) (hd : decode cc pc = .ok (.getfield 18, 3)) (kk : V x k n ws (pc + 3) lv (v :: st)) : V x k n ws pc lv (.ref a :: st) := V_get hx (T := TX3) (N := 6) (ci := 3) rfl inT3 5 (by decide) q606 rfl i he hv hd kk
theorem pf_X3_18 (hx : FX x l R g nL cc RX3) {a v : Nat} {fs : List Value} (i : Nat) (he : ws[i]? = some (a, .inr (3, fs))) (hl : 5 < fs.length) (ws' : va_W) (hw : ws.set i (a, .inr (3, fs.set 5 (.ref v))) = ws') (hd : decode cc pc = .ok (.putfield 18, 3)) (kk : V x k n ws' (pc + 3) lv st) : V x k n ws pc lv (.ref v :: .ref a :: st) := V_put hx (T := TX3) (N := 6) (ci := 3) rfl inT3 tyX3 tyX3_ok nmX3 5 (by decide) q606 rfl rfl (ty := .array (.array .int)) (by decide +kernel) rfl rfl i he hl ws' hw hd kk
theorem q607 : Cond.fieldLink RX4 74 RX3 "own" "[[I" ∈ tbl := tin 652 (by decide +kernel) rfl
theorem gf_X4_74 (hx : FX x l R g nL cc RX4) {a : Nat} {fs : List Value} {v : Value} (i : Nat) (he : ws[i]? = some (a, .inr (3, fs))) (hv : fs[5]? = some v) (hd : decode cc pc = .ok (.getfield 74, 3)) (kk : V x k n ws (pc + 3) lv (v :: st)) : V x k n ws pc lv (.ref a :: st) := V_get hx (T := TX3) (N := 6) (ci := 3) rfl inT3 5 (by decide) q607 rfl i he hv hd kk
theorem pf_X4_74 (hx : FX x l R g nL cc RX4) {a v : Nat} {fs : List Value} (i : Nat) (he : ws[i]? = some (a, .inr (3, fs))) (hl : 5 < fs.length) (ws' : va_W) (hw : ws.set i (a, .inr (3, fs.set 5 (.ref v))) = ws') (hd : decode cc pc = .ok (.putfield 74, 3)) (kk : V x k n ws' (pc + 3) lv st) : V x k n ws pc lv (.ref v :: .ref a :: st) := V_put hx (T := TX3) (N := 6) (ci := 3) rfl inT3 tyX3 tyX3_ok nmX3 5 (by decide) q607 rfl rfl (ty := .array (.array .int)) (by decide +kernel) rfl rfl i he hl ws' hw hd kk
end GF
theorem q1 : Cond.initialized RX2 ∈ tbl := tin 46 (by decide +kernel) rfl
theorem q15 : Cond.methodLink RL 100 yX2_init ∈ tbl := tin 60 (by decide +kernel) rfl
theorem q17 : Cond.code yX2_init cX2_init 1 none ∈ tbl := tin 62 (by decide +kernel) rfl
theorem q16 : Cond.instanceMethod yX2_init ∈ tbl := tin 61 (by decide +kernel) rfl
theorem q2 : Cond.initialized RX1 ∈ tbl := tin 47 (by decide +kernel) rfl
theorem q23 : Cond.methodLinkNest RX2 9 yX1_init RX2 ∈ tbl := tin 68 (by decide +kernel) rfl
theorem q25 : Cond.code yX1_init cX1_init 2 none ∈ tbl := tin 70 (by decide +kernel) rfl
theorem q24 : Cond.instanceMethod yX1_init ∈ tbl := tin 69 (by decide +kernel) rfl
theorem q3 : Cond.initialized RX0 ∈ tbl := tin 48 (by decide +kernel) rfl
theorem q30 : Cond.methodLinkNest RX1 28 yX0_init RX2 ∈ tbl := tin 75 (by decide +kernel) rfl
theorem q32 : Cond.code yX0_init cX0_init 1 none ∈ tbl := tin 77 (by decide +kernel) rfl
theorem q31 : Cond.instanceMethod yX0_init ∈ tbl := tin 76 (by decide +kernel) rfl
theorem q34 : Cond.methodLink RX0 33 yX0_startOver ∈ tbl := tin 79 (by decide +kernel) rfl
theorem q37 : Cond.code yX0_startOver cX0_startOver 2 none ∈ tbl := tin 82 (by decide +kernel) rfl
theorem q36 : Cond.instanceMethod yX0_startOver ∈ tbl := tin 81 (by decide +kernel) rfl
theorem qs0 : Cond.selects RX0 yX0_startOver yX0_startOver ∈ tbl := tin 0 (by decide +kernel) rfl
theorem cw_X0_33 : CWD RX0 33 yX0_startOver cX0_startOver 2 none 0 := ⟨q34, q36, qs0, q37, q3, ⟨by decide +kernel, by decide +kernel⟩, by decide +kernel⟩
theorem q126 : Cond.methodLink RL 93 yX2_turn ∈ tbl := tin 171 (by decide +kernel) rfl
theorem q129 : Cond.code yX2_turn cX2_turn 2 (some .int) ∈ tbl := tin 174 (by decide +kernel) rfl
theorem q127 : Cond.instanceMethod yX2_turn ∈ tbl := tin 172 (by decide +kernel) rfl
theorem q128 : Cond.selects RX2 yX2_turn yX2_turn ∈ tbl := tin 173 (by decide +kernel) rfl
theorem cw_L_93 : CWD RL 93 yX2_turn cX2_turn 2 (some .int) 1 := ⟨q126, q127, q128, q129, q1, ⟨by decide +kernel, by decide +kernel⟩, by decide +kernel⟩
theorem q130 : Cond.methodLink RX2 59 yX2_needClerk ∈ tbl := tin 175 (by decide +kernel) rfl
theorem q133 : Cond.code yX2_needClerk cX2_needClerk 2 none ∈ tbl := tin 178 (by decide +kernel) rfl
theorem q132 : Cond.instanceMethod yX2_needClerk ∈ tbl := tin 177 (by decide +kernel) rfl
theorem qs1 : Cond.selects RX2 yX2_needClerk yX2_needClerk ∈ tbl := tin 1 (by decide +kernel) rfl
theorem cw_X2_59 : CWD RX2 59 yX2_needClerk cX2_needClerk 2 none 1 := ⟨q130, q132, qs1, q133, q1, ⟨by decide +kernel, by decide +kernel⟩, by decide +kernel⟩
theorem q202 : Cond.methodLinkNest RX2 94 yX0_isAtWork RX2 ∈ tbl := tin 247 (by decide +kernel) rfl
theorem q205 : Cond.code yX0_isAtWork cX0_isAtWork 1 (some .boolean) ∈ tbl := tin 250 (by decide +kernel) rfl
theorem q204 : Cond.instanceMethod yX0_isAtWork ∈ tbl := tin 249 (by decide +kernel) rfl
theorem qs3 : Cond.selects RX0 yX0_isAtWork yX0_isAtWork ∈ tbl := tin 3 (by decide +kernel) rfl
theorem cw_X2_94 : CND RX2 94 yX0_isAtWork RX2 cX0_isAtWork 1 (some .boolean) 0 := ⟨q202, q204, qs3, q205, q3, ⟨by decide +kernel, by decide +kernel⟩, by decide +kernel⟩
theorem q222 : Cond.methodLinkNest RX2 100 yX1_takeTurn RX2 ∈ tbl := tin 267 (by decide +kernel) rfl
theorem q225 : Cond.code yX1_takeTurn cX1_takeTurn 3 (some .int) ∈ tbl := tin 270 (by decide +kernel) rfl
theorem q224 : Cond.instanceMethod yX1_takeTurn ∈ tbl := tin 269 (by decide +kernel) rfl
theorem qs4 : Cond.selects RX1 yX1_takeTurn yX1_takeTurn ∈ tbl := tin 4 (by decide +kernel) rfl
theorem cw_X2_100 : CND RX2 100 yX1_takeTurn RX2 cX1_takeTurn 3 (some .int) 1 := ⟨q222, q224, qs4, q225, q2, ⟨by decide +kernel, by decide +kernel⟩, by decide +kernel⟩
theorem q226 : Cond.methodLink RX1 65 yX1_doStep ∈ tbl := tin 271 (by decide +kernel) rfl
theorem q229 : Cond.code yX1_doStep cX1_doStep 4 none ∈ tbl := tin 274 (by decide +kernel) rfl
theorem q228 : Cond.instanceMethod yX1_doStep ∈ tbl := tin 273 (by decide +kernel) rfl
theorem qs5 : Cond.selects RX1 yX1_doStep yX1_doStep ∈ tbl := tin 5 (by decide +kernel) rfl
theorem cw_X1_65 : CWD RX1 65 yX1_doStep cX1_doStep 4 none 1 := ⟨q226, q228, qs5, q229, q2, ⟨by decide +kernel, by decide +kernel⟩, by decide +kernel⟩
theorem q230 : Cond.methodLink RX1 91 yX1_read ∈ tbl := tin 275 (by decide +kernel) rfl
theorem q233 : Cond.code yX1_read cX1_read 3 (some .int) ∈ tbl := tin 278 (by decide +kernel) rfl
theorem q232 : Cond.instanceMethod yX1_read ∈ tbl := tin 277 (by decide +kernel) rfl
theorem qs6 : Cond.selects RX1 yX1_read yX1_read ∈ tbl := tin 6 (by decide +kernel) rfl
theorem cw_X1_91 : CWD RX1 91 yX1_read cX1_read 3 (some .int) 2 := ⟨q230, q232, qs6, q233, q2, ⟨by decide +kernel, by decide +kernel⟩, by decide +kernel⟩
theorem q234 : Cond.methodLinkNest RX1 109 yX0_hasWritten RX2 ∈ tbl := tin 279 (by decide +kernel) rfl
theorem q237 : Cond.code yX0_hasWritten cX0_hasWritten 2 (some .boolean) ∈ tbl := tin 282 (by decide +kernel) rfl
theorem q236 : Cond.instanceMethod yX0_hasWritten ∈ tbl := tin 281 (by decide +kernel) rfl
theorem qs7 : Cond.selects RX0 yX0_hasWritten yX0_hasWritten ∈ tbl := tin 7 (by decide +kernel) rfl
theorem cw_X1_109 : CND RX1 109 yX0_hasWritten RX2 cX0_hasWritten 2 (some .boolean) 1 := ⟨q234, q236, qs7, q237, q3, ⟨by decide +kernel, by decide +kernel⟩, by decide +kernel⟩
theorem q238 : Cond.methodLinkNest RX1 113 yX0_remembers RX2 ∈ tbl := tin 283 (by decide +kernel) rfl
theorem q241 : Cond.code yX0_remembers cX0_remembers 2 (some .boolean) ∈ tbl := tin 286 (by decide +kernel) rfl
theorem q240 : Cond.instanceMethod yX0_remembers ∈ tbl := tin 285 (by decide +kernel) rfl
theorem qs8 : Cond.selects RX0 yX0_remembers yX0_remembers ∈ tbl := tin 8 (by decide +kernel) rfl
theorem cw_X1_113 : CND RX1 113 yX0_remembers RX2 cX0_remembers 2 (some .boolean) 1 := ⟨q238, q240, qs8, q241, q3, ⟨by decide +kernel, by decide +kernel⟩, by decide +kernel⟩
theorem q242 : Cond.methodLink RX1 98 yX1_held ∈ tbl := tin 287 (by decide +kernel) rfl
theorem q244 : Cond.code yX1_held cX1_held 1 (some .int) ∈ tbl := tin 289 (by decide +kernel) rfl
theorem q243 : Cond.static yX1_held ∈ tbl := tin 288 (by decide +kernel) rfl
theorem cw_X1_98 : CSD RX1 98 yX1_held cX1_held 1 (some .int) 1 := ⟨q242, q243, q244, q2, ⟨by decide +kernel, by decide +kernel⟩, by decide +kernel⟩
theorem q248 : Cond.methodLink RX1 105 yX1_carry ∈ tbl := tin 293 (by decide +kernel) rfl
theorem q251 : Cond.code yX1_carry cX1_carry 7 none ∈ tbl := tin 296 (by decide +kernel) rfl
theorem q250 : Cond.instanceMethod yX1_carry ∈ tbl := tin 295 (by decide +kernel) rfl
theorem qs9 : Cond.selects RX1 yX1_carry yX1_carry ∈ tbl := tin 9 (by decide +kernel) rfl
theorem cw_X1_105 : CWD RX1 105 yX1_carry cX1_carry 7 none 4 := ⟨q248, q250, qs9, q251, q2, ⟨by decide +kernel, by decide +kernel⟩, by decide +kernel⟩
theorem q252 : Cond.methodLink RX1 68 yX1_isOutdated ∈ tbl := tin 297 (by decide +kernel) rfl
theorem q255 : Cond.code yX1_isOutdated cX1_isOutdated 3 (some .boolean) ∈ tbl := tin 300 (by decide +kernel) rfl
theorem q254 : Cond.instanceMethod yX1_isOutdated ∈ tbl := tin 299 (by decide +kernel) rfl
theorem qs10 : Cond.selects RX1 yX1_isOutdated yX1_isOutdated ∈ tbl := tin 10 (by decide +kernel) rfl
theorem cw_X1_68 : CWD RX1 68 yX1_isOutdated cX1_isOutdated 3 (some .boolean) 1 := ⟨q252, q254, qs10, q255, q2, ⟨by decide +kernel, by decide +kernel⟩, by decide +kernel⟩
theorem q256 : Cond.methodLinkNest RX1 75 yX0_startOver RX2 ∈ tbl := tin 301 (by decide +kernel) rfl
theorem cw_X1_75 : CND RX1 75 yX0_startOver RX2 cX0_startOver 2 none 0 := ⟨q256, q36, qs0, q37, q3, ⟨by decide +kernel, by decide +kernel⟩, by decide +kernel⟩
theorem q257 : Cond.methodLink RX1 78 yX1_close ∈ tbl := tin 302 (by decide +kernel) rfl
theorem q260 : Cond.code yX1_close cX1_close 4 none ∈ tbl := tin 305 (by decide +kernel) rfl
theorem q259 : Cond.instanceMethod yX1_close ∈ tbl := tin 304 (by decide +kernel) rfl
theorem qs11 : Cond.selects RX1 yX1_close yX1_close ∈ tbl := tin 11 (by decide +kernel) rfl
theorem cw_X1_78 : CWD RX1 78 yX1_close cX1_close 4 none 1 := ⟨q257, q259, qs11, q260, q2, ⟨by decide +kernel, by decide +kernel⟩, by decide +kernel⟩
theorem q261 : Cond.methodLinkNest RX1 132 yX0_countWritten RX2 ∈ tbl := tin 306 (by decide +kernel) rfl
theorem q264 : Cond.code yX0_countWritten cX0_countWritten 3 (some .int) ∈ tbl := tin 309 (by decide +kernel) rfl
theorem q263 : Cond.instanceMethod yX0_countWritten ∈ tbl := tin 308 (by decide +kernel) rfl
theorem qs12 : Cond.selects RX0 yX0_countWritten yX0_countWritten ∈ tbl := tin 12 (by decide +kernel) rfl
theorem cw_X1_132 : CND RX1 132 yX0_countWritten RX2 cX0_countWritten 3 (some .int) 0 := ⟨q261, q263, qs12, q264, q3, ⟨by decide +kernel, by decide +kernel⟩, by decide +kernel⟩
theorem q265 : Cond.methodLink RX0 54 yX0_hasWritten ∈ tbl := tin 310 (by decide +kernel) rfl
theorem cw_X0_54 : CWD RX0 54 yX0_hasWritten cX0_hasWritten 2 (some .boolean) 1 := ⟨q265, q236, qs7, q237, q3, ⟨by decide +kernel, by decide +kernel⟩, by decide +kernel⟩
theorem q266 : Cond.methodLink RX1 51 yX1_keepClosing ∈ tbl := tin 311 (by decide +kernel) rfl
theorem q269 : Cond.code yX1_keepClosing cX1_keepClosing 4 none ∈ tbl := tin 314 (by decide +kernel) rfl
theorem q268 : Cond.instanceMethod yX1_keepClosing ∈ tbl := tin 313 (by decide +kernel) rfl
theorem qs13 : Cond.selects RX1 yX1_keepClosing yX1_keepClosing ∈ tbl := tin 13 (by decide +kernel) rfl
theorem cw_X1_51 : CWD RX1 51 yX1_keepClosing cX1_keepClosing 4 none 2 := ⟨q266, q268, qs13, q269, q2, ⟨by decide +kernel, by decide +kernel⟩, by decide +kernel⟩
theorem q270 : Cond.methodLink RX1 55 yX1_sumAmounts ∈ tbl := tin 315 (by decide +kernel) rfl
theorem q273 : Cond.code yX1_sumAmounts cX1_sumAmounts 3 (some .int) ∈ tbl := tin 318 (by decide +kernel) rfl
theorem q272 : Cond.instanceMethod yX1_sumAmounts ∈ tbl := tin 317 (by decide +kernel) rfl
theorem qs14 : Cond.selects RX1 yX1_sumAmounts yX1_sumAmounts ∈ tbl := tin 14 (by decide +kernel) rfl
theorem cw_X1_55 : CWD RX1 55 yX1_sumAmounts cX1_sumAmounts 3 (some .int) 0 := ⟨q270, q272, qs14, q273, q2, ⟨by decide +kernel, by decide +kernel⟩, by decide +kernel⟩
theorem q274 : Cond.methodLink RL 113 yX2_drawer ∈ tbl := tin 319 (by decide +kernel) rfl
theorem q277 : Cond.code yX2_drawer cX2_drawer 3 (some .int) ∈ tbl := tin 322 (by decide +kernel) rfl
theorem q275 : Cond.instanceMethod yX2_drawer ∈ tbl := tin 320 (by decide +kernel) rfl
theorem q276 : Cond.selects RX2 yX2_drawer yX2_drawer ∈ tbl := tin 321 (by decide +kernel) rfl
theorem cw_L_113 : CWD RL 113 yX2_drawer cX2_drawer 3 (some .int) 2 := ⟨q274, q275, q276, q277, q1, ⟨by decide +kernel, by decide +kernel⟩, by decide +kernel⟩
theorem q278 : Cond.methodLink RX2 34 yX2_needDrawer ∈ tbl := tin 323 (by decide +kernel) rfl
theorem q281 : Cond.code yX2_needDrawer cX2_needDrawer 2 none ∈ tbl := tin 326 (by decide +kernel) rfl
theorem q280 : Cond.instanceMethod yX2_needDrawer ∈ tbl := tin 325 (by decide +kernel) rfl
theorem qs15 : Cond.selects RX2 yX2_needDrawer yX2_needDrawer ∈ tbl := tin 15 (by decide +kernel) rfl
theorem cw_X2_34 : CWD RX2 34 yX2_needDrawer cX2_needDrawer 2 none 1 := ⟨q278, q280, qs15, q281, q1, ⟨by decide +kernel, by decide +kernel⟩, by decide +kernel⟩
theorem q283 : Cond.methodLink RX2 62 yX2_needWhat ∈ tbl := tin 328 (by decide +kernel) rfl
theorem q285 : Cond.code yX2_needWhat cX2_needWhat 3 none ∈ tbl := tin 330 (by decide +kernel) rfl
theorem q284 : Cond.static yX2_needWhat ∈ tbl := tin 329 (by decide +kernel) rfl
theorem cw_X2_62 : CSD RX2 62 yX2_needWhat cX2_needWhat 3 none 3 := ⟨q283, q284, q285, q1, ⟨by decide +kernel, by decide +kernel⟩, by decide +kernel⟩
theorem q287 : Cond.methodLinkNest RX2 113 yX1_drawerFact RX2 ∈ tbl := tin 332 (by decide +kernel) rfl
theorem q290 : Cond.code yX1_drawerFact cX1_drawerFact 3 (some .int) ∈ tbl := tin 335 (by decide +kernel) rfl
theorem q289 : Cond.instanceMethod yX1_drawerFact ∈ tbl := tin 334 (by decide +kernel) rfl
theorem qs16 : Cond.selects RX1 yX1_drawerFact yX1_drawerFact ∈ tbl := tin 16 (by decide +kernel) rfl
theorem cw_X2_113 : CND RX2 113 yX1_drawerFact RX2 cX1_drawerFact 3 (some .int) 2 := ⟨q287, q289, qs16, q290, q2, ⟨by decide +kernel, by decide +kernel⟩, by decide +kernel⟩
theorem q291 : Cond.methodLink RX1 158 yX1_countRememberers ∈ tbl := tin 336 (by decide +kernel) rfl
theorem q294 : Cond.code yX1_countRememberers cX1_countRememberers 4 (some .int) ∈ tbl := tin 339 (by decide +kernel) rfl
theorem q293 : Cond.instanceMethod yX1_countRememberers ∈ tbl := tin 338 (by decide +kernel) rfl
theorem qs17 : Cond.selects RX1 yX1_countRememberers yX1_countRememberers ∈ tbl := tin 17 (by decide +kernel) rfl
theorem cw_X1_158 : CWD RX1 158 yX1_countRememberers cX1_countRememberers 4 (some .int) 1 := ⟨q291, q293, qs17, q294, q2, ⟨by decide +kernel, by decide +kernel⟩, by decide +kernel⟩
theorem q295 : Cond.methodLink RX1 161 yX1_countWriters ∈ tbl := tin 340 (by decide +kernel) rfl
theorem q298 : Cond.code yX1_countWriters cX1_countWriters 4 (some .int) ∈ tbl := tin 343 (by decide +kernel) rfl
theorem q297 : Cond.instanceMethod yX1_countWriters ∈ tbl := tin 342 (by decide +kernel) rfl
theorem qs18 : Cond.selects RX1 yX1_countWriters yX1_countWriters ∈ tbl := tin 18 (by decide +kernel) rfl
theorem cw_X1_161 : CWD RX1 161 yX1_countWriters cX1_countWriters 4 (some .int) 1 := ⟨q295, q297, qs18, q298, q2, ⟨by decide +kernel, by decide +kernel⟩, by decide +kernel⟩
theorem q299 : Cond.methodLink RL 129 yX2_told ∈ tbl := tin 344 (by decide +kernel) rfl
theorem q302 : Cond.code yX2_told cX2_told 3 (some .int) ∈ tbl := tin 347 (by decide +kernel) rfl
theorem q300 : Cond.instanceMethod yX2_told ∈ tbl := tin 345 (by decide +kernel) rfl
theorem q301 : Cond.selects RX2 yX2_told yX2_told ∈ tbl := tin 346 (by decide +kernel) rfl
theorem cw_L_129 : CWD RL 129 yX2_told cX2_told 3 (some .int) 2 := ⟨q299, q300, q301, q302, q1, ⟨by decide +kernel, by decide +kernel⟩, by decide +kernel⟩
theorem q303 : Cond.methodLinkNest RX2 117 yX1_clerkFact RX2 ∈ tbl := tin 348 (by decide +kernel) rfl
theorem q306 : Cond.code yX1_clerkFact cX1_clerkFact 4 (some .int) ∈ tbl := tin 351 (by decide +kernel) rfl
theorem q305 : Cond.instanceMethod yX1_clerkFact ∈ tbl := tin 350 (by decide +kernel) rfl
theorem qs19 : Cond.selects RX1 yX1_clerkFact yX1_clerkFact ∈ tbl := tin 19 (by decide +kernel) rfl
theorem cw_X2_117 : CND RX2 117 yX1_clerkFact RX2 cX1_clerkFact 4 (some .int) 2 := ⟨q303, q305, qs19, q306, q2, ⟨by decide +kernel, by decide +kernel⟩, by decide +kernel⟩
theorem q307 : Cond.methodLinkNest RX1 164 yX0_countRemembered RX2 ∈ tbl := tin 352 (by decide +kernel) rfl
theorem q310 : Cond.code yX0_countRemembered cX0_countRemembered 3 (some .int) ∈ tbl := tin 355 (by decide +kernel) rfl
theorem q309 : Cond.instanceMethod yX0_countRemembered ∈ tbl := tin 354 (by decide +kernel) rfl
theorem qs20 : Cond.selects RX0 yX0_countRemembered yX0_countRemembered ∈ tbl := tin 20 (by decide +kernel) rfl
theorem cw_X1_164 : CND RX1 164 yX0_countRemembered RX2 cX0_countRemembered 3 (some .int) 0 := ⟨q307, q309, qs20, q310, q3, ⟨by decide +kernel, by decide +kernel⟩, by decide +kernel⟩
theorem q311 : Cond.methodLink RX0 50 yX0_remembers ∈ tbl := tin 356 (by decide +kernel) rfl
theorem cw_X0_50 : CWD RX0 50 yX0_remembers cX0_remembers 2 (some .boolean) 1 := ⟨q311, q240, qs8, q241, q3, ⟨by decide +kernel, by decide +kernel⟩, by decide +kernel⟩
theorem q312 : Cond.methodLink RX1 167 yX1_wouldLose ∈ tbl := tin 357 (by decide +kernel) rfl
theorem q315 : Cond.code yX1_wouldLose cX1_wouldLose 2 (some .boolean) ∈ tbl := tin 360 (by decide +kernel) rfl
theorem q314 : Cond.instanceMethod yX1_wouldLose ∈ tbl := tin 359 (by decide +kernel) rfl
theorem qs21 : Cond.selects RX1 yX1_wouldLose yX1_wouldLose ∈ tbl := tin 21 (by decide +kernel) rfl
theorem cw_X1_167 : CWD RX1 167 yX1_wouldLose cX1_wouldLose 2 (some .boolean) 1 := ⟨q312, q314, qs21, q315, q2, ⟨by decide +kernel, by decide +kernel⟩, by decide +kernel⟩
theorem q316 : Cond.methodLink RL 119 yX2_slip ∈ tbl := tin 361 (by decide +kernel) rfl
theorem q319 : Cond.code yX2_slip cX2_slip 4 (some .int) ∈ tbl := tin 364 (by decide +kernel) rfl
theorem q317 : Cond.instanceMethod yX2_slip ∈ tbl := tin 362 (by decide +kernel) rfl
theorem q318 : Cond.selects RX2 yX2_slip yX2_slip ∈ tbl := tin 363 (by decide +kernel) rfl
theorem cw_L_119 : CWD RL 119 yX2_slip cX2_slip 4 (some .int) 3 := ⟨q316, q317, q318, q319, q1, ⟨by decide +kernel, by decide +kernel⟩, by decide +kernel⟩
theorem q320 : Cond.methodLinkNest RX2 120 yX0_slipFact RX2 ∈ tbl := tin 365 (by decide +kernel) rfl
theorem q323 : Cond.code yX0_slipFact cX0_slipFact 3 (some .int) ∈ tbl := tin 368 (by decide +kernel) rfl
theorem q322 : Cond.instanceMethod yX0_slipFact ∈ tbl := tin 367 (by decide +kernel) rfl
theorem qs22 : Cond.selects RX0 yX0_slipFact yX0_slipFact ∈ tbl := tin 22 (by decide +kernel) rfl
theorem cw_X2_120 : CND RX2 120 yX0_slipFact RX2 cX0_slipFact 3 (some .int) 2 := ⟨q320, q322, qs22, q323, q3, ⟨by decide +kernel, by decide +kernel⟩, by decide +kernel⟩
theorem q324 : Cond.methodLink RL 139 yX2_closing ∈ tbl := tin 369 (by decide +kernel) rfl
theorem q327 : Cond.code yX2_closing cX2_closing 3 (some .int) ∈ tbl := tin 372 (by decide +kernel) rfl
theorem q325 : Cond.instanceMethod yX2_closing ∈ tbl := tin 370 (by decide +kernel) rfl
theorem q326 : Cond.selects RX2 yX2_closing yX2_closing ∈ tbl := tin 371 (by decide +kernel) rfl
theorem cw_L_139 : CWD RL 139 yX2_closing cX2_closing 3 (some .int) 2 := ⟨q324, q325, q326, q327, q1, ⟨by decide +kernel, by decide +kernel⟩, by decide +kernel⟩
theorem q328 : Cond.methodLinkNest RX2 131 yX1_closingsKept RX2 ∈ tbl := tin 373 (by decide +kernel) rfl
theorem q331 : Cond.code yX1_closingsKept cX1_closingsKept 1 (some .int) ∈ tbl := tin 376 (by decide +kernel) rfl
theorem q330 : Cond.instanceMethod yX1_closingsKept ∈ tbl := tin 375 (by decide +kernel) rfl
theorem qs23 : Cond.selects RX1 yX1_closingsKept yX1_closingsKept ∈ tbl := tin 23 (by decide +kernel) rfl
theorem cw_X2_131 : CND RX2 131 yX1_closingsKept RX2 cX1_closingsKept 1 (some .int) 0 := ⟨q328, q330, qs23, q331, q2, ⟨by decide +kernel, by decide +kernel⟩, by decide +kernel⟩
theorem q333 : Cond.methodLinkNest RX2 136 yX1_closingFact RX2 ∈ tbl := tin 378 (by decide +kernel) rfl
theorem q336 : Cond.code yX1_closingFact cX1_closingFact 3 (some .int) ∈ tbl := tin 381 (by decide +kernel) rfl
theorem q335 : Cond.instanceMethod yX1_closingFact ∈ tbl := tin 380 (by decide +kernel) rfl
theorem qs24 : Cond.selects RX1 yX1_closingFact yX1_closingFact ∈ tbl := tin 24 (by decide +kernel) rfl
theorem cw_X2_136 : CND RX2 136 yX1_closingFact RX2 cX1_closingFact 3 (some .int) 2 := ⟨q333, q335, qs24, q336, q2, ⟨by decide +kernel, by decide +kernel⟩, by decide +kernel⟩
theorem q337 : Cond.methodLink RL 135 yX2_clash ∈ tbl := tin 382 (by decide +kernel) rfl
theorem q340 : Cond.code yX2_clash cX2_clash 3 (some .boolean) ∈ tbl := tin 385 (by decide +kernel) rfl
theorem q338 : Cond.instanceMethod yX2_clash ∈ tbl := tin 383 (by decide +kernel) rfl
theorem q339 : Cond.selects RX2 yX2_clash yX2_clash ∈ tbl := tin 384 (by decide +kernel) rfl
theorem cw_L_135 : CWD RL 135 yX2_clash cX2_clash 3 (some .boolean) 2 := ⟨q337, q338, q339, q340, q1, ⟨by decide +kernel, by decide +kernel⟩, by decide +kernel⟩
theorem q341 : Cond.methodLinkNest RX2 139 yX1_clashes RX2 ∈ tbl := tin 386 (by decide +kernel) rfl
theorem q344 : Cond.code yX1_clashes cX1_clashes 6 (some .boolean) ∈ tbl := tin 389 (by decide +kernel) rfl
theorem q343 : Cond.instanceMethod yX1_clashes ∈ tbl := tin 388 (by decide +kernel) rfl
theorem qs25 : Cond.selects RX1 yX1_clashes yX1_clashes ∈ tbl := tin 25 (by decide +kernel) rfl
theorem cw_X2_139 : CND RX2 139 yX1_clashes RX2 cX1_clashes 6 (some .boolean) 2 := ⟨q341, q343, qs25, q344, q2, ⟨by decide +kernel, by decide +kernel⟩, by decide +kernel⟩
theorem q345 : Cond.methodLink RL 116 yX2_count ∈ tbl := tin 390 (by decide +kernel) rfl
theorem q348 : Cond.code yX2_count cX2_count 2 (some .int) ∈ tbl := tin 393 (by decide +kernel) rfl
theorem q346 : Cond.instanceMethod yX2_count ∈ tbl := tin 391 (by decide +kernel) rfl
theorem q347 : Cond.selects RX2 yX2_count yX2_count ∈ tbl := tin 392 (by decide +kernel) rfl
theorem cw_L_116 : CWD RL 116 yX2_count cX2_count 2 (some .int) 1 := ⟨q345, q346, q347, q348, q1, ⟨by decide +kernel, by decide +kernel⟩, by decide +kernel⟩
theorem q349 : Cond.methodLinkNest RX2 143 yX1_countFact RX2 ∈ tbl := tin 394 (by decide +kernel) rfl
theorem q352 : Cond.code yX1_countFact cX1_countFact 2 (some .int) ∈ tbl := tin 397 (by decide +kernel) rfl
theorem q351 : Cond.instanceMethod yX1_countFact ∈ tbl := tin 396 (by decide +kernel) rfl
theorem qs26 : Cond.selects RX1 yX1_countFact yX1_countFact ∈ tbl := tin 26 (by decide +kernel) rfl
theorem cw_X2_143 : CND RX2 143 yX1_countFact RX2 cX1_countFact 2 (some .int) 1 := ⟨q349, q351, qs26, q352, q2, ⟨by decide +kernel, by decide +kernel⟩, by decide +kernel⟩
theorem q353 : Cond.methodLink RX1 149 yX1_countDone ∈ tbl := tin 398 (by decide +kernel) rfl
theorem q356 : Cond.code yX1_countDone cX1_countDone 3 (some .int) ∈ tbl := tin 401 (by decide +kernel) rfl
theorem q355 : Cond.instanceMethod yX1_countDone ∈ tbl := tin 400 (by decide +kernel) rfl
theorem qs27 : Cond.selects RX1 yX1_countDone yX1_countDone ∈ tbl := tin 27 (by decide +kernel) rfl
theorem cw_X1_149 : CWD RX1 149 yX1_countDone cX1_countDone 3 (some .int) 0 := ⟨q353, q355, qs27, q356, q2, ⟨by decide +kernel, by decide +kernel⟩, by decide +kernel⟩
theorem q357 : Cond.methodLink RX1 152 yX1_sumLost ∈ tbl := tin 402 (by decide +kernel) rfl
theorem q360 : Cond.code yX1_sumLost cX1_sumLost 3 (some .int) ∈ tbl := tin 405 (by decide +kernel) rfl
theorem q359 : Cond.instanceMethod yX1_sumLost ∈ tbl := tin 404 (by decide +kernel) rfl
theorem qs28 : Cond.selects RX1 yX1_sumLost yX1_sumLost ∈ tbl := tin 28 (by decide +kernel) rfl
theorem cw_X1_152 : CWD RX1 152 yX1_sumLost cX1_sumLost 3 (some .int) 0 := ⟨q357, q359, qs28, q360, q2, ⟨by decide +kernel, by decide +kernel⟩, by decide +kernel⟩
theorem q361 : Cond.methodLink RX1 155 yX1_countLosers ∈ tbl := tin 406 (by decide +kernel) rfl
theorem q364 : Cond.code yX1_countLosers cX1_countLosers 3 (some .int) ∈ tbl := tin 409 (by decide +kernel) rfl
theorem q363 : Cond.instanceMethod yX1_countLosers ∈ tbl := tin 408 (by decide +kernel) rfl
theorem qs29 : Cond.selects RX1 yX1_countLosers yX1_countLosers ∈ tbl := tin 29 (by decide +kernel) rfl
theorem cw_X1_155 : CWD RX1 155 yX1_countLosers cX1_countLosers 3 (some .int) 0 := ⟨q361, q363, qs29, q364, q2, ⟨by decide +kernel, by decide +kernel⟩, by decide +kernel⟩
theorem q365 : Cond.methodLink RL 132 yX2_alone ∈ tbl := tin 410 (by decide +kernel) rfl
theorem q368 : Cond.code yX2_alone cX2_alone 3 (some .int) ∈ tbl := tin 413 (by decide +kernel) rfl
theorem q366 : Cond.instanceMethod yX2_alone ∈ tbl := tin 411 (by decide +kernel) rfl
theorem q367 : Cond.selects RX2 yX2_alone yX2_alone ∈ tbl := tin 412 (by decide +kernel) rfl
theorem cw_L_132 : CWD RL 132 yX2_alone cX2_alone 3 (some .int) 2 := ⟨q365, q366, q367, q368, q1, ⟨by decide +kernel, by decide +kernel⟩, by decide +kernel⟩
theorem q369 : Cond.methodLinkNest RX2 146 yX1_become RX2 ∈ tbl := tin 414 (by decide +kernel) rfl
theorem q372 : Cond.code yX1_become cX1_become 3 none ∈ tbl := tin 417 (by decide +kernel) rfl
theorem q371 : Cond.instanceMethod yX1_become ∈ tbl := tin 416 (by decide +kernel) rfl
theorem qs30 : Cond.selects RX1 yX1_become yX1_become ∈ tbl := tin 30 (by decide +kernel) rfl
theorem cw_X2_146 : CND RX2 146 yX1_become RX2 cX1_become 3 none 1 := ⟨q369, q371, qs30, q372, q2, ⟨by decide +kernel, by decide +kernel⟩, by decide +kernel⟩
theorem q373 : Cond.methodLinkNest RX1 44 yX0_become RX2 ∈ tbl := tin 418 (by decide +kernel) rfl
theorem q376 : Cond.code yX0_become cX0_become 3 none ∈ tbl := tin 421 (by decide +kernel) rfl
theorem q375 : Cond.instanceMethod yX0_become ∈ tbl := tin 420 (by decide +kernel) rfl
theorem qs31 : Cond.selects RX0 yX0_become yX0_become ∈ tbl := tin 31 (by decide +kernel) rfl
theorem cw_X1_44 : CND RX1 44 yX0_become RX2 cX0_become 3 none 1 := ⟨q373, q375, qs31, q376, q3, ⟨by decide +kernel, by decide +kernel⟩, by decide +kernel⟩
theorem q377 : Cond.methodLinkNest RX2 150 yX1_workAlone RX2 ∈ tbl := tin 422 (by decide +kernel) rfl
theorem q380 : Cond.code yX1_workAlone cX1_workAlone 4 none ∈ tbl := tin 425 (by decide +kernel) rfl
theorem q379 : Cond.instanceMethod yX1_workAlone ∈ tbl := tin 424 (by decide +kernel) rfl
theorem qs32 : Cond.selects RX1 yX1_workAlone yX1_workAlone ∈ tbl := tin 32 (by decide +kernel) rfl
theorem cw_X2_150 : CND RX2 150 yX1_workAlone RX2 cX1_workAlone 4 none 1 := ⟨q377, q379, qs32, q380, q2, ⟨by decide +kernel, by decide +kernel⟩, by decide +kernel⟩
theorem q381 : Cond.methodLinkNest RX1 138 yX0_isAtWork RX2 ∈ tbl := tin 426 (by decide +kernel) rfl
theorem cw_X1_138 : CND RX1 138 yX0_isAtWork RX2 cX0_isAtWork 1 (some .boolean) 0 := ⟨q381, q204, qs3, q205, q3, ⟨by decide +kernel, by decide +kernel⟩, by decide +kernel⟩
theorem q382 : Cond.methodLink RX1 142 yX1_takeTurn ∈ tbl := tin 427 (by decide +kernel) rfl
theorem cw_X1_142 : CWD RX1 142 yX1_takeTurn cX1_takeTurn 3 (some .int) 1 := ⟨q382, q224, qs4, q225, q2, ⟨by decide +kernel, by decide +kernel⟩, by decide +kernel⟩
theorem q383 : Cond.methodLink RL 123 yX2_until ∈ tbl := tin 428 (by decide +kernel) rfl
theorem q386 : Cond.code yX2_until cX2_until 2 (some .int) ∈ tbl := tin 431 (by decide +kernel) rfl
theorem q384 : Cond.instanceMethod yX2_until ∈ tbl := tin 429 (by decide +kernel) rfl
theorem q385 : Cond.selects RX2 yX2_until yX2_until ∈ tbl := tin 430 (by decide +kernel) rfl
theorem cw_L_123 : CWD RL 123 yX2_until cX2_until 2 (some .int) 0 := ⟨q383, q384, q385, q386, q1, ⟨by decide +kernel, by decide +kernel⟩, by decide +kernel⟩
theorem q387 : Cond.methodLinkNest RX2 153 yX1_isAnyAtWork RX2 ∈ tbl := tin 432 (by decide +kernel) rfl
theorem q390 : Cond.code yX1_isAnyAtWork cX1_isAnyAtWork 2 (some .boolean) ∈ tbl := tin 435 (by decide +kernel) rfl
theorem q389 : Cond.instanceMethod yX1_isAnyAtWork ∈ tbl := tin 434 (by decide +kernel) rfl
theorem qs33 : Cond.selects RX1 yX1_isAnyAtWork yX1_isAnyAtWork ∈ tbl := tin 33 (by decide +kernel) rfl
theorem cw_X2_153 : CND RX2 153 yX1_isAnyAtWork RX2 cX1_isAnyAtWork 2 (some .boolean) 0 := ⟨q387, q389, qs33, q390, q2, ⟨by decide +kernel, by decide +kernel⟩, by decide +kernel⟩
theorem q391 : Cond.methodLinkNest RX2 156 yX1_goRound RX2 ∈ tbl := tin 436 (by decide +kernel) rfl
theorem q394 : Cond.code yX1_goRound cX1_goRound 3 (some .int) ∈ tbl := tin 439 (by decide +kernel) rfl
theorem q393 : Cond.instanceMethod yX1_goRound ∈ tbl := tin 438 (by decide +kernel) rfl
theorem qs34 : Cond.selects RX1 yX1_goRound yX1_goRound ∈ tbl := tin 34 (by decide +kernel) rfl
theorem cw_X2_156 : CND RX2 156 yX1_goRound RX2 cX1_goRound 3 (some .int) 0 := ⟨q391, q393, qs34, q394, q2, ⟨by decide +kernel, by decide +kernel⟩, by decide +kernel⟩
theorem q395 : Cond.methodLink RL 126 yX2_foresee ∈ tbl := tin 440 (by decide +kernel) rfl
theorem q398 : Cond.code yX2_foresee cX2_foresee 3 (some .int) ∈ tbl := tin 443 (by decide +kernel) rfl
theorem q396 : Cond.instanceMethod yX2_foresee ∈ tbl := tin 441 (by decide +kernel) rfl
theorem q397 : Cond.selects RX2 yX2_foresee yX2_foresee ∈ tbl := tin 442 (by decide +kernel) rfl
theorem cw_L_126 : CWD RL 126 yX2_foresee cX2_foresee 3 (some .int) 2 := ⟨q395, q396, q397, q398, q1, ⟨by decide +kernel, by decide +kernel⟩, by decide +kernel⟩
theorem q399 : Cond.methodLink RX2 107 yX2_needRounds ∈ tbl := tin 444 (by decide +kernel) rfl
theorem q401 : Cond.code yX2_needRounds cX2_needRounds 1 none ∈ tbl := tin 446 (by decide +kernel) rfl
theorem q400 : Cond.static yX2_needRounds ∈ tbl := tin 445 (by decide +kernel) rfl
theorem cw_X2_107 : CSD RX2 107 yX2_needRounds cX2_needRounds 1 none 1 := ⟨q399, q400, q401, q1, ⟨by decide +kernel, by decide +kernel⟩, by decide +kernel⟩
theorem q418 : Cond.methodLinkNest RX2 110 yX1_goRounds RX2 ∈ tbl := tin 463 (by decide +kernel) rfl
theorem q421 : Cond.code yX1_goRounds cX1_goRounds 4 (some .int) ∈ tbl := tin 466 (by decide +kernel) rfl
theorem q420 : Cond.instanceMethod yX1_goRounds ∈ tbl := tin 465 (by decide +kernel) rfl
theorem qs35 : Cond.selects RX1 yX1_goRounds yX1_goRounds ∈ tbl := tin 35 (by decide +kernel) rfl
theorem cw_X2_110 : CND RX2 110 yX1_goRounds RX2 cX1_goRounds 4 (some .int) 1 := ⟨q418, q420, qs35, q421, q2, ⟨by decide +kernel, by decide +kernel⟩, by decide +kernel⟩
theorem q422 : Cond.methodLink RX1 135 yX1_goRound ∈ tbl := tin 467 (by decide +kernel) rfl
theorem cw_X1_135 : CWD RX1 135 yX1_goRound cX1_goRound 3 (some .int) 0 := ⟨q422, q393, qs34, q394, q2, ⟨by decide +kernel, by decide +kernel⟩, by decide +kernel⟩
theorem q423 : Cond.methodLink RL 109 yX2_digest ∈ tbl := tin 468 (by decide +kernel) rfl
theorem q426 : Cond.code yX2_digest cX2_digest 4 (some .long) ∈ tbl := tin 471 (by decide +kernel) rfl
theorem q424 : Cond.instanceMethod yX2_digest ∈ tbl := tin 469 (by decide +kernel) rfl
theorem q425 : Cond.selects RX2 yX2_digest yX2_digest ∈ tbl := tin 470 (by decide +kernel) rfl
theorem cw_L_109 : CWD RL 109 yX2_digest cX2_digest 4 (some .long) 0 := ⟨q423, q424, q425, q426, q1, ⟨by decide +kernel, by decide +kernel⟩, by decide +kernel⟩
theorem q429 : Cond.methodLink RX2 169 yX2_digestDrawers ∈ tbl := tin 474 (by decide +kernel) rfl
theorem q432 : Cond.code yX2_digestDrawers cX2_digestDrawers 7 (some .long) ∈ tbl := tin 477 (by decide +kernel) rfl
theorem q431 : Cond.instanceMethod yX2_digestDrawers ∈ tbl := tin 476 (by decide +kernel) rfl
theorem qs36 : Cond.selects RX2 yX2_digestDrawers yX2_digestDrawers ∈ tbl := tin 36 (by decide +kernel) rfl
theorem cw_X2_169 : CWD RX2 169 yX2_digestDrawers cX2_digestDrawers 7 (some .long) 1 := ⟨q429, q431, qs36, q432, q1, ⟨by decide +kernel, by decide +kernel⟩, by decide +kernel⟩
theorem q433 : Cond.methodLink RX2 173 yX2_digestClerks ∈ tbl := tin 478 (by decide +kernel) rfl
theorem q436 : Cond.code yX2_digestClerks cX2_digestClerks 8 (some .long) ∈ tbl := tin 481 (by decide +kernel) rfl
theorem q435 : Cond.instanceMethod yX2_digestClerks ∈ tbl := tin 480 (by decide +kernel) rfl
theorem qs37 : Cond.selects RX2 yX2_digestClerks yX2_digestClerks ∈ tbl := tin 37 (by decide +kernel) rfl
theorem cw_X2_173 : CWD RX2 173 yX2_digestClerks cX2_digestClerks 8 (some .long) 1 := ⟨q433, q435, qs37, q436, q1, ⟨by decide +kernel, by decide +kernel⟩, by decide +kernel⟩
theorem q437 : Cond.methodLink RX2 176 yX2_digestClosings ∈ tbl := tin 482 (by decide +kernel) rfl
theorem q440 : Cond.code yX2_digestClosings cX2_digestClosings 8 (some .long) ∈ tbl := tin 485 (by decide +kernel) rfl
theorem q439 : Cond.instanceMethod yX2_digestClosings ∈ tbl := tin 484 (by decide +kernel) rfl
theorem qs38 : Cond.selects RX2 yX2_digestClosings yX2_digestClosings ∈ tbl := tin 38 (by decide +kernel) rfl
theorem cw_X2_176 : CWD RX2 176 yX2_digestClosings cX2_digestClosings 8 (some .long) 1 := ⟨q437, q439, qs38, q440, q1, ⟨by decide +kernel, by decide +kernel⟩, by decide +kernel⟩
theorem q4 : Cond.initialized RX4 ∈ tbl := tin 49 (by decide +kernel) rfl
theorem q441 : Cond.methodLink RL 90 yX4_turn ∈ tbl := tin 486 (by decide +kernel) rfl
theorem q444 : Cond.code yX4_turn cX4_turn 3 (some .int) ∈ tbl := tin 489 (by decide +kernel) rfl
theorem q442 : Cond.instanceMethod yX4_turn ∈ tbl := tin 487 (by decide +kernel) rfl
theorem q443 : Cond.selects RX4 yX4_turn yX4_turn ∈ tbl := tin 488 (by decide +kernel) rfl
theorem cw_L_90 : CWD RL 90 yX4_turn cX4_turn 3 (some .int) 1 := ⟨q441, q442, q443, q444, q4, ⟨by decide +kernel, by decide +kernel⟩, by decide +kernel⟩
theorem q10 : Cond.initialized RX3 ∈ tbl := tin 55 (by decide +kernel) rfl
theorem q445 : Cond.methodLink RX4 60 yX3_act ∈ tbl := tin 490 (by decide +kernel) rfl
theorem q448 : Cond.code yX3_act cX3_act 5 none ∈ tbl := tin 493 (by decide +kernel) rfl
theorem q446 : Cond.instanceMethod yX3_act ∈ tbl := tin 491 (by decide +kernel) rfl
theorem q447 : Cond.selects RX3 yX3_act yX3_act ∈ tbl := tin 492 (by decide +kernel) rfl
theorem cw_X4_60 : CWD RX4 60 yX3_act cX3_act 5 none 2 := ⟨q445, q446, q447, q448, q10, ⟨by decide +kernel, by decide +kernel⟩, by decide +kernel⟩
theorem q449 : Cond.methodLink RX3 49 yX3_write ∈ tbl := tin 494 (by decide +kernel) rfl
theorem q452 : Cond.code yX3_write cX3_write 5 none ∈ tbl := tin 497 (by decide +kernel) rfl
theorem q450 : Cond.instanceMethod yX3_write ∈ tbl := tin 495 (by decide +kernel) rfl
theorem q451 : Cond.selects RX3 yX3_write yX3_write ∈ tbl := tin 496 (by decide +kernel) rfl
theorem cw_X3_49 : CWD RX3 49 yX3_write cX3_write 5 none 2 := ⟨q449, q450, q451, q452, q10, ⟨by decide +kernel, by decide +kernel⟩, by decide +kernel⟩
theorem q453 : Cond.methodLink RX3 37 yX3_find ∈ tbl := tin 498 (by decide +kernel) rfl
theorem q455 : Cond.code yX3_find cX3_find 6 (some (.array .int)) ∈ tbl := tin 500 (by decide +kernel) rfl
theorem q454 : Cond.static yX3_find ∈ tbl := tin 499 (by decide +kernel) rfl
theorem cw_X3_37 : CSD RX3 37 yX3_find cX3_find 6 (some (.array .int)) 2 := ⟨q453, q454, q455, q10, ⟨by decide +kernel, by decide +kernel⟩, by decide +kernel⟩
theorem q456 : Cond.methodLink RX3 33 yX3_more ∈ tbl := tin 501 (by decide +kernel) rfl
theorem q458 : Cond.code yX3_more cX3_more 4 (some (.array (.array .int))) ∈ tbl := tin 503 (by decide +kernel) rfl
theorem q457 : Cond.static yX3_more ∈ tbl := tin 502 (by decide +kernel) rfl
theorem cw_X3_33 : CSD RX3 33 yX3_more cX3_more 4 (some (.array (.array .int))) 2 := ⟨q456, q457, q458, q10, ⟨by decide +kernel, by decide +kernel⟩, by decide +kernel⟩
theorem q461 : Cond.methodLink RX3 53 yX3_read ∈ tbl := tin 506 (by decide +kernel) rfl
theorem q464 : Cond.code yX3_read cX3_read 5 (some .int) ∈ tbl := tin 509 (by decide +kernel) rfl
theorem q462 : Cond.instanceMethod yX3_read ∈ tbl := tin 507 (by decide +kernel) rfl
theorem q463 : Cond.selects RX3 yX3_read yX3_read ∈ tbl := tin 508 (by decide +kernel) rfl
theorem cw_X3_53 : CWD RX3 53 yX3_read cX3_read 5 (some .int) 2 := ⟨q461, q462, q463, q464, q10, ⟨by decide +kernel, by decide +kernel⟩, by decide +kernel⟩
theorem q465 : Cond.methodLink RX4 64 yX3_isLosing ∈ tbl := tin 510 (by decide +kernel) rfl
theorem q468 : Cond.code yX3_isLosing cX3_isLosing 6 (some .boolean) ∈ tbl := tin 513 (by decide +kernel) rfl
theorem q466 : Cond.instanceMethod yX3_isLosing ∈ tbl := tin 511 (by decide +kernel) rfl
theorem q467 : Cond.selects RX3 yX3_isLosing yX3_isLosing ∈ tbl := tin 512 (by decide +kernel) rfl
theorem cw_X4_64 : CWD RX4 64 yX3_isLosing cX3_isLosing 6 (some .boolean) 1 := ⟨q465, q466, q467, q468, q10, ⟨by decide +kernel, by decide +kernel⟩, by decide +kernel⟩
theorem q469 : Cond.methodLink RX4 68 yX3_begin ∈ tbl := tin 514 (by decide +kernel) rfl
theorem q472 : Cond.code yX3_begin cX3_begin 1 none ∈ tbl := tin 517 (by decide +kernel) rfl
theorem q470 : Cond.instanceMethod yX3_begin ∈ tbl := tin 515 (by decide +kernel) rfl
theorem q471 : Cond.selects RX3 yX3_begin yX3_begin ∈ tbl := tin 516 (by decide +kernel) rfl
theorem cw_X4_68 : CWD RX4 68 yX3_begin cX3_begin 1 none 0 := ⟨q469, q470, q471, q472, q10, ⟨by decide +kernel, by decide +kernel⟩, by decide +kernel⟩
theorem q473 : Cond.methodLink RX4 77 yX4_close ∈ tbl := tin 518 (by decide +kernel) rfl
theorem q476 : Cond.code yX4_close cX4_close 7 none ∈ tbl := tin 521 (by decide +kernel) rfl
theorem q474 : Cond.instanceMethod yX4_close ∈ tbl := tin 519 (by decide +kernel) rfl
theorem q475 : Cond.selects RX4 yX4_close yX4_close ∈ tbl := tin 520 (by decide +kernel) rfl
theorem cw_X4_77 : CWD RX4 77 yX4_close cX4_close 7 none 2 := ⟨q473, q474, q475, q476, q4, ⟨by decide +kernel, by decide +kernel⟩, by decide +kernel⟩
theorem q477 : Cond.methodLink RX4 41 yX4_sum ∈ tbl := tin 522 (by decide +kernel) rfl
theorem q480 : Cond.code yX4_sum cX4_sum 6 (some .int) ∈ tbl := tin 525 (by decide +kernel) rfl
theorem q478 : Cond.instanceMethod yX4_sum ∈ tbl := tin 523 (by decide +kernel) rfl
theorem q479 : Cond.selects RX4 yX4_sum yX4_sum ∈ tbl := tin 524 (by decide +kernel) rfl
theorem cw_X4_41 : CWD RX4 41 yX4_sum cX4_sum 6 (some .int) 0 := ⟨q477, q478, q479, q480, q4, ⟨by decide +kernel, by decide +kernel⟩, by decide +kernel⟩
theorem q481 : Cond.methodLink RX4 45 yX3_more ∈ tbl := tin 526 (by decide +kernel) rfl
theorem cw_X4_45 : CSD RX4 45 yX3_more cX3_more 4 (some (.array (.array .int))) 2 := ⟨q481, q457, q458, q10, ⟨by decide +kernel, by decide +kernel⟩, by decide +kernel⟩
theorem q482 : Cond.methodLink RL 142 yX4_isSame ∈ tbl := tin 527 (by decide +kernel) rfl
theorem q485 : Cond.code yX4_isSame cX4_isSame 9 (some .boolean) ∈ tbl := tin 530 (by decide +kernel) rfl
theorem q483 : Cond.instanceMethod yX4_isSame ∈ tbl := tin 528 (by decide +kernel) rfl
theorem q484 : Cond.selects RX4 yX4_isSame yX4_isSame ∈ tbl := tin 529 (by decide +kernel) rfl
theorem cw_L_142 : CWD RL 142 yX4_isSame cX4_isSame 9 (some .boolean) 1 := ⟨q482, q483, q484, q485, q4, ⟨by decide +kernel, by decide +kernel⟩, by decide +kernel⟩
theorem q486 : Cond.methodLink RX4 96 yX2_count ∈ tbl := tin 531 (by decide +kernel) rfl
theorem cw_X4_96 : CWD RX4 96 yX2_count cX2_count 2 (some .int) 1 := ⟨q486, q346, q347, q348, q1, ⟨by decide +kernel, by decide +kernel⟩, by decide +kernel⟩
theorem q487 : Cond.methodLink RX4 101 yX4_counted ∈ tbl := tin 532 (by decide +kernel) rfl
theorem q490 : Cond.code yX4_counted cX4_counted 7 (some .int) ∈ tbl := tin 535 (by decide +kernel) rfl
theorem q488 : Cond.instanceMethod yX4_counted ∈ tbl := tin 533 (by decide +kernel) rfl
theorem q489 : Cond.selects RX4 yX4_counted yX4_counted ∈ tbl := tin 534 (by decide +kernel) rfl
theorem cw_X4_101 : CWD RX4 101 yX4_counted cX4_counted 7 (some .int) 1 := ⟨q487, q488, q489, q490, q4, ⟨by decide +kernel, by decide +kernel⟩, by decide +kernel⟩
theorem q491 : Cond.methodLink RX4 92 yX3_find ∈ tbl := tin 536 (by decide +kernel) rfl
theorem cw_X4_92 : CSD RX4 92 yX3_find cX3_find 6 (some (.array .int)) 2 := ⟨q491, q454, q455, q10, ⟨by decide +kernel, by decide +kernel⟩, by decide +kernel⟩
theorem q492 : Cond.methodLink RX4 104 yX2_drawer ∈ tbl := tin 537 (by decide +kernel) rfl
theorem cw_X4_104 : CWD RX4 104 yX2_drawer cX2_drawer 3 (some .int) 2 := ⟨q492, q275, q276, q277, q1, ⟨by decide +kernel, by decide +kernel⟩, by decide +kernel⟩
theorem q493 : Cond.methodLink RX4 108 yX2_told ∈ tbl := tin 538 (by decide +kernel) rfl
theorem cw_X4_108 : CWD RX4 108 yX2_told cX2_told 3 (some .int) 2 := ⟨q493, q300, q301, q302, q1, ⟨by decide +kernel, by decide +kernel⟩, by decide +kernel⟩
theorem q494 : Cond.methodLink RX4 111 yX2_slip ∈ tbl := tin 539 (by decide +kernel) rfl
theorem cw_X4_111 : CWD RX4 111 yX2_slip cX2_slip 4 (some .int) 3 := ⟨q494, q317, q318, q319, q1, ⟨by decide +kernel, by decide +kernel⟩, by decide +kernel⟩
theorem q495 : Cond.methodLink RX4 115 yX2_step ∈ tbl := tin 540 (by decide +kernel) rfl
theorem q498 : Cond.code yX2_step cX2_step 5 (some .int) ∈ tbl := tin 543 (by decide +kernel) rfl
theorem q496 : Cond.instanceMethod yX2_step ∈ tbl := tin 541 (by decide +kernel) rfl
theorem q497 : Cond.selects RX2 yX2_step yX2_step ∈ tbl := tin 542 (by decide +kernel) rfl
theorem cw_X4_115 : CWD RX4 115 yX2_step cX2_step 5 (some .int) 3 := ⟨q495, q496, q497, q498, q1, ⟨by decide +kernel, by decide +kernel⟩, by decide +kernel⟩
theorem q500 : Cond.methodLinkNest RX2 128 yX0_stepFact RX2 ∈ tbl := tin 545 (by decide +kernel) rfl
theorem q503 : Cond.code yX0_stepFact cX0_stepFact 3 (some .int) ∈ tbl := tin 548 (by decide +kernel) rfl
theorem q502 : Cond.instanceMethod yX0_stepFact ∈ tbl := tin 547 (by decide +kernel) rfl
theorem qs39 : Cond.selects RX0 yX0_stepFact yX0_stepFact ∈ tbl := tin 39 (by decide +kernel) rfl
theorem cw_X2_128 : CND RX2 128 yX0_stepFact RX2 cX0_stepFact 3 (some .int) 2 := ⟨q500, q502, qs39, q503, q3, ⟨by decide +kernel, by decide +kernel⟩, by decide +kernel⟩
theorem q504 : Cond.methodLink RX4 118 yX2_clash ∈ tbl := tin 549 (by decide +kernel) rfl
theorem cw_X4_118 : CWD RX4 118 yX2_clash cX2_clash 3 (some .boolean) 2 := ⟨q504, q338, q339, q340, q1, ⟨by decide +kernel, by decide +kernel⟩, by decide +kernel⟩
theorem q505 : Cond.methodLink RX4 122 yX4_clash ∈ tbl := tin 550 (by decide +kernel) rfl
theorem q508 : Cond.code yX4_clash cX4_clash 7 (some .boolean) ∈ tbl := tin 553 (by decide +kernel) rfl
theorem q506 : Cond.instanceMethod yX4_clash ∈ tbl := tin 551 (by decide +kernel) rfl
theorem q507 : Cond.selects RX4 yX4_clash yX4_clash ∈ tbl := tin 552 (by decide +kernel) rfl
theorem cw_X4_122 : CWD RX4 122 yX4_clash cX4_clash 7 (some .boolean) 2 := ⟨q505, q506, q507, q508, q4, ⟨by decide +kernel, by decide +kernel⟩, by decide +kernel⟩
theorem q509 : Cond.methodLink RX4 123 yX2_closing ∈ tbl := tin 554 (by decide +kernel) rfl
theorem cw_X4_123 : CWD RX4 123 yX2_closing cX2_closing 3 (some .int) 2 := ⟨q509, q325, q326, q327, q1, ⟨by decide +kernel, by decide +kernel⟩, by decide +kernel⟩
theorem q510 : Cond.methodLink RX4 126 yX2_mean ∈ tbl := tin 555 (by decide +kernel) rfl
theorem q513 : Cond.code yX2_mean cX2_mean 1 (some .double) ∈ tbl := tin 558 (by decide +kernel) rfl
theorem q511 : Cond.instanceMethod yX2_mean ∈ tbl := tin 556 (by decide +kernel) rfl
theorem q512 : Cond.selects RX2 yX2_mean yX2_mean ∈ tbl := tin 557 (by decide +kernel) rfl
theorem cw_X4_126 : CWD RX4 126 yX2_mean cX2_mean 1 (some .double) 0 := ⟨q510, q511, q512, q513, q1, ⟨by decide +kernel, by decide +kernel⟩, by decide +kernel⟩
theorem q514 : Cond.methodLinkNest RX2 162 yX1_sumLost RX2 ∈ tbl := tin 559 (by decide +kernel) rfl
theorem cw_X2_162 : CND RX2 162 yX1_sumLost RX2 cX1_sumLost 3 (some .int) 0 := ⟨q514, q359, qs28, q360, q2, ⟨by decide +kernel, by decide +kernel⟩, by decide +kernel⟩
theorem q0 : Cond.initialized RL ∈ tbl := tin 45 (by decide +kernel) rfl
theorem q515 : Cond.methodLink RL 15 yL_below ∈ tbl := tin 560 (by decide +kernel) rfl
theorem q517 : Cond.code yL_below cL_below 2 (some .int) ∈ tbl := tin 562 (by decide +kernel) rfl
theorem q516 : Cond.static yL_below ∈ tbl := tin 561 (by decide +kernel) rfl
theorem cw_L_15 : CSD RL 15 yL_below cL_below 2 (some .int) 2 := ⟨q515, q516, q517, q0, ⟨by decide +kernel, by decide +kernel⟩, by decide +kernel⟩
theorem q519 : Cond.methodLink RL 51 yL_cell ∈ tbl := tin 564 (by decide +kernel) rfl
theorem q521 : Cond.code yL_cell cL_cell 2 (some .int) ∈ tbl := tin 566 (by decide +kernel) rfl
theorem q520 : Cond.static yL_cell ∈ tbl := tin 565 (by decide +kernel) rfl
theorem cw_L_51 : CSD RL 51 yL_cell cL_cell 2 (some .int) 2 := ⟨q519, q520, q521, q0, ⟨by decide +kernel, by decide +kernel⟩, by decide +kernel⟩
theorem q523 : Cond.methodLink RL 101 yL_build ∈ tbl := tin 568 (by decide +kernel) rfl
theorem q525 : Cond.code yL_build cL_build 7 (some (.object "TillOptimistsLaw$Sim")) ∈ tbl := tin 570 (by decide +kernel) rfl
theorem q524 : Cond.static yL_build ∈ tbl := tin 569 (by decide +kernel) rfl
theorem cw_L_101 : CSD RL 101 yL_build cL_build 7 (some (.object "TillOptimistsLaw$Sim")) 2 := ⟨q523, q524, q525, q0, ⟨by decide +kernel, by decide +kernel⟩, by decide +kernel⟩
theorem q528 : Cond.methodLink RL 55 yX4_init ∈ tbl := tin 573 (by decide +kernel) rfl
theorem q530 : Cond.code yX4_init cX4_init 2 none ∈ tbl := tin 575 (by decide +kernel) rfl
theorem q529 : Cond.instanceMethod yX4_init ∈ tbl := tin 574 (by decide +kernel) rfl
theorem q552 : Cond.methodLink RL 58 yX2_till ∈ tbl := tin 597 (by decide +kernel) rfl
theorem q555 : Cond.code yX2_till cX2_till 3 (some .int) ∈ tbl := tin 600 (by decide +kernel) rfl
theorem q553 : Cond.instanceMethod yX2_till ∈ tbl := tin 598 (by decide +kernel) rfl
theorem q554 : Cond.selects RX2 yX2_till yX2_till ∈ tbl := tin 599 (by decide +kernel) rfl
theorem cw_L_58 : CWD RL 58 yX2_till cX2_till 3 (some .int) 1 := ⟨q552, q553, q554, q555, q1, ⟨by decide +kernel, by decide +kernel⟩, by decide +kernel⟩
theorem q557 : Cond.methodLinkNest RX2 30 yX1_beginAnew RX2 ∈ tbl := tin 602 (by decide +kernel) rfl
theorem q560 : Cond.code yX1_beginAnew cX1_beginAnew 3 none ∈ tbl := tin 605 (by decide +kernel) rfl
theorem q559 : Cond.instanceMethod yX1_beginAnew ∈ tbl := tin 604 (by decide +kernel) rfl
theorem qs40 : Cond.selects RX1 yX1_beginAnew yX1_beginAnew ∈ tbl := tin 40 (by decide +kernel) rfl
theorem cw_X2_30 : CND RX2 30 yX1_beginAnew RX2 cX1_beginAnew 3 none 1 := ⟨q557, q559, qs40, q560, q2, ⟨by decide +kernel, by decide +kernel⟩, by decide +kernel⟩
theorem q561 : Cond.methodLink RL 62 yX2_pay ∈ tbl := tin 606 (by decide +kernel) rfl
theorem q564 : Cond.code yX2_pay cX2_pay 4 (some .int) ∈ tbl := tin 609 (by decide +kernel) rfl
theorem q562 : Cond.instanceMethod yX2_pay ∈ tbl := tin 607 (by decide +kernel) rfl
theorem q563 : Cond.selects RX2 yX2_pay yX2_pay ∈ tbl := tin 608 (by decide +kernel) rfl
theorem cw_L_62 : CWD RL 62 yX2_pay cX2_pay 4 (some .int) 2 := ⟨q561, q562, q563, q564, q1, ⟨by decide +kernel, by decide +kernel⟩, by decide +kernel⟩
theorem q566 : Cond.methodLinkNest RX2 43 yX1_payByHand RX2 ∈ tbl := tin 611 (by decide +kernel) rfl
theorem q569 : Cond.code yX1_payByHand cX1_payByHand 3 none ∈ tbl := tin 614 (by decide +kernel) rfl
theorem q568 : Cond.instanceMethod yX1_payByHand ∈ tbl := tin 613 (by decide +kernel) rfl
theorem qs41 : Cond.selects RX1 yX1_payByHand yX1_payByHand ∈ tbl := tin 41 (by decide +kernel) rfl
theorem cw_X2_43 : CND RX2 43 yX1_payByHand RX2 cX1_payByHand 3 none 2 := ⟨q566, q568, qs41, q569, q2, ⟨by decide +kernel, by decide +kernel⟩, by decide +kernel⟩
theorem q571 : Cond.methodLink RL 66 yX4_close ∈ tbl := tin 616 (by decide +kernel) rfl
theorem cw_L_66 : CWD RL 66 yX4_close cX4_close 7 none 2 := ⟨q571, q474, q475, q476, q4, ⟨by decide +kernel, by decide +kernel⟩, by decide +kernel⟩
theorem q572 : Cond.methodLink RL 70 yX2_clerk ∈ tbl := tin 617 (by decide +kernel) rfl
theorem q575 : Cond.code yX2_clerk cX2_clerk 1 (some .int) ∈ tbl := tin 620 (by decide +kernel) rfl
theorem q573 : Cond.instanceMethod yX2_clerk ∈ tbl := tin 618 (by decide +kernel) rfl
theorem q574 : Cond.selects RX2 yX2_clerk yX2_clerk ∈ tbl := tin 619 (by decide +kernel) rfl
theorem cw_L_70 : CWD RL 70 yX2_clerk cX2_clerk 1 (some .int) 0 := ⟨q572, q573, q574, q575, q1, ⟨by decide +kernel, by decide +kernel⟩, by decide +kernel⟩
theorem q577 : Cond.methodLinkNest RX2 55 yX1_addClerk RX2 ∈ tbl := tin 622 (by decide +kernel) rfl
theorem q580 : Cond.code yX1_addClerk cX1_addClerk 2 (some .int) ∈ tbl := tin 625 (by decide +kernel) rfl
theorem q579 : Cond.instanceMethod yX1_addClerk ∈ tbl := tin 624 (by decide +kernel) rfl
theorem qs42 : Cond.selects RX1 yX1_addClerk yX1_addClerk ∈ tbl := tin 42 (by decide +kernel) rfl
theorem cw_X2_55 : CND RX2 55 yX1_addClerk RX2 cX1_addClerk 2 (some .int) 0 := ⟨q577, q579, qs42, q580, q2, ⟨by decide +kernel, by decide +kernel⟩, by decide +kernel⟩
theorem q581 : Cond.methodLinkNest RX1 48 yX0_beginAnew RX2 ∈ tbl := tin 626 (by decide +kernel) rfl
theorem q584 : Cond.code yX0_beginAnew cX0_beginAnew 1 none ∈ tbl := tin 629 (by decide +kernel) rfl
theorem q583 : Cond.instanceMethod yX0_beginAnew ∈ tbl := tin 628 (by decide +kernel) rfl
theorem qs43 : Cond.selects RX0 yX0_beginAnew yX0_beginAnew ∈ tbl := tin 43 (by decide +kernel) rfl
theorem cw_X1_48 : CND RX1 48 yX0_beginAnew RX2 cX0_beginAnew 1 none 0 := ⟨q581, q583, qs43, q584, q3, ⟨by decide +kernel, by decide +kernel⟩, by decide +kernel⟩
theorem q585 : Cond.methodLink RL 74 yX4_addClerk ∈ tbl := tin 630 (by decide +kernel) rfl
theorem q588 : Cond.code yX4_addClerk cX4_addClerk 3 none ∈ tbl := tin 633 (by decide +kernel) rfl
theorem q586 : Cond.instanceMethod yX4_addClerk ∈ tbl := tin 631 (by decide +kernel) rfl
theorem q587 : Cond.selects RX4 yX4_addClerk yX4_addClerk ∈ tbl := tin 632 (by decide +kernel) rfl
theorem cw_L_74 : CWD RL 74 yX4_addClerk cX4_addClerk 3 none 0 := ⟨q585, q586, q587, q588, q4, ⟨by decide +kernel, by decide +kernel⟩, by decide +kernel⟩
theorem q590 : Cond.methodLinkNest RX4 40 yX3_init RL ∈ tbl := tin 635 (by decide +kernel) rfl
theorem q592 : Cond.code yX3_init cX3_init 1 none ∈ tbl := tin 637 (by decide +kernel) rfl
theorem q591 : Cond.instanceMethod yX3_init ∈ tbl := tin 636 (by decide +kernel) rfl
theorem q625 : Cond.methodLink RL 39 yX2_say ∈ tbl := tin 670 (by decide +kernel) rfl
theorem q628 : Cond.code yX2_say cX2_say 7 (some .int) ∈ tbl := tin 673 (by decide +kernel) rfl
theorem q626 : Cond.instanceMethod yX2_say ∈ tbl := tin 671 (by decide +kernel) rfl
theorem q627 : Cond.selects RX2 yX2_say yX2_say ∈ tbl := tin 672 (by decide +kernel) rfl
theorem cw_L_39 : CWD RL 39 yX2_say cX2_say 7 (some .int) 5 := ⟨q625, q626, q627, q628, q1, ⟨by decide +kernel, by decide +kernel⟩, by decide +kernel⟩
theorem q629 : Cond.methodLink RX2 66 yX2_fitsKind ∈ tbl := tin 674 (by decide +kernel) rfl
theorem q631 : Cond.code yX2_fitsKind cX2_fitsKind 4 (some .boolean) ∈ tbl := tin 676 (by decide +kernel) rfl
theorem q630 : Cond.static yX2_fitsKind ∈ tbl := tin 675 (by decide +kernel) rfl
theorem cw_X2_66 : CSD RX2 66 yX2_fitsKind cX2_fitsKind 4 (some .boolean) 4 := ⟨q629, q630, q631, q1, ⟨by decide +kernel, by decide +kernel⟩, by decide +kernel⟩
theorem q634 : Cond.methodLinkNest RX2 90 yX0_addStep RX2 ∈ tbl := tin 679 (by decide +kernel) rfl
theorem q637 : Cond.code yX0_addStep cX0_addStep 5 none ∈ tbl := tin 682 (by decide +kernel) rfl
theorem q636 : Cond.instanceMethod yX0_addStep ∈ tbl := tin 681 (by decide +kernel) rfl
theorem qs44 : Cond.selects RX0 yX0_addStep yX0_addStep ∈ tbl := tin 44 (by decide +kernel) rfl
theorem cw_X2_90 : CND RX2 90 yX0_addStep RX2 cX0_addStep 5 none 4 := ⟨q634, q636, qs44, q637, q3, ⟨by decide +kernel, by decide +kernel⟩, by decide +kernel⟩
theorem q638 : Cond.methodLink RL 45 yX3_more ∈ tbl := tin 683 (by decide +kernel) rfl
theorem cw_L_45 : CSD RL 45 yX3_more cX3_more 4 (some (.array (.array .int))) 2 := ⟨q638, q457, q458, q10, ⟨by decide +kernel, by decide +kernel⟩, by decide +kernel⟩
theorem q642 : Cond.methodLink RL 80 yX3_begin ∈ tbl := tin 687 (by decide +kernel) rfl
theorem cw_L_80 : CWD RL 80 yX3_begin cX3_begin 1 none 0 := ⟨q642, q470, q471, q472, q10, ⟨by decide +kernel, by decide +kernel⟩, by decide +kernel⟩
theorem q643 : Cond.methodLink RL 83 yX2_drop ∈ tbl := tin 688 (by decide +kernel) rfl
theorem q646 : Cond.code yX2_drop cX2_drop 4 (some .int) ∈ tbl := tin 691 (by decide +kernel) rfl
theorem q644 : Cond.instanceMethod yX2_drop ∈ tbl := tin 689 (by decide +kernel) rfl
theorem q645 : Cond.selects RX2 yX2_drop yX2_drop ∈ tbl := tin 690 (by decide +kernel) rfl
theorem cw_L_83 : CWD RL 83 yX2_drop cX2_drop 4 (some .int) 1 := ⟨q643, q644, q645, q646, q1, ⟨by decide +kernel, by decide +kernel⟩, by decide +kernel⟩
theorem q647 : Cond.methodLinkNest RX2 104 yX0_startOver RX2 ∈ tbl := tin 692 (by decide +kernel) rfl
theorem cw_X2_104 : CND RX2 104 yX0_startOver RX2 cX0_startOver 2 none 0 := ⟨q647, q36, qs0, q37, q3, ⟨by decide +kernel, by decide +kernel⟩, by decide +kernel⟩
theorem q648 : Cond.methodLink RL 86 yX4_goesOn ∈ tbl := tin 693 (by decide +kernel) rfl
theorem q651 : Cond.code yX4_goesOn cX4_goesOn 2 (some .boolean) ∈ tbl := tin 696 (by decide +kernel) rfl
theorem q649 : Cond.instanceMethod yX4_goesOn ∈ tbl := tin 694 (by decide +kernel) rfl
theorem q650 : Cond.selects RX4 yX4_goesOn yX4_goesOn ∈ tbl := tin 695 (by decide +kernel) rfl
theorem cw_L_86 : CWD RL 86 yX4_goesOn cX4_goesOn 2 (some .boolean) 1 := ⟨q648, q649, q650, q651, q4, ⟨by decide +kernel, by decide +kernel⟩, by decide +kernel⟩
theorem q652 : Cond.methodLink RL 94 yX4_round ∈ tbl := tin 697 (by decide +kernel) rfl
theorem q655 : Cond.code yX4_round cX4_round 3 (some .int) ∈ tbl := tin 700 (by decide +kernel) rfl
theorem q653 : Cond.instanceMethod yX4_round ∈ tbl := tin 698 (by decide +kernel) rfl
theorem q654 : Cond.selects RX4 yX4_round yX4_round ∈ tbl := tin 699 (by decide +kernel) rfl
theorem cw_L_94 : CWD RL 94 yX4_round cX4_round 3 (some .int) 0 := ⟨q652, q653, q654, q655, q4, ⟨by decide +kernel, by decide +kernel⟩, by decide +kernel⟩
theorem q656 : Cond.methodLink RX4 81 yX4_goesOn ∈ tbl := tin 701 (by decide +kernel) rfl
theorem cw_X4_81 : CWD RX4 81 yX4_goesOn cX4_goesOn 2 (some .boolean) 1 := ⟨q656, q649, q650, q651, q4, ⟨by decide +kernel, by decide +kernel⟩, by decide +kernel⟩
theorem q657 : Cond.methodLink RX4 85 yX4_turn ∈ tbl := tin 702 (by decide +kernel) rfl
theorem cw_X4_85 : CWD RX4 85 yX4_turn cX4_turn 3 (some .int) 1 := ⟨q657, q442, q443, q444, q4, ⟨by decide +kernel, by decide +kernel⟩, by decide +kernel⟩
theorem q658 : Cond.methodLink RL 97 yX2_pass ∈ tbl := tin 703 (by decide +kernel) rfl
theorem q661 : Cond.code yX2_pass cX2_pass 2 (some .int) ∈ tbl := tin 706 (by decide +kernel) rfl
theorem q659 : Cond.instanceMethod yX2_pass ∈ tbl := tin 704 (by decide +kernel) rfl
theorem q660 : Cond.selects RX2 yX2_pass yX2_pass ∈ tbl := tin 705 (by decide +kernel) rfl
theorem cw_L_97 : CWD RL 97 yX2_pass cX2_pass 2 (some .int) 1 := ⟨q658, q659, q660, q661, q1, ⟨by decide +kernel, by decide +kernel⟩, by decide +kernel⟩
theorem q5 : Cond.initialized "java/lang/Throwable" ∈ tbl := tin 50 (by decide +kernel) rfl
theorem q6 : Cond.initialized "java/lang/Exception" ∈ tbl := tin 51 (by decide +kernel) rfl
theorem q7 : Cond.initialized "java/lang/RuntimeException" ∈ tbl := tin 52 (by decide +kernel) rfl
theorem q8 : Cond.initialized "java/lang/IllegalArgumentException" ∈ tbl := tin 53 (by decide +kernel) rfl
theorem q9 : Cond.initialized "java/lang/IndexOutOfBoundsException" ∈ tbl := tin 54 (by decide +kernel) rfl
theorem q11 : Cond.initialized "java/lang/IllegalStateException" ∈ tbl := tin 56 (by decide +kernel) rfl
theorem q12 : Cond.initialized "java/lang/Math" ∈ tbl := tin 57 (by decide +kernel) rfl
theorem q13 : Cond.classLink RL 40 RX2 ∈ tbl := tin 58 (by decide +kernel) rfl
theorem q14 : Cond.instantiable RX2 2 ∈ tbl := tin 59 (by decide +kernel) rfl
theorem q21 : Cond.classLink RX2 7 RX1 ∈ tbl := tin 66 (by decide +kernel) rfl
theorem q22 : Cond.instantiable RX1 9 ∈ tbl := tin 67 (by decide +kernel) rfl
theorem q27 : Cond.classLink RX1 22 RX0 ∈ tbl := tin 72 (by decide +kernel) rfl
theorem q28 : Cond.arrayOver (.object RX0) ∈ tbl := tin 73 (by decide +kernel) rfl
theorem q29 : Cond.instantiable RX0 11 ∈ tbl := tin 74 (by decide +kernel) rfl
theorem q86 : Cond.arrayClass .int ∈ tbl := tin 131 (by decide +kernel) rfl
theorem q134 : Cond.classLink RX2 123 "java/lang/IndexOutOfBoundsException" ∈ tbl := tin 179 (by decide +kernel) rfl
theorem q135 : Cond.instantiable "java/lang/IndexOutOfBoundsException" 6 ∈ tbl := tin 180 (by decide +kernel) rfl
theorem q136 : Cond.castable "java/lang/IndexOutOfBoundsException" "java/lang/IndexOutOfBoundsException" ∈ tbl := tin 181 (by decide +kernel) rfl
theorem q173 : Cond.instantiable "java/lang/Throwable" 6 ∈ tbl := tin 218 (by decide +kernel) rfl
theorem q201 : Cond.arrayClass .byte ∈ tbl := tin 246 (by decide +kernel) rfl
theorem q206 : Cond.classLink RX2 50 "java/lang/IllegalStateException" ∈ tbl := tin 251 (by decide +kernel) rfl
theorem q207 : Cond.instantiable "java/lang/IllegalStateException" 6 ∈ tbl := tin 252 (by decide +kernel) rfl
theorem q208 : Cond.castable "java/lang/IllegalStateException" "java/lang/IllegalStateException" ∈ tbl := tin 253 (by decide +kernel) rfl
theorem q402 : Cond.classLink RX2 19 "java/lang/IllegalArgumentException" ∈ tbl := tin 447 (by decide +kernel) rfl
theorem q403 : Cond.instantiable "java/lang/IllegalArgumentException" 6 ∈ tbl := tin 448 (by decide +kernel) rfl
theorem q404 : Cond.castable "java/lang/IllegalArgumentException" "java/lang/IllegalArgumentException" ∈ tbl := tin 449 (by decide +kernel) rfl
theorem q427 : Cond.constantLong RX2 165 1811 ∈ tbl := tin 472 (by decide +kernel) rfl
theorem q428 : Cond.constantLong RX2 167 31 ∈ tbl := tin 473 (by decide +kernel) rfl
theorem q459 : Cond.classLink RX3 7 "[I" ∈ tbl := tin 504 (by decide +kernel) rfl
theorem q460 : Cond.arrayOver (.array .int) ∈ tbl := tin 505 (by decide +kernel) rfl
theorem q518 : Cond.constant RL 7 2147483647 ∈ tbl := tin 563 (by decide +kernel) rfl
theorem q522 : Cond.constant RL 8 790386105 ∈ tbl := tin 567 (by decide +kernel) rfl
theorem q526 : Cond.classLink RL 10 RX4 ∈ tbl := tin 571 (by decide +kernel) rfl
theorem q527 : Cond.instantiable RX4 4 ∈ tbl := tin 572 (by decide +kernel) rfl
theorem q532 : Cond.classLink RX4 7 RX3 ∈ tbl := tin 577 (by decide +kernel) rfl
theorem q533 : Cond.arrayOver (.object RX3) ∈ tbl := tin 578 (by decide +kernel) rfl
theorem q534 : Cond.classLink RX4 15 "[I" ∈ tbl := tin 579 (by decide +kernel) rfl
theorem q570 : Cond.classLink RL 65 "[I" ∈ tbl := tin 615 (by decide +kernel) rfl
theorem q589 : Cond.instantiable RX3 6 ∈ tbl := tin 634 (by decide +kernel) rfl
theorem q624 : Cond.classLink RL 49 "java/lang/IllegalStateException" ∈ tbl := tin 669 (by decide +kernel) rfl
theorem q662 : Cond.arrayClass .boolean ∈ tbl := tin 707 (by decide +kernel) rfl
theorem qm1 : Cond.methodLink RX1 122 Lib.Math.min.name ∈ tbl := tin 290 (by decide +kernel) rfl
theorem qm2 : Cond.static Lib.Math.min.name ∈ tbl := tin 291 (by decide +kernel) rfl
theorem qm3 : Cond.code Lib.Math.min.name Lib.Math.min.code 2 (some .int) ∈ tbl := tin 292 (by decide +kernel) rfl
theorem qo_X2 : Cond.methodLink RX2 1 objectInit ∈ tbl := tin 63 (by decide +kernel) rfl
theorem qo_i : Cond.instanceMethod objectInit ∈ tbl := tin 64 (by decide +kernel) rfl
theorem qo_c : Cond.code objectInit ⟨#[0xb1]⟩ 1 none ∈ tbl := tin 65 (by decide +kernel) rfl
theorem qo_X1 : Cond.methodLink RX1 3 objectInit ∈ tbl := tin 71 (by decide +kernel) rfl
theorem qo_X0 : Cond.methodLink RX0 3 objectInit ∈ tbl := tin 78 (by decide +kernel) rfl
theorem qo_X4 : Cond.methodLink RX4 1 objectInit ∈ tbl := tin 576 (by decide +kernel) rfl
theorem qo_X3 : Cond.methodLink RX3 1 objectInit ∈ tbl := tin 638 (by decide +kernel) rfl
theorem q623 : Cond.codeWith yL_say cL_say 13 (some .boolean) [(196, 247, 248, 49)] ∈ tbl := tin 668 (by decide +kernel) rfl
theorem q641 : Cond.codeWith yL_act cL_act 8 (some .boolean) [(232, 247, 248, 49)] ∈ tbl := tin 686 (by decide +kernel) rfl
