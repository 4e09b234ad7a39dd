/-! truth as a number -/
noncomputable def bz (c : Prop) : Int := @ite Int c (Classical.propDecidable c) 1 0
theorem bz_t {c : Prop} (h : c) : bz c = 1 := by unfold bz; exact if_pos h
theorem bz_f {c : Prop} (h : ¬ c) : bz c = 0 := by unfold bz; exact if_neg h
theorem bz_01 (c : Prop) : bz c = 0 ∨ bz c = 1 := (Classical.em c).elim (fun h => Or.inr (bz_t h)) (fun h => Or.inl (bz_f h))
theorem rg_bz (c : Prop) : rg (bz c) := by rcases bz_01 c with h | h <;> rw [h] <;> exact ⟨by decide, by decide⟩
theorem bz_c {c d : Prop} (h : c ↔ d) : bz c = bz d := by rw [propext h]
theorem bz_nz (c : Prop) : narrow .boolean (.int (iZ (bz c))) = .int (iZ (bz c)) := by rcases bz_01 c with h | h <;> rw [h] <;> rfl
section VH
variable {x : CT} {l : Launch} {R : Room} {g : GT} {nL : Nat} {cc : ByteArray} {own : String} {k n : Nat} {ws : va_W} {pc : Nat} {lv : List (Nat × Value)} {st : List Value}
theorem V_ws {ws' : va_W} (h : ws = ws') (kk : V x k n ws' pc lv st) : V x k n ws pc lv st := by rw [h]; exact kk
theorem V_get (hx : FX x l R g nL cc own) {ref C : String} {T : u_T} {N ci index a : Nat} {fs : List Value} {v : Value} (hc : vwCl[ci]? = some (C, T, N)) (hin : ∀ w ∈ u_ws C T N, w ∈ tbl) (j : Nat) (hj : j < N) (hq : Cond.fieldLink own index ref (T j).2.1 (T j).2.2.1 ∈ tbl) (hs : (T j).1 = ref)
    (i : Nat) (he : ws[i]? = some (a, .inr (ci, fs))) (hv : fs[j]? = some v) (hd : decode cc pc = .ok (.getfield index, 3)) (kk : V x k n ws (pc + 3) lv (v :: st)) : V x k n ws pc lv (.ref a :: st) := by
  obtain ⟨p, l', e, R', s, m, args, below, meth, c, g', nL', A, H0, Q⟩ := x
  obtain ⟨rfl, rfl, rfl, rfl, hx, hb, hml, hown, hts, hK, hlk, hA⟩ := hx
  intro H locs ls hP hD hS h
  exact va_get (D := g'.1) hx hb (hts args) hin hown hK hP i he hc j hj (hts args _ hq) (fun _ h9 => by rw [← hs]; exact h9) hv hd (kk H locs ls hP hD hS h)
theorem V_getN (hx : FX x l R g nL cc own) {ref C host : String} {T : u_T} {N ci index a : Nat} {fs : List Value} {v : Value} (hc : vwCl[ci]? = some (C, T, N)) (hin : ∀ w ∈ u_ws C T N, w ∈ tbl) (j : Nat) (hj : j < N) (hq : Cond.fieldLinkNest own index ref (T j).2.1 (T j).2.2.1 host ∈ tbl) (hs : (T j).1 = ref)
    (i : Nat) (he : ws[i]? = some (a, .inr (ci, fs))) (hv : fs[j]? = some v) (hd : decode cc pc = .ok (.getfield index, 3)) (kk : V x k n ws (pc + 3) lv (v :: st)) : V x k n ws pc lv (.ref a :: st) := by
  obtain ⟨p, l', e, R', s, m, args, below, meth, c, g', nL', A, H0, Q⟩ := x
  obtain ⟨rfl, rfl, rfl, rfl, hx, hb, hml, hown, hts, hK, hlk, hA⟩ := hx
  intro H locs ls hP hD hS h
  exact va_getN (D := g'.1) hx hb (hts args) hin hown hK hP i he hc j hj (hts args _ hq) (fun _ h9 => by rw [← hs]; exact h9) hv hd (kk H locs ls hP hD hS h)
theorem V_put (hx : FX x l R g nL cc own) {ref C : String} {T : u_T} {N ci index a : Nat} {fs : List Value} {v : Value} (hc : vwCl[ci]? = some (C, T, N)) (hin : ∀ w ∈ u_ws C T N, w ∈ tbl) (ty0 : Nat → FieldType) (hty : ∀ k, k < N → parseFieldDescriptor (T k).2.2.1 = some (ty0 k)) (hnm : ∀ a, a < N → ∀ b, b < N → a ≠ b → (T a).2.1 ≠ (T b).2.1) (j : Nat) (hj : j < N) (hq : Cond.fieldLink own index ref (T j).2.1 (T j).2.2.1 ∈ tbl) (hs : (T j).1 = ref) (hfin : (T j).2.2.2 = false)
    {ty : FieldType} (hdsc : parseFieldDescriptor (T j).2.2.1 = some ty) (hn : narrow ty v = v) (hfit : fits ty v = true) (i : Nat) (he : ws[i]? = some (a, .inr (ci, fs))) (hl : j < fs.length) (ws' : va_W) (hw : ws.set i (a, .inr (ci, fs.set j v)) = ws') (hd : decode cc pc = .ok (.putfield index, 3)) (kk : V x k n ws' (pc + 3) lv st) : V x k n ws pc lv (v :: .ref a :: st) := by
  subst hw
  obtain ⟨p, l', e, R', s, m, args, below, meth, c, g', nL', A, H0, Q⟩ := x
  obtain ⟨rfl, rfl, rfl, rfl, hx, hb, hml, hown, hts, hK, hlk, hA⟩ := hx
  intro H locs ls hP hD hS h
  exact va_put (D := g'.1) hx hb (hts args) hin ty0 hty hnm hown hK hP hD hS i he hc j hj (hts args _ hq) (fun _ h9 => by rw [← hs]; exact h9) hfin hdsc hn hfit hl hd (fun H1 locs1 hP1 hD1 hS1 => kk H1 locs1 ls hP1 hD1 hS1 h)
theorem V_putN (hx : FX x l R g nL cc own) {ref C host : String} {T : u_T} {N ci index a : Nat} {fs : List Value} {v : Value} (hc : vwCl[ci]? = some (C, T, N)) (hin : ∀ w ∈ u_ws C T N, w ∈ tbl) (ty0 : Nat → FieldType) (hty : ∀ k, k < N → parseFieldDescriptor (T k).2.2.1 = some (ty0 k)) (hnm : ∀ a, a < N → ∀ b, b < N → a ≠ b → (T a).2.1 ≠ (T b).2.1) (j : Nat) (hj : j < N) (hq : Cond.fieldLinkNest own index ref (T j).2.1 (T j).2.2.1 host ∈ tbl) (hs : (T j).1 = ref) (hfin : (T j).2.2.2 = false)
    {ty : FieldType} (hdsc : parseFieldDescriptor (T j).2.2.1 = some ty) (hn : narrow ty v = v) (hfit : fits ty v = true) (i : Nat) (he : ws[i]? = some (a, .inr (ci, fs))) (hl : j < fs.length) (ws' : va_W) (hw : ws.set i (a, .inr (ci, fs.set j v)) = ws') (hd : decode cc pc = .ok (.putfield index, 3)) (kk : V x k n ws' (pc + 3) lv st) : V x k n ws pc lv (v :: .ref a :: st) := by
  subst hw
  obtain ⟨p, l', e, R', s, m, args, below, meth, c, g', nL', A, H0, Q⟩ := x
  obtain ⟨rfl, rfl, rfl, rfl, hx, hb, hml, hown, hts, hK, hlk, hA⟩ := hx
  intro H locs ls hP hD hS h
  exact va_putN (D := g'.1) hx hb (hts args) hin ty0 hty hnm hown hK hP hD hS i he hc j hj (hts args _ hq) (fun _ h9 => by rw [← hs]; exact h9) hfin hdsc hn hfit hl hd (fun H1 locs1 hP1 hD1 hS1 => kk H1 locs1 ls hP1 hD1 hS1 h)
theorem V_iald (hx : FX x l R g nL cc own) {a N : Nat} {f : Nat → Int32} {z : Int} (h0 : 0 ≤ z) (h1 : z < N) (h2 : N < 2147483648) (i : Nat) (ha : ws[i]? = some (a, .inl (g.2.1, N, .inl f))) {v : Int} (hv : f z.toNat = iZ v) (hd : decode cc pc = .ok (.iaload, 1)) (kk : V x k n ws (pc + 1) lv (.int (iZ v) :: st)) : V x k n ws pc lv (.int (iZ z) :: .ref a :: st) := by
  obtain ⟨p, l', e, R', s, m, args, below, meth, c, g', nL', A, H0, Q⟩ := x
  obtain ⟨rfl, rfl, rfl, rfl, hx, hb, hml, hown, hts, hK, hlk, hA⟩ := hx
  intro H locs ls hP hD hS h
  refine va_iald (D := g'.1) hx hb hK hP i 0 ha rfl (iZ_in h0 h1 h2) hd ?_
  rw [iZ_clamp ⟨by omega, by omega⟩, hv]
  exact kk H locs ls hP hD hS h
theorem V_iast (hx : FX x l R g nL cc own) {a N : Nat} {f : Nat → Int32} {z v : Int} (h0 : 0 ≤ z) (h1 : z < N) (h2 : N < 2147483648) (i : Nat) (ha : ws[i]? = some (a, .inl (g.2.1, N, .inl f))) (ws' : va_W) (hw : ws.set i (a, .inl (g.2.1, N, .inl (upd f z.toNat (iZ v)))) = ws') (hd : decode cc pc = .ok (.iastore, 1)) (kk : V x k n ws' (pc + 1) lv st) : V x k n ws pc lv (.int (iZ v) :: .int (iZ z) :: .ref a :: st) := by
  subst hw
  obtain ⟨p, l', e, R', s, m, args, below, meth, c, g', nL', A, H0, Q⟩ := x
  obtain ⟨rfl, rfl, rfl, rfl, hx, hb, hml, hown, hts, hK, hlk, hA⟩ := hx
  intro H locs ls hP hD hS h
  refine va_iast (D := g'.1) hx hb hK hP hD hS i 0 ha rfl (iZ_in h0 h1 h2) hd (fun H1 locs1 hP1 hD1 hS1 => ?_)
  rw [iZ_clamp ⟨by omega, by omega⟩] at hP1 hD1
  exact kk H1 locs1 ls hP1 hD1 hS1 h
theorem V_aald (hx : FX x l R g nL cc own) {a N : Nat} {f : Nat → Option Nat} {z : Int} (h0 : 0 ≤ z) (h1 : z < N) (h2 : N < 2147483648) (i : Nat) (ha : ws[i]? = some (a, .inl (g.2.2.1, N, .inr (.inr (.inr (.inr f)))))) {r : Nat} (hv : f z.toNat = some r) (hd : decode cc pc = .ok (.aaload, 1)) (kk : V x k n ws (pc + 1) lv (.ref r :: st)) : V x k n ws pc lv (.int (iZ z) :: .ref a :: st) := by
  obtain ⟨p, l', e, R', s, m, args, below, meth, c, g', nL', A, H0, Q⟩ := x
  obtain ⟨rfl, rfl, rfl, rfl, hx, hb, hml, hown, hts, hK, hlk, hA⟩ := hx
  intro H locs ls hP hD hS h
  refine va_aldq (D := g'.1) hx hb hK hP i 1 ha rfl (iZ_in h0 h1 h2) hd ?_
  rw [iZ_clamp ⟨by omega, by omega⟩, hv]
  exact kk H locs ls hP hD hS h
theorem V_alen (hx : FX x l R g nL cc own) {a : Nat} {y : vp_A} (i : Nat) (ha : ws[i]? = some (a, .inl (g.2.1, y))) {v : Int} (hv : (y.1 : Int) = v) (hd : decode cc pc = .ok (.arraylength, 1)) (kk : V x k n ws (pc + 1) lv (.int (iZ v) :: st)) : V x k n ws pc lv (.ref a :: st) := by
  subst hv
  obtain ⟨p, l', e, R', s, m, args, below, meth, c, g', nL', A, H0, Q⟩ := x
  obtain ⟨rfl, rfl, rfl, rfl, hx, hb, hml, hown, hts, hK, hlk, hA⟩ := hx
  intro H locs ls hP hD hS h
  exact va_alen (D := g'.1) hx hb hK hP i 0 ha rfl (v := iZ (y.1 : Int)) rfl hd (kk H locs ls hP hD hS h)
theorem V_iincN (hx : FX x l R g nL cc own) {i a : Nat} (hd : decode cc pc = .ok (.iinc i 1, 3)) (j : Nat) (hk : lv[j]? = some (i, .int (iZ (a : Int)))) (lv' : List (Nat × Value)) (hn : i < nL) (hl : (i, Value.int (iZ ((a + 1 : Nat) : Int))) :: lv.filter (fun q => !(q.1 == i) && !(q.1 + 1 == i && q.2.category == 2)) = lv') (kk : V x k n ws (pc + 3) lv' st) : V x k n ws pc lv st := V_iinc hx hd j hk lv' hn (by rw [← hl]; rfl) kk
theorem V_ifb_eq (hx : FX x l R g nL cc own) {c : Prop} {off : Int} (hd : decode cc pc = .ok (.ifCond .eq off, 3)) (tgt : Nat) (ht : (pc : Int) + off = (tgt : Int)) (k1 : ¬ c → V x k n ws tgt lv st) (k2 : c → V x k n ws (pc + 3) lv st) : V x k n ws pc lv (.int (iZ (bz c)) :: st) := V_if_eq hx hd tgt ht (rg_bz c) (fun h => k1 (fun hc => by rw [bz_t hc] at h; exact absurd h (by decide))) (fun h => k2 (Classical.byContradiction (fun hc => h (bz_f hc))))
theorem V_ifb_ne (hx : FX x l R g nL cc own) {c : Prop} {off : Int} (hd : decode cc pc = .ok (.ifCond .ne off, 3)) (tgt : Nat) (ht : (pc : Int) + off = (tgt : Int)) (k1 : c → V x k n ws tgt lv st) (k2 : ¬ c → V x k n ws (pc + 3) lv st) : V x k n ws pc lv (.int (iZ (bz c)) :: st) := V_if_ne hx hd tgt ht (rg_bz c) (fun h => k1 (Classical.byContradiction (fun hc => h (bz_f hc)))) (fun h => k2 (fun hc => by rw [bz_t hc] at h; exact absurd h (by decide)))
theorem V_tabIn (hx : FX x l R g nL cc own) {dflt lo hi : Int} {offs : Array Int} {len : Nat} {a : Int} {off : Int} (hd : decode cc pc = .ok (.tableswitch dflt lo hi offs, len)) (ha : rg a) (h1 : lo ≤ a) (h2 : a ≤ hi) (ho : offs[(a - lo).toNat]? = some off) (tgt : Nat) (ht : (pc : Int) + off = (tgt : Int)) (kk : V x k n ws tgt lv st) : V x k n ws pc lv (.int (iZ a) :: st) := by
  have ha9 := iZ_toInt ha
  obtain ⟨p, l', e, R', s, m, args, below, meth, c, g', nL', A, H0, Q⟩ := x
  obtain ⟨rfl, rfl, rfl, rfl, hx, hb, hml, hown, hts, hK, hlk, hA⟩ := hx
  intro H locs ls hP hD hS h
  exact lv_tableIn hx hb hd (by rw [ha9]; omega) (by rw [ha9]; omega) (by rw [ha9]; exact ho) ht (kk H locs ls hP hD hS h)
theorem V_tabOut (hx : FX x l R g nL cc own) {dflt lo hi : Int} {offs : Array Int} {len : Nat} {a : Int} (hd : decode cc pc = .ok (.tableswitch dflt lo hi offs, len)) (ha : rg a) (h1 : a < lo ∨ hi < a) (tgt : Nat) (ht : (pc : Int) + dflt = (tgt : Int)) (kk : V x k n ws tgt lv st) : V x k n ws pc lv (.int (iZ a) :: st) := by
  have ha9 := iZ_toInt ha
  obtain ⟨p, l', e, R', s, m, args, below, meth, c, g', nL', A, H0, Q⟩ := x
  obtain ⟨rfl, rfl, rfl, rfl, hx, hb, hml, hown, hts, hK, hlk, hA⟩ := hx
  intro H locs ls hP hD hS h
  exact lv_tableOut hx hb hd (by rw [ha9]; exact h1) ht (kk H locs ls hP hD hS h)
theorem V_lookup (hx : FX x l R g nL cc own) {dflt : Int} {ps : Array (Int × Int)} {len : Nat} {a off : Int} (hd : decode cc pc = .ok (.lookupswitch dflt ps, len)) (hp : (ps.toList.zip (ps.toList.drop 1)).all (fun (a, next) => a.1 < next.1) = true) (ha : rg a) (ho : Op.lookupswitch.offset ps.toList dflt a = off) (tgt : Nat) (ht : (pc : Int) + off = (tgt : Int)) (kk : V x k n ws tgt lv st) : V x k n ws pc lv (.int (iZ a) :: st) := by
  have ha9 := iZ_toInt ha
  obtain ⟨p, l', e, R', s, m, args, below, meth, c, g', nL', A, H0, Q⟩ := x
  obtain ⟨rfl, rfl, rfl, rfl, hx, hb, hml, hown, hts, hK, hlk, hA⟩ := hx
  intro H locs ls hP hD hS h
  exact lv_lookup hx hb hd hp (by rw [ha9]; exact ho) ht (kk H locs ls hP hD hS h)
theorem V_widen {k' n' : Nat} (h1 : k ≤ k') (h2 : n ≤ n') (kk : V x k' n' ws pc lv st) : V x k n ws pc lv st := by
  obtain ⟨p, l', e, R', s, m, args, below, meth, c, g', nL', A, H0, Q⟩ := x
  intro H locs ls hP hD hS h
  exact W.widen h1 h2 (kk H locs ls hP hD hS h)
theorem V_lv {lv' : List (Nat × Value)} (h : lv = lv') (kk : V x k n ws pc lv' st) : V x k n ws pc lv st := by rw [h]; exact kk
theorem V_sub {lv' : List (Nat × Value)} (is : List Nat) (h9 : lv_pick lv is = lv') (kk : V x k n ws pc lv' st) : V x k n ws pc lv st := by
  obtain ⟨p, l', e, R', s, m, args, below, meth, c, g', nL', A, H0, Q⟩ := x
  intro H locs ls hP hD hS h
  exact kk H locs ls hP hD hS (lv_sub h is h9)
end VH
/-! contracts -/
def K0 (g : GT) (as : List Value) (sz : Nat) (ws : va_W) : Array Value → State → Prop := va_Pc as (fun U => U.heap.size = sz ∧ TB U ∧ va_P g.1 vwCl ws U.heap ∧ va_K g.1 vwCl (tyl g) U ∧ va_D (fun _ => True) ws)
def KB (g : GT) (ws : va_W) (sz : Nat) : va_W → State → Prop := fun ws' t => va_P g.1 vwCl ws' t.heap ∧ va_D (va_A ws sz) ws'
def MI (l : Launch) (y : MethodName) (cc : ByteArray) (maxL : Nat) (ty : FieldType) (rm : Room) (g : GT) (as : List Value) (ws : va_W) (post : Int → va_W → Prop) : Prop :=
  ∀ sz, Met l y [.code y cc maxL (some ty)] rm (K0 g as sz ws) (va_Qi (fun r ws' => ∃ z, r = iZ z ∧ post z ws') (KB g ws sz) (va_A ws sz)) rm.cells rm.slots (va_A ws sz)
def MV (l : Launch) (y : MethodName) (cc : ByteArray) (maxL : Nat) (rm : Room) (g : GT) (as : List Value) (ws : va_W) (post : va_W → Prop) : Prop :=
  ∀ sz, Met l y [.code y cc maxL none] rm (K0 g as sz ws) (va_Qv post (KB g ws sz) (va_A ws sz)) rm.cells rm.slots (va_A ws sz)
def ML (l : Launch) (y : MethodName) (cc : ByteArray) (maxL : Nat) (rm : Room) (g : GT) (as : List Value) (ws : va_W) (post : Int64 → va_W → Prop) : Prop :=
  ∀ sz, Met l y [.code y cc maxL (some .long)] rm (K0 g as sz ws) (va_Ql post (KB g ws sz) (va_A ws sz)) rm.cells rm.slots (va_A ws sz)
theorem K0_blind {g : GT} {as : List Value} {sz : Nat} {ws : va_W} : FrameBlind (K0 g as sz ws) := by
  intro a U gg mk h
  obtain ⟨h1, h2, h3, h4, h5, h6⟩ := h
  exact ⟨h1, h2, TB.same (s := U) (U := U.calling gg mk a) rfl h3, h4, va_K.moved (u := U) (U := U.calling gg mk a) (Vm.Alike.refl U.vm) h5, h6⟩
/-- an int's end -/
theorem MI.of {own : String} {l : Launch} {y : MethodName} {cc : ByteArray} {maxL : Nat} {ty : FieldType} {rm : Room} {g : GT} {as : List Value} {ws : va_W} {post : Int → va_W → Prop} (hy : plainName y.cls = true) (ho : y.cls = own) (hL : (lg_sl as).length ≤ maxL)
    (body : ∀ x : CT, FX x l rm g maxL cc own → (∀ (pc : Nat) (lv : List (Nat × Value)) (z : Int) (ws' : va_W), decode cc pc = .ok (.ireturn, 1) → narrow ty (.int (iZ z)) = .int (iZ z) → post z ws' → V x rm.cells rm.slots ws' pc lv [.int (iZ z)]) → V x 0 0 ws 0 (lv_args 0 as) []) : MI l y cc maxL ty rm g as ws post := by
  subst ho
  intro sz
  refine Met.ofW (cc := cc) (maxL := maxL) (ret := some ty) hy rfl ?_
  intro p e s m args below meth c s₁ B hml hv
  obtain ⟨rfl, hsz, hT, hP, hK, hD0⟩ := hv
  subst hsz
  have hx := B.exec
  have hb := B.bytes
  have hr := B.returns
  have hown : s.vm.findClass y.cls = some m.cls := findClass_of_methodNamed B.named
  have hlocks := B.notSynchronized
  have hD := hD0.self (sz := s.heap.size)
  have hS : va_S (va_A ws s.heap.size) s.heap s.heap [] := va_S.rf
  have hl := lv_entry as (n := maxL) hL
  rw [lg_entry_eq]
  refine body (p, l, e, (headSpec [.code y cc maxL (some ty)] rm).room, s, m, as.toArray, below, meth, c, g, maxL, va_A ws s.heap.size, s.heap, _) ⟨rfl, rfl, rfl, rfl, hx, hb, hml, hown, hT, hK, hlocks, fun q h => Or.inr h⟩ ?_ s.heap [] _ hP hD hS hl
  intro pc lv z ws' hd hn hp H locs ls hP hD hS h
  exact W.zret hx hb hr hn (fun t ht hW => ⟨⟨iZ z, ws', rfl, ⟨z, rfl, hp⟩, by rw [ht]; exact hP, hD⟩, hS.F ht⟩) hS.2.2 hd hlocks
theorem MV.of {own : String} {l : Launch} {y : MethodName} {cc : ByteArray} {maxL : Nat} {rm : Room} {g : GT} {as : List Value} {ws : va_W} {post : va_W → Prop} (hy : plainName y.cls = true) (ho : y.cls = own) (hL : (lg_sl as).length ≤ maxL)
    (body : ∀ x : CT, FX x l rm g maxL cc own → (∀ (pc : Nat) (lv : List (Nat × Value)) (ws' : va_W), decode cc pc = .ok (.return_, 1) → post ws' → V x rm.cells rm.slots ws' pc lv []) → V x 0 0 ws 0 (lv_args 0 as) []) : MV l y cc maxL rm g as ws post := by
  subst ho
  intro sz
  refine Met.ofW (cc := cc) (maxL := maxL) (ret := none) hy rfl ?_
  intro p e s m args below meth c s₁ B hml hv
  obtain ⟨rfl, hsz, hT, hP, hK, hD0⟩ := hv
  subst hsz
  have hx := B.exec
  have hb := B.bytes
  have hr := B.returns
  have hown : s.vm.findClass y.cls = some m.cls := findClass_of_methodNamed B.named
  have hlocks := B.notSynchronized
  have hD := hD0.self (sz := s.heap.size)
  have hS : va_S (va_A ws s.heap.size) s.heap s.heap [] := va_S.rf
  have hl := lv_entry as (n := maxL) hL
  rw [lg_entry_eq]
  refine body (p, l, e, (headSpec [.code y cc maxL none] rm).room, s, m, as.toArray, below, meth, c, g, maxL, va_A ws s.heap.size, s.heap, _) ⟨rfl, rfl, rfl, rfl, hx, hb, hml, hown, hT, hK, hlocks, fun q h => Or.inr h⟩ ?_ s.heap [] _ hP hD hS hl
  intro pc lv ws' hd hp H locs ls hP hD hS h
  exact W.vret hx hb hr (fun t ht hW => ⟨⟨ws', rfl, hp, by rw [ht]; exact hP, hD⟩, hS.F ht⟩) hS.2.2 hd hlocks
theorem ML.of {own : String} {l : Launch} {y : MethodName} {cc : ByteArray} {maxL : Nat} {rm : Room} {g : GT} {as : List Value} {ws : va_W} {post : Int64 → va_W → Prop} (hy : plainName y.cls = true) (ho : y.cls = own) (hL : (lg_sl as).length ≤ maxL)
    (body : ∀ x : CT, FX x l rm g maxL cc own → (∀ (pc : Nat) (lv : List (Nat × Value)) (z : Int64) (ws' : va_W), decode cc pc = .ok (.lreturn, 1) → post z ws' → V x rm.cells rm.slots ws' pc lv [.long z]) → V x 0 0 ws 0 (lv_args 0 as) []) : ML l y cc maxL rm g as ws post := by
  subst ho
  intro sz
  refine Met.ofW (cc := cc) (maxL := maxL) (ret := some .long) hy rfl ?_
  intro p e s m args below meth c s₁ B hml hv
  obtain ⟨rfl, hsz, hT, hP, hK, hD0⟩ := hv
  subst hsz
  have hx := B.exec
  have hb := B.bytes
  have hr := B.returns
  have hown : s.vm.findClass y.cls = some m.cls := findClass_of_methodNamed B.named
  have hlocks := B.notSynchronized
  have hD := hD0.self (sz := s.heap.size)
  have hS : va_S (va_A ws s.heap.size) s.heap s.heap [] := va_S.rf
  have hl := lv_entry as (n := maxL) hL
  rw [lg_entry_eq]
  refine body (p, l, e, (headSpec [.code y cc maxL (some .long)] rm).room, s, m, as.toArray, below, meth, c, g, maxL, va_A ws s.heap.size, s.heap, _) ⟨rfl, rfl, rfl, rfl, hx, hb, hml, hown, hT, hK, hlocks, fun q h => Or.inr h⟩ ?_ s.heap [] _ hP hD hS hl
  intro pc lv z ws' hd hp H locs ls hP hD hS h
  exact W.lret hx hb hr (fun t ht hW => ⟨⟨z, ws', rfl, hp, by rw [ht]; exact hP, hD⟩, hS.F ht⟩) hS.2.2 hd hlocks
/-! calls -/
def CWD (own : String) (index : Nat) (y : MethodName) (bytes : ByteArray) (maxL : Nat) (ret : Option FieldType) (np : Nat) : Prop :=
  Cond.methodLink own index y ∈ tbl ∧ Cond.instanceMethod y ∈ tbl ∧ Cond.selects y.cls y y ∈ tbl ∧ Cond.code y bytes maxL ret ∈ tbl ∧ Cond.initialized y.cls ∈ tbl ∧ (y.cls ≠ "java/lang/invoke/MethodHandle" ∧ y.cls ≠ "java/lang/invoke/VarHandle") ∧ (parseMethodDescriptor y.desc).map (fun d => d.parameters.length) = some np
def CND (own : String) (index : Nat) (y : MethodName) (host : String) (bytes : ByteArray) (maxL : Nat) (ret : Option FieldType) (np : Nat) : Prop :=
  Cond.methodLinkNest own index y host ∈ tbl ∧ Cond.instanceMethod y ∈ tbl ∧ Cond.selects y.cls y y ∈ tbl ∧ Cond.code y bytes maxL ret ∈ tbl ∧ Cond.initialized y.cls ∈ tbl ∧ (y.cls ≠ "java/lang/invoke/MethodHandle" ∧ y.cls ≠ "java/lang/invoke/VarHandle") ∧ (parseMethodDescriptor y.desc).map (fun d => d.parameters.length) = some np
def CSD (own : String) (index : Nat) (y : MethodName) (bytes : ByteArray) (maxL : Nat) (ret : Option FieldType) (np : Nat) : Prop :=
  Cond.methodLink own index y ∈ tbl ∧ Cond.static y ∈ tbl ∧ Cond.code y bytes maxL ret ∈ tbl ∧ Cond.initialized y.cls ∈ tbl ∧ (y.cls ≠ "java/lang/invoke/MethodHandle" ∧ y.cls ≠ "java/lang/invoke/VarHandle") ∧ (parseMethodDescriptor y.desc).map (fun d => d.parameters.length) = some np
/-- a callee's room in the caller's -/
def RM (R rm : Room) (maxL k n : Nat) : Prop := rm.frames + 1 ≤ R.frames ∧ 8 + (maxL + 11) + rm.locals ≤ R.locals ∧ k + rm.cells ≤ R.cells ∧ n + rm.slots ≤ R.slots
theorem tb_pay {s : State} (h : TB s) {w : Cond} (hw : w ∈ tbl) (a : Array Value) (U : State) (hW : s.WarmedH U.vm) : w.before a U = true := TB.warm hW h a w hw
theorem cwd_of {R : Room} {s : State} {args : Array Value} {own : String} {index : Nat} {y : MethodName} {bytes : ByteArray} {maxL : Nat} {ret : Option FieldType} {rm : Room} {np k n : Nat} (hT : TB s) (h : CWD own index y bytes maxL ret np) (hR : RM R rm maxL k n) : CallW R s args own y.cls index y bytes maxL ret [.code y bytes maxL ret] rm rm.cells rm.slots np := by
  obtain ⟨h1, h2, h3, h4, h5, h6, h7⟩ := h
  refine ⟨⟨rfl, rfl, hR.1, hR.2.1, fun w hw a U hW => ?_, List.mem_cons_self, hT _ _ h4, hT _ _ h5, h6, fun sig hs => ?_, hT _ _ h1⟩, hT _ _ h2, hT _ _ h3⟩
  · rw [List.mem_singleton.mp hw]; exact tb_pay hT h4 a U hW
  · rw [hs] at h7; exact (Option.some.inj h7).symm
theorem cnd_of {R : Room} {s : State} {args : Array Value} {own host : String} {index : Nat} {y : MethodName} {bytes : ByteArray} {maxL : Nat} {ret : Option FieldType} {rm : Room} {np k n : Nat} (hT : TB s) (h : CND own index y host bytes maxL ret np) (hR : RM R rm maxL k n) : va_CN R s args own index y host bytes maxL ret [.code y bytes maxL ret] rm rm.cells rm.slots np ∧ (Cond.instanceMethod y).before args s = true ∧ (Cond.selects y.cls y y).before args s = true := by
  obtain ⟨h1, h2, h3, h4, h5, h6, h7⟩ := h
  refine ⟨⟨⟨rfl, rfl, hR.1, hR.2.1, fun w hw a U hW => ?_, List.mem_cons_self⟩, hT _ _ h4, hT _ _ h5, h6, fun sig hs => ?_, hT _ _ h1⟩, hT _ _ h2, hT _ _ h3⟩
  · rw [List.mem_singleton.mp hw]; exact tb_pay hT h4 a U hW
  · rw [hs] at h7; exact (Option.some.inj h7).symm
theorem csd_of {R : Room} {s : State} {args : Array Value} {own : String} {index : Nat} {y : MethodName} {bytes : ByteArray} {maxL : Nat} {ret : Option FieldType} {rm : Room} {np k n : Nat} (hT : TB s) (h : CSD own index y bytes maxL ret np) (hR : RM R rm maxL k n) : CallB R s args own index y bytes maxL ret [.code y bytes maxL ret] rm rm.cells rm.slots np ∧ (Cond.static y).before args s = true := by
  obtain ⟨h1, h2, h4, h5, h6, h7⟩ := h
  refine ⟨⟨rfl, rfl, hR.1, hR.2.1, fun w hw a U hW => ?_, List.mem_cons_self, hT _ _ h4, hT _ _ h5, h6, fun sig hs => ?_, hT _ _ h1⟩, hT _ _ h2⟩
  · rw [List.mem_singleton.mp hw]; exact tb_pay hT h4 a U hW
  · rw [hs] at h7; exact (Option.some.inj h7).symm
theorem va_A_of {A : Nat → Prop} {ws : va_W} {H0 H : Heap} {locs : List Loc} (hD : va_D A ws) (hS : va_S A H0 H locs) (hA : ∀ q, H0.size ≤ q → A q) : ∀ q, va_A ws H.size q → A q := by
  intro q h
  rcases h with ⟨k, e, h⟩ | h
  · exact hD.2 k _ h
  · exact hA q (Nat.le_trans hS.1 h)
theorem K0_at {g : GT} {as : List Value} {ws : va_W} {A : Nat → Prop} {s : State} {H : Heap} (hT : TB s) (hK : va_K g.1 vwCl (tyl g) s) (hP : va_P g.1 vwCl ws H) (hD : va_D A ws) : ∀ U : State, U.heap = H → s.WarmedH U.vm → K0 g as H.size ws as.toArray U :=
  fun U hU hW => ⟨rfl, by rw [hU], TB.warm hW hT, by rw [hU]; exact hP, va_K.moved hW.alike hK, hD.weaken (fun _ _ _ _ => trivial)⟩
section VC
variable {x : CT} {l : Launch} {R : Room} {g : GT} {nL : Nat} {cc : ByteArray} {own : String} {k n : Nat} {ws : va_W} {pc : Nat} {lv : List (Nat × Value)} {st0 st : List Value}
variable {y : MethodName} {bytes : ByteArray} {maxL index np : Nat} {ty : FieldType} {rm : Room} {as : List Value} {b : Nat}
theorem V_recv {s : State} (hK : va_K g.1 vwCl (tyl g) s) {H : Heap} (hP : va_P g.1 vwCl ws H) {ci N : Nat} {T : u_T} {C : String} {fs : List Value} (hc : vwCl[ci]? = some (C, T, N)) (i : Nat) (he : ws[i]? = some (b, .inr (ci, fs))) : ∃ cell : Cell, H[b]? = some cell ∧ cell.vm.isStatics = false ∧ s.vm.findClass C = some cell.cls := va_recv hK hP hc he
theorem V_calli {post : Int → va_W → Prop} (hx : FX x l R g nL cc own) (hM : MI l y bytes maxL ty rm g (.ref b :: as) ws post) (cw : CWD own index y bytes maxL (some ty) np) (hR : RM R rm maxL k n) {ci N : Nat} {T : u_T} {fs : List Value} (hc : vwCl[ci]? = some (y.cls, T, N)) (i : Nat) (he : ws[i]? = some (b, .inr (ci, fs)))
    (hst : st0 = as.reverse ++ .ref b :: st) (hn : as.length = np) (hcat : (st.map fun v => v.category).sum ≤ 8) (hd : decode cc pc = .ok (.invokevirtual index, 3)) (k' n' : Nat) (hk' : k + rm.cells = k') (hn' : n + rm.slots = n') (kk : ∀ (z : Int) (ws' : va_W), post z ws' → V x k' n' ws' (pc + 3) lv (.int (iZ z) :: st)) : V x k n ws pc lv st0 := by
  subst hk' hn'
  obtain ⟨p, l', e, R', s, m, args, below, meth, c, g', nL', A, H0, Q⟩ := x
  obtain ⟨rfl, rfl, rfl, rfl, hx, hb, hml, hown, hts, hK, hlk, hA⟩ := hx
  intro H locs ls hP hD hS h
  have hF := va_A_of hD hS hA
  refine va_calli (va_runV (As := as) (rest := st) (Ts := []) ⟨hx, hb, hml, hown, fun _ h => by cases h⟩ (hM H.size) (cwd_of hts cw hR) ⟨K0_blind, V_recv hK hP hc i he, K0_at hts hK hP hD⟩ rfl hn h.1 hst (lv_room hcat) hd hR.2.2) hS (fun q _ h => hF q h) hF (fun r ws' t H1 locs1 ht hvm hw hB hz1 hk1 hS1 => ?_)
  obtain ⟨z, rfl, hw⟩ := hw
  exact kk z ws' hw H1 locs1 ls (ht ▸ hB.1) (hB.2.weaken (fun _ q _ h => hF q.1 h)) hS1 h
theorem V_callv {post : va_W → Prop} (hx : FX x l R g nL cc own) (hM : MV l y bytes maxL rm g (.ref b :: as) ws post) (cw : CWD own index y bytes maxL none np) (hR : RM R rm maxL k n) {ci N : Nat} {T : u_T} {fs : List Value} (hc : vwCl[ci]? = some (y.cls, T, N)) (i : Nat) (he : ws[i]? = some (b, .inr (ci, fs)))
    (hst : st0 = as.reverse ++ .ref b :: st) (hn : as.length = np) (hcat : (st.map fun v => v.category).sum ≤ 8) (hd : decode cc pc = .ok (.invokevirtual index, 3)) (k' n' : Nat) (hk' : k + rm.cells = k') (hn' : n + rm.slots = n') (kk : ∀ (ws' : va_W), post ws' → V x k' n' ws' (pc + 3) lv st) : V x k n ws pc lv st0 := by
  subst hk' hn'
  obtain ⟨p, l', e, R', s, m, args, below, meth, c, g', nL', A, H0, Q⟩ := x
  obtain ⟨rfl, rfl, rfl, rfl, hx, hb, hml, hown, hts, hK, hlk, hA⟩ := hx
  intro H locs ls hP hD hS h
  have hF := va_A_of hD hS hA
  refine va_callv (va_runV (As := as) (rest := st) (Ts := []) ⟨hx, hb, hml, hown, fun _ h => by cases h⟩ (hM H.size) (cwd_of hts cw hR) ⟨K0_blind, V_recv hK hP hc i he, K0_at hts hK hP hD⟩ rfl hn h.1 hst (lv_room hcat) hd hR.2.2) hS (fun q _ h => hF q h) hF (fun ws' t H1 locs1 ht hvm hw hB hz1 hk1 hS1 => ?_)
  exact kk ws' hw H1 locs1 ls (ht ▸ hB.1) (hB.2.weaken (fun _ q _ h => hF q.1 h)) hS1 h
theorem V_calll {post : Int64 → va_W → Prop} (hx : FX x l R g nL cc own) (hM : ML l y bytes maxL rm g (.ref b :: as) ws post) (cw : CWD own index y bytes maxL (some .long) np) (hR : RM R rm maxL k n) {ci N : Nat} {T : u_T} {fs : List Value} (hc : vwCl[ci]? = some (y.cls, T, N)) (i : Nat) (he : ws[i]? = some (b, .inr (ci, fs)))
    (hst : st0 = as.reverse ++ .ref b :: st) (hn : as.length = np) (hcat : (st.map fun v => v.category).sum ≤ 8) (hd : decode cc pc = .ok (.invokevirtual index, 3)) (k' n' : Nat) (hk' : k + rm.cells = k') (hn' : n + rm.slots = n') (kk : ∀ (z : Int64) (ws' : va_W), post z ws' → V x k' n' ws' (pc + 3) lv (.long z :: st)) : V x k n ws pc lv st0 := by
  subst hk' hn'
  obtain ⟨p, l', e, R', s, m, args, below, meth, c, g', nL', A, H0, Q⟩ := x
  obtain ⟨rfl, rfl, rfl, rfl, hx, hb, hml, hown, hts, hK, hlk, hA⟩ := hx
  intro H locs ls hP hD hS h
  have hF := va_A_of hD hS hA
  refine va_calll (va_runV (As := as) (rest := st) (Ts := []) ⟨hx, hb, hml, hown, fun _ h => by cases h⟩ (hM H.size) (cwd_of hts cw hR) ⟨K0_blind, V_recv hK hP hc i he, K0_at hts hK hP hD⟩ rfl hn h.1 hst (lv_room hcat) hd hR.2.2) hS (fun q _ h => hF q h) hF (fun r ws' t H1 locs1 ht hvm hw hB hz1 hk1 hS1 => ?_)
  exact kk r ws' hw H1 locs1 ls (ht ▸ hB.1) (hB.2.weaken (fun _ q _ h => hF q.1 h)) hS1 h
theorem V_callNi {host : String} {post : Int → va_W → Prop} (hx : FX x l R g nL cc own) (hM : MI l y bytes maxL ty rm g (.ref b :: as) ws post) (cw : CND own index y host bytes maxL (some ty) np) (hR : RM R rm maxL k n) {ci N : Nat} {T : u_T} {fs : List Value} (hc : vwCl[ci]? = some (y.cls, T, N)) (i : Nat) (he : ws[i]? = some (b, .inr (ci, fs)))
    (hst : st0 = as.reverse ++ .ref b :: st) (hn : as.length = np) (hcat : (st.map fun v => v.category).sum ≤ 8) (hd : decode cc pc = .ok (.invokevirtual index, 3)) (k' n' : Nat) (hk' : k + rm.cells = k') (hn' : n + rm.slots = n') (kk : ∀ (z : Int) (ws' : va_W), post z ws' → V x k' n' ws' (pc + 3) lv (.int (iZ z) :: st)) : V x k n ws pc lv st0 := by
  subst hk' hn'
  obtain ⟨p, l', e, R', s, m, args, below, meth, c, g', nL', A, H0, Q⟩ := x
  obtain ⟨rfl, rfl, rfl, rfl, hx, hb, hml, hown, hts, hK, hlk, hA⟩ := hx
  intro H locs ls hP hD hS h
  have hF := va_A_of hD hS hA
  refine va_calli (va_runVN (As := as) (rest := st) (Ts := []) ⟨hx, hb, hml, hown, fun _ h => by cases h⟩ (hM H.size) (cnd_of hts cw hR) ⟨K0_blind, V_recv hK hP hc i he, K0_at hts hK hP hD⟩ rfl hn h.1 hst (lv_room hcat) hd hR.2.2) hS (fun q _ h => hF q h) hF (fun r ws' t H1 locs1 ht hvm hw hB hz1 hk1 hS1 => ?_)
  obtain ⟨z, rfl, hw⟩ := hw
  exact kk z ws' hw H1 locs1 ls (ht ▸ hB.1) (hB.2.weaken (fun _ q _ h => hF q.1 h)) hS1 h
theorem V_callNv {host : String} {post : va_W → Prop} (hx : FX x l R g nL cc own) (hM : MV l y bytes maxL rm g (.ref b :: as) ws post) (cw : CND own index y host bytes maxL none np) (hR : RM R rm maxL k n) {ci N : Nat} {T : u_T} {fs : List Value} (hc : vwCl[ci]? = some (y.cls, T, N)) (i : Nat) (he : ws[i]? = some (b, .inr (ci, fs)))
    (hst : st0 = as.reverse ++ .ref b :: st) (hn : as.length = np) (hcat : (st.map fun v => v.category).sum ≤ 8) (hd : decode cc pc = .ok (.invokevirtual index, 3)) (k' n' : Nat) (hk' : k + rm.cells = k') (hn' : n + rm.slots = n') (kk : ∀ (ws' : va_W), post ws' → V x k' n' ws' (pc + 3) lv st) : V x k n ws pc lv st0 := by
  subst hk' hn'
  obtain ⟨p, l', e, R', s, m, args, below, meth, c, g', nL', A, H0, Q⟩ := x
  obtain ⟨rfl, rfl, rfl, rfl, hx, hb, hml, hown, hts, hK, hlk, hA⟩ := hx
  intro H locs ls hP hD hS h
  have hF := va_A_of hD hS hA
  refine va_callv (va_runVN (As := as) (rest := st) (Ts := []) ⟨hx, hb, hml, hown, fun _ h => by cases h⟩ (hM H.size) (cnd_of hts cw hR) ⟨K0_blind, V_recv hK hP hc i he, K0_at hts hK hP hD⟩ rfl hn h.1 hst (lv_room hcat) hd hR.2.2) hS (fun q _ h => hF q h) hF (fun ws' t H1 locs1 ht hvm hw hB hz1 hk1 hS1 => ?_)
  exact kk ws' hw H1 locs1 ls (ht ▸ hB.1) (hB.2.weaken (fun _ q _ h => hF q.1 h)) hS1 h
theorem V_callSi {post : Int → va_W → Prop} (hx : FX x l R g nL cc own) (hM : MI l y bytes maxL ty rm g as ws post) (cw : CSD own index y bytes maxL (some ty) np) (hR : RM R rm maxL k n)
    (hst : st0 = as.reverse ++ st) (hn : as.length = np) (hcat : (st.map fun v => v.category).sum ≤ 8) (hd : decode cc pc = .ok (.invokestatic index, 3)) (k' n' : Nat) (hk' : k + rm.cells = k') (hn' : n + rm.slots = n') (kk : ∀ (z : Int) (ws' : va_W), post z ws' → V x k' n' ws' (pc + 3) lv (.int (iZ z) :: st)) : V x k n ws pc lv st0 := by
  subst hk' hn'
  obtain ⟨p, l', e, R', s, m, args, below, meth, c, g', nL', A, H0, Q⟩ := x
  obtain ⟨rfl, rfl, rfl, rfl, hx, hb, hml, hown, hts, hK, hlk, hA⟩ := hx
  intro H locs ls hP hD hS h
  have hF := va_A_of hD hS hA
  refine va_calli (va_runS (As := as) (rest := st) (Ts := []) ⟨hx, hb, hml, hown, fun _ h => by cases h⟩ (hM H.size) (csd_of hts cw hR) ⟨K0_blind, K0_at hts hK hP hD⟩ rfl hn h.1 hst (lv_room hcat) hd hR.2.2) hS (fun q _ h => hF q h) hF (fun r ws' t H1 locs1 ht hvm hw hB hz1 hk1 hS1 => ?_)
  obtain ⟨z, rfl, hw⟩ := hw
  exact kk z ws' hw H1 locs1 ls (ht ▸ hB.1) (hB.2.weaken (fun _ q _ h => hF q.1 h)) hS1 h
theorem V_callSv {post : va_W → Prop} (hx : FX x l R g nL cc own) (hM : MV l y bytes maxL rm g as ws post) (cw : CSD own index y bytes maxL none np) (hR : RM R rm maxL k n)
    (hst : st0 = as.reverse ++ st) (hn : as.length = np) (hcat : (st.map fun v => v.category).sum ≤ 8) (hd : decode cc pc = .ok (.invokestatic index, 3)) (k' n' : Nat) (hk' : k + rm.cells = k') (hn' : n + rm.slots = n') (kk : ∀ (ws' : va_W), post ws' → V x k' n' ws' (pc + 3) lv st) : V x k n ws pc lv st0 := by
  subst hk' hn'
  obtain ⟨p, l', e, R', s, m, args, below, meth, c, g', nL', A, H0, Q⟩ := x
  obtain ⟨rfl, rfl, rfl, rfl, hx, hb, hml, hown, hts, hK, hlk, hA⟩ := hx
  intro H locs ls hP hD hS h
  have hF := va_A_of hD hS hA
  refine va_callv (va_runS (As := as) (rest := st) (Ts := []) ⟨hx, hb, hml, hown, fun _ h => by cases h⟩ (hM H.size) (csd_of hts cw hR) ⟨K0_blind, K0_at hts hK hP hD⟩ rfl hn h.1 hst (lv_room hcat) hd hR.2.2) hS (fun q _ h => hF q h) hF (fun ws' t H1 locs1 ht hvm hw hB hz1 hk1 hS1 => ?_)
  exact kk ws' hw H1 locs1 ls (ht ▸ hB.1) (hB.2.weaken (fun _ q _ h => hF q.1 h)) hS1 h
end VC
