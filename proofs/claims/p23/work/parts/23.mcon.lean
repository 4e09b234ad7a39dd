/-! contracts over maps: references, ends at any count -/
def rmA (f k s : Nat) : Room := { frames := f, cells := k, slots := s, locals := 40 * f }
def MRf (l : Launch) (y : MethodName) (cc : ByteArray) (maxL : Nat) (ty : FieldType) (rm : Room) (g : GT) (as : List Value) (ws : va_W) (post : Option Nat → va_W → Prop) : Prop :=
  ∀ sz, Met l y [.code y cc maxL (some ty)] rm (K0 g as sz ws) (va_Qq post (KB g ws sz) (va_A ws sz)) rm.cells rm.slots (va_A ws sz)
theorem MI.ofk {own : String} {l : Launch} {y : MethodName} {cc : ByteArray} {maxL : Nat} {ty : FieldType} {rm : Room} {g : GT} {as : List Value} {ws : va_W} {post : Int → va_W → Prop} (hy : plainName y.cls = true) (ho : y.cls = own) (hL : (lg_sl as).length ≤ maxL)
    (body : ∀ x : CT, FX x l rm g maxL cc own → (∀ (pc k n : Nat) (lv : List (Nat × Value)) (z : Int) (ws' : va_W), decode cc pc = .ok (.ireturn, 1) → narrow ty (.int (iZ z)) = .int (iZ z) → k ≤ rm.cells → n ≤ rm.slots → post z ws' → V x k n ws' pc lv [.int (iZ z)]) → V x 0 0 ws 0 (lv_args 0 as) []) : MI l y cc maxL ty rm g as ws post :=
  MI.of hy ho hL (fun x hx hE => body x hx (fun pc k n lv z ws' hd hz hk hn hp => V_widen hk hn (hE pc lv z ws' hd hz hp)))
theorem MV.ofk {own : String} {l : Launch} {y : MethodName} {cc : ByteArray} {maxL : Nat} {rm : Room} {g : GT} {as : List Value} {ws : va_W} {post : va_W → Prop} (hy : plainName y.cls = true) (ho : y.cls = own) (hL : (lg_sl as).length ≤ maxL)
    (body : ∀ x : CT, FX x l rm g maxL cc own → (∀ (pc k n : Nat) (lv : List (Nat × Value)) (ws' : va_W), decode cc pc = .ok (.return_, 1) → k ≤ rm.cells → n ≤ rm.slots → post ws' → V x k n ws' pc lv []) → V x 0 0 ws 0 (lv_args 0 as) []) : MV l y cc maxL rm g as ws post :=
  MV.of hy ho hL (fun x hx hE => body x hx (fun pc k n lv ws' hd hk hn hp => V_widen hk hn (hE pc lv ws' hd hp)))
theorem MV.ofCk {own : String} {l : Launch} {y : MethodName} {cc : ByteArray} {maxL : Nat} {rm : Room} {g : GT} {as : List Value} {ws : va_W} {post : va_W → Prop} (hy : plainName y.cls = true) (hi : y.name = "<init>") (ho : y.cls = own) (hL : (lg_sl as).length ≤ maxL)
    (body : ∀ x : CT, FX x l rm g maxL cc own → FI x → (∀ (pc k n : Nat) (lv : List (Nat × Value)) (ws' : va_W), decode cc pc = .ok (.return_, 1) → k ≤ rm.cells → n ≤ rm.slots → post ws' → V x k n ws' pc lv []) → V x 0 0 ws 0 (lv_args 0 as) []) : MV l y cc maxL rm g as ws post :=
  MV.ofC hy hi ho hL (fun x hx hI hE => body x hx hI (fun pc k n lv ws' hd hk hn hp => V_widen hk hn (hE pc lv ws' hd hp)))
theorem MRf.ofk {own : String} {l : Launch} {y : MethodName} {cc : ByteArray} {maxL : Nat} {ty : FieldType} {rm : Room} {g : GT} {as : List Value} {ws : va_W} {post : Option Nat → va_W → Prop} (hy : plainName y.cls = true) (ho : y.cls = own) (hL : (lg_sl as).length ≤ maxL) (hrt : (∃ n, ty = .object n) ∨ ∃ t, ty = .array t)
    (body : ∀ x : CT, FX x l rm g maxL cc own → (∀ (pc k n : Nat) (lv : List (Nat × Value)) (r : Option Nat) (ws' : va_W), decode cc pc = .ok (.areturn, 1) → k ≤ rm.cells → n ≤ rm.slots → post r ws' → V x k n ws' pc lv [va_rf r]) → V x 0 0 ws 0 (lv_args 0 as) []) : MRf l y cc maxL ty rm g as ws post := by
  subst ho
  intro sz
  refine Met.ofW (cc := cc) (maxL := maxL) (ret := some ty) hy rfl ?_
  intro p e s m args below meth c s₁ B hml hv
  obtain ⟨rfl, hsz, hT, hP, hK, hD0⟩ := hv
  subst hsz
  have hx := B.exec
  have hb := B.bytes
  have hr := B.returns
  have hown : s.vm.findClass y.cls = some m.cls := findClass_of_methodNamed B.named
  have hlocks := B.notSynchronized
  have hD := hD0.self (sz := s.heap.size)
  have hS : va_S (va_A ws s.heap.size) s.heap s.heap [] := va_S.rf
  have hl := lv_entry as (n := maxL) hL
  rw [lg_entry_eq]
  refine body (p, l, e, (headSpec [.code y cc maxL (some ty)] rm).room, s, m, as.toArray, below, meth, c, g, maxL, va_A ws s.heap.size, s.heap, _) ⟨rfl, rfl, rfl, rfl, hx, hb, hml, hown, hT, hK, hlocks, fun q h => Or.inr h⟩ ?_ s.heap [] _ hP hD hS hl
  intro pc k n lv r ws' hd hk hn hp H locs ls hP hD hS h
  exact W.widen hk hn (W.aret hx hb hr hrt (va_rf_or r) (fun t ht hW => ⟨⟨r, ws', rfl, hp, by rw [ht]; exact hP, hD⟩, hS.F ht⟩) hS.2.2 hd hlocks)
section VCQ
variable {x : CT} {l : Launch} {R : Room} {g : GT} {nL : Nat} {cc : ByteArray} {own : String} {k n : Nat} {ws : va_W} {pc : Nat} {lv : List (Nat × Value)} {st0 st : List Value}
variable {y : MethodName} {bytes : ByteArray} {maxL index np : Nat} {ty : FieldType} {rm : Room} {as : List Value} {b : Nat}
theorem V_callSq {post : Option Nat → va_W → Prop} (hx : FX x l R g nL cc own) (hM : MRf l y bytes maxL ty rm g as ws post) (cw : CSD own index y bytes maxL (some ty) np) (hR : RM R rm maxL k n)
    (hst : st0 = as.reverse ++ st) (hn : as.length = np) (hcat : (st.map fun v => v.category).sum ≤ 8) (hd : decode cc pc = .ok (.invokestatic index, 3)) (k' n' : Nat) (hk' : k + rm.cells = k') (hn' : n + rm.slots = n') (kk : ∀ (r : Option Nat) (ws' : va_W), post r ws' → V x k' n' ws' (pc + 3) lv (va_rf r :: st)) : V x k n ws pc lv st0 := by
  subst hk' hn'
  obtain ⟨p, l', e, R', s, m, args, below, meth, c, g', nL', A, H0, Q⟩ := x
  obtain ⟨rfl, rfl, rfl, rfl, hx, hb, hml, hown, hts, hK, hlk, hA⟩ := hx
  intro H locs ls hP hD hS h
  have hF := va_A_of hD hS hA
  refine va_callq (va_runS (As := as) (rest := st) (Ts := []) ⟨hx, hb, hml, hown, fun _ h => by cases h⟩ (hM H.size) (csd_of hts cw hR) ⟨K0_blind, K0_at hts hK hP hD⟩ rfl hn h.1 hst (lv_room hcat) hd hR.2.2) hS (fun q _ h => hF q h) hF (fun r ws' t H1 locs1 ht hvm hw hB hz1 hk1 hS1 => ?_)
  exact kk r ws' hw H1 locs1 ls (ht ▸ hB.1) (hB.2.weaken (fun _ q _ h => hF q.1 h)) hS1 h
theorem RMa {R rm : Room} {maxL k n : Nat} (h1 : rm.frames + 1 ≤ R.frames) (h2 : 8 + (maxL + 11) + rm.locals ≤ R.locals) (h3 : k + rm.cells ≤ R.cells) (h4 : n + rm.slots ≤ R.slots) : RM R rm maxL k n := ⟨h1, h2, h3, h4⟩
/-- new cells, told of the map -/
theorem M_newa {M : MM} (hx : FX x l R g nL cc own) (hM : HM M ws) {z : Int} (r N : Nat) (hz : z = (N : Int)) (hN : N ≤ 1000) (hk : k + 1 ≤ R.cells) (hn : n + N ≤ R.slots) (hd : decode cc pc = .ok (.newarray .int, 2)) (kk : ∀ (q : Nat) (ws1 : va_W) (M1 : MM), HM M1 ws1 → M1 q = some (r, IA g N (fun _ => iZ 0)) → M q = none → (∀ b, b ≠ q → M1 b = M b) → KP ALL M M1 → V x (k + 1) (n + N) ws1 (pc + 2) lv (.ref q :: st)) : V x k n ws pc lv (.int (iZ z) :: st) :=
  V_newa hx N hz hN hk hn hd (fun q => V_nd (fun hnd => by
    obtain ⟨M1, a1, a2, a3, a4, a5⟩ := hM.push hnd r
    exact kk q _ M1 a1 a2 a3 a4 a5))
theorem M_newz {M : MM} (hx : FX x l R g nL cc own) (hM : HM M ws) {z : Int} (r N : Nat) (hz : z = (N : Int)) (hN : N ≤ 1000) (hk : k + 1 ≤ R.cells) (hn : n + N ≤ R.slots) (hd : decode cc pc = .ok (.newarray .boolean, 2)) (kk : ∀ (q : Nat) (ws1 : va_W) (M1 : MM), HM M1 ws1 → M1 q = some (r, ZA g N (fun _ => iZ 0)) → M q = none → (∀ b, b ≠ q → M1 b = M b) → KP ALL M M1 → V x (k + 1) (n + N) ws1 (pc + 2) lv (.ref q :: st)) : V x k n ws pc lv (.int (iZ z) :: st) :=
  V_newz hx N hz hN hk hn hd (fun q => V_nd (fun hnd => by
    obtain ⟨M1, a1, a2, a3, a4, a5⟩ := hM.push hnd r
    exact kk q _ M1 a1 a2 a3 a4 a5))
theorem M_newA {M : MM} (hx : FX x l R g nL cc own) (hM : HM M ws) {index : Nat} {z : Int} (r N : Nat) (hz : z = (N : Int)) (hN : N ≤ 100000) (h1 : Cond.classLink own index "[I" ∈ tbl) (hk : k + 1 ≤ R.cells) (hn : n + N ≤ R.slots) (hd : decode cc pc = .ok (.anewarray index, 3)) (kk : ∀ (q : Nat) (ws1 : va_W) (M1 : MM), HM M1 ws1 → M1 q = some (r, RA g N (fun _ => none)) → M q = none → (∀ b, b ≠ q → M1 b = M b) → KP ALL M M1 → V x (k + 1) (n + N) ws1 (pc + 3) lv (.ref q :: st)) : V x k n ws pc lv (.int (iZ z) :: st) :=
  V_newA hx N hz hN h1 hk hn hd (fun q => V_nd (fun hnd => by
    obtain ⟨M1, a1, a2, a3, a4, a5⟩ := hM.push hnd r
    exact kk q _ M1 a1 a2 a3 a4 a5))
theorem M_newL {M : MM} (hx : FX x l R g nL cc own) (hM : HM M ws) {index : Nat} {z : Int} (r N : Nat) (hz : z = (N : Int)) (hN : N ≤ 1000) (h1 : Cond.classLink own index RX3 ∈ tbl) (hk : k + 1 ≤ R.cells) (hn : n + N ≤ R.slots) (hd : decode cc pc = .ok (.anewarray index, 3)) (kk : ∀ (q : Nat) (ws1 : va_W) (M1 : MM), HM M1 ws1 → M1 q = some (r, LA g N (fun _ => none)) → M q = none → (∀ b, b ≠ q → M1 b = M b) → KP ALL M M1 → V x (k + 1) (n + N) ws1 (pc + 3) lv (.ref q :: st)) : V x k n ws pc lv (.int (iZ z) :: st) :=
  V_newL hx N hz hN h1 hk hn hd (fun q => V_nd (fun hnd => by
    obtain ⟨M1, a1, a2, a3, a4, a5⟩ := hM.push hnd r
    exact kk q _ M1 a1 a2 a3 a4 a5))
/-- stores, told of the map -/
theorem M_iast {M : MM} (hx : FX x l R g nL cc own) (hM : HM M ws) {a N r : Nat} {f : Nat → Int32} {z v : Int} (h0 : 0 ≤ z) (h1 : z < N) (h2 : N < 2147483648) (ha : M a = some (r, IA g N f)) (hd : decode cc pc = .ok (.iastore, 1)) (kk : ∀ (ws1 : va_W) (M1 : MM), HM M1 ws1 → M1 a = some (r, IA g N (upd f z.toNat (iZ v))) → (∀ b, b ≠ a → M1 b = M b) → KP (fun r9 => r9 ≠ r) M M1 → V x k n ws1 (pc + 1) lv st) : V x k n ws pc lv (.int (iZ v) :: .int (iZ z) :: .ref a :: st) := by
  obtain ⟨i, hi⟩ := hM.at ha
  obtain ⟨M1, a1, a2, a3, a4⟩ := hM.put ha hi (IA g N (upd f z.toNat (iZ v)))
  exact V_iast hx h0 h1 h2 i hi _ rfl hd (kk _ M1 a1 a2 a3 a4)
theorem M_zast {M : MM} (hx : FX x l R g nL cc own) (hM : HM M ws) {a N r : Nat} {f : Nat → Int32} {z : Int} {c9 : Prop} (h0 : 0 ≤ z) (h1 : z < N) (h2 : N < 2147483648) (ha : M a = some (r, ZA g N f)) (hd : decode cc pc = .ok (.bastore, 1)) (kk : ∀ (ws1 : va_W) (M1 : MM), HM M1 ws1 → M1 a = some (r, ZA g N (upd f z.toNat (iZ (bz c9)))) → (∀ b, b ≠ a → M1 b = M b) → KP (fun r9 => r9 ≠ r) M M1 → V x k n ws1 (pc + 1) lv st) : V x k n ws pc lv (.int (iZ (bz c9)) :: .int (iZ z) :: .ref a :: st) := by
  obtain ⟨i, hi⟩ := hM.at ha
  obtain ⟨M1, a1, a2, a3, a4⟩ := hM.put ha hi (ZA g N (upd f z.toNat (iZ (bz c9))))
  exact V_zast hx h0 h1 h2 i hi hd (kk _ M1 a1 a2 a3 a4)
theorem M_aastA {M : MM} (hx : FX x l R g nL cc own) (hM : HM M ws) {a N r v L r2 : Nat} {f : Nat → Option Nat} {w : Nat → Int32} {z : Int} (h0 : 0 ≤ z) (h1 : z < N) (h2 : N < 2147483648) (ha : M a = some (r, RA g N f)) (hv : M v = some (r2, IA g L w)) (hd : decode cc pc = .ok (.aastore, 1)) (kk : ∀ (ws1 : va_W) (M1 : MM), HM M1 ws1 → M1 a = some (r, RA g N (va_up f z.toNat (some v))) → (∀ b, b ≠ a → M1 b = M b) → KP (fun r9 => r9 ≠ r) M M1 → V x k n ws1 (pc + 1) lv st) : V x k n ws pc lv (.ref v :: .int (iZ z) :: .ref a :: st) := by
  obtain ⟨i, hi⟩ := hM.at ha
  obtain ⟨j, hj⟩ := hM.at hv
  obtain ⟨M1, a1, a2, a3, a4⟩ := hM.put ha hi (RA g N (va_up f z.toNat (some v)))
  exact V_aastA hx h0 h1 h2 i j hi ⟨_, vp_cell_i _ _ _⟩ hj hd (kk _ M1 a1 a2 a3 a4)
theorem M_aastL {M : MM} (hx : FX x l R g nL cc own) (hM : HM M ws) {a N r v r2 : Nat} {f : Nat → Option Nat} {vs : List Value} {z : Int} (h0 : 0 ≤ z) (h1 : z < N) (h2 : N < 2147483648) (ha : M a = some (r, LA g N f)) (hv : M v = some (r2, .inr (3, vs))) (hd : decode cc pc = .ok (.aastore, 1)) (kk : ∀ (ws1 : va_W) (M1 : MM), HM M1 ws1 → M1 a = some (r, LA g N (va_up f z.toNat (some v))) → (∀ b, b ≠ a → M1 b = M b) → KP (fun r9 => r9 ≠ r) M M1 → V x k n ws1 (pc + 1) lv st) : V x k n ws pc lv (.ref v :: .int (iZ z) :: .ref a :: st) := by
  obtain ⟨i, hi⟩ := hM.at ha
  obtain ⟨j, hj⟩ := hM.at hv
  obtain ⟨M1, a1, a2, a3, a4⟩ := hM.put ha hi (LA g N (va_up f z.toNat (some v)))
  exact V_aastL hx h0 h1 h2 i j hi hj hd (kk _ M1 a1 a2 a3 a4)
/-- a field's store, told of the map: behind a pf row -/
theorem M_put {M : MM} (hM : HM M ws) {a r : Nat} {e e' : va_E} (ha : M a = some (r, e)) (kk : ∀ (i : Nat), ws[i]? = some (a, e) → ∀ (ws1 : va_W) (M1 : MM), ws.set i (a, e') = ws1 → HM M1 ws1 → M1 a = some (r, e') → (∀ b, b ≠ a → M1 b = M b) → KP (fun r9 => r9 ≠ r) M M1 → V x k n ws pc lv st) : V x k n ws pc lv st := by
  obtain ⟨i, hi⟩ := hM.at ha
  obtain ⟨M1, a1, a2, a3, a4⟩ := hM.put ha hi e'
  exact kk i hi _ M1 rfl a1 a2 a3 a4
end VCQ
/-! the law's picture of a till: rows of ints, slips, clerks -/
def RWS (g : GT) (M : MM) (ra m t L : Nat) (f : Nat → Nat) (c : Nat → Nat → Int) : Prop := (∃ f0, M ra = some (4, RA g m f0) ∧ ∀ i, i < m → f0 i = some (f i)) ∧ ∀ i, i < m → ∃ v, M (f i) = some (t, IA g L v) ∧ ∀ j, j < L → v j = iZ (c i j)
def SLP (col : Nat → Int) (m : Nat) (ds : Nat → Nat) : Prop := (∀ i, i < m → ds i < 8 ∧ col (ds i) ≠ -1) ∧ (∀ i j, i < m → j < m → ds i = ds j → i = j) ∧ (∀ d, d < 8 → col d ≠ -1 → ∃ i, i < m ∧ ds i = d) ∧ (m : Int) = sm 8 (fun d => bz (col d ≠ -1))
def cS (T : TS) (q : Nat) (ds : Nat → Nat) : Nat → Nat → Int := fun i j => if j = 0 then (ds i : Int) else if j = 1 then T (q + 5) (ds i) else T (q + 6) (ds i)
def cO (T : TS) (q : Nat) (ds : Nat → Nat) : Nat → Nat → Int := fun i j => if j = 0 then (ds i : Int) else T (q + 7) (ds i)
def cP (T : TS) (q : Nat) : Nat → Nat → Int := fun i j => T (q + 1 + j) i
abbrev CKE (T : TS) (q pr se ow : Nat) : va_E := .inr (3, [.ref pr, .int (iZ (T q 1)), .int (iZ (T q 2)), .int (iZ (T q 3)), .ref se, .ref ow])
def CK (g : GT) (M : MM) (ca c : Nat) (T : TS) : Prop := ∃ pr se ow fp fs fo ms mo ds dw, M ca = some (10 + c, CKE T (7 + 8 * c) pr se ow) ∧ RWS g M pr (T (7 + 8 * c) 0).toNat 4 4 fp (cP T (7 + 8 * c)) ∧ (RWS g M se ms 4 3 fs (cS T (7 + 8 * c) ds) ∧ SLP (T (7 + 8 * c + 5)) ms ds) ∧ (RWS g M ow mo (20 + c) 2 fo (cO T (7 + 8 * c) dw) ∧ SLP (T (7 + 8 * c + 7)) mo dw)
def ROW (g : GT) (M : MM) (a t n : Nat) (c : Nat → Int) : Prop := ∃ v, M a = some (t, IA g n v) ∧ ∀ d, d < n → v d = iZ (c d)
def CLS (g : GT) (M : MM) (co : Nat) (T : TS) : Prop := ∃ f0, M co = some (4, RA g (T 0 2).toNat f0) ∧ ∀ i, i < (T 0 2).toNat → ∃ r v, f0 i = some r ∧ M r = some (4, IA g 3 v) ∧ ∀ b, b < 10 → i + 1 + b = (T 0 2).toNat → v 0 = iZ (T 4 b) ∧ v 1 = iZ (T 5 b) ∧ v 2 = iZ (T 6 b)
def SM0 (g : GT) (M : MM) (sp am se ck co : Nat) (cl : Nat → Nat) (T : TS) : Prop := M sp = some (1, .inr (4, [.ref am, .ref se, .ref ck, .ref co])) ∧ ROW g M am 2 (nd T) (T 1) ∧ ROW g M se 3 (nd T) (T 2) ∧ (∃ f0, M ck = some (4, LA g (nc T) f0) ∧ ∀ c, c < nc T → f0 c = some (cl c)) ∧ CLS g M co T
def SIM (g : GT) (M : MM) (sp : Nat) (cl : Nat → Nat) (T : TS) : Prop := (∃ am se ck co, SM0 g M sp am se ck co cl T) ∧ ∀ c, c < nc T → CK g M (cl c) c T
def OUT : Nat → Prop := fun r => 1000 ≤ r
section KPL
variable {g : GT} {S : Nat → Prop} {M M' : MM}
theorem row_kp {a t n : Nat} {c : Nat → Int} (h : ROW g M a t n c) (k : KP S M M') (h1 : S t) : ROW g M' a t n c := by
  obtain ⟨v, h2, h3⟩ := h
  exact ⟨v, k _ _ _ h2 h1, h3⟩
theorem rws_kp {ra m t L : Nat} {f : Nat → Nat} {c : Nat → Nat → Int} (h : RWS g M ra m t L f c) (k : KP S M M') (h4 : S 4) (ht : S t) : RWS g M' ra m t L f c := by
  obtain ⟨⟨f0, h1, h2⟩, h3⟩ := h
  refine ⟨⟨f0, k _ _ _ h1 h4, h2⟩, fun i hi => ?_⟩
  obtain ⟨v, h5, h6⟩ := h3 i hi
  exact ⟨v, k _ _ _ h5 ht, h6⟩
theorem ck_kp {ca c : Nat} {T : TS} (h : CK g M ca c T) (k : KP S M M') (h4 : S 4) (h10 : S (10 + c)) (h20 : S (20 + c)) : CK g M' ca c T := by
  obtain ⟨pr, se, ow, fp, fs, fo, ms, mo, ds, dw, h1, h2, ⟨h3, h5⟩, ⟨h6, h7⟩⟩ := h
  exact ⟨pr, se, ow, fp, fs, fo, ms, mo, ds, dw, k _ _ _ h1 h10, rws_kp h2 k h4 h4, ⟨rws_kp h3 k h4 h4, h5⟩, ⟨rws_kp h6 k h4 h20, h7⟩⟩
theorem ck_T {ca c : Nat} {T T' : TS} (h : CK g M ca c T) (he : ∀ a b, 7 + 8 * c ≤ a → a < 7 + 8 * c + 8 → T' a b = T a b) : CK g M ca c T' := by
  have e : ∀ j, j < 8 → T' (7 + 8 * c + j) = T (7 + 8 * c + j) := fun j hj => funext (fun b => he _ _ (by omega) (by omega))
  obtain ⟨pr, se, ow, fp, fs, fo, ms, mo, ds, dw, h1, h2, ⟨h3, h5⟩, ⟨h6, h7⟩⟩ := h
  have e0 : T' (7 + 8 * c) = T (7 + 8 * c) := e 0 (by omega)
  have eP : ∀ i j, j < 4 → cP T' (7 + 8 * c) i j = cP T (7 + 8 * c) i j := fun i j hj => he _ _ (by omega) (by omega)
  have eS : cS T' (7 + 8 * c) ds = cS T (7 + 8 * c) ds := by unfold cS; rw [e 5 (by omega), e 6 (by omega)]
  have eO : cO T' (7 + 8 * c) dw = cO T (7 + 8 * c) dw := by unfold cO; rw [e 7 (by omega)]
  refine ⟨pr, se, ow, fp, fs, fo, ms, mo, ds, dw, by unfold CKE; rw [e0]; exact h1, ?_, ⟨by rw [eS]; exact h3, by rw [e 5 (by omega)]; exact h5⟩, ⟨by rw [eO]; exact h6, by rw [e 7 (by omega)]; exact h7⟩⟩
  rw [e0]
  obtain ⟨h8, h9⟩ := h2
  refine ⟨h8, fun i hi => ?_⟩
  obtain ⟨v, k1, k2⟩ := h9 i hi
  exact ⟨v, k1, fun j hj => by rw [eP i j hj]; exact k2 j hj⟩
theorem cls_kp {co : Nat} {T : TS} (h : CLS g M co T) (k : KP S M M') (h4 : S 4) : CLS g M' co T := by
  obtain ⟨f0, h1, h2⟩ := h
  refine ⟨f0, k _ _ _ h1 h4, fun i hi => ?_⟩
  obtain ⟨r, v, h5, h6, h7⟩ := h2 i hi
  exact ⟨r, v, h5, k _ _ _ h6 h4, h7⟩
theorem sm0_kp {sp am se ck co : Nat} {cl : Nat → Nat} {T : TS} (h : SM0 g M sp am se ck co cl T) (k : KP S M M') (h1 : S 1) (h2 : S 2) (h3 : S 3) (h4 : S 4) : SM0 g M' sp am se ck co cl T := by
  obtain ⟨a1, a2, a3, ⟨f0, a4, a5⟩, a6⟩ := h
  exact ⟨k _ _ _ a1 h1, row_kp a2 k h2, row_kp a3 k h3, ⟨f0, k _ _ _ a4 h4, a5⟩, cls_kp a6 k h4⟩
theorem sm0_T {sp am se ck co : Nat} {cl : Nat → Nat} {T T' : TS} (h : SM0 g M sp am se ck co cl T) (he : ∀ a b, a < 7 → T' a b = T a b) : SM0 g M sp am se ck co cl T' := by
  have e : ∀ a, a < 7 → T' a = T a := fun a ha => funext (fun b => he a b ha)
  obtain ⟨a1, a2, a3, a4, a5⟩ := h
  unfold SM0 CLS nd nc
  rw [e 0 (by omega), e 1 (by omega), e 2 (by omega), e 4 (by omega), e 5 (by omega), e 6 (by omega)]
  exact ⟨a1, a2, a3, a4, a5⟩
theorem sim_kp {sp : Nat} {cl : Nat → Nat} {T : TS} (h : SIM g M sp cl T) (hn : nc T ≤ 6) (k : KP S M M') (hs : ∀ r, r < 30 → S r) : SIM g M' sp cl T := by
  obtain ⟨⟨am, se, ck, co, h1⟩, h2⟩ := h
  exact ⟨⟨am, se, ck, co, sm0_kp h1 k (hs _ (by omega)) (hs _ (by omega)) (hs _ (by omega)) (hs _ (by omega))⟩, fun c hc => ck_kp (h2 c hc) k (hs _ (by omega)) (hs _ (by omega)) (hs _ (by omega))⟩
/-- a change in one clerk's rows alone -/
theorem sim_ck {sp c : Nat} {cl : Nat → Nat} {T T' : TS} (h : SIM g M sp cl T) (hn : nc T ≤ 6) (hc : c < nc T) (he : ∀ a b, ¬ (7 + 8 * c ≤ a ∧ a < 7 + 8 * c + 8) → T' a b = T a b) (k : KP (fun r => r ≠ 10 + c ∧ r ≠ 20 + c) M M') (h9 : CK g M' (cl c) c T') : SIM g M' sp cl T' := by
  obtain ⟨⟨am, se, ck, co, h1⟩, h2⟩ := h
  have en : nc T' = nc T := by unfold nc; rw [he 0 1 (by omega)]
  refine ⟨⟨am, se, ck, co, sm0_T (sm0_kp h1 k (by omega) (by omega) (by omega) (by omega)) (fun a b ha => he a b (by omega))⟩, fun c9 hc9 => ?_⟩
  rw [en] at hc9
  by_cases hx : c9 = c
  · subst hx; exact h9
  · exact ck_T (ck_kp (h2 c9 hc9) k (by omega) (by omega) (by omega)) (fun a b h1 h2 => he a b (by omega))
end KPL
theorem upd_at (f : Nat → Int32) (i : Nat) (v : Int32) : upd f i v i = v := by unfold upd; exact if_pos rfl
theorem upd_ne (f : Nat → Int32) {i j : Nat} (v : Int32) (h : j ≠ i) : upd f i v j = f j := by unfold upd; exact if_neg h
theorem vup_at {α : Type} (f : Nat → α) (i : Nat) (v : α) : va_up f i v i = v := by unfold va_up; exact if_pos rfl
theorem vup_ne {α : Type} (f : Nat → α) {i j : Nat} (v : α) (h : j ≠ i) : va_up f i v j = f j := by unfold va_up; exact if_neg h
/-! slips: one drawer more, another amount -/
theorem sm_upd {f f' : Nat → Int} {d : Nat} (he : ∀ i, i ≠ d → f' i = f i) : ∀ n : Nat, sm n f' = sm n f + if d < n then f' d - f d else 0
  | 0 => by rw [if_neg (by omega)]; rfl
  | n + 1 => by
    show sm n f' + f' n = sm n f + f n + _
    rw [sm_upd he n]
    by_cases hx : n = d
    · subst hx
      rw [if_neg (by omega), if_pos (by omega)]
      omega
    · rw [he n hx]
      by_cases hd : d < n
      · rw [if_pos hd, if_pos (by omega)]; omega
      · rw [if_neg hd, if_neg (by omega)]; omega
def adx (f : Nat → Nat) (m d : Nat) : Nat → Nat := fun i => if i < m then f i else d
theorem adx_l {f : Nat → Nat} {m d i : Nat} (h : i < m) : adx f m d i = f i := if_pos h
theorem adx_e {f : Nat → Nat} {m d i : Nat} (h : ¬ i < m) : adx f m d i = d := if_neg h
theorem slp_add {col col' : Nat → Int} {m d : Nat} {ds : Nat → Nat} (h : SLP col m ds) (hd : d < 8) (h1 : col d = -1) (hv : col' d ≠ -1) (he : ∀ i, i ≠ d → col' i = col i) : SLP col' (m + 1) (adx ds m d) := by
  obtain ⟨a1, a2, a3, a4⟩ := h
  have hn : ∀ i, i < m → ds i ≠ d := fun i hi e => (a1 i hi).2 (by rw [e]; exact h1)
  refine ⟨fun i hi => ?_, fun i j hi hj => ?_, fun e he9 hv9 => ?_, ?_⟩
  · by_cases hx : i < m
    · rw [adx_l hx]
      exact ⟨(a1 i hx).1, by rw [he _ (hn i hx)]; exact (a1 i hx).2⟩
    · rw [adx_e hx]; exact ⟨hd, hv⟩
  · by_cases hx : i < m <;> by_cases hy : j < m
    · rw [adx_l hx, adx_l hy]; exact a2 i j hx hy
    · rw [adx_l hx, adx_e hy]; exact fun e => absurd e (hn i hx)
    · rw [adx_e hx, adx_l hy]; exact fun e => absurd e.symm (hn j hy)
    · intro _; omega
  · by_cases hx : e = d
    · exact ⟨m, by omega, by rw [adx_e (by omega)]; exact hx.symm⟩
    · rw [he e hx] at hv9
      obtain ⟨i, hi, hi2⟩ := a3 e he9 hv9
      exact ⟨i, by omega, by rw [adx_l hi]; exact hi2⟩
  · rw [sm_upd (f := fun d => bz (col d ≠ -1)) (d := d) (fun i hi => by show bz (col' i ≠ -1) = bz (col i ≠ -1); rw [he i hi]) 8, if_pos hd, bz_t hv, bz_f (fun h9 => h9 h1), ← a4]
    omega
theorem slp_upd {col col' : Nat → Int} {m d : Nat} {ds : Nat → Nat} (h : SLP col m ds) (h1 : col d ≠ -1) (hv : col' d ≠ -1) (he : ∀ i, i ≠ d → col' i = col i) : SLP col' m ds := by
  obtain ⟨a1, a2, a3, a4⟩ := h
  have e : ∀ i, (col' i ≠ -1 ↔ col i ≠ -1) := fun i => by
    by_cases hx : i = d
    · subst hx; exact ⟨fun _ => h1, fun _ => hv⟩
    · rw [he i hx]
  refine ⟨fun i hi => ⟨(a1 i hi).1, (e _).mpr (a1 i hi).2⟩, a2, fun d9 hd9 h9 => a3 d9 hd9 ((e _).mp h9), ?_⟩
  rw [a4]
  exact sm_c 8 (fun d _ => bz_c (e d).symm)
theorem slp_em {col : Nat → Int} {ds : Nat → Nat} (h : ∀ d, d < 8 → col d = -1) : SLP col 0 ds := by
  refine ⟨fun i hi => absurd hi (by omega), fun i j hi => absurd hi (by omega), fun d hd h9 => absurd (h d hd) h9, ?_⟩
  have e : sm 8 (fun d => bz (col d ≠ -1)) = sm 8 (fun _ => 0) := sm_c 8 (fun d hd => bz_f (fun h9 => h9 (h d hd)))
  rw [e]
  rfl
theorem slp_8 {col : Nat → Int} {m : Nat} {ds : Nat → Nat} (h : SLP col m ds) : m ≤ 8 := by
  have := sm_b (f := fun d => bz (col d ≠ -1)) (fun d => bz_b _) 8
  have := h.2.2.2
  omega
section RWL
variable {g : GT} {M M' : MM}
/-- a row more -/
theorem rws_add {S : Nat → Prop} {ra m t L q1 q2 : Nat} {f : Nat → Nat} {f0 f9 : Nat → Option Nat} {c c' : Nat → Nat → Int} {v : Nat → Int32} (h : RWS g M ra m t L f c) (h0 : M ra = some (4, RA g m f0)) (k : KP S M M') (ht : S t) (h1 : M' q1 = some (t, IA g L v)) (hv : ∀ j, j < L → v j = iZ (c' m j)) (h2 : M' q2 = some (4, RA g (m + 1) f9)) (h3 : ∀ i, i < m → f9 i = f0 i) (h4 : f9 m = some q1) (hc : ∀ i j, i < m → j < L → c' i j = c i j) : RWS g M' q2 (m + 1) t L (adx f m q1) c' := by
  obtain ⟨⟨g0, a1, a2⟩, a3⟩ := h
  have e : g0 = f0 := by
    rw [a1] at h0
    cases h0
    rfl
  subst e
  refine ⟨⟨f9, h2, fun i hi => ?_⟩, fun i hi => ?_⟩
  · by_cases hx : i < m
    · rw [adx_l hx, h3 i hx]; exact a2 i hx
    · rw [adx_e hx, show i = m by omega]; exact h4
  · by_cases hx : i < m
    · rw [adx_l hx]
      obtain ⟨w, b1, b2⟩ := a3 i hx
      exact ⟨w, k _ _ _ b1 ht, fun j hj => by rw [hc i j hx hj]; exact b2 j hj⟩
    · rw [adx_e hx, show i = m by omega]
      exact ⟨v, h1, hv⟩
/-- a row's number changed in place -/
theorem rws_set {ra m t L i0 : Nat} {f : Nat → Nat} {c c' : Nat → Nat → Int} {v : Nat → Int32} (h : RWS g M ra m t L f c) (h4 : t ≠ 4) (hi0 : i0 < m) (hne : ∀ i, i < m → i ≠ i0 → f i ≠ f i0) (h1 : M' (f i0) = some (t, IA g L v)) (hb : ∀ b, b ≠ f i0 → M' b = M b) (hv : ∀ j, j < L → v j = iZ (c' i0 j)) (hc : ∀ i j, i < m → i ≠ i0 → j < L → c' i j = c i j) : RWS g M' ra m t L f c' := by
  obtain ⟨⟨f0, a1, a2⟩, a3⟩ := h
  obtain ⟨w0, b0, -⟩ := a3 i0 hi0
  refine ⟨⟨f0, by rw [hb ra (tne a1 b0 (Ne.symm h4))]; exact a1, a2⟩, fun i hi => ?_⟩
  by_cases hx : i = i0
  · subst hx
    exact ⟨v, h1, hv⟩
  · obtain ⟨w, b1, b2⟩ := a3 i hi
    exact ⟨w, by rw [hb _ (hne i hi hx)]; exact b1, fun j hj => by rw [hc i j hi hx hj]; exact b2 j hj⟩
theorem rws_em {ra t L : Nat} {f : Nat → Nat} {c : Nat → Nat → Int} {f0 : Nat → Option Nat} (h : M ra = some (4, RA g 0 f0)) : RWS g M ra 0 t L f c := ⟨⟨f0, h, fun i hi => absurd hi (by omega)⟩, fun i hi => absurd hi (by omega)⟩
theorem rws_c {ra m t L : Nat} {f : Nat → Nat} {c c' : Nat → Nat → Int} (h : RWS g M ra m t L f c) (hc : ∀ i j, i < m → j < L → c' i j = c i j) : RWS g M ra m t L f c' := by
  obtain ⟨a1, a3⟩ := h
  refine ⟨a1, fun i hi => ?_⟩
  obtain ⟨w, b1, b2⟩ := a3 i hi
  exact ⟨w, b1, fun j hj => by rw [hc i j hi hj]; exact b2 j hj⟩
end RWL
