/-! numbers: an int is iZ of an integer -/
def iZ (a : Int) : Int32 := Int32.ofInt a
def rg (a : Int) : Prop := -2147483648 ≤ a ∧ a < 2147483648
theorem iZ_toInt {a : Int} (h : rg a) : (iZ a).toInt = a := by
  obtain ⟨h1, h2⟩ := h
  unfold iZ
  rw [Int32.toInt_ofInt]
  show Int.bmod a 4294967296 = a
  simp only [Int.bmod]
  omega
theorem iZ_of (x : Int32) : iZ x.toInt = x := by unfold iZ; exact Int32.ofInt_toInt x
theorem rg_toInt (x : Int32) : rg x.toInt := ⟨Int32.le_toInt x, Int32.toInt_lt x⟩
theorem iZ_add (a b : Int) : iZ a + iZ b = iZ (a + b) := by unfold iZ; exact (Int32.ofInt_add a b).symm
theorem iZ_sub (a b : Int) : iZ a - iZ b = iZ (a - b) := by unfold iZ; exact (Int32.ofInt_sub a b).symm
theorem iZ_mul (a b : Int) : iZ a * iZ b = iZ (a * b) := by unfold iZ; exact (Int32.ofInt_mul a b).symm
theorem iZ_inj {a b : Int} (ha : rg a) (hb : rg b) (h : iZ a = iZ b) : a = b := by rw [← iZ_toInt ha, ← iZ_toInt hb, h]
theorem iZ_eq {a b : Int} (ha : rg a) (hb : rg b) : iZ a = iZ b ↔ a = b := ⟨iZ_inj ha hb, fun h => by rw [h]⟩
theorem iZ_lt {a b : Int} (ha : rg a) (hb : rg b) : iZ a < iZ b ↔ a < b := by rw [Int32.lt_iff_toInt_lt, iZ_toInt ha, iZ_toInt hb]
theorem iZ_le {a b : Int} (ha : rg a) (hb : rg b) : iZ a ≤ iZ b ↔ a ≤ b := by rw [Int32.le_iff_toInt_le, iZ_toInt ha, iZ_toInt hb]
theorem iZ_0 : iZ 0 = 0 := rfl
theorem rg_0 : rg 0 := ⟨by decide, by decide⟩
theorem iZ_clamp {a : Int} (h : rg a) : (iZ a).toNatClampNeg = a.toNat := by
  rw [← Int32.toNat_toInt, iZ_toInt h]
theorem iZ_in {a : Int} {n : Nat} (h0 : 0 ≤ a) (h1 : a < n) (h2 : n < 2147483648) : vp_in (iZ a) n := by
  have h : rg a := ⟨by omega, by omega⟩
  refine vp_in_iff.mpr ?_
  rw [iZ_toInt h]
  exact ⟨h0, h1⟩
/-! the tables' words that hold in every state of the run -/
def AOA (U : State) : Prop := (Cond.arrayOver (.array .int)).before #[] U = true
theorem AOA.of {A : Array Value} {U : State} (h : (Cond.arrayOver (.array .int)).before A U = true) : AOA U := h
theorem AOA.use {A : Array Value} {U : State} (h : AOA U) : (Cond.arrayOver (.array .int)).before A U = true := h
theorem AOA.moved {u U : State} (hvm : u.vm.Alike U.vm) (h : AOA u) : AOA U := by
  obtain ⟨comp, c, k, h1, h2, h3, h4, h5⟩ := arrayOverA_spec (t := .int) (args := #[]) (o := none) (idx := []) h
  obtain ⟨k', hk', he⟩ := hvm.2.2 _ _ h3
  have hi : (U.vm.classes.findIdx? fun (x : Class) => match x.kind with | .array component _ => component == comp | _ => false) = some c := by
    rw [hvm.findIdx?_eq _ (fun _ => rfl)]
    exact h2
  have hkind : k'.kind = .array comp (.array .int) := by rw [he]; exact h4
  have f1 : U.vm.findClass (FieldType.array .int).toString = some comp := by rw [hvm.findClass]; exact h1
  have f2 : U.vm.findClass ("[" ++ (FieldType.array .int).toString) = some c := by rw [hvm.findClass]; exact h5
  unfold AOA Cond.before Cond.holds
  simp only [Cond.value]
  rw [f1, Option.bind_some]
  refine (congrArg (fun o : Option Nat => (o.bind (fun c => (U.vm.classes[c]?).map fun (k : Class) => match k.kind with | .array _ ty => decide (ty = FieldType.array .int) && decide (U.vm.findClass ("[" ++ (FieldType.array .int).toString) = some c) | _ => false) == some true)) hi).trans ?_
  simp [hk', hkind, f2]
def isN : Cond → Bool
  | .fieldLinkNest _ _ _ _ _ _ => true
  | .methodLinkNest _ _ _ _ => true
  | .castable _ _ => true
  | .declares _ => true
  | .arrayOver (.object _) => true
  | .arrayOver (.array .int) => true
  | _ => false
def tbw (w : Cond) : Bool := goodWord w || isN w
def tbl : List Cond := lw_tbl.filter tbw
def TB (U : State) : Prop := ∀ (a : Array Value), ∀ w ∈ tbl, w.before a U = true
theorem TB.warm {s U : State} (hW : s.WarmedH U.vm) (h : TB s) : TB U := by
  intro a w hw
  have h1 := (List.mem_filter.mp hw).2
  unfold tbw at h1
  rw [Bool.or_eq_true] at h1
  rcases h1 with h1 | h1
  · exact word_at hW (good_of_word h1) (h #[] w hw)
  · cases w with
    | fieldLinkNest a1 a2 a3 a4 a5 a6 => exact va_Nw.use rfl (va_Nw.warmF hW (h #[] _ hw))
    | methodLinkNest a1 a2 a3 a4 => exact va_Nw.use rfl (va_Nw.warmM hW (h #[] _ hw))
    | castable a1 a2 => exact va_Nw.use rfl (va_Nw.warmC hW (h #[] _ hw))
    | declares a1 => exact va_Nw.use rfl (va_Nw.warmD hW (h #[] _ hw))
    | arrayOver ty =>
      cases ty with
      | object C => exact va_AO.use (va_AO.moved hW.alike (va_AO.of (h #[] _ hw)))
      | array t9 => cases t9 with
        | int => exact AOA.use (AOA.moved hW.alike (AOA.of (h #[] _ hw)))
        | _ => exact absurd h1 (by simp [isN])
      | _ => exact absurd h1 (by simp [isN])
    | _ => exact absurd h1 (by simp [isN])
theorem TB.same {s U : State} (hv : s.vm = U.vm) (h : TB s) : TB U := TB.warm (by rw [← hv]; exact State.WarmedH.refl s) h
theorem TB.of {a : Array Value} {s : State} (h : ∀ w ∈ lw_tbl, w.before a s = true) : TB s := by
  intro a' w hw
  obtain ⟨h0, h1⟩ := List.mem_filter.mp hw
  unfold tbw at h1
  rw [Bool.or_eq_true] at h1
  rcases h1 with h1 | h1
  · exact word_at (State.WarmedH.refl s) (good_of_word h1) (h w h0)
  · have hb := h w h0
    cases w with
    | fieldLinkNest a1 a2 a3 a4 a5 a6 => exact va_Nw.use rfl (va_Nw.of rfl hb)
    | methodLinkNest a1 a2 a3 a4 => exact va_Nw.use rfl (va_Nw.of rfl hb)
    | castable a1 a2 => exact va_Nw.use rfl (va_Nw.of rfl hb)
    | declares a1 => exact va_Nw.use rfl (va_Nw.of rfl hb)
    | arrayOver ty =>
      cases ty with
      | object C => exact va_AO.use (va_AO.of hb)
      | array t9 => cases t9 with
        | int => exact AOA.use (AOA.of hb)
        | _ => exact absurd h1 (by simp [isN])
      | _ => exact absurd h1 (by simp [isN])
    | _ => exact absurd h1 (by simp [isN])
theorem tin {w : Cond} (i : Nat) (h : lw_tbl[i]? = some w) (g : tbw w = true) : w ∈ tbl := List.mem_filter.mpr ⟨List.mem_of_getElem? h, g⟩
/-! the walk: a method's frame over a world -/
abbrev GT : Type := va_G × ClassId × ClassId × ClassId × ClassId × ClassId
def tyl (g : GT) : List (ClassId × FieldType) := [(g.2.1, .int), (g.2.2.1, .object RX0), (g.2.2.2.1, .array .int), (g.2.2.2.2.1, .object RX3), (g.2.2.2.2.2, .boolean)]
abbrev CT : Type := Program × Launch × Env × Room × State × MethodId × Array Value × List Frame × Method × Code × GT × Nat × (Nat → Prop) × Heap × (State → Prop)
def FX (x : CT) (l : Launch) (R : Room) (g : GT) (nL : Nat) (cc : ByteArray) (own : String) : Prop := match x with
  | (p, l', _, R', s, m, _, _, meth, c, g', nL', A, H0, _) => l' = l ∧ R' = R ∧ g' = g ∧ nL' = nL ∧ p.tables.exec = Jvm.exec ∧ c.code = cc ∧ c.maxLocals = nL ∧ s.vm.findClass own = some m.cls ∧ TB s ∧ va_K g.1 vwCl (tyl g) s ∧ meth.locks = false ∧ (∀ q, H0.size ≤ q → A q)
def V (x : CT) (k n : Nat) (ws : va_W) (pc : Nat) (lv : List (Nat × Value)) (st : List Value) : Prop := match x with
  | (p, l, e, R, s, m, args, below, meth, c, g, nL, A, H0, Q) => ∀ (H : Heap) (locs : List Loc) (ls : Array Slot), va_P g.1 vwCl ws H → va_D A ws → va_S A H0 H locs → lv_has ls nL lv →
      W p l e R s m args below meth c H locs k n Q (F0 m pc ls st)
section VR
variable {x : CT} {l : Launch} {R : Room} {g : GT} {nL : Nat} {cc : ByteArray} {own : String} {k n : Nat} {ws : va_W} {pc : Nat} {lv : List (Nat × Value)} {st : List Value}
theorem V_aload_n (hx : FX x l R g nL cc own) {i : Fin 4} {v : Nat} (hd : decode cc pc = .ok (.aload_n i, 1)) (j : Nat) (hl : lv[j]? = some ((i : Nat), .ref v)) (kk : V x k n ws (pc + 1) lv (.ref v :: st)) : V x k n ws pc lv st := by
  obtain ⟨p, l', e, R', s, m, args, below, meth, c, g', nL', A, H0, Q⟩ := x
  obtain ⟨rfl, rfl, rfl, rfl, hx, hb, hml, hown, hts, hK, hlk, hA⟩ := hx
  intro H locs ls hP hD hS h
  exact lv_aload_n hx hb hd rfl (lv_at h j hl) (kk H locs ls hP hD hS h)
theorem V_aload (hx : FX x l R g nL cc own) {i : Nat} {v : Nat} (hd : decode cc pc = .ok (.aload i, 2)) (j : Nat) (hl : lv[j]? = some (i, .ref v)) (kk : V x k n ws (pc + 2) lv (.ref v :: st)) : V x k n ws pc lv st := by
  obtain ⟨p, l', e, R', s, m, args, below, meth, c, g', nL', A, H0, Q⟩ := x
  obtain ⟨rfl, rfl, rfl, rfl, hx, hb, hml, hown, hts, hK, hlk, hA⟩ := hx
  intro H locs ls hP hD hS h
  exact lv_aload hx hb hd (lv_at h j hl) (kk H locs ls hP hD hS h)
theorem V_iload_n (hx : FX x l R g nL cc own) {i : Fin 4} {v : Int32} (hd : decode cc pc = .ok (.iload_n i, 1)) (j : Nat) (hl : lv[j]? = some ((i : Nat), .int v)) (kk : V x k n ws (pc + 1) lv (.int v :: st)) : V x k n ws pc lv st := by
  obtain ⟨p, l', e, R', s, m, args, below, meth, c, g', nL', A, H0, Q⟩ := x
  obtain ⟨rfl, rfl, rfl, rfl, hx, hb, hml, hown, hts, hK, hlk, hA⟩ := hx
  intro H locs ls hP hD hS h
  exact lv_iload_n hx hb hd rfl (lv_at h j hl) (kk H locs ls hP hD hS h)
theorem V_iload (hx : FX x l R g nL cc own) {i : Nat} {v : Int32} (hd : decode cc pc = .ok (.iload i, 2)) (j : Nat) (hl : lv[j]? = some (i, .int v)) (kk : V x k n ws (pc + 2) lv (.int v :: st)) : V x k n ws pc lv st := by
  obtain ⟨p, l', e, R', s, m, args, below, meth, c, g', nL', A, H0, Q⟩ := x
  obtain ⟨rfl, rfl, rfl, rfl, hx, hb, hml, hown, hts, hK, hlk, hA⟩ := hx
  intro H locs ls hP hD hS h
  exact lv_iload hx hb hd (lv_at h j hl) (kk H locs ls hP hD hS h)
theorem V_lload_n (hx : FX x l R g nL cc own) {i : Fin 4} {v : Int64} (hd : decode cc pc = .ok (.lload_n i, 1)) (j : Nat) (hl : lv[j]? = some ((i : Nat), .long v)) (kk : V x k n ws (pc + 1) lv (.long v :: st)) : V x k n ws pc lv st := by
  obtain ⟨p, l', e, R', s, m, args, below, meth, c, g', nL', A, H0, Q⟩ := x
  obtain ⟨rfl, rfl, rfl, rfl, hx, hb, hml, hown, hts, hK, hlk, hA⟩ := hx
  intro H locs ls hP hD hS h
  exact lv_lload_n hx hb hd rfl (lv_at h j hl) (kk H locs ls hP hD hS h)
theorem V_astore_n (hx : FX x l R g nL cc own) {i : Fin 4} {v : Nat} (hd : decode cc pc = .ok (.astore_n i, 1)) (lv' : List (Nat × Value)) (hn : (i : Nat) < nL) (hl : ((i : Nat), Value.ref v) :: lv.filter (fun q => !(q.1 == (i : Nat)) && !(q.1 + 1 == (i : Nat) && q.2.category == 2)) = lv') (kk : V x k n ws (pc + 1) lv' st) : V x k n ws pc lv (.ref v :: st) := by
  obtain ⟨p, l', e, R', s, m, args, below, meth, c, g', nL', A, H0, Q⟩ := x
  obtain ⟨rfl, rfl, rfl, rfl, hx, hb, hml, hown, hts, hK, hlk, hA⟩ := hx
  intro H locs ls hP hD hS h
  exact lv_astore_n hx hb hd rfl h hn hl (fun ls' h' => kk H locs ls' hP hD hS h')
theorem V_astore (hx : FX x l R g nL cc own) {i : Nat} {v : Nat} (hd : decode cc pc = .ok (.astore i, 2)) (lv' : List (Nat × Value)) (hn : i < nL) (hl : (i, Value.ref v) :: lv.filter (fun q => !(q.1 == i) && !(q.1 + 1 == i && q.2.category == 2)) = lv') (kk : V x k n ws (pc + 2) lv' st) : V x k n ws pc lv (.ref v :: st) := by
  obtain ⟨p, l', e, R', s, m, args, below, meth, c, g', nL', A, H0, Q⟩ := x
  obtain ⟨rfl, rfl, rfl, rfl, hx, hb, hml, hown, hts, hK, hlk, hA⟩ := hx
  intro H locs ls hP hD hS h
  exact lv_astore hx hb hd h hn hl (fun ls' h' => kk H locs ls' hP hD hS h')
theorem V_istore_n (hx : FX x l R g nL cc own) {i : Fin 4} {v : Int32} (hd : decode cc pc = .ok (.istore_n i, 1)) (lv' : List (Nat × Value)) (hn : (i : Nat) < nL) (hl : ((i : Nat), Value.int v) :: lv.filter (fun q => !(q.1 == (i : Nat)) && !(q.1 + 1 == (i : Nat) && q.2.category == 2)) = lv') (kk : V x k n ws (pc + 1) lv' st) : V x k n ws pc lv (.int v :: st) := by
  obtain ⟨p, l', e, R', s, m, args, below, meth, c, g', nL', A, H0, Q⟩ := x
  obtain ⟨rfl, rfl, rfl, rfl, hx, hb, hml, hown, hts, hK, hlk, hA⟩ := hx
  intro H locs ls hP hD hS h
  exact lv_istore_n hx hb hd rfl h hn hl (fun ls' h' => kk H locs ls' hP hD hS h')
theorem V_istore (hx : FX x l R g nL cc own) {i : Nat} {v : Int32} (hd : decode cc pc = .ok (.istore i, 2)) (lv' : List (Nat × Value)) (hn : i < nL) (hl : (i, Value.int v) :: lv.filter (fun q => !(q.1 == i) && !(q.1 + 1 == i && q.2.category == 2)) = lv') (kk : V x k n ws (pc + 2) lv' st) : V x k n ws pc lv (.int v :: st) := by
  obtain ⟨p, l', e, R', s, m, args, below, meth, c, g', nL', A, H0, Q⟩ := x
  obtain ⟨rfl, rfl, rfl, rfl, hx, hb, hml, hown, hts, hK, hlk, hA⟩ := hx
  intro H locs ls hP hD hS h
  exact lv_istore hx hb hd h hn hl (fun ls' h' => kk H locs ls' hP hD hS h')
theorem V_lstore_n (hx : FX x l R g nL cc own) {i : Fin 4} {v : Int64} (hd : decode cc pc = .ok (.lstore_n i, 1)) (lv' : List (Nat × Value)) (hn : (i : Nat) + 1 < nL) (hl : ((i : Nat), Value.long v) :: lv.filter (fun q => !(q.1 == (i : Nat)) && (!(q.1 == (i : Nat) + 1) && !(q.1 + 1 == (i : Nat) && q.2.category == 2))) = lv') (kk : V x k n ws (pc + 1) lv' st) : V x k n ws pc lv (.long v :: st) := by
  obtain ⟨p, l', e, R', s, m, args, below, meth, c, g', nL', A, H0, Q⟩ := x
  obtain ⟨rfl, rfl, rfl, rfl, hx, hb, hml, hown, hts, hK, hlk, hA⟩ := hx
  intro H locs ls hP hD hS h
  exact lv_lstore_n hx hb hd rfl h hn hl (fun ls' h' => kk H locs ls' hP hD hS h')
theorem V_iinc (hx : FX x l R g nL cc own) {i : Nat} {d : Int} {a : Int} (hd : decode cc pc = .ok (.iinc i d, 3)) (j : Nat) (hk : lv[j]? = some (i, .int (iZ a))) (lv' : List (Nat × Value)) (hn : i < nL) (hl : (i, Value.int (iZ (a + d))) :: lv.filter (fun q => !(q.1 == i) && !(q.1 + 1 == i && q.2.category == 2)) = lv') (kk : V x k n ws (pc + 3) lv' st) : V x k n ws pc lv st := by
  obtain ⟨p, l', e, R', s, m, args, below, meth, c, g', nL', A, H0, Q⟩ := x
  obtain ⟨rfl, rfl, rfl, rfl, hx, hb, hml, hown, hts, hK, hlk, hA⟩ := hx
  intro H locs ls hP hD hS h
  exact lv_iinc (v := iZ (a + d)) hx hb hd h hk (iZ_add a d) hn hl (fun ls' h' => kk H locs ls' hP hD hS h')
theorem V_iconst (hx : FX x l R g nL cc own) {d : Int} (hd : decode cc pc = .ok (.iconst d, 1)) (kk : V x k n ws (pc + 1) lv (.int (iZ d) :: st)) : V x k n ws pc lv st := by
  obtain ⟨p, l', e, R', s, m, args, below, meth, c, g', nL', A, H0, Q⟩ := x
  obtain ⟨rfl, rfl, rfl, rfl, hx, hb, hml, hown, hts, hK, hlk, hA⟩ := hx
  intro H locs ls hP hD hS h
  exact lv_iconst hx hb hd rfl (kk H locs ls hP hD hS h)
theorem V_bipush (hx : FX x l R g nL cc own) {d : Int} (hd : decode cc pc = .ok (.bipush d, 2)) (hv : (Int8.ofInt d).toInt32 = iZ d) (kk : V x k n ws (pc + 2) lv (.int (iZ d) :: st)) : V x k n ws pc lv st := by
  obtain ⟨p, l', e, R', s, m, args, below, meth, c, g', nL', A, H0, Q⟩ := x
  obtain ⟨rfl, rfl, rfl, rfl, hx, hb, hml, hown, hts, hK, hlk, hA⟩ := hx
  intro H locs ls hP hD hS h
  exact lv_bipush hx hb hd hv (kk H locs ls hP hD hS h)
theorem V_sipush (hx : FX x l R g nL cc own) {d : Int} (hd : decode cc pc = .ok (.sipush d, 3)) (hv : (Int16.ofInt d).toInt32 = iZ d) (kk : V x k n ws (pc + 3) lv (.int (iZ d) :: st)) : V x k n ws pc lv st := by
  obtain ⟨p, l', e, R', s, m, args, below, meth, c, g', nL', A, H0, Q⟩ := x
  obtain ⟨rfl, rfl, rfl, rfl, hx, hb, hml, hown, hts, hK, hlk, hA⟩ := hx
  intro H locs ls hP hD hS h
  exact lv_sipush hx hb hd hv (kk H locs ls hP hD hS h)
theorem V_lconst (hx : FX x l R g nL cc own) {d : Fin 2} {v : Int64} (hd : decode cc pc = .ok (.lconst d, 1)) (hv : Int64.ofNat (d : Nat) = v) (kk : V x k n ws (pc + 1) lv (.long v :: st)) : V x k n ws pc lv st := by
  obtain ⟨p, l', e, R', s, m, args, below, meth, c, g', nL', A, H0, Q⟩ := x
  obtain ⟨rfl, rfl, rfl, rfl, hx, hb, hml, hown, hts, hK, hlk, hA⟩ := hx
  intro H locs ls hP hD hS h
  exact lv_lconst hx hb hd hv (kk H locs ls hP hD hS h)
theorem V_ldc2 (hx : FX x l R g nL cc own) {i : Nat} {v : Int64} (hd : decode cc pc = .ok (.ldc2_w i, 3)) (hq : Cond.constantLong own i v ∈ tbl) (kk : V x k n ws (pc + 3) lv (.long v :: st)) : V x k n ws pc lv st := by
  obtain ⟨p, l', e, R', s, m, args, below, meth, c, g', nL', A, H0, Q⟩ := x
  obtain ⟨rfl, rfl, rfl, rfl, hx, hb, hml, hown, hts, hK, hlk, hA⟩ := hx
  intro H locs ls hP hD hS h
  exact lv_ldc2 hx hb hown (hts _ _ hq) hd (kk H locs ls hP hD hS h)
theorem V_iadd (hx : FX x l R g nL cc own) {a b : Int} (hd : decode cc pc = .ok (.iadd, 1)) (kk : V x k n ws (pc + 1) lv (.int (iZ (a + b)) :: st)) : V x k n ws pc lv (.int (iZ b) :: .int (iZ a) :: st) := by
  rw [← iZ_add] at kk
  obtain ⟨p, l', e, R', s, m, args, below, meth, c, g', nL', A, H0, Q⟩ := x
  obtain ⟨rfl, rfl, rfl, rfl, hx, hb, hml, hown, hts, hK, hlk, hA⟩ := hx
  intro H locs ls hP hD hS h
  exact lv_iadd hx hb hd (kk H locs ls hP hD hS h)
theorem V_isub (hx : FX x l R g nL cc own) {a b : Int} (hd : decode cc pc = .ok (.isub, 1)) (kk : V x k n ws (pc + 1) lv (.int (iZ (a - b)) :: st)) : V x k n ws pc lv (.int (iZ b) :: .int (iZ a) :: st) := by
  rw [← iZ_sub] at kk
  obtain ⟨p, l', e, R', s, m, args, below, meth, c, g', nL', A, H0, Q⟩ := x
  obtain ⟨rfl, rfl, rfl, rfl, hx, hb, hml, hown, hts, hK, hlk, hA⟩ := hx
  intro H locs ls hP hD hS h
  exact lv_isub hx hb hd (kk H locs ls hP hD hS h)
theorem V_imul (hx : FX x l R g nL cc own) {a b : Int} (hd : decode cc pc = .ok (.imul, 1)) (kk : V x k n ws (pc + 1) lv (.int (iZ (a * b)) :: st)) : V x k n ws pc lv (.int (iZ b) :: .int (iZ a) :: st) := by
  rw [← iZ_mul] at kk
  obtain ⟨p, l', e, R', s, m, args, below, meth, c, g', nL', A, H0, Q⟩ := x
  obtain ⟨rfl, rfl, rfl, rfl, hx, hb, hml, hown, hts, hK, hlk, hA⟩ := hx
  intro H locs ls hP hD hS h
  exact lv_imul hx hb hd (kk H locs ls hP hD hS h)
theorem V_dup (hx : FX x l R g nL cc own) {v : Value} (hd : decode cc pc = .ok (.dup, 1)) (hv : v.category = 1) (kk : V x k n ws (pc + 1) lv (v :: v :: st)) : V x k n ws pc lv (v :: st) := by
  obtain ⟨p, l', e, R', s, m, args, below, meth, c, g', nL', A, H0, Q⟩ := x
  obtain ⟨rfl, rfl, rfl, rfl, hx, hb, hml, hown, hts, hK, hlk, hA⟩ := hx
  intro H locs ls hP hD hS h
  exact lv_dup hx hb hd hv (kk H locs ls hP hD hS h)
theorem V_dup2 (hx : FX x l R g nL cc own) {v w : Value} (hd : decode cc pc = .ok (.dup2, 1)) (hv : v.category = 1) (hw : w.category = 1) (kk : V x k n ws (pc + 1) lv (v :: w :: v :: w :: st)) : V x k n ws pc lv (v :: w :: st) := by
  obtain ⟨p, l', e, R', s, m, args, below, meth, c, g', nL', A, H0, Q⟩ := x
  obtain ⟨rfl, rfl, rfl, rfl, hx, hb, hml, hown, hts, hK, hlk, hA⟩ := hx
  intro H locs ls hP hD hS h
  exact lv_dup2_11 hx hb hd hv hw (kk H locs ls hP hD hS h)
theorem V_pop (hx : FX x l R g nL cc own) {v : Value} (hd : decode cc pc = .ok (.pop, 1)) (hv : v.category = 1) (kk : V x k n ws (pc + 1) lv st) : V x k n ws pc lv (v :: st) := by
  obtain ⟨p, l', e, R', s, m, args, below, meth, c, g', nL', A, H0, Q⟩ := x
  obtain ⟨rfl, rfl, rfl, rfl, hx, hb, hml, hown, hts, hK, hlk, hA⟩ := hx
  intro H locs ls hP hD hS h
  exact lv_pop hx hb hd hv (kk H locs ls hP hD hS h)
theorem V_goto (hx : FX x l R g nL cc own) {off : Int} (hd : decode cc pc = .ok (.goto off, 3)) (tgt : Nat) (ht : (pc : Int) + off = (tgt : Int)) (kk : V x k n ws tgt lv st) : V x k n ws pc lv st := by
  obtain ⟨p, l', e, R', s, m, args, below, meth, c, g', nL', A, H0, Q⟩ := x
  obtain ⟨rfl, rfl, rfl, rfl, hx, hb, hml, hown, hts, hK, hlk, hA⟩ := hx
  intro H locs ls hP hD hS h
  exact lv_goto hx hb hd ht (kk H locs ls hP hD hS h)
theorem V_icmp_lt (hx : FX x l R g nL cc own) {a b : Int} {off : Int} (hd : decode cc pc = .ok (.if_icmp .lt off, 3)) (tgt : Nat) (ht : (pc : Int) + off = (tgt : Int)) (ha : rg a) (hb : rg b) (k1 : a < b → V x k n ws tgt lv st) (k2 : ¬ (a < b) → V x k n ws (pc + 3) lv st) : V x k n ws pc lv (.int (iZ b) :: .int (iZ a) :: st) := by
  have ha9 := ha
  have hb9 := hb
  obtain ⟨p, l', e, R', s, m, args, below, meth, c, g', nL', A, H0, Q⟩ := x
  obtain ⟨rfl, rfl, rfl, rfl, hx, hb0, hml, hown, hts, hK, hlk, hA⟩ := hx
  intro H locs ls hP hD hS h
  exact lv_icmp_lt hx hb0 hd ht (fun h9 => k1 ((iZ_lt ha9 hb9).mp h9) H locs ls hP hD hS h) (fun h9 => k2 (fun e9 => h9 ((iZ_lt ha9 hb9).mpr e9)) H locs ls hP hD hS h)
theorem V_icmp_ge (hx : FX x l R g nL cc own) {a b : Int} {off : Int} (hd : decode cc pc = .ok (.if_icmp .ge off, 3)) (tgt : Nat) (ht : (pc : Int) + off = (tgt : Int)) (ha : rg a) (hb : rg b) (k1 : b ≤ a → V x k n ws tgt lv st) (k2 : ¬ (b ≤ a) → V x k n ws (pc + 3) lv st) : V x k n ws pc lv (.int (iZ b) :: .int (iZ a) :: st) := by
  have ha9 := ha
  have hb9 := hb
  obtain ⟨p, l', e, R', s, m, args, below, meth, c, g', nL', A, H0, Q⟩ := x
  obtain ⟨rfl, rfl, rfl, rfl, hx, hb0, hml, hown, hts, hK, hlk, hA⟩ := hx
  intro H locs ls hP hD hS h
  exact lv_icmp_ge hx hb0 hd ht (fun h9 => k1 ((iZ_le hb9 ha9).mp h9) H locs ls hP hD hS h) (fun h9 => k2 (fun e9 => h9 ((iZ_le hb9 ha9).mpr e9)) H locs ls hP hD hS h)
theorem V_icmp_gt (hx : FX x l R g nL cc own) {a b : Int} {off : Int} (hd : decode cc pc = .ok (.if_icmp .gt off, 3)) (tgt : Nat) (ht : (pc : Int) + off = (tgt : Int)) (ha : rg a) (hb : rg b) (k1 : b < a → V x k n ws tgt lv st) (k2 : ¬ (b < a) → V x k n ws (pc + 3) lv st) : V x k n ws pc lv (.int (iZ b) :: .int (iZ a) :: st) := by
  have ha9 := ha
  have hb9 := hb
  obtain ⟨p, l', e, R', s, m, args, below, meth, c, g', nL', A, H0, Q⟩ := x
  obtain ⟨rfl, rfl, rfl, rfl, hx, hb0, hml, hown, hts, hK, hlk, hA⟩ := hx
  intro H locs ls hP hD hS h
  exact lv_icmp_gt hx hb0 hd ht (fun h9 => k1 ((iZ_lt hb9 ha9).mp h9) H locs ls hP hD hS h) (fun h9 => k2 (fun e9 => h9 ((iZ_lt hb9 ha9).mpr e9)) H locs ls hP hD hS h)
theorem V_icmp_le (hx : FX x l R g nL cc own) {a b : Int} {off : Int} (hd : decode cc pc = .ok (.if_icmp .le off, 3)) (tgt : Nat) (ht : (pc : Int) + off = (tgt : Int)) (ha : rg a) (hb : rg b) (k1 : a ≤ b → V x k n ws tgt lv st) (k2 : ¬ (a ≤ b) → V x k n ws (pc + 3) lv st) : V x k n ws pc lv (.int (iZ b) :: .int (iZ a) :: st) := by
  have ha9 := ha
  have hb9 := hb
  obtain ⟨p, l', e, R', s, m, args, below, meth, c, g', nL', A, H0, Q⟩ := x
  obtain ⟨rfl, rfl, rfl, rfl, hx, hb0, hml, hown, hts, hK, hlk, hA⟩ := hx
  intro H locs ls hP hD hS h
  exact lv_icmp_le hx hb0 hd ht (fun h9 => k1 ((iZ_le ha9 hb9).mp h9) H locs ls hP hD hS h) (fun h9 => k2 (fun e9 => h9 ((iZ_le ha9 hb9).mpr e9)) H locs ls hP hD hS h)
theorem V_icmp_eq (hx : FX x l R g nL cc own) {a b : Int} {off : Int} (hd : decode cc pc = .ok (.if_icmp .eq off, 3)) (tgt : Nat) (ht : (pc : Int) + off = (tgt : Int)) (ha : rg a) (hb : rg b) (k1 : a = b → V x k n ws tgt lv st) (k2 : ¬ (a = b) → V x k n ws (pc + 3) lv st) : V x k n ws pc lv (.int (iZ b) :: .int (iZ a) :: st) := by
  have ha9 := ha
  have hb9 := hb
  obtain ⟨p, l', e, R', s, m, args, below, meth, c, g', nL', A, H0, Q⟩ := x
  obtain ⟨rfl, rfl, rfl, rfl, hx, hb0, hml, hown, hts, hK, hlk, hA⟩ := hx
  intro H locs ls hP hD hS h
  exact lv_icmp_eq hx hb0 hd ht (fun h9 => k1 ((iZ_eq ha9 hb9).mp h9) H locs ls hP hD hS h) (fun h9 => k2 (fun e9 => h9 ((iZ_eq ha9 hb9).mpr e9)) H locs ls hP hD hS h)
theorem V_icmp_ne (hx : FX x l R g nL cc own) {a b : Int} {off : Int} (hd : decode cc pc = .ok (.if_icmp .ne off, 3)) (tgt : Nat) (ht : (pc : Int) + off = (tgt : Int)) (ha : rg a) (hb : rg b) (k1 : a ≠ b → V x k n ws tgt lv st) (k2 : a = b → V x k n ws (pc + 3) lv st) : V x k n ws pc lv (.int (iZ b) :: .int (iZ a) :: st) := by
  have ha9 := ha
  have hb9 := hb
  obtain ⟨p, l', e, R', s, m, args, below, meth, c, g', nL', A, H0, Q⟩ := x
  obtain ⟨rfl, rfl, rfl, rfl, hx, hb0, hml, hown, hts, hK, hlk, hA⟩ := hx
  intro H locs ls hP hD hS h
  exact lv_icmp_ne hx hb0 hd ht (fun h9 => k1 (fun e9 => h9 (by rw [e9])) H locs ls hP hD hS h) (fun h9 => k2 (iZ_inj ha9 hb9 h9) H locs ls hP hD hS h)
theorem V_if_lt (hx : FX x l R g nL cc own) {a : Int} {off : Int} (hd : decode cc pc = .ok (.ifCond .lt off, 3)) (tgt : Nat) (ht : (pc : Int) + off = (tgt : Int)) (ha : rg a) (k1 : a < 0 → V x k n ws tgt lv st) (k2 : ¬ (a < 0) → V x k n ws (pc + 3) lv st) : V x k n ws pc lv (.int (iZ a) :: st) := by
  have ha9 := ha
  obtain ⟨p, l', e, R', s, m, args, below, meth, c, g', nL', A, H0, Q⟩ := x
  obtain ⟨rfl, rfl, rfl, rfl, hx, hb0, hml, hown, hts, hK, hlk, hA⟩ := hx
  intro H locs ls hP hD hS h
  exact lv_if_lt hx hb0 hd ht (fun h9 => k1 ((iZ_lt ha9 rg_0).mp h9) H locs ls hP hD hS h) (fun h9 => k2 (fun e9 => h9 ((iZ_lt ha9 rg_0).mpr e9)) H locs ls hP hD hS h)
theorem V_if_ge (hx : FX x l R g nL cc own) {a : Int} {off : Int} (hd : decode cc pc = .ok (.ifCond .ge off, 3)) (tgt : Nat) (ht : (pc : Int) + off = (tgt : Int)) (ha : rg a) (k1 : 0 ≤ a → V x k n ws tgt lv st) (k2 : ¬ (0 ≤ a) → V x k n ws (pc + 3) lv st) : V x k n ws pc lv (.int (iZ a) :: st) := by
  have ha9 := ha
  obtain ⟨p, l', e, R', s, m, args, below, meth, c, g', nL', A, H0, Q⟩ := x
  obtain ⟨rfl, rfl, rfl, rfl, hx, hb0, hml, hown, hts, hK, hlk, hA⟩ := hx
  intro H locs ls hP hD hS h
  exact lv_if_ge hx hb0 hd ht (fun h9 => k1 ((iZ_le rg_0 ha9).mp h9) H locs ls hP hD hS h) (fun h9 => k2 (fun e9 => h9 ((iZ_le rg_0 ha9).mpr e9)) H locs ls hP hD hS h)
theorem V_if_gt (hx : FX x l R g nL cc own) {a : Int} {off : Int} (hd : decode cc pc = .ok (.ifCond .gt off, 3)) (tgt : Nat) (ht : (pc : Int) + off = (tgt : Int)) (ha : rg a) (k1 : 0 < a → V x k n ws tgt lv st) (k2 : ¬ (0 < a) → V x k n ws (pc + 3) lv st) : V x k n ws pc lv (.int (iZ a) :: st) := by
  have ha9 := ha
  obtain ⟨p, l', e, R', s, m, args, below, meth, c, g', nL', A, H0, Q⟩ := x
  obtain ⟨rfl, rfl, rfl, rfl, hx, hb0, hml, hown, hts, hK, hlk, hA⟩ := hx
  intro H locs ls hP hD hS h
  exact lv_if_gt hx hb0 hd ht (fun h9 => k1 ((iZ_lt rg_0 ha9).mp h9) H locs ls hP hD hS h) (fun h9 => k2 (fun e9 => h9 ((iZ_lt rg_0 ha9).mpr e9)) H locs ls hP hD hS h)
theorem V_if_le (hx : FX x l R g nL cc own) {a : Int} {off : Int} (hd : decode cc pc = .ok (.ifCond .le off, 3)) (tgt : Nat) (ht : (pc : Int) + off = (tgt : Int)) (ha : rg a) (k1 : a ≤ 0 → V x k n ws tgt lv st) (k2 : ¬ (a ≤ 0) → V x k n ws (pc + 3) lv st) : V x k n ws pc lv (.int (iZ a) :: st) := by
  have ha9 := ha
  obtain ⟨p, l', e, R', s, m, args, below, meth, c, g', nL', A, H0, Q⟩ := x
  obtain ⟨rfl, rfl, rfl, rfl, hx, hb0, hml, hown, hts, hK, hlk, hA⟩ := hx
  intro H locs ls hP hD hS h
  exact lv_if_le hx hb0 hd ht (fun h9 => k1 ((iZ_le ha9 rg_0).mp h9) H locs ls hP hD hS h) (fun h9 => k2 (fun e9 => h9 ((iZ_le ha9 rg_0).mpr e9)) H locs ls hP hD hS h)
theorem V_if_eq (hx : FX x l R g nL cc own) {a : Int} {off : Int} (hd : decode cc pc = .ok (.ifCond .eq off, 3)) (tgt : Nat) (ht : (pc : Int) + off = (tgt : Int)) (ha : rg a) (k1 : a = 0 → V x k n ws tgt lv st) (k2 : ¬ (a = 0) → V x k n ws (pc + 3) lv st) : V x k n ws pc lv (.int (iZ a) :: st) := by
  have ha9 := ha
  obtain ⟨p, l', e, R', s, m, args, below, meth, c, g', nL', A, H0, Q⟩ := x
  obtain ⟨rfl, rfl, rfl, rfl, hx, hb0, hml, hown, hts, hK, hlk, hA⟩ := hx
  intro H locs ls hP hD hS h
  exact lv_if_eq hx hb0 hd ht (fun h9 => k1 ((iZ_eq ha9 rg_0).mp h9) H locs ls hP hD hS h) (fun h9 => k2 (fun e9 => h9 ((iZ_eq ha9 rg_0).mpr e9)) H locs ls hP hD hS h)
theorem V_if_ne (hx : FX x l R g nL cc own) {a : Int} {off : Int} (hd : decode cc pc = .ok (.ifCond .ne off, 3)) (tgt : Nat) (ht : (pc : Int) + off = (tgt : Int)) (ha : rg a) (k1 : a ≠ 0 → V x k n ws tgt lv st) (k2 : a = 0 → V x k n ws (pc + 3) lv st) : V x k n ws pc lv (.int (iZ a) :: st) := by
  have ha9 := ha
  obtain ⟨p, l', e, R', s, m, args, below, meth, c, g', nL', A, H0, Q⟩ := x
  obtain ⟨rfl, rfl, rfl, rfl, hx, hb0, hml, hown, hts, hK, hlk, hA⟩ := hx
  intro H locs ls hP hD hS h
  exact lv_if_ne hx hb0 hd ht (fun h9 => k1 (fun e9 => h9 (by rw [e9]; exact iZ_0)) H locs ls hP hD hS h) (fun h9 => k2 (iZ_inj ha9 rg_0 (h9.trans iZ_0.symm)) H locs ls hP hD hS h)
end VR
