/-! rows for rows of rows, of clerks, of truths; null; numbers of which only the range is of use -/
theorem AK {s : State} {g : GT} (hT : TB s) (hK : va_K g.1 vwCl (tyl g) s) : ∃ (k : Class), s.vm.classes[g.2.2.2.1]? = some k ∧ k.kind = .array g.2.1 (.array .int) ∧ s.vm.findClass (FieldType.array .int).toString = some g.2.1 := by
  obtain ⟨comp, c, k, h1, -, h3, h4, h5⟩ := arrayOverA_spec (t := .int) (args := #[]) (o := none) (idx := []) (hT #[] _ q460)
  have e0 : s.vm.findClass ("[" ++ FieldType.int.toString) = some g.2.1 := (hK.2 0 _ rfl).2
  have e2 : s.vm.findClass ("[" ++ (FieldType.array .int).toString) = some g.2.2.2.1 := (hK.2 2 _ rfl).2
  have ec : c = g.2.2.2.1 := Option.some.inj (h5.symm.trans e2)
  have es : (FieldType.array .int).toString = "[" ++ FieldType.int.toString := rfl
  have ek : comp = g.2.1 := by rw [es] at h1; exact Option.some.inj (h1.symm.trans e0)
  subst ec
  subst ek
  exact ⟨k, h3, h4, h1⟩
theorem int_clsA {s : State} {g : GT} {cA : ClassId} (h : va_K g.1 vwCl (tyl g) s) (h2 : s.vm.findClass ("[" ++ (FieldType.array .int).toString) = some cA) : cA = g.2.2.2.1 := by
  have e2 : s.vm.findClass ("[" ++ (FieldType.array .int).toString) = some g.2.2.2.1 := (h.2 2 _ rfl).2
  exact Option.some.inj (h2.symm.trans e2)
theorem law_cls {s : State} {g : GT} {cA : ClassId} (h : va_K g.1 vwCl (tyl g ++ [(cA, .object RX3)]) s) : cA = g.2.2.2.2.1 := by
  obtain ⟨_, _, _, _, _, h1⟩ := (h.2 3 _ rfl).2
  obtain ⟨_, _, _, _, _, h2⟩ := (h.2 5 _ rfl).2
  exact Option.some.inj (h2.symm.trans h1)
theorem bool_cls {s : State} {g : GT} {cA : ClassId} (h : va_K g.1 vwCl (tyl g ++ [(cA, .boolean)]) s) : cA = g.2.2.2.2.2 := by
  have h1 : s.vm.findClass ("[" ++ FieldType.boolean.toString) = some g.2.2.2.2.2 := (h.2 4 _ rfl).2
  have h2 : s.vm.findClass ("[" ++ FieldType.boolean.toString) = some cA := (h.2 5 _ rfl).2
  exact Option.some.inj (h2.symm.trans h1)
abbrev RA (g : GT) (N : Nat) (f : Nat → Option Nat) : va_E := .inl (g.2.2.2.1, N, .inr (.inr (.inr (.inr f))))
abbrev LA (g : GT) (N : Nat) (f : Nat → Option Nat) : va_E := .inl (g.2.2.2.2.1, N, .inr (.inr (.inr (.inr f))))
abbrev IA (g : GT) (N : Nat) (f : Nat → Int32) : va_E := .inl (g.2.1, N, .inl f)
abbrev ZA (g : GT) (N : Nat) (f : Nat → Int32) : va_E := .inl (g.2.2.2.2.2, N, .inl f)
section VR2
variable {x : CT} {l : Launch} {R : Room} {g : GT} {nL : Nat} {cc : ByteArray} {own : String} {k n : Nat} {ws : va_W} {pc : Nat} {lv : List (Nat × Value)} {st : List Value}
theorem V_nd (kk : (ws.map Prod.fst).Nodup → V x k n ws pc lv st) : V x k n ws pc lv st := by
  obtain ⟨p, l', e, R', s, m, args, below, meth, c, g', nL', A, H0, Q⟩ := x
  intro H locs ls hP hD hS h
  exact kk (D_nd hD) H locs ls hP hD hS h
theorem V_newA (hx : FX x l R g nL cc own) {index : Nat} {z : Int} (N : Nat) (hz : z = (N : Int)) (hN : N ≤ 100000) (h1 : Cond.classLink own index "[I" ∈ tbl) (hk : k + 1 ≤ R.cells) (hn : n + N ≤ R.slots) (hd : decode cc pc = .ok (.anewarray index, 3)) (kk : ∀ q : Nat, V x (k + 1) (n + N) (ws ++ [(q, RA g N (fun _ => none))]) (pc + 3) lv (.ref q :: st)) : V x k n ws pc lv (.int (iZ z) :: st) := by
  subst hz
  obtain ⟨p, l', e, R', s, m, args, below, meth, c, g', nL', A, H0, Q⟩ := x
  obtain ⟨rfl, rfl, rfl, rfl, hx, hb, hml, hown, hts, hK, hlk, hA⟩ := hx
  intro H locs ls hP hD hS h
  have hcl : (iZ (N : Int)).toNatClampNeg = N := by rw [iZ_clamp ⟨by omega, by omega⟩]; exact Int.toNat_natCast N
  refine W.anewA (t := .int) hx hb hown (hts args _ h1) (hts args _ q460) rfl hd rfl (fun h9 => ?_) (by rw [hcl]; omega) hk (by rw [hcl]; exact hn) fun cA kA comp f1 f2 f3 f4 => ?_
  · have := (iZ_lt (a := (N : Int)) (b := 0) ⟨by omega, by omega⟩ rg_0).mp h9
    omega
  have e9 := int_clsA hK f1
  subst e9
  rw [hcl]
  generalize hH1 : H.push ({ cls := g'.2.2.2.1, slots := Array.replicate N .null, vm := .none } : Cell) = H1
  have z1 : H1.size = H.size + 1 := by rw [← hH1, Array.size_push]
  have e1 : H1[H.size]? = some (arrV g'.2.2.2.1 N (fun _ => .null)) := by rw [← hH1, Array.getElem?_push_size, ← arrV_new]
  have o1 : ∀ q : Nat, q < H.size → H1[q]? = H[q]? := fun q hq => by rw [← hH1, Array.getElem?_push, if_neg (Nat.ne_of_lt hq)]
  have hk9 : ∀ (k : Nat) (x : Nat × va_E), ws[k]? = some x → H1[x.1]? = H[x.1]? := fun k x hx => o1 x.1 ((hP k x hx).lt)
  refine kk H.size H1 locs ls ((hP.kept hk9).app (fun k x hx => ?_)) (hD.push hP rfl (hA _ hS.1)) ⟨Nat.le_trans hS.1 (by omega), fun x h1 h2 => (o1 x (Nat.lt_of_lt_of_le h1 hS.1)).trans (hS.2.1 x h1 h2), hS.2.2⟩ h
  have hz : k < 1 := (List.getElem?_eq_some_iff.mp hx).1
  rw [show k = 0 by omega] at hx
  cases hx
  show H1[H.size]? = some (vp_cell _ _)
  rw [vp_cell_q]
  exact e1
theorem V_newL (hx : FX x l R g nL cc own) {index : Nat} {z : Int} (N : Nat) (hz : z = (N : Int)) (hN : N ≤ 1000) (h1 : Cond.classLink own index RX3 ∈ tbl) (hk : k + 1 ≤ R.cells) (hn : n + N ≤ R.slots) (hd : decode cc pc = .ok (.anewarray index, 3)) (kk : ∀ q : Nat, V x (k + 1) (n + N) (ws ++ [(q, LA g N (fun _ => none))]) (pc + 3) lv (.ref q :: st)) : V x k n ws pc lv (.int (iZ z) :: st) := by
  subst hz
  obtain ⟨p, l', e, R', s, m, args, below, meth, c, g', nL', A, H0, Q⟩ := x
  obtain ⟨rfl, rfl, rfl, rfl, hx, hb, hml, hown, hts, hK, hlk, hA⟩ := hx
  intro H locs ls hP hD hS h
  refine va_newq (D := g'.1) (N' := N) (C := RX3) hx hb hown (hts _ _ h1) (va_AO.of (hts args _ q533)) hK hP hD hS hA (fun h9 => ?_) ?_ (by omega) hk hn hd (fun q cA H1 hK1 hP1 hD1 hS1 => ?_)
  · have := (iZ_lt (a := (N : Int)) (b := 0) ⟨by omega, by omega⟩ rg_0).mp h9
    omega
  · rw [iZ_clamp ⟨by omega, by omega⟩]; exact Int.toNat_natCast N
  · have e9 := law_cls hK1
    subst e9
    exact kk q H1 locs ls hP1 hD1 hS1 h
theorem V_newz (hx : FX x l R g nL cc own) {z : Int} (N : Nat) (hz : z = (N : Int)) (hN : N ≤ 1000) (hk : k + 1 ≤ R.cells) (hn : n + N ≤ R.slots) (hd : decode cc pc = .ok (.newarray .boolean, 2)) (kk : ∀ q : Nat, V x (k + 1) (n + N) (ws ++ [(q, ZA g N (fun _ => iZ 0))]) (pc + 2) lv (.ref q :: st)) : V x k n ws pc lv (.int (iZ z) :: st) := by
  subst hz
  obtain ⟨p, l', e, R', s, m, args, below, meth, c, g', nL', A, H0, Q⟩ := x
  obtain ⟨rfl, rfl, rfl, rfl, hx, hb, hml, hown, hts, hK, hlk, hA⟩ := hx
  intro H locs ls hP hD hS h
  refine va_newa (D := g'.1) (atype := .boolean) (ty := .boolean) (N' := N) (a0 := (N, .inl (fun _ => iZ 0))) hx hb (hts args _ q662) rfl hK hP hD hS hA (fun cA => rfl) (fun h9 => ?_) ?_ ?_ hk hn hd (fun q cA H1 hK1 hP1 hD1 hS1 => ?_)
  · have := (iZ_lt (a := (N : Int)) (b := 0) ⟨by omega, by omega⟩ rg_0).mp h9
    omega
  · rw [iZ_clamp ⟨by omega, by omega⟩]; exact Int.toNat_natCast N
  · show N * 1 ≤ 536870912
    omega
  · have e9 := bool_cls hK1
    subst e9
    exact kk q H1 locs ls hP1 hD1 hS1 h
theorem V_aaldA (hx : FX x l R g nL cc own) {a N : Nat} {f : Nat → Option Nat} {z : Int} (h0 : 0 ≤ z) (h1 : z < N) (h2 : N < 2147483648) (i : Nat) (ha : ws[i]? = some (a, RA g N f)) {r : Nat} (hv : f z.toNat = some r) (hd : decode cc pc = .ok (.aaload, 1)) (kk : V x k n ws (pc + 1) lv (.ref r :: st)) : V x k n ws pc lv (.int (iZ z) :: .ref a :: st) := by
  obtain ⟨p, l', e, R', s, m, args, below, meth, c, g', nL', A, H0, Q⟩ := x
  obtain ⟨rfl, rfl, rfl, rfl, hx, hb, hml, hown, hts, hK, hlk, hA⟩ := hx
  intro H locs ls hP hD hS h
  have hin := iZ_in h0 h1 h2
  have hcl : (iZ z).toNatClampNeg = z.toNat := iZ_clamp ⟨by omega, by omega⟩
  have hlt : z.toNat < N := by omega
  refine W.aald (v := va_rf (f z.toNat)) (ty := .array .int) hx hb (hP i _ ha) ((hK.2 2 _ rfl).1 N (fun j => va_rf (f j))) rfl (fun q => by cases q) (by show ¬ (iZ z < 0 ∨ (arrV _ _ _).slots.size ≤ _); rw [arrV_size]; exact hin) (by show (arrV _ _ _).slots[_]? = _; rw [hcl, arrV_read _ _ hlt]) rfl rfl hd ?_
  rw [hv]
  exact kk H locs ls hP hD hS h
theorem V_aaldL (hx : FX x l R g nL cc own) {a N : Nat} {f : Nat → Option Nat} {z : Int} (h0 : 0 ≤ z) (h1 : z < N) (h2 : N < 2147483648) (i : Nat) (ha : ws[i]? = some (a, LA g N f)) {r : Nat} (hv : f z.toNat = some r) (hd : decode cc pc = .ok (.aaload, 1)) (kk : V x k n ws (pc + 1) lv (.ref r :: st)) : V x k n ws pc lv (.int (iZ z) :: .ref a :: st) := by
  obtain ⟨p, l', e, R', s, m, args, below, meth, c, g', nL', A, H0, Q⟩ := x
  obtain ⟨rfl, rfl, rfl, rfl, hx, hb, hml, hown, hts, hK, hlk, hA⟩ := hx
  intro H locs ls hP hD hS h
  refine va_aldq (D := g'.1) hx hb hK hP i 3 ha rfl (iZ_in h0 h1 h2) hd ?_
  rw [iZ_clamp ⟨by omega, by omega⟩, hv]
  exact kk H locs ls hP hD hS h
theorem V_aastL (hx : FX x l R g nL cc own) {a N v : Nat} {f : Nat → Option Nat} {vs : List Value} {z : Int} (h0 : 0 ≤ z) (h1 : z < N) (h2 : N < 2147483648) (i qk : Nat) (ha : ws[i]? = some (a, LA g N f)) (hv : ws[qk]? = some (v, .inr (3, vs))) (hd : decode cc pc = .ok (.aastore, 1)) (kk : V x k n (ws.set i (a, LA g N (va_up f z.toNat (some v)))) (pc + 1) lv st) : V x k n ws pc lv (.ref v :: .int (iZ z) :: .ref a :: st) := by
  obtain ⟨p, l', e, R', s, m, args, below, meth, c, g', nL', A, H0, Q⟩ := x
  obtain ⟨rfl, rfl, rfl, rfl, hx, hb, hml, hown, hts, hK, hlk, hA⟩ := hx
  intro H locs ls hP hD hS h
  refine va_astq (D := g'.1) (r := (RX3, TX3, 6)) hx hb hK hP hD hS i 3 qk 3 ha rfl hv rfl (iZ_in h0 h1 h2) hd (fun H1 locs1 hP1 hD1 hS1 => ?_)
  rw [iZ_clamp ⟨by omega, by omega⟩] at hP1 hD1
  exact kk H1 locs1 ls hP1 hD1 hS1 h
theorem V_aastA (hx : FX x l R g nL cc own) {a N v : Nat} {f : Nat → Option Nat} {y : vp_A} {z : Int} (h0 : 0 ≤ z) (h1 : z < N) (h2 : N < 2147483648) (i qk : Nat) (ha : ws[i]? = some (a, RA g N f)) (hy : ∃ F, vp_cell g.2.1 y = arrV g.2.1 y.1 F) (hv : ws[qk]? = some (v, .inl (g.2.1, y))) (hd : decode cc pc = .ok (.aastore, 1)) (kk : V x k n (ws.set i (a, RA g N (va_up f z.toNat (some v)))) (pc + 1) lv st) : V x k n ws pc lv (.ref v :: .int (iZ z) :: .ref a :: st) := by
  obtain ⟨p, l', e, R', s, m, args, below, meth, c, g', nL', A, H0, Q⟩ := x
  obtain ⟨rfl, rfl, rfl, rfl, hx, hb, hml, hown, hts, hK, hlk, hA⟩ := hx
  intro H locs ls hP hD hS h
  have hin := iZ_in h0 h1 h2
  have hcl : (iZ z).toNatClampNeg = z.toNat := iZ_clamp ⟨by omega, by omega⟩
  have hlt : z.toNat < N := by omega
  have hn0 : ¬ iZ z < 0 := fun q => hin (Or.inl q)
  obtain ⟨kA, k1, k2, k3⟩ := AK hts hK
  obtain ⟨kI, hkI, -⟩ := Vm.findClass_spec k3
  obtain ⟨F, hF⟩ := hy
  have hcv : H[v]? = some (arrV g'.2.1 y.1 F) := by rw [← hF]; exact hP qk _ hv
  refine W.aast hx hb (hP i _ ha) (fun q h => by cases h) (fun h => by cases h) k1 k2 rfl hkI ⟨hn0, by show _ < (arrV _ _ _).slots.size; rw [arrV_size, hcl]; exact hlt⟩ hcv (fun q h => by cases h) hkI (va_asg _ _) rfl rfl hd fun H1 e z9 oq => ?_
  refine kk H1 _ ls (hP.set hD ha ?_ oq) (hD.set ha) (hS.put z9 oq (hD.2 i _ ha)) h
  show H1[a]? = some (vp_cell _ _)
  rw [e, hcl]
  rw [vp_cell_q, vp_cell_q, arrV_store]
  congr 2
  funext q
  by_cases hq : q = z.toNat
  · subst hq
    simp [updV, va_up, va_rf]
  · simp [updV, va_up, hq]
theorem V_alenK (hx : FX x l R g nL cc own) {a t0 : Nat} {cA : ClassId} {ty : FieldType} {y : vp_A} (i : Nat) (ha : ws[i]? = some (a, .inl (cA, y))) (ht : (tyl g)[t0]? = some (cA, ty)) {v : Int} (hv : (y.1 : Int) = v) (hd : decode cc pc = .ok (.arraylength, 1)) (kk : V x k n ws (pc + 1) lv (.int (iZ v) :: st)) : V x k n ws pc lv (.ref a :: st) := by
  subst hv
  obtain ⟨p, l', e, R', s, m, args, below, meth, c, g', nL', A, H0, Q⟩ := x
  obtain ⟨rfl, rfl, rfl, rfl, hx, hb, hml, hown, hts, hK, hlk, hA⟩ := hx
  intro H locs ls hP hD hS h
  exact va_alen (D := g'.1) hx hb hK hP i t0 ha ht (v := iZ (y.1 : Int)) rfl hd (kk H locs ls hP hD hS h)
theorem V_zald (hx : FX x l R g nL cc own) {a N : Nat} {f : Nat → Int32} {z : Int} (h0 : 0 ≤ z) (h1 : z < N) (h2 : N < 2147483648) (i : Nat) (ha : ws[i]? = some (a, ZA g N f)) {v : Int} (hv : f z.toNat = iZ v) (hd : decode cc pc = .ok (.baload, 1)) (kk : V x k n ws (pc + 1) lv (.int (iZ v) :: st)) : V x k n ws pc lv (.int (iZ z) :: .ref a :: st) := by
  obtain ⟨p, l', e, R', s, m, args, below, meth, c, g', nL', A, H0, Q⟩ := x
  obtain ⟨rfl, rfl, rfl, rfl, hx, hb, hml, hown, hts, hK, hlk, hA⟩ := hx
  intro H locs ls hP hD hS h
  refine va_zald (D := g'.1) hx hb hK hP i 4 ha rfl (iZ_in h0 h1 h2) hd ?_
  rw [iZ_clamp ⟨by omega, by omega⟩, hv]
  exact kk H locs ls hP hD hS h
theorem nar_bz (c : Prop) : vp_nar .boolean (iZ (bz c)) = iZ (bz c) := by rcases bz_01 c with h | h <;> rw [h] <;> rfl
theorem V_zast (hx : FX x l R g nL cc own) {a N : Nat} {f : Nat → Int32} {z : Int} {c9 : Prop} (h0 : 0 ≤ z) (h1 : z < N) (h2 : N < 2147483648) (i : Nat) (ha : ws[i]? = some (a, ZA g N f)) (hd : decode cc pc = .ok (.bastore, 1)) (kk : V x k n (ws.set i (a, ZA g N (upd f z.toNat (iZ (bz c9))))) (pc + 1) lv st) : V x k n ws pc lv (.int (iZ (bz c9)) :: .int (iZ z) :: .ref a :: st) := by
  obtain ⟨p, l', e, R', s, m, args, below, meth, c, g', nL', A, H0, Q⟩ := x
  obtain ⟨rfl, rfl, rfl, rfl, hx, hb, hml, hown, hts, hK, hlk, hA⟩ := hx
  intro H locs ls hP hD hS h
  refine va_zast (D := g'.1) hx hb hK hP hD hS i 4 ha rfl (iZ_in h0 h1 h2) hd (fun H1 locs1 hP1 hD1 hS1 => ?_)
  rw [iZ_clamp ⟨by omega, by omega⟩, nar_bz] at hP1 hD1
  exact kk H1 locs1 ls hP1 hD1 hS1 h
/-! null -/
theorem V_null (hx : FX x l R g nL cc own) (hd : decode cc pc = .ok (.aconst_null, 1)) (kk : V x k n ws (pc + 1) lv (.null :: st)) : V x k n ws pc lv st := by
  obtain ⟨p, l', e, R', s, m, args, below, meth, c, g', nL', A, H0, Q⟩ := x
  obtain ⟨rfl, rfl, rfl, rfl, hx, hb, hml, hown, hts, hK, hlk, hA⟩ := hx
  intro H locs ls hP hD hS h
  exact lv_null hx hb hd (kk H locs ls hP hD hS h)
theorem V_aload_nN (hx : FX x l R g nL cc own) {i : Fin 4} (hd : decode cc pc = .ok (.aload_n i, 1)) (j : Nat) (hl : lv[j]? = some ((i : Nat), .null)) (kk : V x k n ws (pc + 1) lv (.null :: st)) : V x k n ws pc lv st := by
  obtain ⟨p, l', e, R', s, m, args, below, meth, c, g', nL', A, H0, Q⟩ := x
  obtain ⟨rfl, rfl, rfl, rfl, hx, hb, hml, hown, hts, hK, hlk, hA⟩ := hx
  intro H locs ls hP hD hS h
  exact lv_aload_nN hx hb hd rfl (lv_at h j hl) (kk H locs ls hP hD hS h)
theorem V_aloadN (hx : FX x l R g nL cc own) {i : Nat} (hd : decode cc pc = .ok (.aload i, 2)) (j : Nat) (hl : lv[j]? = some (i, .null)) (kk : V x k n ws (pc + 2) lv (.null :: st)) : V x k n ws pc lv st := by
  obtain ⟨p, l', e, R', s, m, args, below, meth, c, g', nL', A, H0, Q⟩ := x
  obtain ⟨rfl, rfl, rfl, rfl, hx, hb, hml, hown, hts, hK, hlk, hA⟩ := hx
  intro H locs ls hP hD hS h
  exact lv_aloadN hx hb hd (lv_at h j hl) (kk H locs ls hP hD hS h)
theorem V_astore_nN (hx : FX x l R g nL cc own) {i : Fin 4} (hd : decode cc pc = .ok (.astore_n i, 1)) (lv' : List (Nat × Value)) (hn : (i : Nat) < nL) (hl : ((i : Nat), Value.null) :: lv.filter (fun q => !(q.1 == (i : Nat)) && !(q.1 + 1 == (i : Nat) && q.2.category == 2)) = lv') (kk : V x k n ws (pc + 1) lv' st) : V x k n ws pc lv (.null :: st) := by
  obtain ⟨p, l', e, R', s, m, args, below, meth, c, g', nL', A, H0, Q⟩ := x
  obtain ⟨rfl, rfl, rfl, rfl, hx, hb, hml, hown, hts, hK, hlk, hA⟩ := hx
  intro H locs ls hP hD hS h
  exact lv_astore_nN hx hb hd rfl h hn hl (fun ls' h' => kk H locs ls' hP hD hS h')
theorem V_astoreN (hx : FX x l R g nL cc own) {i : Nat} (hd : decode cc pc = .ok (.astore i, 2)) (lv' : List (Nat × Value)) (hn : i < nL) (hl : (i, Value.null) :: lv.filter (fun q => !(q.1 == i) && !(q.1 + 1 == i && q.2.category == 2)) = lv') (kk : V x k n ws (pc + 2) lv' st) : V x k n ws pc lv (.null :: st) := by
  obtain ⟨p, l', e, R', s, m, args, below, meth, c, g', nL', A, H0, Q⟩ := x
  obtain ⟨rfl, rfl, rfl, rfl, hx, hb, hml, hown, hts, hK, hlk, hA⟩ := hx
  intro H locs ls hP hD hS h
  exact lv_astoreN hx hb hd h hn hl (fun ls' h' => kk H locs ls' hP hD hS h')
theorem V_ifnull (hx : FX x l R g nL cc own) {a : Nat} {off : Int} (hd : decode cc pc = .ok (.ifnull off, 3)) (kk : V x k n ws (pc + 3) lv st) : V x k n ws pc lv (.ref a :: st) := by
  obtain ⟨p, l', e, R', s, m, args, below, meth, c, g', nL', A, H0, Q⟩ := x
  obtain ⟨rfl, rfl, rfl, rfl, hx, hb, hml, hown, hts, hK, hlk, hA⟩ := hx
  intro H locs ls hP hD hS h
  exact lv_ifnull hx hb hd (kk H locs ls hP hD hS h)
theorem V_ifnullN (hx : FX x l R g nL cc own) {off : Int} (hd : decode cc pc = .ok (.ifnull off, 3)) (tgt : Nat) (ht : (pc : Int) + off = (tgt : Int)) (kk : V x k n ws tgt lv st) : V x k n ws pc lv (.null :: st) := by
  obtain ⟨p, l', e, R', s, m, args, below, meth, c, g', nL', A, H0, Q⟩ := x
  obtain ⟨rfl, rfl, rfl, rfl, hx, hb, hml, hown, hts, hK, hlk, hA⟩ := hx
  intro H locs ls hP hD hS h
  exact lv_ifnullN hx hb hd ht (kk H locs ls hP hD hS h)
theorem V_ifnonnull (hx : FX x l R g nL cc own) {a : Nat} {off : Int} (hd : decode cc pc = .ok (.ifnonnull off, 3)) (tgt : Nat) (ht : (pc : Int) + off = (tgt : Int)) (kk : V x k n ws tgt lv st) : V x k n ws pc lv (.ref a :: st) := by
  obtain ⟨p, l', e, R', s, m, args, below, meth, c, g', nL', A, H0, Q⟩ := x
  obtain ⟨rfl, rfl, rfl, rfl, hx, hb, hml, hown, hts, hK, hlk, hA⟩ := hx
  intro H locs ls hP hD hS h
  exact lv_ifnonnull hx hb hd ht (kk H locs ls hP hD hS h)
theorem V_ifnonnullN (hx : FX x l R g nL cc own) {off : Int} (hd : decode cc pc = .ok (.ifnonnull off, 3)) (kk : V x k n ws (pc + 3) lv st) : V x k n ws pc lv (.null :: st) := by
  obtain ⟨p, l', e, R', s, m, args, below, meth, c, g', nL', A, H0, Q⟩ := x
  obtain ⟨rfl, rfl, rfl, rfl, hx, hb, hml, hown, hts, hK, hlk, hA⟩ := hx
  intro H locs ls hP hD hS h
  exact lv_ifnonnullN hx hb hd (kk H locs ls hP hD hS h)
/-! numbers -/
theorem V_irem (hx : FX x l R g nL cc own) {a b : Int} (ha : 0 ≤ a ∧ a < 2147483648) (hb : 0 < b ∧ b < 2147483648) (hd : decode cc pc = .ok (.irem, 1)) (kk : V x k n ws (pc + 1) lv (.int (iZ (a % b)) :: st)) : V x k n ws pc lv (.int (iZ b) :: .int (iZ a) :: st) := by
  obtain ⟨A1, hA1⟩ := Int.eq_ofNat_of_zero_le ha.1
  obtain ⟨B1, hB1⟩ := Int.eq_ofNat_of_zero_le (Int.le_of_lt hb.1)
  subst hA1 hB1
  have e : iZ (A1 : Int) - iZ (A1 : Int) / iZ (B1 : Int) * iZ (B1 : Int) = iZ ((A1 : Int) % (B1 : Int)) := pk_rem (a := A1) (d := B1) (by omega) (by omega) (by omega)
  have h0 : ¬ iZ (B1 : Int) = 0 := fun h => by have := iZ_inj (b := 0) ⟨by omega, by omega⟩ rg_0 (h.trans iZ_0.symm); omega
  rw [← e] at kk
  obtain ⟨p, l', e9, R', s, m, args, below, meth, c, g', nL', A, H0, Q⟩ := x
  obtain ⟨rfl, rfl, rfl, rfl, hx, hb0, hml, hown, hts, hK, hlk, hA⟩ := hx
  intro H locs ls hP hD hS h
  exact lv_irem hx hb0 hd h0 (kk H locs ls hP hD hS h)
theorem V_ineg (hx : FX x l R g nL cc own) {a : Int} (hd : decode cc pc = .ok (.ineg, 1)) (kk : V x k n ws (pc + 1) lv (.int (iZ (-a)) :: st)) : V x k n ws pc lv (.int (iZ a) :: st) := by
  have e : -iZ a = iZ (-a) := by unfold iZ; exact (Int32.ofInt_neg a).symm
  rw [← e] at kk
  obtain ⟨p, l', e9, R', s, m, args, below, meth, c, g', nL', A, H0, Q⟩ := x
  obtain ⟨rfl, rfl, rfl, rfl, hx, hb, hml, hown, hts, hK, hlk, hA⟩ := hx
  intro H locs ls hP hD hS h
  exact lv_ineg hx hb hd (kk H locs ls hP hD hS h)
/-- any number of an int -/
theorem iZ_any (v : Int32) : ∃ z : Int, rg z ∧ v = iZ z := ⟨v.toInt, rg_toInt v, (iZ_of v).symm⟩
theorem V_ishr (hx : FX x l R g nL cc own) {a b : Int} (hd : decode cc pc = .ok (.ishr, 1)) (kk : ∀ z : Int, rg z → V x k n ws (pc + 1) lv (.int (iZ z) :: st)) : V x k n ws pc lv (.int (iZ b) :: .int (iZ a) :: st) := by
  obtain ⟨z, hz, e⟩ := iZ_any (iZ a >>> (iZ b &&& 31))
  have k9 := kk z hz
  rw [← e] at k9
  obtain ⟨p, l', e9, R', s, m, args, below, meth, c, g', nL', A, H0, Q⟩ := x
  obtain ⟨rfl, rfl, rfl, rfl, hx, hb, hml, hown, hts, hK, hlk, hA⟩ := hx
  intro H locs ls hP hD hS h
  exact lv_ishr hx hb hd (k9 H locs ls hP hD hS h)
theorem V_imulA (hx : FX x l R g nL cc own) {a b : Int} (hd : decode cc pc = .ok (.imul, 1)) (kk : ∀ z : Int, rg z → V x k n ws (pc + 1) lv (.int (iZ z) :: st)) : V x k n ws pc lv (.int (iZ b) :: .int (iZ a) :: st) := by
  obtain ⟨z, hz, e⟩ := iZ_any (iZ (a * b))
  refine V_imul hx hd ?_
  rw [e]
  exact kk z hz
theorem V_iaddA (hx : FX x l R g nL cc own) {a b : Int} (hd : decode cc pc = .ok (.iadd, 1)) (kk : ∀ z : Int, rg z → V x k n ws (pc + 1) lv (.int (iZ z) :: st)) : V x k n ws pc lv (.int (iZ b) :: .int (iZ a) :: st) := by
  obtain ⟨z, hz, e⟩ := iZ_any (iZ (a + b))
  refine V_iadd hx hd ?_
  rw [e]
  exact kk z hz
/-- v & 0x7fffffff -/
theorem V_iandP (hx : FX x l R g nL cc own) {a : Int} (hd : decode cc pc = .ok (.iand, 1)) (kk : ∀ z : Int, (0 ≤ z ∧ z < 2147483648) → V x k n ws (pc + 1) lv (.int (iZ z) :: st)) : V x k n ws pc lv (.int 2147483647 :: .int (iZ a) :: st) := by
  have h9 : ∀ b : BitVec 32, (b &&& 2147483647#32).msb = false := by
    intro b
    rw [BitVec.msb_and, show (2147483647#32 : BitVec 32).msb = false by decide, Bool.and_false]
  have h0 : 0 ≤ (iZ a &&& 2147483647).toInt := by
    rw [← Int32.toInt_toBitVec, Int32.toBitVec_and]
    have e := BitVec.toInt_eq_msb_cond ((iZ a).toBitVec &&& (2147483647 : Int32).toBitVec)
    rw [show (2147483647 : Int32).toBitVec = 2147483647#32 from rfl] at e ⊢
    rw [h9] at e
    rw [e]
    exact Int.natCast_nonneg _
  have k9 := kk (iZ a &&& 2147483647).toInt ⟨h0, Int32.toInt_lt _⟩
  rw [iZ_of] at k9
  obtain ⟨p, l', e9, R', s, m, args, below, meth, c, g', nL', A, H0, Q⟩ := x
  obtain ⟨rfl, rfl, rfl, rfl, hx, hb, hml, hown, hts, hK, hlk, hA⟩ := hx
  intro H locs ls hP hD hS h
  exact lv_iand hx hb hd (k9 H locs ls hP hD hS h)
theorem V_ldc (hx : FX x l R g nL cc own) {i : Nat} {v : Int32} (hd : decode cc pc = .ok (.ldc i, 2)) (hq : Cond.constant own i v ∈ tbl) (kk : V x k n ws (pc + 2) lv (.int v :: st)) : V x k n ws pc lv st := by
  obtain ⟨p, l', e, R', s, m, args, below, meth, c, g', nL', A, H0, Q⟩ := x
  obtain ⟨rfl, rfl, rfl, rfl, hx, hb, hml, hown, hts, hK, hlk, hA⟩ := hx
  intro H locs ls hP hD hS h
  exact lv_ldc hx hb hown (hts _ _ hq) hd (kk H locs ls hP hD hS h)
end VR2
/-! worlds as maps: an address's tag and its cell -/
abbrev MM : Type := Nat → Option (Nat × va_E)
def HM (M : MM) (ws : va_W) : Prop := ∀ a r e, M a = some (r, e) → (a, e) ∈ ws
def KP (S : Nat → Prop) (M M' : MM) : Prop := ∀ a r e, M a = some (r, e) → S r → M' a = some (r, e)
def ALL : Nat → Prop := fun _ => True
theorem KP.rf {S : Nat → Prop} {M : MM} : KP S M M := fun _ _ _ h _ => h
theorem KP.tr {S : Nat → Prop} {M M1 M2 : MM} (h : KP S M M1) (h2 : KP S M1 M2) : KP S M M2 := fun a r e h9 hs => h2 a r e (h a r e h9 hs) hs
theorem KP.of {S S' : Nat → Prop} {M M' : MM} (h : KP S M M') (hs : ∀ r, S' r → S r) : KP S' M M' := fun a r e h9 h8 => h a r e h9 (hs r h8)
theorem KP.all {S : Nat → Prop} {M M' : MM} (h : KP ALL M M') : KP S M M' := h.of (fun _ _ => trivial)
theorem HM.at {M : MM} {ws : va_W} {a r : Nat} {e : va_E} (h : HM M ws) (ha : M a = some (r, e)) : ∃ i : Nat, ws[i]? = some (a, e) := List.mem_iff_getElem?.mp (h a r e ha)
theorem HM.put {M : MM} {ws : va_W} {i a r : Nat} {e : va_E} (h : HM M ws) (ha : M a = some (r, e)) (hi : ws[i]? = some (a, e)) (e' : va_E) : ∃ M1 : MM, HM M1 (ws.set i (a, e')) ∧ M1 a = some (r, e') ∧ (∀ b, b ≠ a → M1 b = M b) ∧ KP (fun r9 => r9 ≠ r) M M1 := by
  refine ⟨fun b => if b = a then some (r, e') else M b, fun b r9 e9 hb => ?_, if_pos rfl, fun b hb => if_neg hb, fun b r9 e9 hb hr => ?_⟩
  · dsimp only at hb
    by_cases hx : b = a
    · subst hx
      rw [if_pos rfl] at hb
      cases hb
      have hl : i < ws.length := (List.getElem?_eq_some_iff.mp hi).1
      exact List.mem_of_getElem? (i := i) (by rw [List.getElem?_set, if_pos rfl, if_pos hl])
    · rw [if_neg hx] at hb
      obtain ⟨j, hj⟩ := h.at hb
      refine List.mem_of_getElem? (i := j) ?_
      rw [List.getElem?_set]
      by_cases hij : i = j
      · subst hij
        rw [hi] at hj
        cases hj
        exact absurd rfl hx
      · rw [if_neg hij]
        exact hj
  · by_cases hx : b = a
    · subst hx
      rw [ha] at hb
      cases hb
      exact absurd rfl hr
    · show (if b = a then some (r, e') else M b) = _
      rw [if_neg hx]
      exact hb
theorem HM.push {M : MM} {ws : va_W} {q : Nat} {e : va_E} (h : HM M ws) (hn : ((ws ++ [(q, e)]).map Prod.fst).Nodup) (r : Nat) : ∃ M1 : MM, HM M1 (ws ++ [(q, e)]) ∧ M1 q = some (r, e) ∧ M q = none ∧ (∀ b, b ≠ q → M1 b = M b) ∧ KP ALL M M1 := by
  have hq : M q = none := by
    cases hm : M q with
    | none => rfl
    | some w =>
      obtain ⟨r9, e9⟩ := w
      have h1 := h q r9 e9 hm
      rw [List.map_append] at hn
      exact absurd rfl ((List.nodup_append.mp hn).2.2 q (List.mem_map.mpr ⟨_, h1, rfl⟩) q (by simp))
  refine ⟨fun b => if b = q then some (r, e) else M b, fun b r9 e9 hb => ?_, if_pos rfl, hq, fun b hb => if_neg hb, fun b r9 e9 hb _ => ?_⟩
  · dsimp only at hb
    by_cases hx : b = q
    · subst hx
      rw [if_pos rfl] at hb
      cases hb
      exact List.mem_append_right _ (List.mem_singleton.mpr rfl)
    · rw [if_neg hx] at hb
      exact List.mem_append_left _ (h b r9 e9 hb)
  · have hx : b ≠ q := fun e => by subst e; rw [hq] at hb; cases hb
    show (if b = q then some (r, e) else M b) = _
    rw [if_neg hx]
    exact hb
theorem tne {M : MM} {a b r r' : Nat} {e e' : va_E} (h : M a = some (r, e)) (h' : M b = some (r', e')) (hr : r ≠ r') : a ≠ b := fun x => by
  subst x
  rw [h] at h'
  cases h'
  exact hr rfl
theorem fne {M : MM} {a b r : Nat} {e : va_E} (h : M a = some (r, e)) (h' : M b = none) : a ≠ b := fun x => by
  subst x
  rw [h] at h'
  cases h'
