/-! making: new objects, new rows, a constructor's stores -/
theorem int_cls {s : State} {g : GT} {cA : ClassId} (h : va_K g.1 vwCl (tyl g ++ [(cA, .int)]) s) : cA = g.2.1 := by
  have h1 : s.vm.findClass ("[" ++ FieldType.int.toString) = some g.2.1 := (h.2 0 _ rfl).2
  have h2 : s.vm.findClass ("[" ++ FieldType.int.toString) = some cA := (h.2 5 _ rfl).2
  exact Option.some.inj (h2.symm.trans h1)
theorem obj_cls {s : State} {g : GT} {cA : ClassId} (h : va_K g.1 vwCl (tyl g ++ [(cA, .object RX0)]) s) : cA = g.2.2.1 := by
  obtain ⟨_, _, _, _, _, h1⟩ := (h.2 1 _ rfl).2
  obtain ⟨_, _, _, _, _, h2⟩ := (h.2 5 _ rfl).2
  exact Option.some.inj (h2.symm.trans h1)
theorem P_sub {D : va_G} {cl : List vw_C} {ws ws' r : va_W} {H : Heap} (h : (ws' ++ r).Perm ws) (hP : va_P D cl ws H) : va_P D cl ws' H := by
  intro k q hk
  have h1 : q ∈ ws := h.subset (List.mem_append_left _ (List.mem_of_getElem? hk))
  obtain ⟨j, hj⟩ := List.mem_iff_getElem?.mp h1
  exact hP j q hj
theorem D_nd {A : Nat → Prop} {ws : va_W} (h : va_D A ws) : (ws.map Prod.fst).Nodup := by
  refine List.pairwise_iff_getElem.mpr (fun i j hi hj hij he => ?_)
  rw [List.length_map] at hi hj
  rw [List.getElem_map, List.getElem_map] at he
  have := h.1 i j _ _ (List.getElem?_eq_getElem hi) (List.getElem?_eq_getElem hj) he
  omega
theorem nd_D {A : Nat → Prop} {ws : va_W} (h : (ws.map Prod.fst).Nodup) (hA : ∀ q ∈ ws, A q.1) : va_D A ws := by
  refine ⟨fun i j p q hi hj he => ?_, fun k q hk => hA q (List.mem_of_getElem? hk)⟩
  obtain ⟨hi1, hi2⟩ := List.getElem?_eq_some_iff.mp hi
  obtain ⟨hj1, hj2⟩ := List.getElem?_eq_some_iff.mp hj
  have hp := List.pairwise_iff_getElem.mp h
  have hm : ∀ (a : Nat) (ha : a < ws.length), (ws.map Prod.fst)[a]'(by rw [List.length_map]; exact ha) = ws[a].1 := fun a ha => List.getElem_map _
  rcases Nat.lt_trichotomy i j with h9 | h9 | h9
  · exact absurd (by rw [hm i hi1, hm j hj1, hi2, hj2]; exact he) (hp i j (by rw [List.length_map]; exact hi1) (by rw [List.length_map]; exact hj1) h9)
  · exact h9
  · exact absurd (by rw [hm i hi1, hm j hj1, hi2, hj2]; exact he.symm) (hp j i (by rw [List.length_map]; exact hj1) (by rw [List.length_map]; exact hi1) h9)
theorem D_sub {A : Nat → Prop} {ws ws' r : va_W} (h : (ws' ++ r).Perm ws) (hD : va_D A ws) : va_D A ws' := by
  have h1 : ((ws' ++ r).map Prod.fst).Nodup := (h.map Prod.fst).nodup_iff.mpr (D_nd hD)
  rw [List.map_append] at h1
  refine nd_D (List.nodup_append.mp h1).1 (fun q hq => ?_)
  have h2 : q ∈ ws := h.subset (List.mem_append_left _ hq)
  obtain ⟨j, hj⟩ := List.mem_iff_getElem?.mp h2
  exact hD.2 j q hj
theorem apx {W L : va_W} (j : Nat) {e : Nat × va_E} (h : L[j]? = some e) : (W ++ L)[W.length + j]? = some e := by
  rw [List.getElem?_append_right (by omega), show W.length + j - W.length = j by omega]
  exact h
theorem aps {W L : va_W} (j : Nat) {e : Nat × va_E} : (W ++ L).set (W.length + j) e = W ++ L.set j e := by
  rw [List.set_append_right _ _ (by omega), show W.length + j - W.length = j by omega]
theorem apl {W L : va_W} {j : Nat} {e : Nat × va_E} (h : W[j]? = some e) : (W ++ L)[j]? = some e := by
  rw [List.getElem?_append_left (List.getElem?_eq_some_iff.mp h).1]
  exact h
theorem apt {W W' L : va_W} {j : Nat} {e e0 : Nat × va_E} (h : W[j]? = some e0) (hs : W.set j e = W') : (W ++ L).set j e = W' ++ L := by
  rw [List.set_append_left _ _ (List.getElem?_eq_some_iff.mp h).1, hs]
def FI (x : CT) : Prop := match x with
  | (_, _, _, _, _, _, _, _, meth, _, _, _, _, _, _) => meth.name = "<init>"
theorem MV.ofC {own : String} {l : Launch} {y : MethodName} {cc : ByteArray} {maxL : Nat} {rm : Room} {g : GT} {as : List Value} {ws : va_W} {post : va_W → Prop} (hy : plainName y.cls = true) (hi : y.name = "<init>") (ho : y.cls = own) (hL : (lg_sl as).length ≤ maxL)
    (body : ∀ x : CT, FX x l rm g maxL cc own → FI x → (∀ (pc : Nat) (lv : List (Nat × Value)) (ws' : va_W), decode cc pc = .ok (.return_, 1) → post ws' → V x rm.cells rm.slots ws' pc lv []) → V x 0 0 ws 0 (lv_args 0 as) []) : MV l y cc maxL rm g as ws post := by
  subst ho
  intro sz
  refine Met.ofW (cc := cc) (maxL := maxL) (ret := none) hy rfl ?_
  intro p e s m args below meth c s₁ B hml hv
  obtain ⟨rfl, hsz, hT, hP, hK, hD0⟩ := hv
  subst hsz
  have hx := B.exec
  have hb := B.bytes
  have hr := B.returns
  have hown : s.vm.findClass y.cls = some m.cls := findClass_of_methodNamed B.named
  have hlocks := B.notSynchronized
  have hin : meth.name = "<init>" := ((name_of_methodNamed B.named B.method).1).trans hi
  have hD := hD0.self (sz := s.heap.size)
  have hS : va_S (va_A ws s.heap.size) s.heap s.heap [] := va_S.rf
  have hl := lv_entry as (n := maxL) hL
  rw [lg_entry_eq]
  refine body (p, l, e, (headSpec [.code y cc maxL none] rm).room, s, m, as.toArray, below, meth, c, g, maxL, va_A ws s.heap.size, s.heap, _) ⟨rfl, rfl, rfl, rfl, hx, hb, hml, hown, hT, hK, hlocks, fun q h => Or.inr h⟩ hin ?_ s.heap [] _ hP hD hS hl
  intro pc lv ws' hd hp H locs ls hP hD hS h
  exact W.vret hx hb hr (fun t ht hW => ⟨⟨ws', rfl, hp, by rw [ht]; exact hP, hD⟩, hS.F ht⟩) hS.2.2 hd hlocks
/-- a nest mate's constructor, called -/
def CID (own : String) (index : Nat) (y : MethodName) (host : String) (bytes : ByteArray) (maxL : Nat) (np : Nat) : Prop :=
  Cond.methodLinkNest own index y host ∈ tbl ∧ Cond.instanceMethod y ∈ tbl ∧ y.name = "<init>" ∧ Cond.code y bytes maxL none ∈ tbl ∧ Cond.initialized y.cls ∈ tbl ∧ (y.cls ≠ "java/lang/invoke/MethodHandle" ∧ y.cls ≠ "java/lang/invoke/VarHandle") ∧ (parseMethodDescriptor y.desc).map (fun d => d.parameters.length) = some np
theorem cid_of {R : Room} {s : State} {args : Array Value} {own host : String} {index : Nat} {y : MethodName} {bytes : ByteArray} {maxL : Nat} {rm : Room} {np k n : Nat} (hT : TB s) (h : CID own index y host bytes maxL np) (hR : RM R rm maxL k n) : va_CN R s args own index y host bytes maxL none [.code y bytes maxL none] rm rm.cells rm.slots np ∧ y.name = "<init>" ∧ (Cond.instanceMethod y).before args s = true := by
  obtain ⟨h1, h2, h3, h4, h5, h6, h7⟩ := h
  refine ⟨⟨⟨rfl, rfl, hR.1, hR.2.1, fun w hw a U hW => ?_, List.mem_cons_self⟩, hT _ _ h4, hT _ _ h5, h6, fun sig hs => ?_, hT _ _ h1⟩, h3, hT _ _ h2⟩
  · rw [List.mem_singleton.mp hw]; exact tb_pay hT h4 a U hW
  · rw [hs] at h7; exact (Option.some.inj h7).symm
theorem ci_X2_9 : CID RX2 9 yX1_init RX2 cX1_init 2 0 := ⟨q23, q24, rfl, q25, q2, ⟨by decide +kernel, by decide +kernel⟩, by decide +kernel⟩
theorem ci_X1_28 : CID RX1 28 yX0_init RX2 cX0_init 1 0 := ⟨q30, q31, rfl, q32, q3, ⟨by decide +kernel, by decide +kernel⟩, by decide +kernel⟩
section VMK
variable {x : CT} {l : Launch} {R : Room} {g : GT} {nL : Nat} {cc : ByteArray} {own : String} {k n : Nat} {ws : va_W} {pc : Nat} {lv : List (Nat × Value)} {st : List Value}
theorem V_perm {ws' : va_W} (r : va_W) (h : (ws' ++ r).Perm ws) (kk : V x k n ws' pc lv st) : V x k n ws pc lv st := by
  obtain ⟨p, l', e, R', s, m, args, below, meth, c, g', nL', A, H0, Q⟩ := x
  intro H locs ls hP hD hS hl
  exact kk H locs ls (P_sub h hP) (D_sub h hD) hS hl
theorem V_newa (hx : FX x l R g nL cc own) {z : Int} (N : Nat) (hz : z = (N : Int)) (hN : N ≤ 1000) (hk : k + 1 ≤ R.cells) (hn : n + N ≤ R.slots) (hd : decode cc pc = .ok (.newarray .int, 2)) (kk : ∀ q : Nat, V x (k + 1) (n + N) (ws ++ [(q, .inl (g.2.1, N, .inl (fun _ => iZ 0)))]) (pc + 2) lv (.ref q :: st)) : V x k n ws pc lv (.int (iZ z) :: st) := by
  subst hz
  obtain ⟨p, l', e, R', s, m, args, below, meth, c, g', nL', A, H0, Q⟩ := x
  obtain ⟨rfl, rfl, rfl, rfl, hx, hb, hml, hown, hts, hK, hlk, hA⟩ := hx
  intro H locs ls hP hD hS h
  refine va_newa (D := g'.1) (atype := .int) (ty := .int) (N' := N) (a0 := (N, .inl (fun _ => iZ 0))) hx hb (hts args _ q86) rfl hK hP hD hS hA (fun cA => rfl) (fun h9 => ?_) ?_ ?_ hk hn hd (fun q cA H1 hK1 hP1 hD1 hS1 => ?_)
  · have := (iZ_lt (a := (N : Int)) (b := 0) ⟨by omega, by omega⟩ rg_0).mp h9
    omega
  · rw [iZ_clamp ⟨by omega, by omega⟩]; exact Int.toNat_natCast N
  · show N * 4 ≤ 536870912
    omega
  · have e9 := int_cls hK1
    subst e9
    exact kk q H1 locs ls hP1 hD1 hS1 h
theorem V_new (hx : FX x l R g nL cc own) {C : String} {T : u_T} {N ci index : Nat} (hc : vwCl[ci]? = some (C, T, N)) (hin : ∀ w ∈ u_ws C T N, w ∈ tbl) (ty0 : Nat → FieldType) (hty : ∀ k, k < N → parseFieldDescriptor (T k).2.2.1 = some (ty0 k)) (h1 : Cond.classLink own index C ∈ tbl) (h2 : Cond.instantiable C N ∈ tbl) (h3 : Cond.initialized C ∈ tbl) (fs : List Value) (hfs : ∀ j, j < N → defaultValue (ty0 j) = vp_V fs j) (hk : k + 1 ≤ R.cells) (hn : n + N ≤ R.slots) (hd : decode cc pc = .ok (.new index, 3)) (kk : ∀ q : Nat, V x (k + 1) (n + N) (ws ++ [(q, .inr (ci, fs))]) (pc + 3) lv (.ref q :: st)) : V x k n ws pc lv st := by
  obtain ⟨p, l', e, R', s, m, args, below, meth, c, g', nL', A, H0, Q⟩ := x
  obtain ⟨rfl, rfl, rfl, rfl, hx, hb, hml, hown, hts, hK, hlk, hA⟩ := hx
  intro H locs ls hP hD hS h
  exact va_new (D := g'.1) hx hb (hts args) hin ty0 hty hown (hts _ _ h1) (hts _ _ h2) (hts _ _ h3) hK hP hD hS hA hc hfs hk hn hd (fun q H1 hP1 hD1 hS1 => kk q H1 locs ls hP1 hD1 hS1 h)
theorem V_newq (hx : FX x l R g nL cc own) {index : Nat} {z : Int} (N : Nat) (hz : z = (N : Int)) (hN : N ≤ 1000) (h1 : Cond.classLink own index RX0 ∈ tbl) (hk : k + 1 ≤ R.cells) (hn : n + N ≤ R.slots) (hd : decode cc pc = .ok (.anewarray index, 3)) (kk : ∀ q : Nat, V x (k + 1) (n + N) (ws ++ [(q, .inl (g.2.2.1, N, .inr (.inr (.inr (.inr (fun _ => none))))))]) (pc + 3) lv (.ref q :: st)) : V x k n ws pc lv (.int (iZ z) :: st) := by
  subst hz
  obtain ⟨p, l', e, R', s, m, args, below, meth, c, g', nL', A, H0, Q⟩ := x
  obtain ⟨rfl, rfl, rfl, rfl, hx, hb, hml, hown, hts, hK, hlk, hA⟩ := hx
  intro H locs ls hP hD hS h
  refine va_newq (D := g'.1) (N' := N) (C := RX0) hx hb hown (hts _ _ h1) (va_AO.of (hts args _ q28)) hK hP hD hS hA (fun h9 => ?_) ?_ (by omega) hk hn hd (fun q cA H1 hK1 hP1 hD1 hS1 => ?_)
  · have := (iZ_lt (a := (N : Int)) (b := 0) ⟨by omega, by omega⟩ rg_0).mp h9
    omega
  · rw [iZ_clamp ⟨by omega, by omega⟩]; exact Int.toNat_natCast N
  · have e9 := obj_cls hK1
    subst e9
    exact kk q H1 locs ls hP1 hD1 hS1 h
theorem V_objInit (hx : FX x l R g nL cc own) {idx a : Nat} (h1 : Cond.methodLink own idx objectInit ∈ tbl) (hf : 1 ≤ R.frames) (hlo : 12 ≤ R.locals) (hd : decode cc pc = .ok (.invokespecial idx, 3)) (kk : V x k n ws (pc + 3) lv []) : V x k n ws pc lv [.ref a] := by
  obtain ⟨p, l', e, R', s, m, args, below, meth, c, g', nL', A, H0, Q⟩ := x
  obtain ⟨rfl, rfl, rfl, rfl, hx, hb, hml, hown, hts, hK, hlk, hA⟩ := hx
  intro H locs ls hP hD hS h
  refine W.objInit hx hb hown (hts _ _ h1) (hts _ _ qo_i) (hts _ _ qo_c) rfl (by rw [hml]; exact h.1) rfl hd hf (by show 2 * 0 + 0 + 12 ≤ R'.locals; omega) ?_
  exact kk H locs ls hP hD hS h
theorem V_putF (hx : FX x l R g nL cc own) (hI : FI x) {ref C : String} {T : u_T} {N ci index a : Nat} {fs : List Value} {v : Value} (hc : vwCl[ci]? = some (C, T, N)) (hin : ∀ w ∈ u_ws C T N, w ∈ tbl) (ty0 : Nat → FieldType) (hty : ∀ k, k < N → parseFieldDescriptor (T k).2.2.1 = some (ty0 k)) (hnm : ∀ a, a < N → ∀ b, b < N → a ≠ b → (T a).2.1 ≠ (T b).2.1) (j : Nat) (hj : j < N) (hq : Cond.fieldLink own index ref (T j).2.1 (T j).2.2.1 ∈ tbl) (hs : (T j).1 = ref) (hfin : (T j).2.2.2 = true) (hdc : (T j).1 = own)
    {ty : FieldType} (hdsc : parseFieldDescriptor (T j).2.2.1 = some ty) (hn : narrow ty v = v) (hfit : fits ty v = true) (i : Nat) (he : ws[i]? = some (a, .inr (ci, fs))) (hl : j < fs.length) (ws' : va_W) (hw : ws.set i (a, .inr (ci, fs.set j v)) = ws') (hd : decode cc pc = .ok (.putfield index, 3)) (kk : V x k n ws' (pc + 3) lv st) : V x k n ws pc lv (v :: .ref a :: st) := by
  subst hw
  obtain ⟨p, l', e, R', s, m, args, below, meth, c, g', nL', A, H0, Q⟩ := x
  obtain ⟨rfl, rfl, rfl, rfl, hx, hb, hml, hown, hts, hK, hlk, hA⟩ := hx
  intro H locs ls hP hD hS h
  exact va_putF (D := g'.1) hx hb (hts args) hin ty0 hty hnm hown hK hP hD hS i he hc j hj (hts args _ hq) (fun _ h9 => by rw [← hs]; exact h9) hfin hI hdc hdsc hn hfit hl hd (fun H1 locs1 hP1 hD1 hS1 => kk H1 locs1 ls hP1 hD1 hS1 h)
theorem V_aast (hx : FX x l R g nL cc own) {a N v : Nat} {f : Nat → Option Nat} {vs : List Value} {z : Int} (h0 : 0 ≤ z) (h1 : z < N) (h2 : N < 2147483648) (i qk : Nat) (ha : ws[i]? = some (a, .inl (g.2.2.1, N, .inr (.inr (.inr (.inr f)))))) (hv : ws[qk]? = some (v, .inr (0, vs))) (ws' : va_W) (hw : ws.set i (a, .inl (g.2.2.1, N, .inr (.inr (.inr (.inr (va_up f z.toNat (some v))))))) = ws') (hd : decode cc pc = .ok (.aastore, 1)) (kk : V x k n ws' (pc + 1) lv st) : V x k n ws pc lv (.ref v :: .int (iZ z) :: .ref a :: st) := by
  subst hw
  obtain ⟨p, l', e, R', s, m, args, below, meth, c, g', nL', A, H0, Q⟩ := x
  obtain ⟨rfl, rfl, rfl, rfl, hx, hb, hml, hown, hts, hK, hlk, hA⟩ := hx
  intro H locs ls hP hD hS h
  refine va_astq (D := g'.1) (r := (RX0, TX0, 11)) hx hb hK hP hD hS i 1 qk 0 ha rfl hv rfl (iZ_in h0 h1 h2) hd (fun H1 locs1 hP1 hD1 hS1 => ?_)
  rw [iZ_clamp ⟨by omega, by omega⟩] at hP1 hD1
  exact kk H1 locs1 ls hP1 hD1 hS1 h
theorem V_wrow {i a N : Nat} {cA : ClassId} {f f' : Nat → Option Nat} (he : ws[i]? = some (a, .inl (cA, N, .inr (.inr (.inr (.inr f)))))) (hf : ∀ j, j < N → f j = f' j) (ws' : va_W) (hw : ws.set i (a, .inl (cA, N, .inr (.inr (.inr (.inr f'))))) = ws') (kk : V x k n ws' pc lv st) : V x k n ws pc lv st := by
  subst hw
  obtain ⟨p, l', e, R', s, m, args, below, meth, c, g', nL', A, H0, Q⟩ := x
  intro H locs ls hP hD hS hl
  have hcell : vp_cell cA (N, .inr (.inr (.inr (.inr f)))) = vp_cell cA (N, .inr (.inr (.inr (.inr f')))) := by
    rw [vp_cell_q, vp_cell_q]
    unfold arrV
    congr 2
    funext j
    show va_rf (f j.val) = va_rf (f' j.val)
    rw [hf j.val j.isLt]
  refine kk H locs ls (fun k2 q hk => ?_) (hD.set he) hS hl
  rw [List.getElem?_set] at hk
  by_cases h9 : i = k2
  · subst h9
    rw [if_pos rfl] at hk
    split at hk
    · have e9 := Option.some.inj hk
      subst e9
      have := hP i _ he
      show H[a]? = some (vp_cell cA _)
      rw [← hcell]
      exact this
    · cases hk
  · rw [if_neg h9] at hk
    exact hP k2 q hk
theorem V_callIN {y : MethodName} {bytes : ByteArray} {maxL index np : Nat} {rm : Room} {as : List Value} {b : Nat} {host : String} {st0 : List Value} {post : va_W → Prop} (hx : FX x l R g nL cc own) (hM : MV l y bytes maxL rm g (.ref b :: as) ws post) (cw : CID own index y host bytes maxL np) (hR : RM R rm maxL k n)
    (hst : st0 = as.reverse ++ .ref b :: st) (hn : as.length = np) (hcat : (st.map fun v => v.category).sum ≤ 8) (hd : decode cc pc = .ok (.invokespecial index, 3)) (k' n' : Nat) (hk' : k + rm.cells = k') (hn' : n + rm.slots = n') (kk : ∀ (ws' : va_W), post ws' → V x k' n' ws' (pc + 3) lv st) : V x k n ws pc lv st0 := by
  subst hk' hn'
  obtain ⟨p, l', e, R', s, m, args, below, meth, c, g', nL', A, H0, Q⟩ := x
  obtain ⟨rfl, rfl, rfl, rfl, hx, hb, hml, hown, hts, hK, hlk, hA⟩ := hx
  intro H locs ls hP hD hS h
  have hF := va_A_of hD hS hA
  refine va_callv (va_runIN (As := as) (rest := st) (Ts := []) ⟨hx, hb, hml, hown, fun _ h => by cases h⟩ (hM H.size) (cid_of hts cw hR) ⟨K0_blind, K0_at hts hK hP hD⟩ rfl hn h.1 hst (lv_room hcat) hd hR.2.2) hS (fun q _ h => hF q h) hF (fun ws' t H1 locs1 ht hvm hw hB hz1 hk1 hS1 => ?_)
  exact kk ws' hw H1 locs1 ls (ht ▸ hB.1) (hB.2.weaken (fun _ q _ h => hF q.1 h)) hS1 h
end VMK
