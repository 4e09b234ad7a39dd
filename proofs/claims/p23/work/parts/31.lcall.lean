/-! the law's calls of the class, over maps -/
theorem fr_join {A : Nat → Prop} {D : va_G} {cl : List vw_C} {W1 wr ws' : va_W} {H H1 : Heap} (hP : va_P D cl (W1 ++ wr) H) (hD : va_D A (W1 ++ wr)) (hk : ∀ q : Nat, q < H.size → ¬ va_A W1 H.size q → H1[q]? = H[q]?) (hF : ∀ q, va_A W1 H.size q → A q) (hP1 : va_P D cl ws' H1) (hD1 : va_D (va_A W1 H.size) ws') : va_P D cl (ws' ++ wr) H1 ∧ va_D A (ws' ++ wr) := by
  have hPr : va_P D cl wr H := P_sub (ws := W1 ++ wr) (r := W1) List.perm_append_comm hP
  have hnd := D_nd hD
  rw [List.map_append] at hnd
  obtain ⟨n1, n2, n3⟩ := List.nodup_append.mp hnd
  have hout : ∀ (k : Nat) (q : Nat × va_E), wr[k]? = some q → q.1 < H.size ∧ ¬ va_A W1 H.size q.1 := by
    intro k q hq
    have hlt := (hPr k q hq).lt
    refine ⟨hlt, fun h => ?_⟩
    rcases h with ⟨j, e, hj⟩ | h
    · exact n3 q.1 (List.mem_map.mpr ⟨_, List.mem_of_getElem? hj, rfl⟩) q.1 (List.mem_map.mpr ⟨_, List.mem_of_getElem? hq, rfl⟩) rfl
    · omega
  refine ⟨hP1.app (hPr.kept (fun k q hq => hk q.1 (hout k q hq).1 (hout k q hq).2)), nd_D ?_ (fun q hq => ?_)⟩
  · rw [List.map_append]
    refine List.nodup_append.mpr ⟨D_nd hD1, n2, fun a ha b hb hab => ?_⟩
    subst hab
    obtain ⟨qa, ha1, ha2⟩ := List.mem_map.mp ha
    obtain ⟨qb, hb1, hb2⟩ := List.mem_map.mp hb
    obtain ⟨i, hi⟩ := List.mem_iff_getElem?.mp ha1
    obtain ⟨j, hj⟩ := List.mem_iff_getElem?.mp hb1
    exact (hout j qb hj).2 (by rw [hb2, ← ha2]; exact hD1.2 i qa hi)
  · rcases List.mem_append.mp hq with h | h
    · obtain ⟨i, hi⟩ := List.mem_iff_getElem?.mp h
      exact hF _ (hD1.2 i q hi)
    · obtain ⟨i, hi⟩ := List.mem_iff_getElem?.mp h
      have hm : q ∈ W1 ++ wr := List.mem_append_right _ h
      obtain ⟨j, hj⟩ := List.mem_iff_getElem?.mp hm
      exact hD.2 j q hj
def NCS (_ : State) : Prop := True
def NCP (_ _ : String) : Prop := False
theorem NCS.get {U : State} (_ : NCS U) {E nm : String} (hp : NCP E nm) : va_Nc E nm U := hp.elim
theorem NCS.moved {u U : State} (_ : u.vm.Alike U.vm) (_ : NCS u) : NCS U := trivial
theorem q621 : Cond.methodLink RL 77 yL_say ∈ tbl := tin 666 (by decide +kernel) rfl
theorem q622 : Cond.static yL_say ∈ tbl := tin 667 (by decide +kernel) rfl
theorem q639 : Cond.methodLink RL 105 yL_act ∈ tbl := tin 684 (by decide +kernel) rfl
theorem q640 : Cond.static yL_act ∈ tbl := tin 685 (by decide +kernel) rfl
theorem pm_of : ∀ (L ws : va_W), (L.map Prod.fst).Nodup → (∀ q, q ∈ L → q ∈ ws) → ∃ wr : va_W, (L ++ wr).Perm ws
  | [], ws, _, _ => ⟨ws, List.Perm.refl _⟩
  | q :: L, ws, hn, h => by
    obtain ⟨s, t, rfl⟩ := List.append_of_mem (h q List.mem_cons_self)
    rw [List.map_cons] at hn
    obtain ⟨n1, n2⟩ := List.nodup_cons.mp hn
    obtain ⟨wr, hp⟩ := pm_of L (s ++ t) n2 (fun q' hq' => by
      have h9 := h q' (List.mem_cons_of_mem _ hq')
      rcases List.mem_append.mp h9 with h1 | h1
      · exact List.mem_append_left _ h1
      · rcases List.mem_cons.mp h1 with h2 | h2
        · exact absurd (List.mem_map.mpr ⟨q', hq', by rw [h2]⟩) n1
        · exact List.mem_append_right _ h2)
    exact ⟨wr, (hp.cons q).trans List.perm_middle.symm⟩
def AI (ad : Nat → Nat) : Prop := ∀ i j, i < 111 → j < 111 → ad i = ad j → i = j
def CWM (g : GT) (ad : Nat → Nat) (M : MM) (P : Nat → TS) (T : TS) : Prop := ∀ i, i < 111 → M (ad i) = some (1000, ce g ad (ups P 0 T) i)
theorem CW_nd {g : GT} {ad : Nat → Nat} {P : Nat → TS} (h : AI ad) : ((CW g ad P).map Prod.fst).Nodup := by
  have e : (CW g ad P).map Prod.fst = (List.range 111).map ad := by
    unfold CW
    rw [List.map_map]
    rfl
  rw [e]
  refine List.pairwise_iff_getElem.mpr (fun i j hi hj hij he => ?_)
  rw [List.length_map, List.length_range] at hi hj
  rw [List.getElem_map, List.getElem_map, List.getElem_range, List.getElem_range] at he
  have := h i j hi hj he
  omega
theorem CW_pm {g : GT} {ad : Nat → Nat} {P : Nat → TS} {T : TS} {M : MM} {ws : va_W} (hM : HM M ws) (hC : CWM g ad M P T) (hA : AI ad) : ∃ wr : va_W, (SW g ad P 0 T ++ wr).Perm ws := by
  refine pm_of _ _ (CW_nd hA) (fun q hq => ?_)
  obtain ⟨i, hi, rfl⟩ := List.mem_map.mp hq
  exact hM _ _ _ (hC i (List.mem_range.mp hi))
theorem CW_back {g : GT} {ad : Nat → Nat} {P P' : Nat → TS} {T T' : TS} {M : MM} {ws wr : va_W} (hM : HM M ws) (hp : (SW g ad P 0 T ++ wr).Perm ws) (hC : CWM g ad M P T) (hA : AI ad) : ∃ M', HM M' (SW g ad P' 0 T' ++ wr) ∧ CWM g ad M' P' T' ∧ KP (fun r => r ≠ 1000) M M' := by
  refine ⟨fun a => @dite _ (∃ i, i < 111 ∧ ad i = a) (Classical.propDecidable _) (fun h => some (1000, ce g ad (ups P' 0 T') (Classical.choose h))) (fun _ => M a), fun a r e ha => ?_, fun i hi => ?_, fun a r e ha hr => ?_⟩
  · dsimp only at ha
    by_cases h : ∃ i, i < 111 ∧ ad i = a
    · rw [dif_pos h] at ha
      obtain ⟨h1, h2⟩ := Classical.choose_spec h
      cases ha
      refine List.mem_append_left _ (List.mem_map.mpr ⟨Classical.choose h, List.mem_range.mpr h1, ?_⟩)
      rw [h2]
    · rw [dif_neg h] at ha
      have h1 := hp.symm.subset (hM a r e ha)
      rcases List.mem_append.mp h1 with h2 | h2
      · obtain ⟨i, hi, he⟩ := List.mem_map.mp h2
        exact absurd ⟨i, List.mem_range.mp hi, congrArg Prod.fst he⟩ h
      · exact List.mem_append_right _ h2
  · have h : ∃ j, j < 111 ∧ ad j = ad i := ⟨i, hi, rfl⟩
    refine (dif_pos h).trans ?_
    obtain ⟨h1, h2⟩ := Classical.choose_spec h
    rw [hA _ _ h1 hi h2]
  · have h : ¬ ∃ i, i < 111 ∧ ad i = a := fun ⟨i, hi, he⟩ => by
      subst he
      rw [hC i hi] at ha
      cases ha
      exact hr rfl
    exact (dif_neg h).trans ha
theorem HM.pm {M : MM} {ws ws' : va_W} (h : HM M ws) (hp : ws'.Perm ws) : HM M ws' := fun a r e ha => hp.symm.subset (h a r e ha)
def TXF (x : CT) : Prop := match x with
  | (_, _, _, _, s, _, _, _, _, _, _, _, A, H0, _) => TX9 A s H0 ∧ NCS s
def FTB (x : CT) (hh : List (Nat × Nat × Nat × Nat)) : Prop := match x with
  | (_, _, _, _, _, _, _, _, _, c, _, _, _, _, _) => c.exceptionTable.toList = tableOf hh
def FSC (x : CT) (b L : Nat) (xs : Nat → Int32) : Prop := match x with
  | (_, _, _, _, s, _, _, _, _, _, _, _, A, H0, _) => va_X b L xs s H0 ∧ b < H0.size ∧ ¬ A b
section VLX
variable {x : CT} {l : Launch} {R : Room} {g : GT} {nL : Nat} {cc : ByteArray} {own : String} {k n : Nat} {ws W1 wr : va_W} {pc : Nat} {lv : List (Nat × Value)} {st0 st : List Value} {hh : List (Nat × Nat × Nat × Nat)}
variable {y : MethodName} {bytes : ByteArray} {maxL index np : Nat} {ty : FieldType} {rm : Room} {as : List Value} {b : Nat} {pE : String → Prop} {M : MM} {ad : Nat → Nat} {P : Nat → TS} {T : TS}
theorem V_callXF {post : Int → va_W → Prop} (hx : FX x l R g nL cc own) (hz : TXF x) (hM : MXI l y bytes maxL ty rm g (.ref b :: as) W1 post pE) (cw : CWD own index y bytes maxL (some ty) np) (hR : RM R rm maxL k n) {ci N : Nat} {T : u_T} {fs : List Value} (hc : vwCl[ci]? = some (y.cls, T, N)) (i : Nat) (he : W1[i]? = some (b, .inr (ci, fs)))
    (hst : st0 = as.reverse ++ .ref b :: st) (hn : as.length = np) (hcat : (st.map fun v => v.category).sum ≤ 8) (hd : decode cc pc = .ok (.invokevirtual index, 3)) (k' n' : Nat) (hk' : k + rm.cells = k') (hn' : n + rm.slots = n')
    (kx : ∀ E, pE E → VX x k' n' (W1 ++ wr) pc lv st E) (kk : ∀ (z : Int) (ws' : va_W), post z ws' → V x k' n' (ws' ++ wr) (pc + 3) lv (.int (iZ z) :: st)) : V x k n (W1 ++ wr) pc lv st0 := by
  subst hk' hn'
  obtain ⟨p, l', e, R', s, m, args, below, meth, c, g', nL', A, H0, Q⟩ := x
  obtain ⟨rfl, rfl, rfl, rfl, hx, hb, hml, hown, hts, hK, hlk, hA⟩ := hx
  obtain ⟨hZ, -⟩ := hz
  intro H locs ls hP hD hS h
  have hPc : va_P g'.1 vwCl W1 H := P_sub (r := wr) (List.Perm.refl _) hP
  have hDc : va_D A W1 := D_sub (r := wr) (List.Perm.refl _) hD
  have hF := va_A_of hDc hS hA
  refine vx_calli (vx_runV (As := as) (rest := st) (Ts := []) ⟨hx, hb, hml, hown, fun _ h => by cases h⟩ (hM H.size) (cwd_of hts cw hR) ⟨K0X_blind, V_recv hK hPc hc i he, K0X_at hts hK hPc hDc hS hZ hF⟩ rfl hn h.1 hst (lv_room hcat) hd hR.2.2) hS (fun q _ h => hF q h) hF (fun q _ h => hF q h) (fun E ce q9 u t H1 locs1 ht hvm hw hB hz1 hk1 hS1 g1 g2 g3 => ?_) (fun r ws' t H1 locs1 ht hvm hw hB hz1 hk1 hS1 => ?_)
  · obtain ⟨j1, j2⟩ := fr_join hP hD hk1 hF (ht ▸ hB.2.1) hB.2.2
    exact kx E hB.1 H1 locs1 ls q9 ce j1 j2 hS1 h g1 g2 g3
  · obtain ⟨z, rfl, hw⟩ := hw
    obtain ⟨j1, j2⟩ := fr_join hP hD hk1 hF (ht ▸ hB.1) hB.2
    exact kk z ws' hw H1 locs1 ls j1 j2 hS1 h
theorem V_callFi {post : Int → va_W → Prop} (hx : FX x l R g nL cc own) (hM : MI l y bytes maxL ty rm g (.ref b :: as) W1 post) (cw : CWD own index y bytes maxL (some ty) np) (hR : RM R rm maxL k n) {ci N : Nat} {T : u_T} {fs : List Value} (hc : vwCl[ci]? = some (y.cls, T, N)) (i : Nat) (he : W1[i]? = some (b, .inr (ci, fs)))
    (hst : st0 = as.reverse ++ .ref b :: st) (hn : as.length = np) (hcat : (st.map fun v => v.category).sum ≤ 8) (hd : decode cc pc = .ok (.invokevirtual index, 3)) (k' n' : Nat) (hk' : k + rm.cells = k') (hn' : n + rm.slots = n')
    (kk : ∀ (z : Int) (ws' : va_W), post z ws' → V x k' n' (ws' ++ wr) (pc + 3) lv (.int (iZ z) :: st)) : V x k n (W1 ++ wr) pc lv st0 := by
  subst hk' hn'
  obtain ⟨p, l', e, R', s, m, args, below, meth, c, g', nL', A, H0, Q⟩ := x
  obtain ⟨rfl, rfl, rfl, rfl, hx, hb, hml, hown, hts, hK, hlk, hA⟩ := hx
  intro H locs ls hP hD hS h
  have hPc : va_P g'.1 vwCl W1 H := P_sub (r := wr) (List.Perm.refl _) hP
  have hDc : va_D A W1 := D_sub (r := wr) (List.Perm.refl _) hD
  have hF := va_A_of hDc hS hA
  refine va_calli (va_runV (As := as) (rest := st) (Ts := []) ⟨hx, hb, hml, hown, fun _ h => by cases h⟩ (hM H.size) (cwd_of hts cw hR) ⟨K0_blind, V_recv hK hPc hc i he, K0_at hts hK hPc hDc⟩ rfl hn h.1 hst (lv_room hcat) hd hR.2.2) hS (fun q _ h => hF q h) hF (fun r ws' t H1 locs1 ht hvm hw hB hz1 hk1 hS1 => ?_)
  obtain ⟨z, rfl, hw⟩ := hw
  obtain ⟨j1, j2⟩ := fr_join hP hD hk1 hF (ht ▸ hB.1) hB.2
  exact kk z ws' hw H1 locs1 ls j1 j2 hS1 h
theorem V_callFl {post : Int64 → va_W → Prop} (hx : FX x l R g nL cc own) (hM : ML l y bytes maxL rm g (.ref b :: as) W1 post) (cw : CWD own index y bytes maxL (some .long) np) (hR : RM R rm maxL k n) {ci N : Nat} {T : u_T} {fs : List Value} (hc : vwCl[ci]? = some (y.cls, T, N)) (i : Nat) (he : W1[i]? = some (b, .inr (ci, fs)))
    (hst : st0 = as.reverse ++ .ref b :: st) (hn : as.length = np) (hcat : (st.map fun v => v.category).sum ≤ 8) (hd : decode cc pc = .ok (.invokevirtual index, 3)) (k' n' : Nat) (hk' : k + rm.cells = k') (hn' : n + rm.slots = n')
    (kk : ∀ (z : Int64) (ws' : va_W), post z ws' → V x k' n' (ws' ++ wr) (pc + 3) lv (.long z :: st)) : V x k n (W1 ++ wr) pc lv st0 := by
  subst hk' hn'
  obtain ⟨p, l', e, R', s, m, args, below, meth, c, g', nL', A, H0, Q⟩ := x
  obtain ⟨rfl, rfl, rfl, rfl, hx, hb, hml, hown, hts, hK, hlk, hA⟩ := hx
  intro H locs ls hP hD hS h
  have hPc : va_P g'.1 vwCl W1 H := P_sub (r := wr) (List.Perm.refl _) hP
  have hDc : va_D A W1 := D_sub (r := wr) (List.Perm.refl _) hD
  have hF := va_A_of hDc hS hA
  refine va_calll (va_runV (As := as) (rest := st) (Ts := []) ⟨hx, hb, hml, hown, fun _ h => by cases h⟩ (hM H.size) (cwd_of hts cw hR) ⟨K0_blind, V_recv hK hPc hc i he, K0_at hts hK hPc hDc⟩ rfl hn h.1 hst (lv_room hcat) hd hR.2.2) hS (fun q _ h => hF q h) hF (fun r ws' t H1 locs1 ht hvm hw hB hz1 hk1 hS1 => ?_)
  obtain ⟨j1, j2⟩ := fr_join hP hD hk1 hF (ht ▸ hB.1) hB.2
  exact kk r ws' hw H1 locs1 ls j1 j2 hS1 h
theorem V_pm {ws' : va_W} (h : ws'.Perm ws) (kk : V x k n ws' pc lv st) : V x k n ws pc lv st := V_perm [] (by rw [List.append_nil]; exact h) kk
/-- a call of the class that may throw -/
theorem M_callX {post : Int → va_W → Prop} (hx : FX x l R g nL cc own) (hz : TXF x) (hM : HM M ws) (hC : CWM g ad M P T) (hA : AI ad) (hK : MXI l y bytes maxL ty rm g (.ref (ad 0) :: as) (SW g ad P 0 T) post pE) (hy : y.cls = RX2) (cw : CWD own index y bytes maxL (some ty) np) (hR : RM R rm maxL k n)
    (hst : st0 = as.reverse ++ .ref (ad 0) :: st) (hn : as.length = np) (hcat : (st.map fun v => v.category).sum ≤ 8) (hd : decode cc pc = .ok (.invokevirtual index, 3)) (k' n' : Nat) (hk' : k + rm.cells = k') (hn' : n + rm.slots = n')
    (kx : ∀ E, pE E → ∀ ws1, HM M ws1 → VX x k' n' ws1 pc lv st E) (kk : ∀ (z : Int) (ws' : va_W), post z ws' → ∃ P' T', ws' = SW g ad P' 0 T' ∧ ∀ (ws1 : va_W) (M1 : MM), HM M1 ws1 → CWM g ad M1 P' T' → KP (fun r => r ≠ 1000) M M1 → V x k' n' ws1 (pc + 3) lv (.int (iZ z) :: st)) : V x k n ws pc lv st0 := by
  obtain ⟨wr, hp⟩ := CW_pm hM hC hA
  refine V_pm hp (V_callXF hx hz hK cw hR (T := TX2) (N := 2) (ci := 2) (by rw [hy]; rfl) 0 SW_till hst hn hcat hd k' n' hk' hn' (fun E hE => kx E hE _ (hM.pm hp)) (fun z ws' hw => ?_))
  obtain ⟨P', T', rfl, k9⟩ := kk z ws' hw
  obtain ⟨M', h1, h2, h3⟩ := CW_back (P' := P') (T' := T') hM hp hC hA
  exact k9 _ M' h1 h2 h3
theorem M_callI {post : Int → va_W → Prop} (hx : FX x l R g nL cc own) (hM : HM M ws) (hC : CWM g ad M P T) (hA : AI ad) (hK : MI l y bytes maxL ty rm g (.ref (ad 0) :: as) (SW g ad P 0 T) post) (hy : y.cls = RX2) (cw : CWD own index y bytes maxL (some ty) np) (hR : RM R rm maxL k n)
    (hst : st0 = as.reverse ++ .ref (ad 0) :: st) (hn : as.length = np) (hcat : (st.map fun v => v.category).sum ≤ 8) (hd : decode cc pc = .ok (.invokevirtual index, 3)) (k' n' : Nat) (hk' : k + rm.cells = k') (hn' : n + rm.slots = n')
    (kk : ∀ (z : Int) (ws' : va_W), post z ws' → ∃ P' T', ws' = SW g ad P' 0 T' ∧ ∀ (ws1 : va_W) (M1 : MM), HM M1 ws1 → CWM g ad M1 P' T' → KP (fun r => r ≠ 1000) M M1 → V x k' n' ws1 (pc + 3) lv (.int (iZ z) :: st)) : V x k n ws pc lv st0 := by
  obtain ⟨wr, hp⟩ := CW_pm hM hC hA
  refine V_pm hp (V_callFi hx hK cw hR (T := TX2) (N := 2) (ci := 2) (by rw [hy]; rfl) 0 SW_till hst hn hcat hd k' n' hk' hn' (fun z ws' hw => ?_))
  obtain ⟨P', T', rfl, k9⟩ := kk z ws' hw
  obtain ⟨M', h1, h2, h3⟩ := CW_back (P' := P') (T' := T') hM hp hC hA
  exact k9 _ M' h1 h2 h3
theorem M_callL {post : Int64 → va_W → Prop} (hx : FX x l R g nL cc own) (hM : HM M ws) (hC : CWM g ad M P T) (hA : AI ad) (hK : ML l y bytes maxL rm g (.ref (ad 0) :: as) (SW g ad P 0 T) post) (hy : y.cls = RX2) (cw : CWD own index y bytes maxL (some .long) np) (hR : RM R rm maxL k n)
    (hst : st0 = as.reverse ++ .ref (ad 0) :: st) (hn : as.length = np) (hcat : (st.map fun v => v.category).sum ≤ 8) (hd : decode cc pc = .ok (.invokevirtual index, 3)) (k' n' : Nat) (hk' : k + rm.cells = k') (hn' : n + rm.slots = n')
    (kk : ∀ (z : Int64) (ws' : va_W), post z ws' → ∃ P' T', ws' = SW g ad P' 0 T' ∧ ∀ (ws1 : va_W) (M1 : MM), HM M1 ws1 → CWM g ad M1 P' T' → KP (fun r => r ≠ 1000) M M1 → V x k' n' ws1 (pc + 3) lv (.long z :: st)) : V x k n ws pc lv st0 := by
  obtain ⟨wr, hp⟩ := CW_pm hM hC hA
  refine V_pm hp (V_callFl hx hK cw hR (T := TX2) (N := 2) (ci := 2) (by rw [hy]; rfl) 0 SW_till hst hn hcat hd k' n' hk' hn' (fun z ws' hw => ?_))
  obtain ⟨P', T', rfl, k9⟩ := kk z ws' hw
  obtain ⟨M', h1, h2, h3⟩ := CW_back (P' := P') (T' := T') hM hp hC hA
  exact k9 _ M' h1 h2 h3
theorem V_catch {E name : String} (hx : FX x l R g nL cc RL) (hz : TXF x) (htb : FTB x hh) (pre : List ExceptionTableEntry) (x0 : ExceptionTableEntry) (suf : List ExceptionTableEntry) (hsplit : tableOf hh = pre ++ x0 :: suf) (hpass : ∀ z ∈ pre, z.catchType ≠ 0 ∧ ∃ nm : String, Cond.classLink RL z.catchType nm ∈ tbl ∧ NCP E nm) (hcov : covers x0 pc = true) (h0 : x0.catchType ≠ 0) (hlk : Cond.classLink RL x0.catchType name ∈ tbl) (hcast : Cond.castable E name ∈ tbl)
    (kk : ∀ q : Nat, V x k n ws x0.handlerPc lv [.ref q]) : VX x k n ws pc lv st E := by
  obtain ⟨p, l', e, R', s, m, args, below, meth, c, g', nL', A, H0, Q⟩ := x
  obtain ⟨rfl, rfl, rfl, rfl, hx, hb, hml, hown, hts, hK, hlk9, hA⟩ := hx
  obtain ⟨hZ, hN⟩ := hz
  intro H locs ls q ce hP hD hS h hce hcv hcl
  refine vx_catch hown pre x0 suf (htb.trans hsplit) (fun z hz => Or.inr ?_) hcov h0 (hts _ _ hlk) (hts _ _ hcast) hce hcv hcl (kk q H locs ls hP hD hS h)
  obtain ⟨a1, nm, a2, a3⟩ := hpass z hz
  exact ⟨a1, nm, hts _ _ a2, hN.get a3⟩
/-! the script -/
theorem V_sld {b L : Nat} {xs : Nat → Int32} (hx : FX x l R g nL cc own) (hz : FSC x b L xs) {z : Int} (h0 : 0 ≤ z) (h1 : z < L) (h2 : L < 2147483648) (hd : decode cc pc = .ok (.iaload, 1)) (kk : ∀ v : Int, rg v → V x k n ws (pc + 1) lv (.int (iZ v) :: st)) : V x k n ws pc lv (.int (iZ z) :: .ref b :: st) := by
  have k9 := kk (xs z.toNat).toInt (rg_toInt _)
  rw [iZ_of] at k9
  obtain ⟨p, l', e, R', s, m, args, below, meth, c, g', nL', A, H0, Q⟩ := x
  obtain ⟨rfl, rfl, rfl, rfl, hx, hb, hml, hown, hts, hK, hlk9, hA⟩ := hx
  obtain ⟨hX, hbl, hbA⟩ := hz
  intro H locs ls hP hD hS h
  refine va_sld hx hb hX hbl hbA hS (iZ_in h0 h1 h2) hd ?_
  rw [iZ_clamp ⟨by omega, by omega⟩]
  exact k9 H locs ls hP hD hS h
theorem V_slen {b L : Nat} {xs : Nat → Int32} (hx : FX x l R g nL cc own) (hz : FSC x b L xs) (hd : decode cc pc = .ok (.arraylength, 1)) (kk : V x k n ws (pc + 1) lv (.int (iZ (L : Int)) :: st)) : V x k n ws pc lv (.ref b :: st) := by
  obtain ⟨p, l', e, R', s, m, args, below, meth, c, g', nL', A, H0, Q⟩ := x
  obtain ⟨rfl, rfl, rfl, rfl, hx, hb, hml, hown, hts, hK, hlk9, hA⟩ := hx
  obtain ⟨hX, hbl, hbA⟩ := hz
  intro H locs ls hP hD hS h
  exact va_slen hx hb hX hbl hbA hS hd (kk H locs ls hP hD hS h)
end VLX
theorem scr_at {b L : Nat} {xs : Nat → Int32} {s U : State} {A : Nat → Prop} {H0 H : Heap} {locs : List Loc} (hX : va_X b L xs s H0) (hbl : b < H0.size) (hbA : ¬ A b) (hS : va_S A H0 H locs) (hW : s.WarmedH U.vm) : va_X b L xs U H := by
  obtain ⟨scr, h1, h2, h3, h4, h5⟩ := hX
  exact ⟨scr, (hS.2.1 b hbl hbA).trans h1, State.isArrayOf_alike hW.alike h2, h3, h4, h5⟩
/-! contracts of the law's own -/
def K0T (g : GT) (as : List Value) (sz : Nat) (ws : va_W) : Array Value → State → Prop := va_Pc as (fun U => U.heap.size = sz ∧ TB U ∧ va_P g.1 vwCl ws U.heap ∧ va_K g.1 vwCl (tyl g) U ∧ va_D (fun _ => True) ws ∧ TX9 (va_A ws sz) U U.heap ∧ NCS U)
theorem K0T_blind {g : GT} {as : List Value} {sz : Nat} {ws : va_W} : FrameBlind (K0T g as sz ws) := by
  intro a U gg mk h
  obtain ⟨h1, h2, h3, h4, h5, h6, h7, h8⟩ := h
  refine ⟨h1, h2, TB.same (s := U) (U := U.calling gg mk a) rfl h3, h4, va_K.moved (u := U) (U := U.calling gg mk a) (Vm.Alike.refl U.vm) h5, h6, ?_, NCS.moved (u := U) (U := U.calling gg mk a) (Vm.Alike.refl U.vm) h8⟩
  exact h7.go (U := U.calling gg mk a) (fun _ _ _ => rfl) (State.WarmedH.refl U) (fun _ h => h)
theorem K0T_at {g : GT} {as : List Value} {ws : va_W} {s : State} {A : Nat → Prop} {H H0 : Heap} {locs : List Loc} (hT : TB s) (hK : va_K g.1 vwCl (tyl g) s) (hP : va_P g.1 vwCl ws H) (hD : va_D A ws) (hS : va_S A H0 H locs) (hZ : TX9 A s H0) (hN : NCS s) (hF : ∀ q, va_A ws H.size q → A q) : ∀ U : State, U.heap = H → s.WarmedH U.vm → K0T g as H.size ws as.toArray U :=
  fun U hU hW => ⟨rfl, by rw [hU], TB.warm hW hT, by rw [hU]; exact hP, va_K.moved hW.alike hK, hD.weaken (fun _ _ _ _ => trivial), by rw [hU]; exact hZ.go hS.2.1 hW hF, NCS.moved hW.alike hN⟩
def K0S (g : GT) (b L : Nat) (xs : Nat → Int32) (as : List Value) (sz : Nat) (ws : va_W) : Array Value → State → Prop := va_Pc as (fun U => U.heap.size = sz ∧ TB U ∧ va_P g.1 vwCl ws U.heap ∧ va_K g.1 vwCl (tyl g) U ∧ va_D (fun _ => True) ws ∧ TX9 (va_A ws sz) U U.heap ∧ NCS U ∧ va_X b L xs U U.heap ∧ b < sz ∧ ¬ va_A ws sz b)
theorem K0S_blind {g : GT} {b L : Nat} {xs : Nat → Int32} {as : List Value} {sz : Nat} {ws : va_W} : FrameBlind (K0S g b L xs as sz ws) := by
  intro a U gg mk h
  obtain ⟨h1, h2, h3, h4, h5, h6, h7, h8, h9, h10⟩ := h
  refine ⟨h1, h2, TB.same (s := U) (U := U.calling gg mk a) rfl h3, h4, va_K.moved (u := U) (U := U.calling gg mk a) (Vm.Alike.refl U.vm) h5, h6, ?_, NCS.moved (u := U) (U := U.calling gg mk a) (Vm.Alike.refl U.vm) h8, ?_, h10⟩
  · exact h7.go (U := U.calling gg mk a) (fun _ _ _ => rfl) (State.WarmedH.refl U) (fun _ h => h)
  · obtain ⟨scr, a1, a2, a3, a4, a5⟩ := h9
    exact ⟨scr, a1, State.isArrayOf_alike (s := U) (Vm.Alike.refl U.vm) a2, a3, a4, a5⟩
theorem K0S_at {g : GT} {b L : Nat} {xs : Nat → Int32} {as : List Value} {ws : va_W} {s : State} {A : Nat → Prop} {H H0 : Heap} {locs : List Loc} (hT : TB s) (hK : va_K g.1 vwCl (tyl g) s) (hP : va_P g.1 vwCl ws H) (hD : va_D A ws) (hS : va_S A H0 H locs) (hZ : TX9 A s H0) (hN : NCS s) (hX : va_X b L xs s H0) (hbl : b < H0.size) (hbA : ¬ A b) (hF : ∀ q, va_A ws H.size q → A q) : ∀ U : State, U.heap = H → s.WarmedH U.vm → K0S g b L xs as H.size ws as.toArray U :=
  fun U hU hW => ⟨rfl, by rw [hU], TB.warm hW hT, by rw [hU]; exact hP, va_K.moved hW.alike hK, hD.weaken (fun _ _ _ _ => trivial), by rw [hU]; exact hZ.go hS.2.1 hW hF, NCS.moved hW.alike hN, by rw [hU]; exact scr_at hX hbl hbA hS hW, Nat.lt_of_lt_of_le hbl hS.1, fun h => hbA (hF b h)⟩
def MHT (l : Launch) (y : MethodName) (cc : ByteArray) (maxL : Nat) (hh : List (Nat × Nat × Nat × Nat)) (rm : Room) (g : GT) (as : List Value) (ws : va_W) (post : Int → va_W → Prop) : Prop :=
  ∀ sz, Met l y [.codeWith y cc maxL (some .boolean) hh] rm (K0T g as sz ws) (va_Qi (fun r ws' => ∃ z, r = iZ z ∧ post z ws') (KB g ws sz) (va_A ws sz)) rm.cells rm.slots (va_A ws sz)
def MIS (l : Launch) (y : MethodName) (cc : ByteArray) (maxL : Nat) (rm : Room) (g : GT) (b L : Nat) (xs : Nat → Int32) (as : List Value) (ws : va_W) (post : Int → va_W → Prop) : Prop :=
  ∀ sz, Met l y [.code y cc maxL (some .int)] rm (K0S g b L xs as sz ws) (va_Qi (fun r ws' => ∃ z, r = iZ z ∧ post z ws') (KB g ws sz) (va_A ws sz)) rm.cells rm.slots (va_A ws sz)
def MQS (l : Launch) (y : MethodName) (cc : ByteArray) (maxL : Nat) (ty : FieldType) (rm : Room) (g : GT) (b L : Nat) (xs : Nat → Int32) (as : List Value) (ws : va_W) (post : Option Nat → va_W → Prop) : Prop :=
  ∀ sz, Met l y [.code y cc maxL (some ty)] rm (K0S g b L xs as sz ws) (va_Qq post (KB g ws sz) (va_A ws sz)) rm.cells rm.slots (va_A ws sz)
theorem MHT.of {l : Launch} {y : MethodName} {cc : ByteArray} {maxL : Nat} {hh : List (Nat × Nat × Nat × Nat)} {rm : Room} {g : GT} {as : List Value} {ws : va_W} {post : Int → va_W → Prop} (hy : plainName y.cls = true) (ho : y.cls = RL) (hL : (lg_sl as).length ≤ maxL)
    (body : ∀ x : CT, FX x l rm g maxL cc RL → TXF x → FTB x hh → (∀ (pc k n : Nat) (lv : List (Nat × Value)) (z : Int) (ws' : va_W), decode cc pc = .ok (.ireturn, 1) → narrow .boolean (.int (iZ z)) = .int (iZ z) → k ≤ rm.cells → n ≤ rm.slots → post z ws' → V x k n ws' pc lv [.int (iZ z)]) → V x 0 0 ws 0 (lv_args 0 as) []) : MHT l y cc maxL hh rm g as ws post := by
  intro sz
  refine va_MetW (cc := cc) (maxL := maxL) (ret := some .boolean) (hh := hh) hy rfl ?_
  intro p e s m args below meth c s₁ B hml hv
  obtain ⟨rfl, hsz, hT, hP, hK, hD0, hZ, hN⟩ := hv
  subst hsz
  have hx := B.exec
  have hb := B.bytes
  have hr := B.returns
  have hown : s.vm.findClass y.cls = some m.cls := findClass_of_methodNamed B.named
  rw [ho] at hown
  have hlocks := B.notSynchronized
  have htab : c.exceptionTable.toList = tableOf hh := vx_table (x := y) B (atoms_spec (ws := [Cond.codeWith y cc maxL (some .boolean) hh]) B.pre _ List.mem_cons_self)
  have hD := hD0.self (sz := s.heap.size)
  have hS : va_S (va_A ws s.heap.size) s.heap s.heap [] := va_S.rf
  have hl := lv_entry as (n := maxL) hL
  rw [lg_entry_eq]
  refine body (p, l, e, (headSpec [.codeWith y cc maxL (some .boolean) hh] rm).room, s, m, as.toArray, below, meth, c, g, maxL, va_A ws s.heap.size, s.heap, _) ⟨rfl, rfl, rfl, rfl, hx, hb, hml, hown, hT, hK, hlocks, fun q h => Or.inr h⟩ ⟨hZ, hN⟩ htab ?_ s.heap [] _ hP hD hS hl
  intro pc k n lv z ws' hd hn9 hk hn hp H locs ls hP hD hS h
  exact W.widen hk hn (W.zret hx hb hr hn9 (fun t ht hW => ⟨⟨iZ z, ws', rfl, ⟨z, rfl, hp⟩, by rw [ht]; exact hP, hD⟩, hS.F ht⟩) hS.2.2 hd hlocks)
theorem MIS.of {l : Launch} {y : MethodName} {cc : ByteArray} {maxL : Nat} {rm : Room} {g : GT} {b L : Nat} {xs : Nat → Int32} {as : List Value} {ws : va_W} {post : Int → va_W → Prop} (hy : plainName y.cls = true) (ho : y.cls = RL) (hL : (lg_sl as).length ≤ maxL)
    (body : ∀ x : CT, FX x l rm g maxL cc RL → FSC x b L xs → (∀ (pc k n : Nat) (lv : List (Nat × Value)) (z : Int) (ws' : va_W), decode cc pc = .ok (.ireturn, 1) → k ≤ rm.cells → n ≤ rm.slots → post z ws' → V x k n ws' pc lv [.int (iZ z)]) → V x 0 0 ws 0 (lv_args 0 as) []) : MIS l y cc maxL rm g b L xs as ws post := by
  intro sz
  refine Met.ofW (cc := cc) (maxL := maxL) (ret := some .int) hy rfl ?_
  intro p e s m args below meth c s₁ B hml hv
  obtain ⟨rfl, hsz, hT, hP, hK, hD0, hZ, hN, hX, hbl, hbA⟩ := hv
  subst hsz
  have hx := B.exec
  have hb := B.bytes
  have hr := B.returns
  have hown : s.vm.findClass y.cls = some m.cls := findClass_of_methodNamed B.named
  rw [ho] at hown
  have hlocks := B.notSynchronized
  have hD := hD0.self (sz := s.heap.size)
  have hS : va_S (va_A ws s.heap.size) s.heap s.heap [] := va_S.rf
  have hl := lv_entry as (n := maxL) hL
  rw [lg_entry_eq]
  refine body (p, l, e, (headSpec [.code y cc maxL (some .int)] rm).room, s, m, as.toArray, below, meth, c, g, maxL, va_A ws s.heap.size, s.heap, _) ⟨rfl, rfl, rfl, rfl, hx, hb, hml, hown, hT, hK, hlocks, fun q h => Or.inr h⟩ ⟨hX, hbl, hbA⟩ ?_ s.heap [] _ hP hD hS hl
  intro pc k n lv z ws' hd hk hn hp H locs ls hP hD hS h
  exact W.widen hk hn (W.zret hx hb hr rfl (fun t ht hW => ⟨⟨iZ z, ws', rfl, ⟨z, rfl, hp⟩, by rw [ht]; exact hP, hD⟩, hS.F ht⟩) hS.2.2 hd hlocks)
theorem MQS.of {l : Launch} {y : MethodName} {cc : ByteArray} {maxL : Nat} {ty : FieldType} {rm : Room} {g : GT} {b L : Nat} {xs : Nat → Int32} {as : List Value} {ws : va_W} {post : Option Nat → va_W → Prop} (hy : plainName y.cls = true) (ho : y.cls = RL) (hL : (lg_sl as).length ≤ maxL) (hrt : (∃ n, ty = .object n) ∨ ∃ t, ty = .array t)
    (body : ∀ x : CT, FX x l rm g maxL cc RL → TXF x → FSC x b L xs → (∀ (pc k n : Nat) (lv : List (Nat × Value)) (r : Option Nat) (ws' : va_W), decode cc pc = .ok (.areturn, 1) → k ≤ rm.cells → n ≤ rm.slots → post r ws' → V x k n ws' pc lv [va_rf r]) → V x 0 0 ws 0 (lv_args 0 as) []) : MQS l y cc maxL ty rm g b L xs as ws post := by
  intro sz
  refine Met.ofW (cc := cc) (maxL := maxL) (ret := some ty) hy rfl ?_
  intro p e s m args below meth c s₁ B hml hv
  obtain ⟨rfl, hsz, hT, hP, hK, hD0, hZ, hN, hX, hbl, hbA⟩ := hv
  subst hsz
  have hx := B.exec
  have hb := B.bytes
  have hr := B.returns
  have hown : s.vm.findClass y.cls = some m.cls := findClass_of_methodNamed B.named
  rw [ho] at hown
  have hlocks := B.notSynchronized
  have hD := hD0.self (sz := s.heap.size)
  have hS : va_S (va_A ws s.heap.size) s.heap s.heap [] := va_S.rf
  have hl := lv_entry as (n := maxL) hL
  rw [lg_entry_eq]
  refine body (p, l, e, (headSpec [.code y cc maxL (some ty)] rm).room, s, m, as.toArray, below, meth, c, g, maxL, va_A ws s.heap.size, s.heap, _) ⟨rfl, rfl, rfl, rfl, hx, hb, hml, hown, hT, hK, hlocks, fun q h => Or.inr h⟩ ⟨hZ, hN⟩ ⟨hX, hbl, hbA⟩ ?_ s.heap [] _ hP hD hS hl
  intro pc k n lv r ws' hd hk hn hp H locs ls hP hD hS h
  exact W.widen hk hn (W.aret hx hb hr hrt (va_rf_or r) (fun t ht hW => ⟨⟨r, ws', rfl, hp, by rw [ht]; exact hP, hD⟩, hS.F ht⟩) hS.2.2 hd hlocks)
def CHB (index : Nat) (y : MethodName) (bytes : ByteArray) (maxL : Nat) (hh : List (Nat × Nat × Nat × Nat)) (np : Nat) : Prop :=
  Cond.methodLink RL index y ∈ tbl ∧ Cond.static y ∈ tbl ∧ Cond.codeWith y bytes maxL (some .boolean) hh ∈ tbl ∧ Cond.initialized y.cls ∈ tbl ∧ (y.cls ≠ "java/lang/invoke/MethodHandle" ∧ y.cls ≠ "java/lang/invoke/VarHandle") ∧ (parseMethodDescriptor y.desc).map (fun d => d.parameters.length) = some np
theorem chb_of {R : Room} {s : State} {args : Array Value} {index : Nat} {y : MethodName} {bytes : ByteArray} {maxL : Nat} {hh : List (Nat × Nat × Nat × Nat)} {rm : Room} {np k n : Nat} (hT : TB s) (h : CHB index y bytes maxL hh np) (hR : RM R rm maxL k n) : vx_CSW R s args RL index y bytes maxL (some .boolean) hh [.codeWith y bytes maxL (some .boolean) hh] rm rm.cells rm.slots np := by
  obtain ⟨h1, h2, h3, h4, h5, h6⟩ := h
  refine ⟨⟨rfl, rfl, hR.1, hR.2.1, fun w hw a U hW => ?_, List.mem_cons_self⟩, hT _ _ h3, hT _ _ h4, h5, fun sig hs => ?_, hT _ _ h1, hT _ _ h2⟩
  · rw [List.mem_singleton.mp hw]; exact tb_pay hT h3 a U hW
  · rw [hs] at h6; exact (Option.some.inj h6).symm
section VLY
variable {x : CT} {l : Launch} {R : Room} {g : GT} {nL : Nat} {cc : ByteArray} {k n : Nat} {ws : va_W} {pc : Nat} {lv : List (Nat × Value)} {st0 st : List Value} {hh : List (Nat × Nat × Nat × Nat)}
variable {y : MethodName} {bytes : ByteArray} {maxL index np : Nat} {ty : FieldType} {rm : Room} {as : List Value} {b L : Nat} {xs : Nat → Int32}
theorem V_callHT {post : Int → va_W → Prop} (hx : FX x l R g nL cc RL) (hz : TXF x) (hM : MHT l y bytes maxL hh rm g as ws post) (cw : CHB index y bytes maxL hh np) (hR : RM R rm maxL k n) (hst : st0 = as.reverse ++ st) (hn : as.length = np) (hcat : (st.map fun v => v.category).sum ≤ 8) (hd : decode cc pc = .ok (.invokestatic index, 3)) (k' n' : Nat) (hk' : k + rm.cells = k') (hn' : n + rm.slots = n')
    (kk : ∀ (z : Int) (ws' : va_W), post z ws' → V x k' n' ws' (pc + 3) lv (.int (iZ z) :: st)) : V x k n ws pc lv st0 := by
  subst hk' hn'
  obtain ⟨p, l', e, R', s, m, args, below, meth, c, g', nL', A, H0, Q⟩ := x
  obtain ⟨rfl, rfl, rfl, rfl, hx, hb, hml, hown, hts, hK, hlk, hA⟩ := hx
  obtain ⟨hZ, hN⟩ := hz
  intro H locs ls hP hD hS h
  have hF := va_A_of hD hS hA
  refine va_calli (vx_runSW (As := as) (rest := st) (Ts := []) ⟨hx, hb, hml, hown, fun _ h => by cases h⟩ (hM H.size) (chb_of hts cw hR) ⟨K0T_blind, K0T_at hts hK hP hD hS hZ hN hF⟩ rfl hn h.1 hst (lv_room hcat) hd hR.2.2) hS (fun q _ h => hF q h) hF (fun r ws' t H1 locs1 ht hvm hw hB hz1 hk1 hS1 => ?_)
  obtain ⟨z, rfl, hw⟩ := hw
  exact kk z ws' hw H1 locs1 ls (ht ▸ hB.1) (hB.2.weaken (fun _ q _ h => hF q.1 h)) hS1 h
theorem V_callIS {post : Int → va_W → Prop} (hx : FX x l R g nL cc RL) (hz : TXF x) (hs : FSC x b L xs) (hM : MIS l y bytes maxL rm g b L xs as ws post) (cw : CSD RL index y bytes maxL (some .int) np) (hR : RM R rm maxL k n) (hst : st0 = as.reverse ++ st) (hn : as.length = np) (hcat : (st.map fun v => v.category).sum ≤ 8) (hd : decode cc pc = .ok (.invokestatic index, 3)) (k' n' : Nat) (hk' : k + rm.cells = k') (hn' : n + rm.slots = n')
    (kk : ∀ (z : Int) (ws' : va_W), post z ws' → V x k' n' ws' (pc + 3) lv (.int (iZ z) :: st)) : V x k n ws pc lv st0 := by
  subst hk' hn'
  obtain ⟨p, l', e, R', s, m, args, below, meth, c, g', nL', A, H0, Q⟩ := x
  obtain ⟨rfl, rfl, rfl, rfl, hx, hb, hml, hown, hts, hK, hlk, hA⟩ := hx
  obtain ⟨hZ, hN⟩ := hz
  obtain ⟨hX, hbl, hbA⟩ := hs
  intro H locs ls hP hD hS h
  have hF := va_A_of hD hS hA
  refine va_calli (va_runS (As := as) (rest := st) (Ts := []) ⟨hx, hb, hml, hown, fun _ h => by cases h⟩ (hM H.size) (csd_of hts cw hR) ⟨K0S_blind, K0S_at hts hK hP hD hS hZ hN hX hbl hbA hF⟩ rfl hn h.1 hst (lv_room hcat) hd hR.2.2) hS (fun q _ h => hF q h) hF (fun r ws' t H1 locs1 ht hvm hw hB hz1 hk1 hS1 => ?_)
  obtain ⟨z, rfl, hw⟩ := hw
  exact kk z ws' hw H1 locs1 ls (ht ▸ hB.1) (hB.2.weaken (fun _ q _ h => hF q.1 h)) hS1 h
theorem V_callQS {post : Option Nat → va_W → Prop} (hx : FX x l R g nL cc RL) (hz : TXF x) (hs : FSC x b L xs) (hM : MQS l y bytes maxL ty rm g b L xs as ws post) (cw : CSD RL index y bytes maxL (some ty) np) (hR : RM R rm maxL k n) (hst : st0 = as.reverse ++ st) (hn : as.length = np) (hcat : (st.map fun v => v.category).sum ≤ 8) (hd : decode cc pc = .ok (.invokestatic index, 3)) (k' n' : Nat) (hk' : k + rm.cells = k') (hn' : n + rm.slots = n')
    (kk : ∀ (r : Option Nat) (ws' : va_W), post r ws' → V x k' n' ws' (pc + 3) lv (va_rf r :: st)) : V x k n ws pc lv st0 := by
  subst hk' hn'
  obtain ⟨p, l', e, R', s, m, args, below, meth, c, g', nL', A, H0, Q⟩ := x
  obtain ⟨rfl, rfl, rfl, rfl, hx, hb, hml, hown, hts, hK, hlk, hA⟩ := hx
  obtain ⟨hZ, hN⟩ := hz
  obtain ⟨hX, hbl, hbA⟩ := hs
  intro H locs ls hP hD hS h
  have hF := va_A_of hD hS hA
  refine va_callq (va_runS (As := as) (rest := st) (Ts := []) ⟨hx, hb, hml, hown, fun _ h => by cases h⟩ (hM H.size) (csd_of hts cw hR) ⟨K0S_blind, K0S_at hts hK hP hD hS hZ hN hX hbl hbA hF⟩ rfl hn h.1 hst (lv_room hcat) hd hR.2.2) hS (fun q _ h => hF q h) hF (fun r ws' t H1 locs1 ht hvm hw hB hz1 hk1 hS1 => ?_)
  exact kk r ws' hw H1 locs1 ls (ht ▸ hB.1) (hB.2.weaken (fun _ q _ h => hF q.1 h)) hS1 h
end VLY
theorem ch_say (index : Nat) (h : Cond.methodLink RL index yL_say ∈ tbl) : CHB index yL_say cL_say 13 [(196, 247, 248, 49)] 4 := ⟨h, q622, q623, q0, ⟨by decide +kernel, by decide +kernel⟩, by decide +kernel⟩
theorem ch_act (index : Nat) (h : Cond.methodLink RL index yL_act ∈ tbl) : CHB index yL_act cL_act 8 [(232, 247, 248, 49)] 3 := ⟨h, q640, q641, q0, ⟨by decide +kernel, by decide +kernel⟩, by decide +kernel⟩
