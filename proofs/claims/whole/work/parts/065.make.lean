/-! constructors: new cells, calls that make cells, and their contracts -/
/-- a constructor's contract: from these cells, so many cells and slots are made, and Bo holds behind it -/
def CM (l : Launch) (D : va_G) (I J Z : ClassId) (y : MethodName) (b : ByteArray) (nL rk MC MS : Nat) (av : List Value) (wc : va_W) (Bo : (Nat → Prop) → State → Prop) : Prop :=
  ∀ sz : Nat, Met l y (Cond.code y b nL none :: gw) { frames := rk, cells := MC, slots := MS, locals := 40 * rk } (PreC av wc sz D I J Z) (va_Qv (fun (_ : Unit) => True) (fun _ t => Bo (va_A wc sz) t) (va_A wc sz)) MC MS (va_A wc sz)
theorem CM_of {l : Launch} {D : va_G} {I J Z : ClassId} {y : MethodName} {b : ByteArray} {nL rk MC MS : Nat} {av : List Value} {wc : va_W} {Bo : (Nat → Prop) → State → Prop} (own : String) (hy : plainName y.cls = true) (hown : y.cls = own) (hyn : y.name = "<init>") (hn : (lg_sl av).length ≤ nL)
    (body : ∀ (p : Program) (e : Env) (R : Room) (s : State) (m : MethodId) (args : Array Value) (below : List Frame) (meth : Method) (c : Code) (A : Nat → Prop) (ls : Array Slot) (Q : State → Prop), R.frames = rk → R.locals = 40 * rk → R.cells = MC → R.slots = MS → Q = MQ below (va_Qv (fun (_ : Unit) => True) (fun _ t => Bo A t) A) args s MC MS A → meth.name = "<init>" → Cx p s m args meth c b nL own D I J Z → meth.sig.returnType = none → Wd D A s.heap wc s.heap [] → (∀ q : Nat, s.heap.size ≤ q → A q) → lv_has ls nL (lv_args 0 av) →
      W p l e R s m args below meth c s.heap [] 0 0 Q (F0 m 0 ls [])) : CM l D I J Z y b nL rk MC MS av wc Bo := by
  intro sz
  refine Met.ofW (cc := b) (maxL := nL) (ret := none) hy rfl ?_
  intro p e s m args below meth c s₁ B hml hv
  obtain ⟨rfl, hsz, hP, hK, hD0⟩ := hv
  subst hsz
  rw [lg_entry_eq]
  exact body p e _ s m _ below meth c _ _ _ rfl rfl rfl rfl rfl (by rw [← hyn]; exact (name_of_methodNamed B.named B.method).1) ⟨B.exec, B.bytes, hml, by rw [← hown]; exact findClass_of_methodNamed B.named, fun w hw => atoms_spec (ws := Cond.code y b nL none :: gw) B.pre w (List.mem_cons_of_mem _ hw), hK, B.notSynchronized⟩ B.returns ⟨hP, hD0.self, va_S.rf⟩ (fun _ h => Or.inr h) (lv_entry av hn)
/-- behind a call that makes cells: those that were there at their places, the new ones at the end -/
theorem Wd.backA {D : va_G} {A : Nat → Prop} {H0 H H1 : Heap} {ws wc w1 wx ws' : va_W} {locs locs1 : List Loc} (hW : Wd D A H0 ws H locs) (hF : ∀ q, va_A wc H.size q → A q) {isC : List Nat} (hC : isC.map (fun i => ws[i]?) = wc.map some) (hnd : va_nd isC = true) (h1 : w1.map Prod.fst = wc.map Prod.fst) (hk : ∀ q : Nat, q < H.size → ¬ va_A wc H.size q → H1[q]? = H[q]?) (hP1 : va_P D classes (w1 ++ wx) H1) (hD1 : va_D (va_A wc H.size) (w1 ++ wx)) (hS : va_S A H0 H1 locs1) (hw : pu ws isC w1 ++ wx = ws') : Wd D A H0 ws' H1 locs1 := by
  subst hw
  have hPa : va_P D classes w1 H1 := fun k q hq => hP1 k q (by rw [List.getElem?_append_left (List.getElem?_eq_some_iff.mp hq).1]; exact hq)
  have hPb : va_P D classes wx H1 := fun k q hq => hP1 (w1.length + k) q (by rw [List.getElem?_append_right (Nat.le_add_right _ _), Nat.add_sub_cancel_left]; exact hq)
  have hB := hW.back hC h1 hk hPa hS
  have hDb : va_D A wx := by
    refine ⟨fun i j x y hx hy hxy => ?_, fun k q hq => ?_⟩
    · have e1 : (w1 ++ wx)[w1.length + i]? = some x := by rw [List.getElem?_append_right (Nat.le_add_right _ _), Nat.add_sub_cancel_left]; exact hx
      have e2 : (w1 ++ wx)[w1.length + j]? = some y := by rw [List.getElem?_append_right (Nat.le_add_right _ _), Nat.add_sub_cancel_left]; exact hy
      have e3 := hD1.1 _ _ x y e1 e2 hxy
      omega
    · have e1 : (w1 ++ wx)[w1.length + k]? = some q := by rw [List.getElem?_append_right (Nat.le_add_right _ _), Nat.add_sub_cancel_left]; exact hq
      exact hF _ (hD1.2 _ q e1)
  refine ⟨hB.1.app hPb, va_D.app hB.2.1 hDb fun i j x y hx hy hxy => ?_, hS⟩
  -- a new cell isn't one that was there
  have e2 : (w1 ++ wx)[w1.length + j]? = some y := by rw [List.getElem?_append_right (Nat.le_add_right _ _), Nat.add_sub_cancel_left]; exact hy
  have hlen : isC.length = w1.length := by
    have a1 := congrArg List.length hC
    have a2 := congrArg List.length h1
    simp only [List.length_map] at a1 a2
    omega
  have hold : ∃ q0 : Nat × va_E, ws[i]? = some q0 ∧ q0.1 = x.1 ∧ ((∃ k : Nat, isC[k]? = some i ∧ w1[k]? = some x) ∨ i ∉ isC) := by
    rcases pu_get isC w1 ws hlen i x hx with ⟨k, g1, g2⟩ | ⟨g1, g2⟩
    · obtain ⟨q0, f1, -, f3⟩ := pu_fst hC h1 g1 g2
      exact ⟨q0, f1, f3, Or.inl ⟨k, g1, g2⟩⟩
    · exact ⟨x, g2, rfl, Or.inr g1⟩
  obtain ⟨q0, f1, f2, f3⟩ := hold
  rcases f3 with ⟨k, g1, g2⟩ | g1
  · have e1 : (w1 ++ wx)[k]? = some x := by rw [List.getElem?_append_left (List.getElem?_eq_some_iff.mp g2).1]; exact g2
    have e3 := hD1.1 _ _ x y e1 e2 hxy
    have e4 := (List.getElem?_eq_some_iff.mp g2).1
    omega
  · have hlt : q0.1 < H.size := (hW.1 i q0 f1).lt
    have hy2 := hD1.2 _ y e2
    rw [← hxy, ← f2] at hy2
    rcases hy2 with ⟨k2, e5, h⟩ | h
    · have e6 : (wc.map some)[k2]? = some (some (q0.1, e5)) := by rw [List.getElem?_map, h]; rfl
      rw [← hC, List.getElem?_map] at e6
      cases hi : isC[k2]? with
      | none => rw [hi] at e6; cases e6
      | some i2 =>
        rw [hi] at e6
        have e7 : ws[i2]? = some (q0.1, e5) := Option.some.inj e6
        have e8 := hW.2.1.1 i i2 q0 (q0.1, e5) f1 e7 rfl
        subst e8
        exact g1 (List.mem_of_getElem? hi)
    · omega
section XM
variable {p : Program} {l : Launch} {e : Env} {R : Room} {s : State} {m : MethodId} {args : Array Value} {below : List Frame} {meth : Method} {c : Code} {H : Heap} {locs : List Loc} {cells slots c1 s1 : Nat} {Q : State → Prop} {cc : ByteArray} {pc nL : Nat} {ls : Array Slot} {rest : List Value} {D : va_G} {I J Z : ClassId} {A : Nat → Prop} {a : Nat} {ws ws' : va_W} {H0 : Heap} {own : String}
theorem x_obj {index : Nat} (hC : Cx p s m args meth c cc nL own D I J Z) (hq : Cond.methodLink own index Lib.objectInit ∈ gw) (hl : ls.size = nL) (hR : 1 ≤ R.frames ∧ 0 + 12 ≤ R.locals) (hdg : decode cc pc = .ok (.invokespecial index, 3))
    (kk : W p l e R s m args below meth c H locs cells slots Q (F0 m (pc + 3) ls [])) : W p l e R s m args below meth c H locs cells slots Q (F0 m pc ls [.ref a]) := by
  have hts := hC.2.2.2.2.1
  refine W.objInit hC.1 hC.2.1 hC.2.2.2.1 (hts _ hq) (hts _ q_imt_Object_init) (hts _ q_code_obj) rfl (hl.trans hC.2.2.1.symm) rfl hdg hR.1 ?_ ?_
  · show 2 * 0 + 0 + 12 ≤ R.locals
    omega
  · exact kk
theorem x_new {index ci : Nat} {C : String} {T : u_T} {N : Nat} {t0 : Nat → FieldType} {fs : List Value} (hC : Cx p s m args meth c cc nL own D I J Z) (hW : Wd D A H0 ws H locs) (hA : ∀ q, H0.size ≤ q → A q) (hc : classes[ci]? = some (C, T, N)) (hin : ∀ w ∈ u_ws C T N, w ∈ gw) (hty : ∀ k, k < N → parseFieldDescriptor (T k).2.2.1 = some (t0 k)) (q1 : Cond.classLink own index C ∈ gw) (q2 : Cond.instantiable C N ∈ gw) (q3 : Cond.initialized C ∈ gw) (hfs : ∀ j, j < N → defaultValue (t0 j) = vp_V fs j) (hcells : cells + 1 ≤ R.cells) (hslots : slots + N ≤ R.slots) (hdg : decode cc pc = .ok (.new index, 3)) (e1 : cells + 1 = c1) (e2 : slots + N = s1)
    (kk : ∀ (q : Nat) (H1 : Heap), Wd D A H0 (ws ++ [(q, .inr (ci, fs))]) H1 locs → W p l e R s m args below meth c H1 locs c1 s1 Q (F0 m (pc + 3) ls (.ref q :: rest))) : W p l e R s m args below meth c H locs cells slots Q (F0 m pc ls rest) := by
  have hts := hC.2.2.2.2.1
  subst e1; subst e2
  exact va_new hC.1 hC.2.1 hts hin t0 hty hC.2.2.2.1 (hts _ q1) (hts _ q2) (hts _ q3) hC.2.2.2.2.2.1.1 hW.1 hW.2.1 hW.2.2 hA hc hfs hcells hslots hdg (fun q H1 a1 a2 a3 => kk q H1 ⟨a1, a2, a3⟩)
theorem x_newI {N : Nat} (hC : Cx p s m args meth c cc nL own D I J Z) (hW : Wd D A H0 ws H locs) (hA : ∀ q, H0.size ≤ q → A q) (hN : N ≤ 1000) (hcells : cells + 1 ≤ R.cells) (hslots : slots + N ≤ R.slots) (hdg : decode cc pc = .ok (.newarray .int, 2)) (e1 : cells + 1 = c1) (e2 : slots + N = s1)
    (kk : ∀ (q : Nat) (H1 : Heap), Wd D A H0 (ws ++ [(q, .inl (I, N, .inl (fun _ => 0)))]) H1 locs → W p l e R s m args below meth c H1 locs c1 s1 Q (F0 m (pc + 2) ls (.ref q :: rest))) : W p l e R s m args below meth c H locs cells slots Q (F0 m pc ls (.int (nI N) :: rest)) := by
  have hts := hC.2.2.2.2.1
  subst e1; subst e2
  refine va_newa (atype := .int) (ty := .int) (N' := N) (a0 := (N, .inl (fun _ => 0))) hC.1 hC.2.1 (hts _ q_arr_int) rfl hC.2.2.2.2.2.1.1 hW.1 hW.2.1 hW.2.2 hA (fun cA => rfl) (nI_pos (by omega)) (nI_clamp (by omega)) ?_ hcells hslots hdg (fun q cA H1 hK a1 a2 a3 => ?_)
  · show N * 4 ≤ 536870912
    omega
  · have k1 := (hK.2 3 (cA, .int) rfl).2
    have k2 := (hK.2 0 (I, .int) rfl).2
    have e : cA = I := Option.some.inj (k1.symm.trans k2)
    subst e
    exact kk q H1 ⟨a1, a2, a3⟩
theorem x_newJ {N : Nat} (hC : Cx p s m args meth c cc nL own D I J Z) (hW : Wd D A H0 ws H locs) (hA : ∀ q, H0.size ≤ q → A q) (hN : N ≤ 1000) (hcells : cells + 1 ≤ R.cells) (hslots : slots + N ≤ R.slots) (hdg : decode cc pc = .ok (.newarray .long, 2)) (e1 : cells + 1 = c1) (e2 : slots + N = s1)
    (kk : ∀ (q : Nat) (H1 : Heap), Wd D A H0 (ws ++ [(q, .inl (J, N, .inr (.inl (fun _ => 0))))]) H1 locs → W p l e R s m args below meth c H1 locs c1 s1 Q (F0 m (pc + 2) ls (.ref q :: rest))) : W p l e R s m args below meth c H locs cells slots Q (F0 m pc ls (.int (nI N) :: rest)) := by
  have hts := hC.2.2.2.2.1
  subst e1; subst e2
  refine va_newa (atype := .long) (ty := .long) (N' := N) (a0 := (N, .inr (.inl (fun _ => 0)))) hC.1 hC.2.1 (hts _ q_arr_long) rfl hC.2.2.2.2.2.1.1 hW.1 hW.2.1 hW.2.2 hA (fun cA => rfl) (nI_pos (by omega)) (nI_clamp (by omega)) ?_ hcells hslots hdg (fun q cA H1 hK a1 a2 a3 => ?_)
  · show N * 8 ≤ 536870912
    omega
  · have k1 := (hK.2 3 (cA, .long) rfl).2
    have k2 := (hK.2 1 (J, .long) rfl).2
    have e : cA = J := Option.some.inj (k1.symm.trans k2)
    subst e
    exact kk q H1 ⟨a1, a2, a3⟩
theorem x_newZ {N : Nat} (hC : Cx p s m args meth c cc nL own D I J Z) (hW : Wd D A H0 ws H locs) (hA : ∀ q, H0.size ≤ q → A q) (hN : N ≤ 1000) (hcells : cells + 1 ≤ R.cells) (hslots : slots + N ≤ R.slots) (hdg : decode cc pc = .ok (.newarray .boolean, 2)) (e1 : cells + 1 = c1) (e2 : slots + N = s1)
    (kk : ∀ (q : Nat) (H1 : Heap), Wd D A H0 (ws ++ [(q, .inl (Z, N, .inl (fun _ => 0)))]) H1 locs → W p l e R s m args below meth c H1 locs c1 s1 Q (F0 m (pc + 2) ls (.ref q :: rest))) : W p l e R s m args below meth c H locs cells slots Q (F0 m pc ls (.int (nI N) :: rest)) := by
  have hts := hC.2.2.2.2.1
  subst e1; subst e2
  refine va_newa (atype := .boolean) (ty := .boolean) (N' := N) (a0 := (N, .inl (fun _ => 0))) hC.1 hC.2.1 (hts _ q_arr_boolean) rfl hC.2.2.2.2.2.1.1 hW.1 hW.2.1 hW.2.2 hA (fun cA => rfl) (nI_pos (by omega)) (nI_clamp (by omega)) ?_ hcells hslots hdg (fun q cA H1 hK a1 a2 a3 => ?_)
  · show N * 1 ≤ 536870912
    omega
  · have k1 := (hK.2 3 (cA, .boolean) rfl).2
    have k2 := (hK.2 2 (Z, .boolean) rfl).2
    have e : cA = Z := Option.some.inj (k1.symm.trans k2)
    subst e
    exact kk q H1 ⟨a1, a2, a3⟩
theorem x_runI {y : MethodName} {b : ByteArray} {mL rk MC MS index n : Nat} {av As : List Value} {wc : va_W} {Bo : (Nat → Prop) → State → Prop} (hC : Cx p s m args meth c cc nL own D I J Z) (hW : Wd D A H0 ws H locs) (hM : CM l D I J Z y b mL rk MC MS av wc Bo) (hcl : CLI own index y n) (hcd : Cond.code y b mL none ∈ gw) (isC : List Nat) (hCs : isC.map (fun i => ws[i]?) = wc.map some) (hnd : va_nd isC = true) (hav : av = .ref a :: As) (hn : As.length = n) (hl : ls.size = nL) (hst : (rest.map fun v => v.category).sum ≤ 8) (hR : rk + 1 ≤ R.frames ∧ 8 + (mL + 11) + 40 * rk ≤ R.locals) (hcs : cells + MC ≤ R.cells ∧ slots + MS ≤ R.slots) (hdg : decode cc pc = .ok (.invokespecial index, 3)) :
    va_Run p l e R s m args below meth c H locs cells slots MC MS (F0 m pc ls (As.reverse ++ .ref a :: rest)) rest (va_Qv (fun (_ : Unit) => True) (fun _ t => Bo (va_A wc H.size) t) (va_A wc H.size) av.toArray) (va_A wc H.size) := by
  subst hav
  obtain ⟨⟨g1, g2, g3, g4⟩, g5, g6, g7⟩ := hcl
  have hts := hC.2.2.2.2.1
  rcases g7 with g7 | ⟨host, g7⟩
  · exact va_runI (bytes := b) (maxL := mL) (n := n) (Ts := gw) (own := own) (nL := nL) (As := As) (rest := rest) ⟨hC.1, hC.2.1, hC.2.2.1, hC.2.2.2.1, hts⟩ (hM H.size)
      ⟨callB_of n hts (gw_in hcd) rfl rfl rfl (hts _ g4) (hts _ g7) ⟨g1, g2, g3⟩ hR, g5, hts _ g6⟩
      (pre_of hC hW hCs hnd) rfl hn hl rfl (lv_room hst) hdg hcs
  · exact va_runIN (bytes := b) (maxL := mL) (n := n) (Ts := gw) (own := own) (nL := nL) (As := As) (rest := rest) ⟨hC.1, hC.2.1, hC.2.2.1, hC.2.2.2.1, hts⟩ (hM H.size)
      ⟨va_cnB n hts (gw_in hcd) rfl rfl rfl (hC.2.2.2.2.2.1.2 _ g7) (hts _ g4) ⟨g1, g2, g3⟩ hR, g5, hts _ g6⟩
      (pre_of hC hW hCs hnd) rfl hn hl rfl (lv_room hst) hdg hcs
variable {st0 : List Value} {wc w1 : va_W} {a1 : Array Value} {Bo : (Nat → Prop) → State → Prop} {MC MS : Nat}
theorem x_cm (hr : va_Run p l e R s m args below meth c H locs cells slots MC MS (F0 m pc ls st0) rest (va_Qv (fun (_ : Unit) => True) (fun _ t => Bo (va_A wc H.size) t) (va_A wc H.size) a1) (va_A wc H.size)) (hW : Wd D A H0 ws H locs) (hA : ∀ q, H0.size ≤ q → A q) (isC : List Nat) (hCs : isC.map (fun i => ws[i]?) = wc.map some) (e1 : cells + MC = c1) (e2 : slots + MS = s1)
    (kk : ∀ (t : State) (H1 : Heap) (locs1 : List Loc), t.heap = H1 → Bo (va_A wc H.size) t → (∀ q, va_A wc H.size q → A q) → (∀ q : Nat, q < H.size → ¬ va_A wc H.size q → H1[q]? = H[q]?) → va_S A H0 H1 locs1 → W p l e R s m args below meth c H1 locs1 c1 s1 Q (F0 m (pc + 3) ls rest)) : W p l e R s m args below meth c H locs cells slots Q (F0 m pc ls st0) := by
  subst e1; subst e2
  have hFc := va_free hW.2.1 hW.2.2 hA isC hCs
  exact va_callv hr hW.2.2 (fun q _ h => hFc q h) hFc (fun u t H1 locs1 ht hvm hp hB hz hk hS => kk t H1 locs1 ht hB hFc hk hS)
theorem x_mret {B : Unit → State → Prop} (hC : Cx p s m args meth c cc nL own D I J Z) (hr : meth.sig.returnType = none) (hW : Wd D A s.heap w1 H locs) (hB : ∀ t : State, t.heap = H → B () t) (hdg : decode cc pc = .ok (.return_, 1)) : W p l e R s m args below meth c H locs cells slots (MQ below (va_Qv (fun (_ : Unit) => True) B A) args s cells slots A) (F0 m pc ls []) :=
  W.vret hC.1 hC.2.1 hr (fun t ht _ => ⟨⟨(), rfl, trivial, hB t ht⟩, hW.2.2.F ht⟩) hW.2.2.2.2 hdg hC.2.2.2.2.2.2
end XM
theorem rm_ob {R : Room} {rk : Nat} (h1 : R.frames = rk) (h2 : R.locals = 40 * rk) (a : 1 ≤ rk) : 1 ≤ R.frames ∧ 0 + 12 ≤ R.locals := by
  rw [h1, h2]; exact ⟨a, by omega⟩
theorem rm_mc {R : Room} {MC MS a b : Nat} (h1 : R.cells = MC) (h2 : R.slots = MS) (ha : a ≤ MC) (hb : b ≤ MS) : a ≤ R.cells ∧ b ≤ R.slots := by
  rw [h1, h2]; exact ⟨ha, hb⟩
theorem rm_mxm {R : Room} {rk k MC MS a b : Nat} (h1 : R.frames = rk) (h2 : R.locals = 40 * rk) (h3 : R.cells = MC) (h4 : R.slots = MS) (ha : 1 ≤ rk) (hb : k + 13 ≤ 40) (hc : a ≤ MC) (hd : b ≤ MS) : 1 ≤ R.frames ∧ k + 13 ≤ R.locals ∧ a ≤ R.cells ∧ b ≤ R.slots := by
  rw [h1, h2, h3, h4]; exact ⟨ha, by omega, hc, hd⟩
theorem lsw_2 {x : Int32} {u v d : Int} (h0 : ¬ x = (0 : Int32)) (h1 : ¬ x = (1 : Int32)) : Op.lookupswitch.offset [((0 : Int), u), ((1 : Int), v)] d x.toInt = d := by
  have e0 : ¬ x.toInt = 0 := fun h => h0 (Int32.toInt_inj.mp (h.trans (by decide)))
  have e1 : ¬ x.toInt = 1 := fun h => h1 (Int32.toInt_inj.mp (h.trans (by decide)))
  simp [Op.lookupswitch.offset, List.find?, Ne.symm e0, Ne.symm e1, e0, e1, beq_iff_eq]
  try (split <;> rename_i h9 <;> first | rfl | (simp_all; done))
