/-! CONSTRUCTORS: worlds that grow; what a constructor leaves, as a list of cells over the addresses u 0, u 1 .. -/
def gi_C (X : gw_X) (U : State) : Prop := va_K X.2.1 vwCl (gw_tys X) U ∧ gw_Ne U ∧ va_AO RX5 U
theorem gi_C.go {X : gw_X} {s U : State} (hW : s.WarmedH U.vm) (h : gi_C X s) : gi_C X U := ⟨va_K.moved hW.alike h.1, h.2.1.warm hW, va_AO.moved hW.alike h.2.2⟩
theorem gi_C.same {X : gw_X} {u U : State} (hv : u.vm = U.vm) (h : gi_C X u) : gi_C X U := ⟨va_K.moved (by rw [hv]; exact Vm.Alike.refl _) h.1, h.2.1.same hv, va_AO.moved (by rw [hv]; exact Vm.Alike.refl _) h.2.2⟩
def gi_Pc (X : gw_X) (sz : Nat) (w0 : va_W) (av : List Value) : Array Value → State → Prop := va_Pc av (fun U => U.heap.size = sz ∧ va_P X.2.1 vwCl w0 U.heap ∧ gi_C X U ∧ va_D (fun _ => True) w0)
def gi_QA (X : gw_X) (A : Nat → Prop) (h0 : Nat) (sh : (Nat → Nat) → va_W) : Array Value → State → Outcome → State → Prop := va_Qv (S := Nat → Nat) (fun u => u 0 = h0) (fun u t => va_P X.2.1 vwCl (sh u) t.heap ∧ va_D A (sh u)) A
theorem gi_blind (X : gw_X) (sz : Nat) (w0 : va_W) (av : List Value) : FrameBlind (gi_Pc X sz w0 av) := fun a U g mk h => ⟨h.1, h.2.1, h.2.2.1, h.2.2.2.1.same (u := U) (U := U.calling g mk a) rfl, h.2.2.2.2⟩
theorem gi_of {l : Launch} {y : MethodName} {ws ws' : List Cond} {rm : Room} {X : gw_X} {h0 sz mc ms : Nat} {w0 : va_W} {sh : (Nat → Nat) → va_W} {cc : ByteArray} {maxL : Nat} {ret : Option FieldType} {av : List Value} (own : String)
    (hy : plainName y.cls = true) (hw : ws = Cond.code y cc maxL ret :: ws') (ho : y.cls = own) (hlen : (lg_sl av).length ≤ maxL)
    (body : ∀ (p : Program) (e : Env) (s : State) (m : MethodId) (below : List Frame) (meth : Method) (c : Code) (ls : Array Slot) (A : Nat → Prop), p.tables.exec = Jvm.exec → c.code = cc → c.maxLocals = maxL → s.vm.findClass own = some m.cls → (∀ w ∈ ws, w.before av.toArray s = true) → meth.sig.returnType = ret → meth.locks = false → meth.name = y.name → gi_C X s → (∀ q : Nat, s.heap.size ≤ q → A q) → va_P X.2.1 vwCl w0 s.heap → va_D A w0 → va_S A s.heap s.heap [] → lv_has ls maxL (lv_args 0 av) →
      W p l e rm s m av.toArray below meth c s.heap [] 0 0 (MQ below (gi_QA X A h0 sh) av.toArray s mc ms A) (F0 m 0 ls [])) : Met l y ws rm (gi_Pc X sz w0 av) (gi_QA X (va_A w0 sz) h0 sh) mc ms (va_A w0 sz) := by
  refine Met.ofW (cc := cc) (maxL := maxL) (ret := ret) hy hw ?_
  intro p e s m args below meth c s₁ B hml hv
  obtain ⟨rfl, hsz, hP, hK, hD0⟩ := hv
  subst hsz
  have hD := hD0.self (sz := s.heap.size)
  have hl := lv_entry av (n := maxL) hlen
  rw [lg_entry_eq]
  exact body p e s m below meth c _ (va_A w0 s.heap.size) B.exec B.bytes hml (by rw [← ho]; exact findClass_of_methodNamed B.named) (atoms_spec (ws := ws) B.pre) B.returns B.notSynchronized (name_of_methodNamed B.named B.method).1 hK (fun q h => Or.inr h) hP hD va_S.rf hl
theorem gi_join {A : Nat → Prop} {D : va_G} {cl : List vw_C} {ws w1 : va_W} {x : Nat × va_E} {H H1 : Heap} (hP : va_P D cl (ws ++ [x]) H) (hD : va_D A (ws ++ [x])) (hk : ∀ q : Nat, q < H.size → ¬ va_A [x] H.size q → H1[q]? = H[q]?) (hF : ∀ q, va_A [x] H.size q → A q) (hP1 : va_P D cl w1 H1) (hD1 : va_D (va_A [x] H.size) w1) : va_P D cl (ws ++ w1) H1 ∧ va_D A (ws ++ w1) := by
  have lt : ∀ (k : Nat) (q : Nat × va_E), ws[k]? = some q → k < ws.length := fun k q h => (List.getElem?_eq_some_iff.mp h).1
  have ap : ∀ (k : Nat) (q : Nat × va_E), ws[k]? = some q → (ws ++ [x])[k]? = some q := fun k q h => by rw [List.getElem?_append_left (lt k q h)]; exact h
  have hx : (ws ++ [x])[ws.length]? = some x := by simp
  have out : ∀ (k : Nat) (q : Nat × va_E), ws[k]? = some q → q.1 < H.size ∧ ¬ va_A [x] H.size q.1 := by
    intro k q hq
    have hl := (hP k q (ap k q hq)).lt
    refine ⟨hl, fun h => ?_⟩
    rcases h with ⟨k2, e, h⟩ | h
    · have h2 : k2 = 0 := by
        have := (List.getElem?_eq_some_iff.mp h).1
        simp at this
        exact this
      subst h2
      have h3 : x = (q.1, e) := Option.some.inj h
      have h4 := hD.1 k ws.length q x (ap k q hq) hx (by rw [h3])
      have := lt k q hq
      omega
    · omega
  refine ⟨va_P.app (fun k q hq => (hP k q (ap k q hq)).kept (hk q.1 (out k q hq).1 (out k q hq).2)) hP1, va_D.app ⟨fun i j a b ha hb e => hD.1 i j a b (ap i a ha) (ap j b hb) e, fun k q hq => hD.2 k q (ap k q hq)⟩ (hD1.weaken (fun k q _ h => hF q.1 h)) (fun i j a b ha hb e => ?_)⟩
  exact (out i a ha).2 (by rw [e]; exact hD1.2 j b hb)
section GI
variable {p : Program} {l : Launch} {e : Env} {R : Room} {s : State} {m : MethodId} {args : Array Value} {below : List Frame} {meth : Method} {c : Code} {H : Heap} {locs : List Loc} {cells slots : Nat} {Q : State → Prop}
variable {cc : ByteArray} {pc nL : Nat} {ls : Array Slot} {rest : List Value} {X : gw_X} {own : String} {Ts : List Cond} {A : Nat → Prop} {H0 : Heap} {ws : va_W}
theorem gi_cls {ty : FieldType} {cA : ClassId} {D : va_G} {tys : List (ClassId × FieldType)} (hty : ∀ C, ty ≠ .object C) {k : Nat} {c0 : ClassId} (hK : va_K D vwCl tys s) (hk : tys[k]? = some (c0, ty)) (hK1 : va_K D vwCl (tys ++ [(cA, ty)]) s) : cA = c0 := by
  have h1 := (hK.2 k _ hk).2
  have h2 := (hK1.2 tys.length (cA, ty) (by simp)).2
  cases ty with
  | object C => exact absurd rfl (hty C)
  | _ => exact Option.some.inj (h2.symm.trans h1)
theorem gi_newai (hexec : p.tables.exec = Jvm.exec) (hb : c.code = cc) (harr : (Cond.arrayClass .int).before args s = true) (hK : va_K X.2.1 vwCl (gw_tys X) s) (hP : va_P X.2.1 vwCl ws H) (hD : va_D A ws) (hS : va_S A H0 H locs) (hA : ∀ q, H0.size ≤ q → A q) {n : Int32} {N' : Nat} (hn : ¬ n < 0) (hN : n.toNatClampNeg = N') (hbytes : N' * componentBytes .int ≤ 536870912) (hcells : cells + 1 ≤ R.cells) (hslots : slots + N' ≤ R.slots) (hdg : decode cc pc = .ok (.newarray .int, 2))
    (kk : ∀ (q : Nat) (H1 : Heap), va_P X.2.1 vwCl (ws ++ [(q, .inl (X.2.2 1, N', .inl (fun _ => 0)))]) H1 → va_D A (ws ++ [(q, .inl (X.2.2 1, N', .inl (fun _ => 0)))]) → va_S A H0 H1 locs → W p l e R s m args below meth c H1 locs (cells + 1) (slots + N') Q (F0 m (pc + 2) ls (.ref q :: rest))) : W p l e R s m args below meth c H locs cells slots Q (F0 m pc ls (.int n :: rest)) := by
  refine va_newa (atype := .int) (ty := .int) (a0 := (N', .inl (fun _ => 0))) hexec hb harr rfl hK hP hD hS hA (fun cA => rfl) hn hN hbytes hcells hslots hdg (fun q cA H1 hK1 hP1 hD1 hS1 => ?_)
  obtain rfl := gi_cls (fun C => by intro h; cases h) hK (k := 1) rfl hK1
  exact kk q H1 hP1 hD1 hS1
theorem gi_newab (hexec : p.tables.exec = Jvm.exec) (hb : c.code = cc) (harr : (Cond.arrayClass .byte).before args s = true) (hK : va_K X.2.1 vwCl (gw_tys X) s) (hP : va_P X.2.1 vwCl ws H) (hD : va_D A ws) (hS : va_S A H0 H locs) (hA : ∀ q, H0.size ≤ q → A q) {n : Int32} {N' : Nat} (hn : ¬ n < 0) (hN : n.toNatClampNeg = N') (hbytes : N' * componentBytes .byte ≤ 536870912) (hcells : cells + 1 ≤ R.cells) (hslots : slots + N' ≤ R.slots) (hdg : decode cc pc = .ok (.newarray .byte, 2))
    (kk : ∀ (q : Nat) (H1 : Heap), va_P X.2.1 vwCl (ws ++ [(q, .inl (X.2.2 0, N', .inl (fun _ => 0)))]) H1 → va_D A (ws ++ [(q, .inl (X.2.2 0, N', .inl (fun _ => 0)))]) → va_S A H0 H1 locs → W p l e R s m args below meth c H1 locs (cells + 1) (slots + N') Q (F0 m (pc + 2) ls (.ref q :: rest))) : W p l e R s m args below meth c H locs cells slots Q (F0 m pc ls (.int n :: rest)) := by
  refine va_newa (atype := .byte) (ty := .byte) (a0 := (N', .inl (fun _ => 0))) hexec hb harr rfl hK hP hD hS hA (fun cA => rfl) hn hN hbytes hcells hslots hdg (fun q cA H1 hK1 hP1 hD1 hS1 => ?_)
  obtain rfl := gi_cls (fun C => by intro h; cases h) hK (k := 0) rfl hK1
  exact kk q H1 hP1 hD1 hS1
theorem gi_newaz (hexec : p.tables.exec = Jvm.exec) (hb : c.code = cc) (harr : (Cond.arrayClass .boolean).before args s = true) (hK : va_K X.2.1 vwCl (gw_tys X) s) (hP : va_P X.2.1 vwCl ws H) (hD : va_D A ws) (hS : va_S A H0 H locs) (hA : ∀ q, H0.size ≤ q → A q) {n : Int32} {N' : Nat} (hn : ¬ n < 0) (hN : n.toNatClampNeg = N') (hbytes : N' * componentBytes .boolean ≤ 536870912) (hcells : cells + 1 ≤ R.cells) (hslots : slots + N' ≤ R.slots) (hdg : decode cc pc = .ok (.newarray .boolean, 2))
    (kk : ∀ (q : Nat) (H1 : Heap), va_P X.2.1 vwCl (ws ++ [(q, .inl (X.2.2 3, N', .inl (fun _ => 0)))]) H1 → va_D A (ws ++ [(q, .inl (X.2.2 3, N', .inl (fun _ => 0)))]) → va_S A H0 H1 locs → W p l e R s m args below meth c H1 locs (cells + 1) (slots + N') Q (F0 m (pc + 2) ls (.ref q :: rest))) : W p l e R s m args below meth c H locs cells slots Q (F0 m pc ls (.int n :: rest)) := by
  refine va_newa (atype := .boolean) (ty := .boolean) (a0 := (N', .inl (fun _ => 0))) hexec hb harr rfl hK hP hD hS hA (fun cA => rfl) hn hN hbytes hcells hslots hdg (fun q cA H1 hK1 hP1 hD1 hS1 => ?_)
  obtain rfl := gi_cls (fun C => by intro h; cases h) hK (k := 3) rfl hK1
  exact kk q H1 hP1 hD1 hS1
theorem gi_newal (hexec : p.tables.exec = Jvm.exec) (hb : c.code = cc) (harr : (Cond.arrayClass .long).before args s = true) (hK : va_K X.2.1 vwCl (gw_tys X) s) (hP : va_P X.2.1 vwCl ws H) (hD : va_D A ws) (hS : va_S A H0 H locs) (hA : ∀ q, H0.size ≤ q → A q) {n : Int32} {N' : Nat} (hn : ¬ n < 0) (hN : n.toNatClampNeg = N') (hbytes : N' * componentBytes .long ≤ 536870912) (hcells : cells + 1 ≤ R.cells) (hslots : slots + N' ≤ R.slots) (hdg : decode cc pc = .ok (.newarray .long, 2))
    (kk : ∀ (q : Nat) (H1 : Heap), va_P X.2.1 vwCl (ws ++ [(q, .inl (X.2.2 2, N', .inr (.inl (fun _ => 0))))]) H1 → va_D A (ws ++ [(q, .inl (X.2.2 2, N', .inr (.inl (fun _ => 0))))]) → va_S A H0 H1 locs → W p l e R s m args below meth c H1 locs (cells + 1) (slots + N') Q (F0 m (pc + 2) ls (.ref q :: rest))) : W p l e R s m args below meth c H locs cells slots Q (F0 m pc ls (.int n :: rest)) := by
  refine va_newa (atype := .long) (ty := .long) (a0 := (N', .inr (.inl (fun _ => 0)))) hexec hb harr rfl hK hP hD hS hA (fun cA => rfl) hn hN hbytes hcells hslots hdg (fun q cA H1 hK1 hP1 hD1 hS1 => ?_)
  obtain rfl := gi_cls (fun C => by intro h; cases h) hK (k := 2) rfl hK1
  exact kk q H1 hP1 hD1 hS1
theorem gi_newaq (hexec : p.tables.exec = Jvm.exec) (hb : c.code = cc) {index : Nat} (hown : s.vm.findClass own = some m.cls) (hclink : (Cond.classLink own index RX5).before args s = true) (hover : va_AO RX5 s) (hK : va_K X.2.1 vwCl (gw_tys X) s) (hP : va_P X.2.1 vwCl ws H) (hD : va_D A ws) (hS : va_S A H0 H locs) (hA : ∀ q, H0.size ≤ q → A q) {n : Int32} {N' : Nat} (hn : ¬ n < 0) (hN : n.toNatClampNeg = N') (hbytes : N' * 4 ≤ 536870912) (hcells : cells + 1 ≤ R.cells) (hslots : slots + N' ≤ R.slots) (hdg : decode cc pc = .ok (.anewarray index, 3))
    (kk : ∀ (q : Nat) (H1 : Heap), va_P X.2.1 vwCl (ws ++ [(q, .inl (X.2.2 4, N', .inr (.inr (.inr (.inr (fun _ => none))))))]) H1 → va_D A (ws ++ [(q, .inl (X.2.2 4, N', .inr (.inr (.inr (.inr (fun _ => none))))))]) → va_S A H0 H1 locs → W p l e R s m args below meth c H1 locs (cells + 1) (slots + N') Q (F0 m (pc + 3) ls (.ref q :: rest))) : W p l e R s m args below meth c H locs cells slots Q (F0 m pc ls (.int n :: rest)) := by
  refine va_newq hexec hb hown hclink hover hK hP hD hS hA hn hN hbytes hcells hslots hdg (fun q cA H1 hK1 hP1 hD1 hS1 => ?_)
  have h1 := (hK.2 4 _ rfl).2
  have h2 := (hK1.2 (gw_tys X).length (cA, .object RX5) rfl).2
  obtain ⟨k1, c1, a1, a2, a3, a4⟩ := h1
  obtain ⟨k2, c2, b1, b2, b3, b4⟩ := h2
  have e9 : cA = X.2.2 4 := Option.some.inj (b4.symm.trans a4)
  subst e9
  exact kk q H1 hP1 hD1 hS1
variable {y : MethodName} {bytes : ByteArray} {maxL n index idx mc ms : Nat} {wsC ws' : List Cond} {rm : Room} {C host : String} {T : u_T} {N ci : Nat} {fs : List Value} {sh : (Nat → Nat) → va_W}
/-- new C; dup; invokespecial C.<init>() -/
theorem gi_make (hexec : p.tables.exec = Jvm.exec) (hb : c.code = cc) (hml : c.maxLocals = nL) (hl : ls.size = nL) (hts : ∀ w ∈ Ts, w.before args s = true) (hin : ∀ w ∈ u_ws C T N, w ∈ Ts) (ty : Nat → FieldType) (hty : ∀ k, k < N → parseFieldDescriptor (T k).2.2.1 = some (ty k)) (hown : s.vm.findClass own = some m.cls) (hcl : Cond.classLink own idx C ∈ Ts ∧ Cond.instantiable C N ∈ Ts ∧ Cond.initialized C ∈ Ts)
    (hC : gi_C X s) (hP : va_P X.2.1 vwCl ws H) (hD : va_D A ws) (hS : va_S A H0 H locs) (hA : ∀ q, H0.size ≤ q → A q) (hc : vwCl[ci]? = some (C, T, N)) (hfs : ∀ j, j < N → defaultValue (ty j) = vp_V fs j) (hcells : cells + 1 + mc ≤ R.cells) (hslots : slots + N + ms ≤ R.slots)
    (hM : ∀ h0 sz : Nat, Met l y wsC rm (gi_Pc X sz [(h0, .inr (ci, fs))] [.ref h0]) (gi_QA X (va_A [(h0, .inr (ci, fs))] sz) h0 sh) mc ms (va_A [(h0, .inr (ci, fs))] sz))
    (hG : GoodIn Ts wsC) (hw : wsC = Cond.code y bytes maxL none :: ws') (hrm : rm.cells = mc ∧ rm.slots = ms) (hli : Cond.methodLink own index y ∈ Ts ∨ (own, index, y, host) ∈ gn_m) (hys : Cond.initialized y.cls ∈ Ts ∧ Cond.instanceMethod y ∈ Ts ∧ y.name = "<init>") (hd : y.cls ≠ "java/lang/invoke/MethodHandle" ∧ y.cls ≠ "java/lang/invoke/VarHandle" ∧ (parseMethodDescriptor y.desc).map (fun d => d.parameters.length) = some 0) (hR : rm.frames + 1 ≤ R.frames ∧ 8 + (maxL + 11) + rm.locals ≤ R.locals) (hro : 1 + (rest.map fun v => v.category).sum ≤ 8)
    (hd0 : decode cc pc = .ok (.new idx, 3)) (hd1 : decode cc (pc + 3) = .ok (.dup, 1)) (hd2 : decode cc (pc + 4) = .ok (.invokespecial index, 3))
    (kk : ∀ (u : Nat → Nat) (H1 : Heap) (locs1 : List Loc), va_P X.2.1 vwCl (ws ++ sh u) H1 → va_D A (ws ++ sh u) → va_S A H0 H1 locs1 → W p l e R s m args below meth c H1 locs1 (cells + 1 + mc) (slots + N + ms) Q (F0 m (pc + 7) ls (.ref (u 0) :: rest))) : W p l e R s m args below meth c H locs cells slots Q (F0 m pc ls rest) := by
  refine va_new (ci := ci) (fs := fs) (C := C) (T := T) (N := N) hexec hb hts hin ty hty hown (hts _ hcl.1) (hts _ hcl.2.1) (hts _ hcl.2.2) hC.1 hP hD hS hA hc hfs (by omega) (by omega) hd0 (fun q H hP hD hS => ?_)
  refine lv_dup hexec hb hd1 rfl ?_
  have hPc : va_P X.2.1 vwCl [(q, .inr (ci, fs))] H := fun k x hk => hP (ws.length + k) x (by rw [List.getElem?_append_right (by omega)]; rw [show ws.length + k - ws.length = k by omega]; exact hk)
  have hDc : va_D A [(q, .inr (ci, fs))] := ⟨fun i j a b ha hb e => by have h1 := (List.getElem?_eq_some_iff.mp ha).1; have h2 := (List.getElem?_eq_some_iff.mp hb).1; simp at h1 h2; omega, fun k x hk => hD.2 (ws.length + k) x (by rw [List.getElem?_append_right (by omega)]; rw [show ws.length + k - ws.length = k by omega]; exact hk)⟩
  have hFc : ∀ z, va_A [(q, .inr (ci, fs))] H.size z → A z := by
    intro z h
    rcases h with ⟨k, e, h⟩ | h
    · exact hDc.2 k _ h
    · exact hA z (Nat.le_trans hS.1 h)
  have pre : PreS s H (gi_Pc X H.size [(q, .inr (ci, fs))] [.ref q]) [.ref q] := ⟨gi_blind X _ _ _, fun U hU hW => ⟨rfl, by rw [hU], by rw [hU]; exact hPc, hC.go hW, hDc.weaken (fun _ _ _ _ => trivial)⟩⟩
  have fin : ∀ (u : Nat → Nat) (t : State) (H1 : Heap) (locs1 : List Loc), t.heap = H1 → u 0 = q → (va_P X.2.1 vwCl (sh u) t.heap ∧ va_D (va_A [(q, .inr (ci, fs))] H.size) (sh u)) → (∀ z : Nat, z < H.size → ¬ va_A [(q, .inr (ci, fs))] H.size z → H1[z]? = H[z]?) → va_S A H0 H1 locs1 → W p l e R s m args below meth c H1 locs1 (cells + 1 + mc) (slots + N + ms) Q (F0 m (pc + 7) ls (.ref q :: rest)) := by
    intro u t H1 locs1 ht h0 hB hk1 hS1
    obtain ⟨hP1, hD1⟩ := hB
    rw [ht] at hP1
    obtain ⟨hP2, hD2⟩ := gi_join hP hD hk1 hFc hP1 hD1
    rw [← h0]
    exact kk u H1 locs1 hP2 hD2 hS1
  have cb : ∀ hl' : (Cond.methodLink own index y).before args s = true, CallB R s args own index y bytes maxL none wsC rm mc ms 0 := fun hl' => callB_of 0 hts hG hw hrm.1 hrm.2 (hts _ hys.1) hl' hd hR
  rcases hli with hli | hli
  · refine va_callv (va_runI (b := q) (As := []) (rest := .ref q :: rest) ⟨hexec, hb, hml, hown, hts⟩ (hM q H.size) ⟨cb (hts _ hli), hys.2.2, hts _ hys.2.1⟩ pre rfl rfl hl rfl (lv_room (by simpa [Value.category] using hro)) hd2 ⟨by omega, by omega⟩) hS (fun z _ h => hFc z h) hFc (fun u t H1 locs1 ht _ hw' hB _ hk1 hS1 => ?_)
    exact fin u t H1 locs1 ht hw' hB hk1 hS1
  · refine va_callv (va_runIN (b := q) (As := []) (rest := .ref q :: rest) ⟨hexec, hb, hml, hown, hts⟩ (hM q H.size) ⟨va_cnB 0 hts hG hw hrm.1 hrm.2 (hC.2.1.1 _ hli) (hts _ hys.1) hd hR, hys.2.2, hts _ hys.2.1⟩ pre rfl rfl hl rfl (lv_room (by simpa [Value.category] using hro)) hd2 ⟨by omega, by omega⟩) hS (fun z _ h => hFc z h) hFc (fun u t H1 locs1 ht _ hw' hB _ hk1 hS1 => ?_)
    exact fin u t H1 locs1 ht hw' hB hk1 hS1
theorem gi_ret {h0 : Nat} (hexec : p.tables.exec = Jvm.exec) (hb : c.code = cc) (hr : meth.sig.returnType = none) (hlocks : meth.locks = false) (u : Nat → Nat) (hu : u 0 = h0) (hP : va_P X.2.1 vwCl (sh u) H) (hD : va_D A (sh u)) (hS : va_S A s.heap H locs) (hdg : decode cc pc = .ok (.return_, 1)) : W p l e R s m args below meth c H locs cells slots (MQ below (gi_QA X A h0 sh) args s cells slots A) (F0 m pc ls []) :=
  W.vret hexec hb hr (fun t ht hW => ⟨⟨u, rfl, hu, by rw [ht]; exact hP, hD⟩, hS.F ht⟩) hS.2.2 hdg hlocks
end GI
