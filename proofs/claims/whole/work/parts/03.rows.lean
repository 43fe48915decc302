/-! WORDS OF THE PURE FUNCTIONS: what a method answers, as an Option: none where it would throw, or a loop's fuel ends. -/
def gv_bind {α β : Type} (x : Option α) (k : α → Option β) : Option β := match x with
  | none => none
  | some a => k a
def gv_bind2 {α β γ : Type} (x : Option (α × β)) (k : α → β → Option γ) : Option γ := match x with
  | none => none
  | some a => k a.1 a.2
def gv_let {α β : Type} (a : α) (k : α → β) : β := k a
def gv_in {β : Type} (i : Int32) (n : Nat) (k : Option β) : Option β := if i < 0 ∨ n ≤ i.toNatClampNeg then none else k
def gv_nz {β : Type} (y : Int32) (k : Option β) : Option β := if y = 0 then none else k
def gv_bo {β : Type} (v : Int32) (k : Option β) : Option β := if v = 0 ∨ v = 1 then k else none
def gv_cp {β : Type} (sp dp n : Int32) (n0 n1 : Nat) (k : Option β) : Option β := if ¬ sp < 0 ∧ ¬ dp < 0 ∧ ¬ n < 0 ∧ sp.toNatClampNeg + n.toNatClampNeg ≤ n0 ∧ dp.toNatClampNeg + n.toNatClampNeg ≤ n1 then k else none
def gv_loop {S E : Type} (b : S → Option (S ⊕ E)) : Nat → S → Option E
  | 0, _ => none
  | n + 1, s => match b s with
    | none => none
    | some (.inl t) => gv_loop b n t
    | some (.inr e) => some e
def gv_N : Nat := 100000
def gv_max (x y : Int32) : Int32 := if x < y then y else x
def gv_min (x y : Int32) : Int32 := if y < x then y else x
def gv_bret {S R R' : Type} (x : Option (S ⊕ R)) (f : R → R') (k : S → Option R') : Option R' := match x with
  | none => none
  | some (.inl s) => k s
  | some (.inr r) => some (f r)
theorem gv_bret_e {S R R' : Type} {x : Option (S ⊕ R)} {f : R → R'} {k : S → Option R'} {y : R'} (h : gv_bret x f k = some y) : ∃ ex, x = some ex ∧ (∀ s, ex = .inl s → k s = some y) ∧ (∀ r, ex = .inr r → f r = y) := by
  match x, h with
  | some (.inl s), h => exact ⟨_, rfl, fun s' e => (by cases e; exact h), fun r e => (by cases e)⟩
  | some (.inr r), h => exact ⟨_, rfl, fun s' e => (by cases e), fun r' e => (by cases e; exact Option.some.inj h)⟩
theorem gv_bind_e {α β : Type} {x : Option α} {k : α → Option β} {y : β} (h : gv_bind x k = some y) : ∃ a, x = some a ∧ k a = some y := by
  cases x with
  | none => cases h
  | some a => exact ⟨a, rfl, h⟩
theorem gv_bind2_e {α β γ : Type} {x : Option (α × β)} {k : α → β → Option γ} {y : γ} (h : gv_bind2 x k = some y) : ∃ a b, x = some (a, b) ∧ k a b = some y := by
  cases x with
  | none => cases h
  | some a => exact ⟨a.1, a.2, rfl, h⟩
theorem gv_let_e {α β : Type} {a x : α} {k : α → β} {y : β} (hx : x = a) (h : gv_let a k = y) : k x = y := by rw [hx]; exact h
theorem gv_in_e {β : Type} {i : Int32} {n : Nat} {k : Option β} {y : β} (h : gv_in i n k = some y) : vp_in i n ∧ k = some y := by
  unfold gv_in at h
  by_cases c : i < 0 ∨ n ≤ i.toNatClampNeg
  · rw [if_pos c] at h; cases h
  · rw [if_neg c] at h; exact ⟨c, h⟩
theorem gv_nz_e {β : Type} {i : Int32} {k : Option β} {y : β} (h : gv_nz i k = some y) : ¬ i = 0 ∧ k = some y := by
  unfold gv_nz at h
  by_cases c : i = 0
  · rw [if_pos c] at h; cases h
  · rw [if_neg c] at h; exact ⟨c, h⟩
theorem gv_bo_e {β : Type} {v : Int32} {k : Option β} {y : β} (h : gv_bo v k = some y) : narrow .boolean (.int v) = .int v ∧ k = some y := by
  unfold gv_bo at h
  by_cases c : v = 0 ∨ v = 1
  · rw [if_pos c] at h
    refine ⟨?_, h⟩
    rcases c with rfl | rfl <;> decide
  · rw [if_neg c] at h; cases h
theorem gv_cp_e {β : Type} {sp dp n : Int32} {n0 n1 : Nat} {k : Option β} {y : β} (h : gv_cp sp dp n n0 n1 k = some y) : (¬ sp < 0 ∧ ¬ dp < 0 ∧ ¬ n < 0 ∧ sp.toNatClampNeg + n.toNatClampNeg ≤ n0 ∧ dp.toNatClampNeg + n.toNatClampNeg ≤ n1) ∧ k = some y := by
  unfold gv_cp at h
  by_cases c : ¬ sp < 0 ∧ ¬ dp < 0 ∧ ¬ n < 0 ∧ sp.toNatClampNeg + n.toNatClampNeg ≤ n0 ∧ dp.toNatClampNeg + n.toNatClampNeg ≤ n1
  · rw [if_pos c] at h; exact ⟨c, h⟩
  · rw [if_neg c] at h; cases h
theorem gv_pos {β : Type} {c : Prop} [Decidable c] {a b y : β} (hc : c) (h : (if c then a else b) = y) : a = y := by rw [if_pos hc] at h; exact h
theorem gv_neg {β : Type} {c : Prop} [Decidable c] {a b y : β} (hc : ¬ c) (h : (if c then a else b) = y) : b = y := by rw [if_neg hc] at h; exact h
theorem gv_inj {α : Type} {a b : α} (h : some a = some b) : b = a := (Option.some.inj h).symm
theorem gv_inj2 {α β : Type} {a b : α} {c d : β} (h : some (a, c) = some (b, d)) : b = a ∧ d = c := by cases h; exact ⟨rfl, rfl⟩
theorem gv_loop_ind {S E : Type} {b : S → Option (S ⊕ E)} {Φ : S → Prop} {Ψ : E → Prop} (step : ∀ st x, b st = some x → (∀ t, x = .inl t → Φ t) → (∀ e, x = .inr e → Ψ e) → Φ st) : ∀ (N : Nat) (st : S) (ex : E), gv_loop b N st = some ex → Ψ ex → Φ st := by
  intro N
  induction N with
  | zero => intro st ex h; cases h
  | succ n ih =>
    intro st ex h hex
    unfold gv_loop at h
    cases hb : b st with
    | none => rw [hb] at h; cases h
    | some x =>
      rw [hb] at h
      cases x with
      | inl t => exact step st _ hb (fun t' e => by cases e; exact ih t ex h hex) (fun e' e => by cases e)
      | inr e => exact step st _ hb (fun t' q => by cases q) (fun e' q => by cases q; cases h; exact hex)
/-! THE METHODS' CONTRACTS over the one world -/
def gm_At (p : Program) (s : State) (m : MethodId) (args : Array Value) (meth : Method) (c : Code) (X : gw_X) (cc : ByteArray) (nL : Nat) (own : String) (Ts : List Cond) (ret : Option FieldType) : Prop :=
  p.tables.exec = Jvm.exec ∧ c.code = cc ∧ c.maxLocals = nL ∧ s.vm.findClass own = some m.cls ∧ (∀ w ∈ Ts, w.before args s = true) ∧ meth.sig.returnType = ret ∧ meth.locks = false ∧ gw_C X s
def gm_Pc (X : gw_X) (σ : gs_S) (av : List Value) : Array Value → State → Prop := va_Pc av (fun U => gw_P X σ U.heap ∧ gw_C X U)
def gm_Qi (X : gw_X) (σ : gs_S) (r : Int32) : Array Value → State → Outcome → State → Prop := va_Qi (S := Unit) (fun r' _ => r' = r) (fun _ t => gw_P X σ t.heap) (gw_A X)
def gm_Ql (X : gw_X) (σ : gs_S) (r : Int64) : Array Value → State → Outcome → State → Prop := va_Ql (S := Unit) (fun r' _ => r' = r) (fun _ t => gw_P X σ t.heap) (gw_A X)
def gm_Qv (X : gw_X) (σ : gs_S) : Array Value → State → Outcome → State → Prop := va_Qv (S := Unit) (fun _ => True) (fun _ t => gw_P X σ t.heap) (gw_A X)
theorem gm_blind (X : gw_X) (σ : gs_S) (av : List Value) : FrameBlind (gm_Pc X σ av) := fun a U g mk h => ⟨h.1, h.2.1, h.2.2.same (u := U) (U := U.calling g mk a) rfl rfl⟩
theorem gm_of {l : Launch} {y : MethodName} {ws ws' : List Cond} {rm : Room} {X : gw_X} {σ : gs_S} {av : List Value} {Qc : Array Value → State → Outcome → State → Prop} {cc : ByteArray} {maxL : Nat} {ret : Option FieldType} (own : String)
    (hy : plainName y.cls = true) (hw : ws = Cond.code y cc maxL ret :: ws') (ho : y.cls = own) (hlen : (lg_sl av).length ≤ maxL)
    (body : ∀ (p : Program) (e : Env) (s : State) (m : MethodId) (below : List Frame) (meth : Method) (c : Code) (ls : Array Slot), gm_At p s m av.toArray meth c X cc maxL own ws ret → gw_P X σ s.heap → lv_has ls maxL (lv_args 0 av) → va_S (gw_A X) s.heap s.heap [] →
      W p l e rm s m av.toArray below meth c s.heap [] 0 0 (MQ below Qc av.toArray s 0 0 (gw_A X)) (F0 m 0 ls [])) : Met l y ws rm (gm_Pc X σ av) Qc 0 0 (gw_A X) := by
  refine Met.ofW (cc := cc) (maxL := maxL) (ret := ret) hy hw ?_
  intro p e s m args below meth c s₁ B hml hv
  obtain ⟨rfl, hP, hC⟩ := hv
  have hl := lv_entry av (n := maxL) hlen
  rw [lg_entry_eq]
  exact body p e s m below meth c _ ⟨B.exec, B.bytes, hml, by rw [← ho]; exact findClass_of_methodNamed B.named, atoms_spec (ws := ws) B.pre, B.returns, B.notSynchronized, hC⟩ hP hl va_S.rf
section GW
variable {p : Program} {l : Launch} {e : Env} {R : Room} {s : State} {m : MethodId} {args : Array Value} {below : List Frame} {meth : Method} {c : Code} {H : Heap} {locs : List Loc} {cells slots : Nat} {Q : State → Prop}
variable {cc : ByteArray} {pc nL : Nat} {ls : Array Slot} {rest : List Value} {X : gw_X} {σ : gs_S} {own : String} {Ts : List Cond} {ret0 : Option FieldType}
theorem gm_reti {r : Int32} (C0 : gm_At p s m args meth c X cc nL own Ts (some .int)) (hP : gw_P X σ H) (hS : va_S (gw_A X) s.heap H locs) (hdg : decode cc pc = .ok (.ireturn, 1)) : W p l e R s m args below meth c H locs cells slots (MQ below (gm_Qi X σ r) args s cells slots (gw_A X)) (F0 m pc ls [.int r]) := by
  obtain ⟨hx, hb, -, -, -, hr, hlocks, -⟩ := C0
  exact W.iret hx hb hr (fun t ht hW => ⟨⟨r, (), rfl, rfl, by show gw_P X σ t.heap; rw [ht]; exact hP⟩, hS.F ht⟩) hS.2.2 hdg hlocks
theorem gm_retz {r : Int32} {ty : FieldType} (hn : narrow ty (.int r) = .int r) (C0 : gm_At p s m args meth c X cc nL own Ts (some ty)) (hP : gw_P X σ H) (hS : va_S (gw_A X) s.heap H locs) (hdg : decode cc pc = .ok (.ireturn, 1)) : W p l e R s m args below meth c H locs cells slots (MQ below (gm_Qi X σ r) args s cells slots (gw_A X)) (F0 m pc ls [.int r]) := by
  obtain ⟨hx, hb, -, -, -, hr, hlocks, -⟩ := C0
  exact W.zret hx hb hr hn (fun t ht hW => ⟨⟨r, (), rfl, rfl, by show gw_P X σ t.heap; rw [ht]; exact hP⟩, hS.F ht⟩) hS.2.2 hdg hlocks
theorem gm_retl {r : Int64} (C0 : gm_At p s m args meth c X cc nL own Ts (some .long)) (hP : gw_P X σ H) (hS : va_S (gw_A X) s.heap H locs) (hdg : decode cc pc = .ok (.lreturn, 1)) : W p l e R s m args below meth c H locs cells slots (MQ below (gm_Ql X σ r) args s cells slots (gw_A X)) (F0 m pc ls [.long r]) := by
  obtain ⟨hx, hb, -, -, -, hr, hlocks, -⟩ := C0
  exact W.lret hx hb hr (fun t ht hW => ⟨⟨r, (), rfl, rfl, by show gw_P X σ t.heap; rw [ht]; exact hP⟩, hS.F ht⟩) hS.2.2 hdg hlocks
theorem gm_retv (C0 : gm_At p s m args meth c X cc nL own Ts none) (hP : gw_P X σ H) (hS : va_S (gw_A X) s.heap H locs) (hdg : decode cc pc = .ok (.return_, 1)) : W p l e R s m args below meth c H locs cells slots (MQ below (gm_Qv X σ) args s cells slots (gw_A X)) (F0 m pc ls []) := by
  obtain ⟨hx, hb, -, -, -, hr, hlocks, -⟩ := C0
  exact W.vret hx hb hr (fun t ht hW => ⟨⟨(), rfl, trivial, by show gw_P X σ t.heap; rw [ht]; exact hP⟩, hS.F ht⟩) hS.2.2 hdg hlocks
theorem gv_tin (hexec : p.tables.exec = Jvm.exec) (hb : c.code = cc) {dflt lo hi : Int} {offs : Array Int} {len : Nat} {x k : Int32} {off : Int} {tgt : Nat} (hdg : decode cc pc = .ok (.tableswitch dflt lo hi offs, len)) (hc : x = k) (h1 : ¬ k.toInt < lo) (h2 : ¬ hi < k.toInt) (ho : offs[(k.toInt - lo).toNat]? = some off) (ht : (pc : Int) + off = (tgt : Int))
    (kk : W p l e R s m args below meth c H locs cells slots Q (F0 m tgt ls rest)) : W p l e R s m args below meth c H locs cells slots Q (F0 m pc ls (.int x :: rest)) := by
  subst hc
  exact lv_tableIn hexec hb hdg h1 h2 ho ht kk
/-- a field that is written -/
theorem gv_put (C0 : gm_At p s m args meth c X cc nL own Ts ret0) {ref C : String} {T : u_T} {N ci index : Nat} {τ : gs_S} (hin : ∀ w ∈ u_ws C T N, w ∈ Ts) (ty0 : Nat → FieldType) (hty : ∀ k, k < N → parseFieldDescriptor (T k).2.2.1 = some (ty0 k)) (hnm : ∀ a, a < N → ∀ b, b < N → a ≠ b → (T a).2.1 ≠ (T b).2.1) (hP : gw_P X σ H) (hS : va_S (gw_A X) s.heap H locs) (q0 : Nat) {fs : List Value} (he : (gw_ws X σ)[q0]? = some (X.1 q0, .inr (ci, fs))) (hc : vwCl[ci]? = some (C, T, N)) (k : Nat) (hk : k < N) (hlink : Cond.fieldLink own index ref (T k).2.1 (T k).2.2.1 ∈ Ts) (hsame : (T k).1 = ref) (hfin : (T k).2.2.2 = false) {ty : FieldType} {v : Value} (hd : parseFieldDescriptor (T k).2.2.1 = some ty) (hn : narrow ty v = v) (hfit : fits ty v = true) (hl : k < fs.length)
    (hset : (gw_ws X σ).set q0 (X.1 q0, .inr (ci, fs.set k v)) = gw_ws X τ) (hdg : decode cc pc = .ok (.putfield index, 3)) (kk : ∀ (z : gs_S) (H1 : Heap) (locs1 : List Loc), z = τ → gw_P X z H1 → va_S (gw_A X) s.heap H1 locs1 → W p l e R s m args below meth c H1 locs1 cells slots Q (F0 m (pc + 3) ls rest)) : W p l e R s m args below meth c H locs cells slots Q (F0 m pc ls (v :: .ref (X.1 q0) :: rest)) := by
  obtain ⟨hx, hb, -, hown, hts, -, -, hC⟩ := C0
  refine va_put hx hb hts hin ty0 hty hnm hown hC.2.1 hP (gw_D hC.1 σ) hS q0 he hc k hk (hts _ hlink) (fun x h => by rw [← hsame]; exact h) hfin hd hn hfit hl hdg (fun H1 locs1 h1 _ h3 => kk τ H1 locs1 rfl ?_ h3)
  rw [hset] at h1
  exact h1
theorem gv_get (C0 : gm_At p s m args meth c X cc nL own Ts ret0) {ref C : String} {T : u_T} {N ci index : Nat} (hin : ∀ w ∈ u_ws C T N, w ∈ Ts) (hP : gw_P X σ H) (q0 : Nat) {fs : List Value} (he : (gw_ws X σ)[q0]? = some (X.1 q0, .inr (ci, fs))) (hc : vwCl[ci]? = some (C, T, N)) (k : Nat) (hk : k < N) (hlink : Cond.fieldLink own index ref (T k).2.1 (T k).2.2.1 ∈ Ts) (hsame : (T k).1 = ref) {v : Value} (hv : fs[k]? = some v) (hdg : decode cc pc = .ok (.getfield index, 3))
    (kk : W p l e R s m args below meth c H locs cells slots Q (F0 m (pc + 3) ls (v :: rest))) : W p l e R s m args below meth c H locs cells slots Q (F0 m pc ls (.ref (X.1 q0) :: rest)) := by
  obtain ⟨hx, hb, -, hown, hts, -, -, hC⟩ := C0
  exact va_get hx hb hts hin hown hC.2.1 hP q0 he hc k hk (hts _ hlink) (fun x h => by rw [← hsame]; exact h) hv hdg kk
theorem gv_iald (C0 : gm_At p s m args meth c X cc nL own Ts ret0) (hP : gw_P X σ H) (k : Nat) {n : Nat} (hk : gk k = 13) (hn : gl k = n) {i : Int32} (hin : vp_in i n) (hdg : decode cc pc = .ok (.iaload, 1))
    (kk : W p l e R s m args below meth c H locs cells slots Q (F0 m (pc + 1) ls (.int (σ.1 k i.toNatClampNeg) :: rest))) : W p l e R s m args below meth c H locs cells slots Q (F0 m pc ls (.int i :: .ref (X.1 k) :: rest)) := by
  obtain ⟨hx, hb, -, hown, hts, -, -, hC⟩ := C0
  exact va_iald hx hb hC.2.1 hP k 1 (gw_ai X σ hk hn) rfl hin hdg kk
theorem gv_bald (C0 : gm_At p s m args meth c X cc nL own Ts ret0) (hP : gw_P X σ H) (k : Nat) {n : Nat} (hk : gk k = 12) (hn : gl k = n) {i : Int32} (hin : vp_in i n) (hdg : decode cc pc = .ok (.baload, 1))
    (kk : W p l e R s m args below meth c H locs cells slots Q (F0 m (pc + 1) ls (.int (σ.1 k i.toNatClampNeg) :: rest))) : W p l e R s m args below meth c H locs cells slots Q (F0 m pc ls (.int i :: .ref (X.1 k) :: rest)) := by
  obtain ⟨hx, hb, -, hown, hts, -, -, hC⟩ := C0
  exact va_bald hx hb hC.2.1 hP k 0 (gw_ab X σ hk hn) rfl hin hdg kk
theorem gv_lald (C0 : gm_At p s m args meth c X cc nL own Ts ret0) (hP : gw_P X σ H) (k : Nat) {n : Nat} (hk : gk k = 14) (hn : gl k = n) {i : Int32} (hin : vp_in i n) (hdg : decode cc pc = .ok (.laload, 1))
    (kk : W p l e R s m args below meth c H locs cells slots Q (F0 m (pc + 1) ls (.long (σ.2 k i.toNatClampNeg) :: rest))) : W p l e R s m args below meth c H locs cells slots Q (F0 m pc ls (.int i :: .ref (X.1 k) :: rest)) := by
  obtain ⟨hx, hb, -, hown, hts, -, -, hC⟩ := C0
  exact va_lald hx hb hC.2.1 hP k 2 (gw_al X σ hk hn) rfl hin hdg kk
theorem gv_aald (C0 : gm_At p s m args meth c X cc nL own Ts ret0) (hP : gw_P X σ H) (k : Nat) {n : Nat} (hk : gk k = 16) (hn : gl k = n) {i : Int32} (hin : vp_in i n) (hdg : decode cc pc = .ok (.aaload, 1))
    (kk : W p l e R s m args below meth c H locs cells slots Q (F0 m (pc + 1) ls (.ref (X.1 (k + 1 + 4 * i.toNatClampNeg)) :: rest))) : W p l e R s m args below meth c H locs cells slots Q (F0 m pc ls (.int i :: .ref (X.1 k) :: rest)) := by
  obtain ⟨hx, hb, -, hown, hts, -, -, hC⟩ := C0
  exact va_aldq hx hb hC.2.1 hP k 4 (gw_aq X σ hk hn) rfl hin hdg kk
theorem gv_alen (C0 : gm_At p s m args meth c X cc nL own Ts ret0) (hP : gw_P X σ H) (k : Nat) {n : Nat} (hk : gk k = 13) (hn : gl k = n) {v : Int32} (hv : Int32.ofNat n = v) (hdg : decode cc pc = .ok (.arraylength, 1))
    (kk : W p l e R s m args below meth c H locs cells slots Q (F0 m (pc + 1) ls (.int v :: rest))) : W p l e R s m args below meth c H locs cells slots Q (F0 m pc ls (.ref (X.1 k) :: rest)) := by
  obtain ⟨hx, hb, -, hown, hts, -, -, hC⟩ := C0
  exact va_alen hx hb hC.2.1 hP k 1 (gw_ai X σ hk hn) (ty := .int) rfl hv hdg kk
theorem gv_iast (C0 : gm_At p s m args meth c X cc nL own Ts ret0) (hP : gw_P X σ H) (hS : va_S (gw_A X) s.heap H locs) (k : Nat) {n : Nat} (hk : gk k = 13) (hn : gl k = n) {i x : Int32} (hin : vp_in i n) (hdg : decode cc pc = .ok (.iastore, 1))
    (kk : ∀ (z : gs_S) (H1 : Heap) (locs1 : List Loc), z = gs_u σ k i.toNatClampNeg x → gw_P X z H1 → va_S (gw_A X) s.heap H1 locs1 → W p l e R s m args below meth c H1 locs1 cells slots Q (F0 m (pc + 1) ls rest)) : W p l e R s m args below meth c H locs cells slots Q (F0 m pc ls (.int x :: .int i :: .ref (X.1 k) :: rest)) := by
  obtain ⟨hx, hb, -, hown, hts, -, -, hC⟩ := C0
  refine va_iast hx hb hC.2.1 hP (gw_D hC.1 σ) hS k 1 (gw_ai X σ hk hn) rfl hin hdg (fun H1 locs1 h1 _ h3 => kk _ H1 locs1 rfl ?_ h3)
  rw [gw_ui hk hn] at h1
  exact h1
theorem gv_bast (C0 : gm_At p s m args meth c X cc nL own Ts ret0) (hP : gw_P X σ H) (hS : va_S (gw_A X) s.heap H locs) (k : Nat) {n : Nat} (hk : gk k = 12) (hn : gl k = n) {i x : Int32} (hin : vp_in i n) (hdg : decode cc pc = .ok (.bastore, 1))
    (kk : ∀ (z : gs_S) (H1 : Heap) (locs1 : List Loc), z = gs_u σ k i.toNatClampNeg (vp_nar .byte x) → gw_P X z H1 → va_S (gw_A X) s.heap H1 locs1 → W p l e R s m args below meth c H1 locs1 cells slots Q (F0 m (pc + 1) ls rest)) : W p l e R s m args below meth c H locs cells slots Q (F0 m pc ls (.int x :: .int i :: .ref (X.1 k) :: rest)) := by
  obtain ⟨hx, hb, -, hown, hts, -, -, hC⟩ := C0
  refine va_bast hx hb hC.2.1 hP (gw_D hC.1 σ) hS k 0 (gw_ab X σ hk hn) rfl hin hdg (fun H1 locs1 h1 _ h3 => kk _ H1 locs1 rfl ?_ h3)
  rw [gw_ub hk hn] at h1
  exact h1
theorem gv_zast (C0 : gm_At p s m args meth c X cc nL own Ts ret0) (hP : gw_P X σ H) (hS : va_S (gw_A X) s.heap H locs) (k : Nat) {n : Nat} (hk : gk k = 15) (hn : gl k = n) {i x : Int32} (hin : vp_in i n) (hdg : decode cc pc = .ok (.bastore, 1))
    (kk : ∀ (z : gs_S) (H1 : Heap) (locs1 : List Loc), z = gs_u σ k i.toNatClampNeg (vp_nar .boolean x) → gw_P X z H1 → va_S (gw_A X) s.heap H1 locs1 → W p l e R s m args below meth c H1 locs1 cells slots Q (F0 m (pc + 1) ls rest)) : W p l e R s m args below meth c H locs cells slots Q (F0 m pc ls (.int x :: .int i :: .ref (X.1 k) :: rest)) := by
  obtain ⟨hx, hb, -, hown, hts, -, -, hC⟩ := C0
  refine va_zast hx hb hC.2.1 hP (gw_D hC.1 σ) hS k 3 (gw_az X σ hk hn) rfl hin hdg (fun H1 locs1 h1 _ h3 => kk _ H1 locs1 rfl ?_ h3)
  rw [gw_uz hk hn] at h1
  exact h1
theorem gv_last (C0 : gm_At p s m args meth c X cc nL own Ts ret0) (hP : gw_P X σ H) (hS : va_S (gw_A X) s.heap H locs) (k : Nat) {n : Nat} (hk : gk k = 14) (hn : gl k = n) {i : Int32} {x : Int64} (hin : vp_in i n) (hdg : decode cc pc = .ok (.lastore, 1))
    (kk : ∀ (z : gs_S) (H1 : Heap) (locs1 : List Loc), z = gs_ul σ k i.toNatClampNeg x → gw_P X z H1 → va_S (gw_A X) s.heap H1 locs1 → W p l e R s m args below meth c H1 locs1 cells slots Q (F0 m (pc + 1) ls rest)) : W p l e R s m args below meth c H locs cells slots Q (F0 m pc ls (.long x :: .int i :: .ref (X.1 k) :: rest)) := by
  obtain ⟨hx, hb, -, hown, hts, -, -, hC⟩ := C0
  refine va_last hx hb hC.2.1 hP (gw_D hC.1 σ) hS k 2 (gw_al X σ hk hn) rfl hin hdg (fun H1 locs1 h1 _ h3 => kk _ H1 locs1 rfl ?_ h3)
  rw [gw_ul hk hn] at h1
  exact h1
/-- System.arraycopy of whole numbers -/
theorem gv_copy (C0 : gm_At p s m args meth c X cc nL own Ts ret0) (hl : ls.size = nL) {index : Nat} (hw : ∀ w ∈ ([.methodLink own index arraycopyName, .native arraycopyName, .static arraycopyName, .initialized "java/lang/System"] : List Cond), w ∈ Ts) (hP : gw_P X σ H) (hS : va_S (gw_A X) s.heap H locs) (k0 k1 : Nat) {n0 n1 : Nat} (hk0 : gk k0 = 13) (hn0 : gl k0 = n0) (hk1 : gk k1 = 13) (hn1 : gl k1 = n1) {sp dp n : Int32} (hin : ¬ sp < 0 ∧ ¬ dp < 0 ∧ ¬ n < 0 ∧ sp.toNatClampNeg + n.toNatClampNeg ≤ n0 ∧ dp.toNatClampNeg + n.toNatClampNeg ≤ n1)
    (hframes : 1 ≤ R.frames) (hlocals : (rest.map fun v => v.category).sum + (nativeFrameWords "java/lang/System" "arraycopy" 5 + 11) ≤ R.locals) (hdg : decode cc pc = .ok (.invokestatic index, 3))
    (kk : ∀ (z : gs_S) (H1 : Heap) (locs1 : List Loc), z = gs_w σ k1 (va_cpy (σ.1 k0) (σ.1 k1) sp.toNatClampNeg dp.toNatClampNeg n.toNatClampNeg) → gw_P X z H1 → va_S (gw_A X) s.heap H1 locs1 → W p l e R s m args below meth c H1 locs1 cells slots Q (F0 m (pc + 3) ls rest)) : W p l e R s m args below meth c H locs cells slots Q (F0 m pc ls (.int n :: .int dp :: .ref (X.1 k1) :: .int sp :: .ref (X.1 k0) :: rest)) := by
  obtain ⟨hx, hb, hml, hown, hts, -, -, hC⟩ := C0
  refine va_copyi hx hb (hml.trans hl.symm) hown (hts _ (hw _ (by simp))) (hts _ (hw _ (by simp))) (hts _ (hw _ (by simp))) (hts _ (hw _ (by simp))) hC.2.1 hP (gw_D hC.1 σ) hS k0 k1 1 1 (gw_ai X σ hk0 hn0) (gw_ai X σ hk1 hn1) rfl rfl rfl hin.1 hin.2.1 hin.2.2.1 hin.2.2.2.1 hin.2.2.2.2 (fun i _ => rfl) hframes hlocals hdg (fun H1 locs1 h1 _ h3 => kk _ H1 locs1 rfl ?_ h3)
  rw [gw_wi hk1 hn1] at h1
  exact h1
variable {y : MethodName} {bytes : ByteArray} {maxL n index : Nat} {ret : Option FieldType} {ws ws' : List Cond} {rm : Room} {As st0 : List Value} {τ : gs_S} {C host : String}
/-- calls: an instance's method -/
theorem gv_runV {Qc : Array Value → State → Outcome → State → Prop} (C0 : gm_At p s m args meth c X cc nL own Ts ret0) {k ci N : Nat} {T : u_T} (hM : Met l y ws rm (gm_Pc X σ (.ref (X.1 k) :: As)) Qc 0 0 (gw_A X)) (hG : GoodIn Ts (wsV own index C y ws)) (hw : ws = Cond.code y bytes maxL ret :: ws') (hrm : rm.cells = 0 ∧ rm.slots = 0) (hd : y.cls = C ∧ y.cls ≠ "java/lang/invoke/MethodHandle" ∧ y.cls ≠ "java/lang/invoke/VarHandle" ∧ (parseMethodDescriptor y.desc).map (fun d => d.parameters.length) = some n) (hR : rm.frames + 1 ≤ R.frames ∧ 8 + (maxL + 11) + rm.locals ≤ R.locals)
    (hk : gk k = ci) (hci : ci < 12) (hc : vwCl[ci]? = some (C, T, N)) (hP : gw_P X σ H) (hS : va_S (gw_A X) s.heap H locs) (hn : As.length = n) (hl : ls.size = nL) (hst : st0 = As.reverse ++ .ref (X.1 k) :: rest) (hro : (rest.map fun v => v.category).sum ≤ 8) (hdg : decode cc pc = .ok (.invokevirtual index, 3)) (hf : cells ≤ R.cells ∧ slots ≤ R.slots) :
    va_Run p l e R s m args below meth c H locs cells slots 0 0 (F0 m pc ls st0) rest (Qc (Value.ref (X.1 k) :: As).toArray) (gw_A X) := by
  obtain ⟨hx, hb, hml, hown, hts, -, -, hC⟩ := C0
  obtain ⟨fs, hfs⟩ := gw_ob X σ hk hci
  exact va_runV (C := C) ⟨hx, hb, hml, hown, hts⟩ hM (cwV n hts hG hw hrm.1 hrm.2 hd hR) ⟨gm_blind X σ _, va_recv hC.2.1 hP hc hfs, fun U hU hW => ⟨rfl, by rw [hU]; exact hP, hC.go hW hU hS⟩⟩ rfl hn hl hst (lv_room hro) hdg hf
theorem gv_runS {Qc : Array Value → State → Outcome → State → Prop} (C0 : gm_At p s m args meth c X cc nL own Ts ret0) (hM : Met l y ws rm (gm_Pc X σ As) Qc 0 0 (gw_A X)) (hG : GoodIn Ts (va_wsS own index y ws)) (hw : ws = Cond.code y bytes maxL ret :: ws') (hrm : rm.cells = 0 ∧ rm.slots = 0) (hd : y.cls ≠ "java/lang/invoke/MethodHandle" ∧ y.cls ≠ "java/lang/invoke/VarHandle" ∧ (parseMethodDescriptor y.desc).map (fun d => d.parameters.length) = some n) (hR : rm.frames + 1 ≤ R.frames ∧ 8 + (maxL + 11) + rm.locals ≤ R.locals)
    (hP : gw_P X σ H) (hS : va_S (gw_A X) s.heap H locs) (hn : As.length = n) (hl : ls.size = nL) (hst : st0 = As.reverse ++ rest) (hro : (rest.map fun v => v.category).sum ≤ 8) (hdg : decode cc pc = .ok (.invokestatic index, 3)) (hf : cells ≤ R.cells ∧ slots ≤ R.slots) :
    va_Run p l e R s m args below meth c H locs cells slots 0 0 (F0 m pc ls st0) rest (Qc As.toArray) (gw_A X) := by
  obtain ⟨hx, hb, hml, hown, hts, -, -, hC⟩ := C0
  exact va_runS ⟨hx, hb, hml, hown, hts⟩ hM (va_cwS n hts hG hw hrm.1 hrm.2 hd hR) ⟨gm_blind X σ _, fun U hU hW => ⟨rfl, by rw [hU]; exact hP, hC.go hW hU hS⟩⟩ rfl hn hl hst (lv_room hro) hdg hf
/-- a private static method of a nest mate -/
theorem gv_runN {Qc : Array Value → State → Outcome → State → Prop} (C0 : gm_At p s m args meth c X cc nL own Ts ret0) (hM : Met l y ws rm (gm_Pc X σ As) Qc 0 0 (gw_A X)) (hG : GoodIn Ts ws) (hw : ws = Cond.code y bytes maxL ret :: ws') (hrm : rm.cells = 0 ∧ rm.slots = 0) (hne : (own, index, y, host) ∈ gn_m) (hsi : Cond.static y ∈ Ts ∧ Cond.initialized y.cls ∈ Ts) (hd : y.cls ≠ "java/lang/invoke/MethodHandle" ∧ y.cls ≠ "java/lang/invoke/VarHandle" ∧ (parseMethodDescriptor y.desc).map (fun d => d.parameters.length) = some n) (hR : rm.frames + 1 ≤ R.frames ∧ 8 + (maxL + 11) + rm.locals ≤ R.locals)
    (hP : gw_P X σ H) (hS : va_S (gw_A X) s.heap H locs) (hn : As.length = n) (hl : ls.size = nL) (hst : st0 = As.reverse ++ rest) (hro : (rest.map fun v => v.category).sum ≤ 8) (hdg : decode cc pc = .ok (.invokestatic index, 3)) (hf : cells ≤ R.cells ∧ slots ≤ R.slots) :
    va_Run p l e R s m args below meth c H locs cells slots 0 0 (F0 m pc ls st0) rest (Qc As.toArray) (gw_A X) := by
  obtain ⟨hx, hb, hml, hown, hts, -, -, hC⟩ := C0
  exact va_runSN ⟨hx, hb, hml, hown, hts⟩ hM ⟨va_cnB n hts hG hw hrm.1 hrm.2 (hC.2.2.2.1 _ hne) (hts _ hsi.2) hd hR, hts _ hsi.1, trivial⟩ ⟨gm_blind X σ _, fun U hU hW => ⟨rfl, by rw [hU]; exact hP, hC.go hW hU hS⟩⟩ rfl hn hl hst (lv_room hro) hdg hf
variable {av : Array Value}
theorem gv_ri {r : Int32} (hr : va_Run p l e R s m args below meth c H locs cells slots 0 0 (F0 m pc ls st0) rest (gm_Qi X τ r av) (gw_A X)) (hS : va_S (gw_A X) s.heap H locs) (kk : ∀ (H1 : Heap) (locs1 : List Loc), gw_P X τ H1 → va_S (gw_A X) s.heap H1 locs1 → W p l e R s m args below meth c H1 locs1 cells slots Q (F0 m (pc + 3) ls (.int r :: rest))) : W p l e R s m args below meth c H locs cells slots Q (F0 m pc ls st0) := by
  refine va_calli hr hS (fun _ _ h => h) (fun _ h => h) (fun r' u t H1 locs1 ht _ hp hB _ _ hS1 => ?_)
  subst hp
  rw [ht] at hB
  exact kk H1 locs1 hB hS1
theorem gv_rl {r : Int64} (hr : va_Run p l e R s m args below meth c H locs cells slots 0 0 (F0 m pc ls st0) rest (gm_Ql X τ r av) (gw_A X)) (hS : va_S (gw_A X) s.heap H locs) (kk : ∀ (H1 : Heap) (locs1 : List Loc), gw_P X τ H1 → va_S (gw_A X) s.heap H1 locs1 → W p l e R s m args below meth c H1 locs1 cells slots Q (F0 m (pc + 3) ls (.long r :: rest))) : W p l e R s m args below meth c H locs cells slots Q (F0 m pc ls st0) := by
  refine va_calll hr hS (fun _ _ h => h) (fun _ h => h) (fun r' u t H1 locs1 ht _ hp hB _ _ hS1 => ?_)
  subst hp
  rw [ht] at hB
  exact kk H1 locs1 hB hS1
theorem gv_rv (hr : va_Run p l e R s m args below meth c H locs cells slots 0 0 (F0 m pc ls st0) rest (gm_Qv X τ av) (gw_A X)) (hS : va_S (gw_A X) s.heap H locs) (kk : ∀ (H1 : Heap) (locs1 : List Loc), gw_P X τ H1 → va_S (gw_A X) s.heap H1 locs1 → W p l e R s m args below meth c H1 locs1 cells slots Q (F0 m (pc + 3) ls rest)) : W p l e R s m args below meth c H locs cells slots Q (F0 m pc ls st0) := by
  refine va_callv hr hS (fun _ _ h => h) (fun _ h => h) (fun u t H1 locs1 ht _ hp hB _ _ hS1 => ?_)
  rw [ht] at hB
  exact kk H1 locs1 hB hS1
end GW
