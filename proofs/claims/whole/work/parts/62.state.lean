/-! THE CLAIM OUT OF ONE WALK OF THE LAW'S BODY. Your part is whole_start (and what it stands on); all else here is the same for every law, but numbers. -/
def R_law : String := "IceByEarLaw"
def lw_P (b : Addr) (xs : List Int32) (args : Array Value) (s : State) : Prop := args = #[.ref b] ∧ s.IntsAt b xs ∧ xs.length ≤ 3072 ∧ (Jvm.Cond.and given_1 narrow_1).before args s = true
def lw_Q (_ : Array Value) (s : State) (o : Outcome) (t : State) : Prop := o = .returned (some (.int 1)) ∧ Framed s o t [] 600000 7302250
def lw_Z (below : List Frame) (a : Array Value) (s : State) : State → Prop := fun t => ∃ o, t.status = .running ∧ Ended t below o ∧ lw_Q a s o t
/-- the law's own end, with 1 on the stack, nothing written that was there before, its room as the claim has it -/
theorem lw_ret {p : Program} {l : Launch} {e : Env} {s : State} {m : MethodId} {below : List Frame} {meth : Method} {c : Code} {b : Nat} (hx : p.tables.exec = Jvm.exec) (hb : c.code = code) (hr : meth.sig.returnType = ret) (hlocks : meth.locks = false) {pc : Nat} {H : Heap} {ls : Array Slot} (hdg : decode code pc = .ok (.ireturn, 1)) : W p l e room_1 s m #[Value.ref b] below meth c H [] 600000 7302250 (lw_Z below #[Value.ref b] s) (F0 m pc ls [.int 1]) := by
  intro T hT X
  obtain ⟨fs, hret, hrun, hended, hW, hframe⟩ := X.leave (v := some (.int 1)) (hlocks := hlocks) (fun h => by rw [hr] at h; cases h)
  have hmeth' : T.vm.method? m = some meth := X.method'
  refine ⟨T.setFrames fs, ?_, .returned (some (.int 1)), hrun, hended, rfl, ⟨_, rfl⟩, hW, hframe⟩
  jvm_step X.here [X.here.top, hx, hb, hdg, hmeth', hr, ret, narrow_b1]
  (try refine ⟨rfl, ?_⟩); (try refine ⟨rfl, ?_⟩)
  first | (intro acts; rw [hret _ acts rfl rfl rfl]) | rw [hret _ _ rfl rfl rfl]
  exact Steps.refl _
/-- what holds at the law's entry: the machine, the code, the tables' words (any of lw_tbl by 'hts w (by decide +kernel)'), the script of L ints xs at the cell b, what the Statement gives of the start (any of its parts by flat_of_before) -/
def lw_At (p : Program) (s : State) (m : MethodId) (meth : Method) (c : Code) (b L : Nat) (xs : Nat → Int32) : Prop :=
  p.tables.exec = Jvm.exec ∧ c.code = code ∧ meth.sig.returnType = ret ∧ c.maxLocals = 4 ∧ s.vm.findClass R_law = some m.cls ∧ (∀ w ∈ lw_tbl, w.before #[Value.ref b] s = true) ∧ va_X b L xs s s.heap ∧ b < s.heap.size ∧ meth.locks = false ∧ (Jvm.Cond.and given_1 narrow_1).before #[Value.ref b] s = true
/-- the first state -/
def st_1 : Nat → Nat → Int32 := fun c => if c = 3 then gs_t30 else if c = 17 then gs_t30 else if c = 64 then gs_t30 else if c = 1 then (fun j => if j = 4 then 20 else if j = 5 then 10 else 0) else if c = 15 then (fun j => if j = 4 then 20 else if j = 5 then 10 else 0) else if c = 47 then (fun j => if j = 3 then -1 else 0) else if c = 51 then (fun j => if j = 3 then -1 else 0) else if c = 55 then (fun j => if j = 3 then -1 else 0) else if c = 59 then (fun j => if j = 3 then -1 else 0) else if c = 69 then upd (upd (fun _ => 0) (0 : Int32).toNatClampNeg (20 : Int32)) (1 : Int32).toNatClampNeg (10 : Int32) else if c = 81 then upd (upd (upd (upd (fun _ => 0) (0 : Int32).toNatClampNeg (-1 : Int32)) (1 : Int32).toNatClampNeg (-1 : Int32)) (2 : Int32).toNatClampNeg (-1 : Int32)) (3 : Int32).toNatClampNeg (-1 : Int32) else fun _ => 0
def st_0 : gs_S := (st_1, fun _ _ => 0)
def st_X (u v : Nat → Nat) (sk sv : Nat) (D : va_G) (cs : Nat → ClassId) : gw_X := (fun k => if k < 63 then u k else if k < 84 then v (k - 63) else if k = 84 then sk else sv, D, cs)
def st_W (u v : Nat → Nat) (sk sv : Nat) (D : va_G) (cs : Nat → ClassId) : va_W := shX10 (st_X u v sk sv D cs) u ++ shX11 (st_X u v sk sv D cs) v
set_option maxHeartbeats 4000000 in
set_option maxRecDepth 100000 in
theorem st_flat (u v : Nat → Nat) (sk sv : Nat) (D : va_G) (cs : Nat → ClassId) : st_W u v sk sv D cs = [((u 0), .inr (10, [.ref (u 1), .ref (u 15), .int 0, .ref (u 29), .ref (u 31), .ref (u 38), .ref (u 43), .ref (u 46)])), ((u 1), .inr (4, [.ref (u 2), .ref (u 4), .ref (u 8), .ref (u 10), .int 20, .int 10])), ((u 2), .inr (2, [.ref (u 3)])), ((u 3), .inl (cs 1, 320, .inl gs_t30)), ((u 4), .inr (8, [.ref (u 5), .ref (u 6), .ref (u 7), .int 0])), ((u 5), .inl (cs 1, 6, .inl (fun _ => 0))), ((u 6), .inl (cs 1, 6, .inl (fun _ => 0))), ((u 7), .inl (cs 1, 6, .inl (fun _ => 0))), ((u 8), .inr (9, [.ref (u 9), .int 0])), ((u 9), .inl (cs 1, 24, .inl (fun _ => 0))), ((u 10), .inr (1, [.ref (u 11), .ref (u 12), .ref (u 13), .ref (u 14), .int 0])), ((u 11), .inl (cs 1, 4, .inl (fun _ => 0))), ((u 12), .inl (cs 1, 16, .inl (fun _ => 0))), ((u 13), .inl (cs 1, 16, .inl (fun _ => 0))), ((u 14), .inl (cs 1, 16, .inl (fun _ => 0))), ((u 15), .inr (4, [.ref (u 16), .ref (u 18), .ref (u 22), .ref (u 24), .int 20, .int 10])), ((u 16), .inr (2, [.ref (u 17)])), ((u 17), .inl (cs 1, 320, .inl gs_t30)), ((u 18), .inr (8, [.ref (u 19), .ref (u 20), .ref (u 21), .int 0])), ((u 19), .inl (cs 1, 6, .inl (fun _ => 0))), ((u 20), .inl (cs 1, 6, .inl (fun _ => 0))), ((u 21), .inl (cs 1, 6, .inl (fun _ => 0))), ((u 22), .inr (9, [.ref (u 23), .int 0])), ((u 23), .inl (cs 1, 24, .inl (fun _ => 0))), ((u 24), .inr (1, [.ref (u 25), .ref (u 26), .ref (u 27), .ref (u 28), .int 0])), ((u 25), .inl (cs 1, 4, .inl (fun _ => 0))), ((u 26), .inl (cs 1, 16, .inl (fun _ => 0))), ((u 27), .inl (cs 1, 16, .inl (fun _ => 0))), ((u 28), .inl (cs 1, 16, .inl (fun _ => 0))), ((u 29), .inr (7, [.ref (u 30), .int 0, .int 0])), ((u 30), .inl (cs 0, 140, .inl (fun _ => 0))), ((u 31), .inr (0, [.ref (u 32), .ref (u 33), .ref (u 34)])), ((u 32), .inl (cs 1, 64, .inl (fun _ => 0))), ((u 33), .inl (cs 1, 64, .inl (fun _ => 0))), ((u 34), .inr (8, [.ref (u 35), .ref (u 36), .ref (u 37), .int 0])), ((u 35), .inl (cs 1, 6, .inl (fun _ => 0))), ((u 36), .inl (cs 1, 6, .inl (fun _ => 0))), ((u 37), .inl (cs 1, 6, .inl (fun _ => 0))), ((u 38), .inr (3, [.ref (u 39), .ref (u 40), .ref (u 41), .ref (u 42)])), ((u 39), .inl (cs 1, 64, .inl (fun _ => 0))), ((u 40), .inl (cs 1, 64, .inl (fun _ => 0))), ((u 41), .inl (cs 1, 64, .inl (fun _ => 0))), ((u 42), .inl (cs 1, 128, .inl (fun _ => 0))), ((u 43), .inr (6, [.ref (u 44), .ref (u 45)])), ((u 44), .inl (cs 1, 64, .inl (fun _ => 0))), ((u 45), .inl (cs 1, 64, .inl (fun _ => 0))), ((u 46), .inl (cs 4, 4, .inr (.inr (.inr (.inr (fun j => some (u (47 + 4 * j)))))))), ((u 47), .inr (5, [.ref (u 48), .ref (u 49), .ref (u 50), .int (-1), .int 0])), ((u 48), .inl (cs 3, 24, .inl (fun _ => 0))), ((u 49), .inl (cs 0, 24, .inl (fun _ => 0))), ((u 50), .inl (cs 2, 24, .inr (.inl (fun _ => 0)))), ((u 51), .inr (5, [.ref (u 52), .ref (u 53), .ref (u 54), .int (-1), .int 0])), ((u 52), .inl (cs 3, 24, .inl (fun _ => 0))), ((u 53), .inl (cs 0, 24, .inl (fun _ => 0))), ((u 54), .inl (cs 2, 24, .inr (.inl (fun _ => 0)))), ((u 55), .inr (5, [.ref (u 56), .ref (u 57), .ref (u 58), .int (-1), .int 0])), ((u 56), .inl (cs 3, 24, .inl (fun _ => 0))), ((u 57), .inl (cs 0, 24, .inl (fun _ => 0))), ((u 58), .inl (cs 2, 24, .inr (.inl (fun _ => 0)))), ((u 59), .inr (5, [.ref (u 60), .ref (u 61), .ref (u 62), .int (-1), .int 0])), ((u 60), .inl (cs 3, 24, .inl (fun _ => 0))), ((u 61), .inl (cs 0, 24, .inl (fun _ => 0))), ((u 62), .inl (cs 2, 24, .inr (.inl (fun _ => 0)))), ((v 0), .inr (11, [.ref (v 1), .ref (v 2), .ref (v 3), .ref (v 4), .int 0, .ref (v 5), .int 0, .ref (v 6), .ref (v 7), .ref (v 8), .int 0, .ref (v 9), .int 0, .int 0, .int 0, .ref (v 10), .ref (v 11), .ref (v 12), .int 0, .ref (v 13), .ref (v 14), .ref (v 15), .int 0, .ref (v 16), .ref (v 17), .ref (v 18), .ref (v 19), .ref (v 20)])), ((v 1), .inl (cs 1, 320, .inl gs_t30)), ((v 2), .inl (cs 1, 6, .inl (fun _ => 0))), ((v 3), .inl (cs 1, 6, .inl (fun _ => 0))), ((v 4), .inl (cs 1, 6, .inl (fun _ => 0))), ((v 5), .inl (cs 1, 24, .inl (fun _ => 0))), ((v 6), .inl (cs 1, 2, .inl (upd (upd (fun _ => 0) (0 : Int32).toNatClampNeg (20 : Int32)) (1 : Int32).toNatClampNeg (10 : Int32)))), ((v 7), .inl (cs 1, 4, .inl (fun _ => 0))), ((v 8), .inl (cs 1, 48, .inl (fun _ => 0))), ((v 9), .inl (cs 1, 140, .inl (fun _ => 0))), ((v 10), .inl (cs 1, 64, .inl (fun _ => 0))), ((v 11), .inl (cs 1, 64, .inl (fun _ => 0))), ((v 12), .inl (cs 1, 64, .inl (fun _ => 0))), ((v 13), .inl (cs 1, 64, .inl (fun _ => 0))), ((v 14), .inl (cs 1, 64, .inl (fun _ => 0))), ((v 15), .inl (cs 1, 64, .inl (fun _ => 0))), ((v 16), .inl (cs 1, 420, .inl (fun _ => 0))), ((v 17), .inl (cs 1, 3, .inl (fun _ => 0))), ((v 18), .inl (cs 1, 4, .inl (upd (upd (upd (upd (fun _ => 0) (0 : Int32).toNatClampNeg (-1 : Int32)) (1 : Int32).toNatClampNeg (-1 : Int32)) (2 : Int32).toNatClampNeg (-1 : Int32)) (3 : Int32).toNatClampNeg (-1 : Int32)))), ((v 19), .inl (cs 1, 4, .inl (fun _ => 0))), ((v 20), .inl (cs 2, 96, .inr (.inl (fun _ => 0))))] := by
  simp [st_W, st_X, shX10, shX4, shX2, shX8, shX9, shX1, shX7, shX0, shX3, shX6, shX5, shX11]
set_option maxHeartbeats 4000000 in
set_option maxRecDepth 100000 in
theorem st_at (u v : Nat → Nat) (sk sv : Nat) (D : va_G) (cs : Nat → ClassId) : ∀ k, k < 84 → k ≠ 46 → (st_W u v sk sv D cs)[k]? = some ((st_X u v sk sv D cs).1 k, gw_cf (st_X u v sk sv D cs) k (st_0.1 k) (st_0.2 k)) := by
  rw [st_flat]
  intro k hk h46
  match k, hk, h46 with
  | 0, _, _ => rfl
  | 1, _, _ => rfl
  | 2, _, _ => rfl
  | 3, _, _ => rfl
  | 4, _, _ => rfl
  | 5, _, _ => rfl
  | 6, _, _ => rfl
  | 7, _, _ => rfl
  | 8, _, _ => rfl
  | 9, _, _ => rfl
  | 10, _, _ => rfl
  | 11, _, _ => rfl
  | 12, _, _ => rfl
  | 13, _, _ => rfl
  | 14, _, _ => rfl
  | 15, _, _ => rfl
  | 16, _, _ => rfl
  | 17, _, _ => rfl
  | 18, _, _ => rfl
  | 19, _, _ => rfl
  | 20, _, _ => rfl
  | 21, _, _ => rfl
  | 22, _, _ => rfl
  | 23, _, _ => rfl
  | 24, _, _ => rfl
  | 25, _, _ => rfl
  | 26, _, _ => rfl
  | 27, _, _ => rfl
  | 28, _, _ => rfl
  | 29, _, _ => rfl
  | 30, _, _ => rfl
  | 31, _, _ => rfl
  | 32, _, _ => rfl
  | 33, _, _ => rfl
  | 34, _, _ => rfl
  | 35, _, _ => rfl
  | 36, _, _ => rfl
  | 37, _, _ => rfl
  | 38, _, _ => rfl
  | 39, _, _ => rfl
  | 40, _, _ => rfl
  | 41, _, _ => rfl
  | 42, _, _ => rfl
  | 43, _, _ => rfl
  | 44, _, _ => rfl
  | 45, _, _ => rfl
  | 47, _, _ => rfl
  | 48, _, _ => rfl
  | 49, _, _ => rfl
  | 50, _, _ => rfl
  | 51, _, _ => rfl
  | 52, _, _ => rfl
  | 53, _, _ => rfl
  | 54, _, _ => rfl
  | 55, _, _ => rfl
  | 56, _, _ => rfl
  | 57, _, _ => rfl
  | 58, _, _ => rfl
  | 59, _, _ => rfl
  | 60, _, _ => rfl
  | 61, _, _ => rfl
  | 62, _, _ => rfl
  | 63, _, _ => rfl
  | 64, _, _ => rfl
  | 65, _, _ => rfl
  | 66, _, _ => rfl
  | 67, _, _ => rfl
  | 68, _, _ => rfl
  | 69, _, _ => rfl
  | 70, _, _ => rfl
  | 71, _, _ => rfl
  | 72, _, _ => rfl
  | 73, _, _ => rfl
  | 74, _, _ => rfl
  | 75, _, _ => rfl
  | 76, _, _ => rfl
  | 77, _, _ => rfl
  | 78, _, _ => rfl
  | 79, _, _ => rfl
  | 80, _, _ => rfl
  | 81, _, _ => rfl
  | 82, _, _ => rfl
  | 83, _, _ => rfl
  | 46, _, h => exact absurd rfl h
  | k + 84, hk, _ => exact absurd hk (by omega)
theorem st_46 (u v : Nat → Nat) (sk sv : Nat) (D : va_G) (cs : Nat → ClassId) : (st_W u v sk sv D cs)[46]? = some ((st_X u v sk sv D cs).1 46, .inl (cs 4, 4, .inr (.inr (.inr (.inr (fun j => some (u (47 + 4 * j)))))))) := by
  rw [st_flat]
  rfl
theorem st_key (u v : Nat → Nat) (sk sv : Nat) (D : va_G) (cs : Nat → ClassId) : ∀ k, k < 84 → ∃ x, (st_W u v sk sv D cs)[k]? = some ((st_X u v sk sv D cs).1 k, x) := by
  intro k hk
  by_cases h : k = 46
  · subst h; exact ⟨_, st_46 u v sk sv D cs⟩
  · exact ⟨_, st_at u v sk sv D cs k hk h⟩
theorem st_P {u v : Nat → Nat} {sk sv : Nat} {D : va_G} {cs : Nat → ClassId} {H : Heap} (h : va_P D vwCl (st_W u v sk sv D cs) H) : gw_P (st_X u v sk sv D cs) st_0 H := by
  intro k q hq
  have hk : k < 84 := by
    have := (List.getElem?_eq_some_iff.mp hq).1
    rwa [gw_len] at this
  rw [gw_at _ _ hk] at hq
  by_cases h46 : k = 46
  · subst h46
    obtain rfl := Option.some.inj hq
    have h1 : H[u 46]? = some (vp_cell (cs 4) (4, .inr (.inr (.inr (.inr (fun j => some (u (47 + 4 * j)))))))) := h 46 _ (st_46 u v sk sv D cs)
    show H[u 46]? = some (vp_cell (cs 4) (4, .inr (.inr (.inr (.inr (fun j => some ((st_X u v sk sv D cs).1 (46 + 1 + 4 * j))))))))
    rw [h1]
    congr 1
  · exact h k q ((st_at u v sk sv D cs k hk h46).trans hq)
theorem st_inj {u v : Nat → Nat} {sk sv : Nat} {D : va_G} {cs : Nat → ClassId} {A : Nat → Prop} (h : va_D A (st_W u v sk sv D cs)) : gw_inj (st_X u v sk sv D cs) := by
  intro i j hi hj e
  obtain ⟨x, hx⟩ := st_key u v sk sv D cs i hi
  obtain ⟨y, hy⟩ := st_key u v sk sv D cs j hj
  exact h.1 i j _ _ hx hy e
theorem st_A {u v : Nat → Nat} {sk sv : Nat} {D : va_G} {cs : Nat → ClassId} {A : Nat → Prop} (h : va_D A (st_W u v sk sv D cs)) : ∀ q, gw_A (st_X u v sk sv D cs) q → A q := by
  intro q hq
  obtain ⟨k, hk, rfl⟩ := hq
  obtain ⟨x, hx⟩ := st_key u v sk sv D cs k hk
  exact h.2 k _ hx
theorem st_inv : inv st_0 := by
  refine ⟨⟨fun _ _ => rfl, ?_, ?_⟩, ⟨0, by decide, by decide, by decide, fun k h => absurd h (by omega)⟩, ⟨0, by decide, by decide, by decide, fun k h => absurd h (by omega)⟩, ⟨by decide, by unfold iv_in; decide⟩, ⟨by decide, by unfold iv_in; decide⟩, ⟨fun k hk => ⟨rfl, by unfold iv_in; exact (show (0 : Int) ≤ (0 : Int32).toInt ∧ (0 : Int32).toInt ≤ 99 by decide)⟩, 0, by decide, by decide, by decide, fun k h => absurd h (by omega)⟩, ⟨0, by decide, by decide, by decide, fun k h => absurd h (by omega)⟩, ⟨rfl, Or.inl rfl⟩, ?_, ?_, ?_, ?_⟩
  · exact fun k hk => (show ∀ k, k < 64 → (0 : Int) ≤ (gs_t30 k).toInt ∧ (gs_t30 k).toInt ≤ 99 by decide +kernel) k hk
  · exact fun k hk => (show ∀ k, k < 64 → (0 : Int) ≤ (gs_t30 (64 + k)).toInt ∧ (gs_t30 (64 + k)).toInt ≤ 4 by decide +kernel) k hk
  all_goals exact ⟨by decide, Or.inl (by decide), 0, by decide, by decide, by decide, fun _ k h => absurd h (by omega), fun _ k h => absurd h (by omega)⟩
