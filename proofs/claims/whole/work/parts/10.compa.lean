def pX10_isWithin (a0 : Int64) (a2 : Int32) (a3 : Int32) : Int32 := if (lg_cmp a0 (a2.toInt64)) < 0 then (0 : Int32) else if 0 < (lg_cmp a0 (a3.toInt64)) then (0 : Int32) else (1 : Int32)
def rX10_isWithin : Room := { frames := 0, cells := 0, slots := 0, locals := 0 }
set_option maxHeartbeats 4000000 in
set_option maxRecDepth 100000 in
theorem tX10_isWithin {p : Program} {l : Launch} {e : Env} {s : State} {m : MethodId} {args : Array Value} {below : List Frame} {meth : Method} {c : Code} {X : gw_X} {Q : State → Prop} (C0 : gm_At p s m args meth c X cX10_isWithin 4 RX10 wsX10_isWithin (some .boolean)) (a0 : Int64) (a2 : Int32) (a3 : Int32) (s0 : gs_S) {z : Int32} (h : pX10_isWithin a0 a2 a3 = z) (Kr : ∀ (H : Heap) (locs : List Loc) (ls : Array Slot) (pc : Nat) (r : Int32), z = r → narrow .boolean (.int r) = .int r → gw_P X s0 H → va_S (gw_A X) s.heap H locs → decode cX10_isWithin pc = .ok (.ireturn, 1) → W p l e rX10_isWithin s m args below meth c H locs 0 0 Q (F0 m pc ls [.int r])) {H : Heap} {locs : List Loc} {ls : Array Slot} (hP : gw_P X s0 H) (hS : va_S (gw_A X) s.heap H locs) (hl : lv_has ls 4 [(0, .long a0), (2, .int a2), (3, .int a3)]) : W p l e rX10_isWithin s m args below meth c H locs 0 0 Q (F0 m 0 ls []) := by
  obtain ⟨hx, hb, hml, hown, hts, hr, hlocks, hC⟩ := id C0
  unfold pX10_isWithin at h
  refine lv_lload_n hx hb dX10_isWithin_0 rfl (lv_at hl 0 rfl) ?_
  refine lv_iload_n hx hb dX10_isWithin_1 rfl (lv_at hl 1 rfl) ?_
  refine lv_i2l hx hb dX10_isWithin_2 rfl ?_
  refine W.lcmp hx hb dX10_isWithin_3 ?_
  refine lv_if_lt (tgt := 18) hx hb dX10_isWithin_4 (by decide) (fun hc => ?_) (fun hc => ?_)
  · have h := gv_pos hc h
    refine lv_iconst (v := 0) hx hb dX10_isWithin_18 (by decide) ?_
    exact Kr _ _ _ _ _ h.symm (show narrow .boolean (.int (0 : Int32)) = .int (0 : Int32) by decide) hP hS dX10_isWithin_19
  · have h := gv_neg hc h
    refine lv_lload_n hx hb dX10_isWithin_7 rfl (lv_at hl 0 rfl) ?_
    refine lv_iload_n hx hb dX10_isWithin_8 rfl (lv_at hl 2 rfl) ?_
    refine lv_i2l hx hb dX10_isWithin_9 rfl ?_
    refine W.lcmp hx hb dX10_isWithin_10 ?_
    refine lv_if_gt (tgt := 18) hx hb dX10_isWithin_11 (by decide) (fun hc => ?_) (fun hc => ?_)
    · have h := gv_pos hc h
      refine lv_iconst (v := 0) hx hb dX10_isWithin_18 (by decide) ?_
      exact Kr _ _ _ _ _ h.symm (show narrow .boolean (.int (0 : Int32)) = .int (0 : Int32) by decide) hP hS dX10_isWithin_19
    · have h := gv_neg hc h
      refine lv_iconst (v := 1) hx hb dX10_isWithin_14 (by decide) ?_
      refine lv_goto (tgt := 19) hx hb dX10_isWithin_15 (by decide) ?_
      exact Kr _ _ _ _ _ h.symm (show narrow .boolean (.int (1 : Int32)) = .int (1 : Int32) by decide) hP hS dX10_isWithin_19
theorem mX10_isWithin (l : Launch) (X : gw_X) (s0 : gs_S) (a0 : Int64) (a2 : Int32) (a3 : Int32) : Met l yX10_isWithin wsX10_isWithin rX10_isWithin (gm_Pc X s0 [.long a0, .int a2, .int a3]) (gm_Qi X s0 (pX10_isWithin a0 a2 a3)) 0 0 (gw_A X) :=
  gm_of RX10 (by decide) rfl rfl (Nat.le_of_ble_eq_true rfl) (fun p e s m below meth c ls C0 hP hl hS => tX10_isWithin C0 a0 a2 a3 s0 rfl (fun H locs ls pc r hr hn hP hS hd => by subst hr; exact gm_retz hn C0 hP hS hd) hP hS hl)
theorem bX10_isWithin (a0 : Int64) (a2 : Int32) (a3 : Int32) : narrow .boolean (.int (pX10_isWithin a0 a2 a3)) = .int (pX10_isWithin a0 a2 a3) := by
  unfold pX10_isWithin
  repeat' split
  all_goals first | rfl
def pX10_isSquare (a0 : Int64) : Int32 := (pX10_isWithin a0 (0 : Int32) (63 : Int32))
def rX10_isSquare : Room := { frames := 1, cells := 0, slots := 0, locals := 23 }
set_option maxHeartbeats 4000000 in
set_option maxRecDepth 100000 in
theorem tX10_isSquare {p : Program} {l : Launch} {e : Env} {s : State} {m : MethodId} {args : Array Value} {below : List Frame} {meth : Method} {c : Code} {X : gw_X} {Q : State → Prop} (C0 : gm_At p s m args meth c X cX10_isSquare 2 RX10 wsX10_isSquare (some .boolean)) (a0 : Int64) (s0 : gs_S) {z : Int32} (h : pX10_isSquare a0 = z) (Kr : ∀ (H : Heap) (locs : List Loc) (ls : Array Slot) (pc : Nat) (r : Int32), z = r → narrow .boolean (.int r) = .int r → gw_P X s0 H → va_S (gw_A X) s.heap H locs → decode cX10_isSquare pc = .ok (.ireturn, 1) → W p l e rX10_isSquare s m args below meth c H locs 0 0 Q (F0 m pc ls [.int r])) {H : Heap} {locs : List Loc} {ls : Array Slot} (hP : gw_P X s0 H) (hS : va_S (gw_A X) s.heap H locs) (hl : lv_has ls 2 [(0, .long a0)]) : W p l e rX10_isSquare s m args below meth c H locs 0 0 Q (F0 m 0 ls []) := by
  obtain ⟨hx, hb, hml, hown, hts, hr, hlocks, hC⟩ := id C0
  unfold pX10_isSquare at h
  refine lv_lload_n hx hb dX10_isSquare_0 rfl (lv_at hl 0 rfl) ?_
  refine lv_iconst (v := 0) hx hb dX10_isSquare_1 (by decide) ?_
  refine lv_bipush (v := 63) hx hb dX10_isSquare_2 (by decide) ?_
  refine gv_ri (gv_runS (n := 3) (rest := []) C0 (mX10_isWithin l X s0 a0 (0 : Int32) (63 : Int32)) gX10_isSquare_X10_isWithin rfl ⟨rfl, rfl⟩ (by decide +kernel) ⟨by decide, by decide⟩ hP hS rfl hl.1 rfl (Nat.le_of_ble_eq_true rfl) dX10_isSquare_4 ⟨Nat.zero_le _, Nat.zero_le _⟩) hS (fun H locs hP hS => ?_)
  exact Kr _ _ _ _ _ h.symm (bX10_isWithin a0 (0 : Int32) (63 : Int32)) hP hS dX10_isSquare_7
theorem mX10_isSquare (l : Launch) (X : gw_X) (s0 : gs_S) (a0 : Int64) : Met l yX10_isSquare wsX10_isSquare rX10_isSquare (gm_Pc X s0 [.long a0]) (gm_Qi X s0 (pX10_isSquare a0)) 0 0 (gw_A X) :=
  gm_of RX10 (by decide) rfl rfl (Nat.le_of_ble_eq_true rfl) (fun p e s m below meth c ls C0 hP hl hS => tX10_isSquare C0 a0 s0 rfl (fun H locs ls pc r hr hn hP hS hd => by subst hr; exact gm_retz hn C0 hP hS hd) hP hS hl)
theorem bX10_isSquare (a0 : Int64) : narrow .boolean (.int (pX10_isSquare a0)) = .int (pX10_isSquare a0) := by
  unfold pX10_isSquare
  repeat' split
  all_goals first | rfl | exact bX10_isWithin _ _ _
def pX2_trait (a1 : Int32) (a2 : Int32) (s0 : gs_S) : Option (Int32) := gv_in ((a2 * (64 : Int32)) + a1) 320 (some (s0.1 3 ((a2 * (64 : Int32)) + a1).toNatClampNeg))
def rX2_trait : Room := { frames := 0, cells := 0, slots := 0, locals := 0 }
set_option maxHeartbeats 4000000 in
set_option maxRecDepth 100000 in
theorem tX2_trait {p : Program} {l : Launch} {e : Env} {s : State} {m : MethodId} {args : Array Value} {below : List Frame} {meth : Method} {c : Code} {X : gw_X} {Q : State → Prop} (C0 : gm_At p s m args meth c X cX2_trait 3 RX2 wsX2_trait (some .int)) (a1 : Int32) (a2 : Int32) (s0 : gs_S) {z : Int32} (h : pX2_trait a1 a2 s0 = some z) (Kr : ∀ (H : Heap) (locs : List Loc) (ls : Array Slot) (pc : Nat) (r : Int32), z = r → gw_P X s0 H → va_S (gw_A X) s.heap H locs → decode cX2_trait pc = .ok (.ireturn, 1) → W p l e rX2_trait s m args below meth c H locs 0 0 Q (F0 m pc ls [.int r])) {H : Heap} {locs : List Loc} {ls : Array Slot} (hP : gw_P X s0 H) (hS : va_S (gw_A X) s.heap H locs) (hl : lv_has ls 3 [(0, .ref (X.1 2)), (1, .int a1), (2, .int a2)]) : W p l e rX2_trait s m args below meth c H locs 0 0 Q (F0 m 0 ls []) := by
  obtain ⟨hx, hb, hml, hown, hts, hr, hlocks, hC⟩ := id C0
  unfold pX2_trait at h
  refine lv_aload_n hx hb dX2_trait_0 rfl (lv_at hl 0 rfl) ?_
  refine gv_get (ref := "IceByEar$Ice") (C := RX2) (T := TX2) (N := 1) (ci := 2) (v := .ref (X.1 3)) C0 (fun _ h9 => List.mem_cons_of_mem _ (List.mem_append_right _ h9)) hP 2 (gw_o2 X s0 gk_2.1) rfl 0 (by decide) (by decide +kernel) rfl rfl dX2_trait_1 ?_
  refine lv_iload_n hx hb dX2_trait_4 rfl (lv_at hl 2 rfl) ?_
  refine lv_bipush (v := 64) hx hb dX2_trait_5 (by decide) ?_
  refine lv_imul hx hb dX2_trait_7 ?_
  refine lv_iload_n hx hb dX2_trait_8 rfl (lv_at hl 1 rfl) ?_
  refine lv_iadd hx hb dX2_trait_9 ?_
  obtain ⟨hin1, h⟩ := gv_in_e h
  refine gv_iald C0 hP 3 gk_3.1 gk_3.2 hin1 dX2_trait_10 ?_
  exact Kr _ _ _ _ _ (gv_inj h) hP hS dX2_trait_11
theorem mX2_trait (l : Launch) (X : gw_X) (s0 : gs_S) (a1 : Int32) (a2 : Int32) {r : Int32} (h : pX2_trait a1 a2 s0 = some r) : Met l yX2_trait wsX2_trait rX2_trait (gm_Pc X s0 [.ref (X.1 2), .int a1, .int a2]) (gm_Qi X s0 r) 0 0 (gw_A X) :=
  gm_of RX2 (by decide) rfl rfl (Nat.le_of_ble_eq_true rfl) (fun p e s m below meth c ls C0 hP hl hS => tX2_trait C0 a1 a2 s0 h (fun H locs ls pc r hr hP hS hd => by subst hr; exact gm_reti C0 hP hS hd) hP hS hl)
def pX2_put (a1 : Int32) (a2 : Int32) (a3 : Int32) (s0 : gs_S) : Option (gs_S) := gv_in ((a2 * (64 : Int32)) + a1) 320 (gv_let (gs_u s0 3 ((a2 * (64 : Int32)) + a1).toNatClampNeg a3) (fun s2 => some s2))
def rX2_put : Room := { frames := 0, cells := 0, slots := 0, locals := 0 }
set_option maxHeartbeats 4000000 in
set_option maxRecDepth 100000 in
theorem tX2_put {p : Program} {l : Launch} {e : Env} {s : State} {m : MethodId} {args : Array Value} {below : List Frame} {meth : Method} {c : Code} {X : gw_X} {Q : State → Prop} (C0 : gm_At p s m args meth c X cX2_put 4 RX2 wsX2_put none) (a1 : Int32) (a2 : Int32) (a3 : Int32) (s0 : gs_S) {z : gs_S} (h : pX2_put a1 a2 a3 s0 = some z) (Kr : ∀ (H : Heap) (locs : List Loc) (ls : Array Slot) (pc : Nat) (τ : gs_S), z = τ → gw_P X τ H → va_S (gw_A X) s.heap H locs → decode cX2_put pc = .ok (.return_, 1) → W p l e rX2_put s m args below meth c H locs 0 0 Q (F0 m pc ls [])) {H : Heap} {locs : List Loc} {ls : Array Slot} (hP : gw_P X s0 H) (hS : va_S (gw_A X) s.heap H locs) (hl : lv_has ls 4 [(0, .ref (X.1 2)), (1, .int a1), (2, .int a2), (3, .int a3)]) : W p l e rX2_put s m args below meth c H locs 0 0 Q (F0 m 0 ls []) := by
  obtain ⟨hx, hb, hml, hown, hts, hr, hlocks, hC⟩ := id C0
  unfold pX2_put at h
  refine lv_aload_n hx hb dX2_put_0 rfl (lv_at hl 0 rfl) ?_
  refine gv_get (ref := "IceByEar$Ice") (C := RX2) (T := TX2) (N := 1) (ci := 2) (v := .ref (X.1 3)) C0 (fun _ h9 => List.mem_cons_of_mem _ (List.mem_append_right _ h9)) hP 2 (gw_o2 X s0 gk_2.1) rfl 0 (by decide) (by decide +kernel) rfl rfl dX2_put_1 ?_
  refine lv_iload_n hx hb dX2_put_4 rfl (lv_at hl 2 rfl) ?_
  refine lv_bipush (v := 64) hx hb dX2_put_5 (by decide) ?_
  refine lv_imul hx hb dX2_put_7 ?_
  refine lv_iload_n hx hb dX2_put_8 rfl (lv_at hl 1 rfl) ?_
  refine lv_iadd hx hb dX2_put_9 ?_
  refine lv_iload_n hx hb dX2_put_10 rfl (lv_at hl 3 rfl) ?_
  obtain ⟨hin1, h⟩ := gv_in_e h
  refine gv_iast C0 hP hS 3 gk_3.1 gk_3.2 hin1 dX2_put_11 (fun s2 H locs es2 hP hS => ?_)
  have h := gv_let_e es2 h
  exact Kr _ _ _ _ _ (gv_inj h) hP hS dX2_put_12
theorem mX2_put (l : Launch) (X : gw_X) (s0 : gs_S) (a1 : Int32) (a2 : Int32) (a3 : Int32) {τ : gs_S} (h : pX2_put a1 a2 a3 s0 = some τ) : Met l yX2_put wsX2_put rX2_put (gm_Pc X s0 [.ref (X.1 2), .int a1, .int a2, .int a3]) (gm_Qv X τ) 0 0 (gw_A X) :=
  gm_of RX2 (by decide) rfl rfl (Nat.le_of_ble_eq_true rfl) (fun p e s m below meth c ls C0 hP hl hS => tX2_put C0 a1 a2 a3 s0 h (fun H locs ls pc τ hr hP hS hd => by subst hr; exact gm_retv C0 hP hS hd) hP hS hl)
def pX10_make (a1 : Int32) (a2 : Int32) (a3 : Int32) (s0 : gs_S) : Option (Int32 × gs_S) := if (pX10_isSquare (a1.toInt64)) = 0 then some ((-1 : Int32), s0) else if (pX10_isWithin (a2.toInt64) (0 : Int32) (4 : Int32)) = 0 then some ((-1 : Int32), s0) else gv_in a2 5 (if (pX10_isWithin (a3.toInt64) (0 : Int32) (gs_most a2.toNatClampNeg)) = 0 then some ((-1 : Int32), s0) else gv_bind (pX2_trait a1 a2 s0) (fun v3 => gv_bind (pX2_put a1 a2 a3 s0) (fun s4 => some (v3, s4))))
def rX10_make : Room := { frames := 2, cells := 0, slots := 0, locals := 44 }
set_option maxHeartbeats 4000000 in
set_option maxRecDepth 100000 in
theorem tX10_make {p : Program} {l : Launch} {e : Env} {s : State} {m : MethodId} {args : Array Value} {below : List Frame} {meth : Method} {c : Code} {X : gw_X} {Q : State → Prop} (C0 : gm_At p s m args meth c X cX10_make 5 RX10 wsX10_make (some .int)) (a1 : Int32) (a2 : Int32) (a3 : Int32) (s0 : gs_S) {z : Int32 × gs_S} (h : pX10_make a1 a2 a3 s0 = some z) (Kr : ∀ (H : Heap) (locs : List Loc) (ls : Array Slot) (pc : Nat) (r : Int32) (τ : gs_S), z = (r, τ) → gw_P X τ H → va_S (gw_A X) s.heap H locs → decode cX10_make pc = .ok (.ireturn, 1) → W p l e rX10_make s m args below meth c H locs 0 0 Q (F0 m pc ls [.int r])) {H : Heap} {locs : List Loc} {ls : Array Slot} (hP : gw_P X s0 H) (hS : va_S (gw_A X) s.heap H locs) (hl : lv_has ls 5 [(0, .ref (X.1 0)), (1, .int a1), (2, .int a2), (3, .int a3)]) : W p l e rX10_make s m args below meth c H locs 0 0 Q (F0 m 0 ls []) := by
  obtain ⟨hx, hb, hml, hown, hts, hr, hlocks, hC⟩ := id C0
  unfold pX10_make at h
  refine lv_iload_n hx hb dX10_make_0 rfl (lv_at hl 1 rfl) ?_
  refine lv_i2l hx hb dX10_make_1 rfl ?_
  refine gv_ri (gv_runS (n := 1) (rest := []) C0 (mX10_isSquare l X s0 (a1.toInt64)) gX10_make_X10_isSquare rfl ⟨rfl, rfl⟩ (by decide +kernel) ⟨by decide, by decide⟩ hP hS rfl hl.1 rfl (Nat.le_of_ble_eq_true rfl) dX10_make_2 ⟨Nat.zero_le _, Nat.zero_le _⟩) hS (fun H locs hP hS => ?_)
  refine lv_if_eq (tgt := 32) hx hb dX10_make_5 (by decide) (fun hc => ?_) (fun hc => ?_)
  · have h := gv_pos hc h
    refine lv_iconst (v := -1) hx hb dX10_make_32 (by decide) ?_
    exact Kr _ _ _ _ _ _ (gv_inj h) hP hS dX10_make_33
  · have h := gv_neg hc h
    refine lv_iload_n hx hb dX10_make_8 rfl (lv_at hl 2 rfl) ?_
    refine lv_i2l hx hb dX10_make_9 rfl ?_
    refine lv_iconst (v := 0) hx hb dX10_make_10 (by decide) ?_
    refine lv_iconst (v := 4) hx hb dX10_make_11 (by decide) ?_
    refine gv_ri (gv_runS (n := 3) (rest := []) C0 (mX10_isWithin l X s0 (a2.toInt64) (0 : Int32) (4 : Int32)) gX10_make_X10_isWithin rfl ⟨rfl, rfl⟩ (by decide +kernel) ⟨by decide, by decide⟩ hP hS rfl hl.1 rfl (Nat.le_of_ble_eq_true rfl) dX10_make_12 ⟨Nat.zero_le _, Nat.zero_le _⟩) hS (fun H locs hP hS => ?_)
    refine lv_if_eq (tgt := 32) hx hb dX10_make_15 (by decide) (fun hc => ?_) (fun hc => ?_)
    · have h := gv_pos hc h
      refine lv_iconst (v := -1) hx hb dX10_make_32 (by decide) ?_
      exact Kr _ _ _ _ _ _ (gv_inj h) hP hS dX10_make_33
    · have h := gv_neg hc h
      refine lv_iload_n hx hb dX10_make_18 rfl (lv_at hl 3 rfl) ?_
      refine lv_i2l hx hb dX10_make_19 rfl ?_
      refine lv_iconst (v := 0) hx hb dX10_make_20 (by decide) ?_
      obtain ⟨⟨tm1, hz1, hT1⟩, -⟩ := hC.2.2.1
      refine va_gets hx hb hz1 hS hown (hts (.fieldLink RX10 66 "IceByEar" "TRAIT_MOST" "[I") (by decide +kernel)) (fun _ h9 => h9) dX10_make_21 ?_
      refine lv_iload_n hx hb dX10_make_24 rfl (lv_at hl 2 rfl) ?_
      obtain ⟨hin2, h⟩ := gv_in_e h
      refine va_ti hx hb hT1 hS hin2 rfl dX10_make_25 ?_
      refine gv_ri (gv_runS (n := 3) (rest := []) C0 (mX10_isWithin l X s0 (a3.toInt64) (0 : Int32) (gs_most a2.toNatClampNeg)) gX10_make_X10_isWithin rfl ⟨rfl, rfl⟩ (by decide +kernel) ⟨by decide, by decide⟩ hP hS rfl hl.1 rfl (Nat.le_of_ble_eq_true rfl) dX10_make_26 ⟨Nat.zero_le _, Nat.zero_le _⟩) hS (fun H locs hP hS => ?_)
      refine lv_if_ne (tgt := 34) hx hb dX10_make_29 (by decide) (fun hc => ?_) (fun hc => ?_)
      · have h := gv_neg hc h
        refine lv_aload_n hx hb dX10_make_34 rfl (lv_at hl 0 rfl) ?_
        refine gv_get (ref := "IceByEar") (C := RX10) (T := TX10) (N := 8) (ci := 10) (v := .ref (X.1 1)) C0 (fun _ h9 => List.mem_cons_of_mem _ (List.mem_append_left _ (List.mem_append_left _ (List.mem_append_right _ h9)))) hP 0 (gw_o10 X s0 gk_0.1) rfl 0 (by decide) (by decide +kernel) rfl rfl dX10_make_35 ?_
        refine gv_get (ref := "IceByEar$Scene") (C := RX4) (T := TX4) (N := 6) (ci := 4) (v := .ref (X.1 2)) C0 (fun _ h9 => List.mem_cons_of_mem _ (List.mem_append_left _ (List.mem_append_right _ h9))) hP 1 (gw_o4 X s0 gk_1.1) rfl 0 (by decide) (by decide +kernel) rfl rfl dX10_make_38 ?_
        refine lv_iload_n hx hb dX10_make_41 rfl (lv_at hl 1 rfl) ?_
        refine lv_iload_n hx hb dX10_make_42 rfl (lv_at hl 2 rfl) ?_
        obtain ⟨v3, hv3, h⟩ := gv_bind_e h
        refine gv_ri (gv_runV (n := 2) (rest := []) C0 (mX2_trait l X s0 a1 a2 hv3) gX10_make_X2_trait rfl ⟨rfl, rfl⟩ (by decide +kernel) ⟨by decide, by decide⟩ gk_2.1 (by decide) rfl hP hS rfl hl.1 rfl (Nat.le_of_ble_eq_true rfl) dX10_make_43 ⟨Nat.zero_le _, Nat.zero_le _⟩) hS (fun H locs hP hS => ?_)
        refine lv_istore (lv' := [(4, .int v3), (0, .ref (X.1 0)), (1, .int a1), (2, .int a2), (3, .int a3)]) hx hb dX10_make_46 hl (by decide) rfl (fun ls hl => ?_)
        refine lv_aload_n hx hb dX10_make_48 rfl (lv_at hl 1 rfl) ?_
        refine gv_get (ref := "IceByEar") (C := RX10) (T := TX10) (N := 8) (ci := 10) (v := .ref (X.1 1)) C0 (fun _ h9 => List.mem_cons_of_mem _ (List.mem_append_left _ (List.mem_append_left _ (List.mem_append_right _ h9)))) hP 0 (gw_o10 X s0 gk_0.1) rfl 0 (by decide) (by decide +kernel) rfl rfl dX10_make_49 ?_
        refine gv_get (ref := "IceByEar$Scene") (C := RX4) (T := TX4) (N := 6) (ci := 4) (v := .ref (X.1 2)) C0 (fun _ h9 => List.mem_cons_of_mem _ (List.mem_append_left _ (List.mem_append_right _ h9))) hP 1 (gw_o4 X s0 gk_1.1) rfl 0 (by decide) (by decide +kernel) rfl rfl dX10_make_52 ?_
        refine lv_iload_n hx hb dX10_make_55 rfl (lv_at hl 2 rfl) ?_
        refine lv_iload_n hx hb dX10_make_56 rfl (lv_at hl 3 rfl) ?_
        refine lv_iload_n hx hb dX10_make_57 rfl (lv_at hl 4 rfl) ?_
        obtain ⟨s4, hs4, h⟩ := gv_bind_e h
        refine gv_rv (gv_runV (n := 3) (rest := []) C0 (mX2_put l X s0 a1 a2 a3 hs4) gX10_make_X2_put rfl ⟨rfl, rfl⟩ (by decide +kernel) ⟨by decide, by decide⟩ gk_2.1 (by decide) rfl hP hS rfl hl.1 rfl (Nat.le_of_ble_eq_true rfl) dX10_make_58 ⟨Nat.zero_le _, Nat.zero_le _⟩) hS (fun H locs hP hS => ?_)
        refine lv_iload hx hb dX10_make_61 (lv_at hl 0 rfl) ?_
        exact Kr _ _ _ _ _ _ (gv_inj h) hP hS dX10_make_63
      · have h := gv_pos hc h
        refine lv_iconst (v := -1) hx hb dX10_make_32 (by decide) ?_
        exact Kr _ _ _ _ _ _ (gv_inj h) hP hS dX10_make_33
theorem mX10_make (l : Launch) (X : gw_X) (s0 : gs_S) (a1 : Int32) (a2 : Int32) (a3 : Int32) {r : Int32} {τ : gs_S} (h : pX10_make a1 a2 a3 s0 = some (r, τ)) : Met l yX10_make wsX10_make rX10_make (gm_Pc X s0 [.ref (X.1 0), .int a1, .int a2, .int a3]) (gm_Qi X τ r) 0 0 (gw_A X) :=
  gm_of RX10 (by decide) rfl rfl (Nat.le_of_ble_eq_true rfl) (fun p e s m below meth c ls C0 hP hl hS => tX10_make C0 a1 a2 a3 s0 h (fun H locs ls pc r τ hr hP hS hd => by cases hr; exact gm_reti C0 hP hS hd) hP hS hl)
def pX2_bareBearing (a1 : Int32) (a2 : Int32) (s0 : gs_S) : Option (Int32) := gv_bind (pX2_trait a1 (1 : Int32) s0) (fun v2 => gv_in v2 5 (some (((a2 * a2) * (gs_part v2.toNatClampNeg)) / (80 : Int32))))
def rX2_bareBearing : Room := { frames := 1, cells := 0, slots := 0, locals := 22 }
set_option maxHeartbeats 4000000 in
set_option maxRecDepth 100000 in
theorem tX2_bareBearing {p : Program} {l : Launch} {e : Env} {s : State} {m : MethodId} {args : Array Value} {below : List Frame} {meth : Method} {c : Code} {X : gw_X} {Q : State → Prop} (C0 : gm_At p s m args meth c X cX2_bareBearing 3 RX2 wsX2_bareBearing (some .int)) (a1 : Int32) (a2 : Int32) (s0 : gs_S) {z : Int32} (h : pX2_bareBearing a1 a2 s0 = some z) (Kr : ∀ (H : Heap) (locs : List Loc) (ls : Array Slot) (pc : Nat) (r : Int32), z = r → gw_P X s0 H → va_S (gw_A X) s.heap H locs → decode cX2_bareBearing pc = .ok (.ireturn, 1) → W p l e rX2_bareBearing s m args below meth c H locs 0 0 Q (F0 m pc ls [.int r])) {H : Heap} {locs : List Loc} {ls : Array Slot} (hP : gw_P X s0 H) (hS : va_S (gw_A X) s.heap H locs) (hl : lv_has ls 3 [(0, .ref (X.1 2)), (1, .int a1), (2, .int a2)]) : W p l e rX2_bareBearing s m args below meth c H locs 0 0 Q (F0 m 0 ls []) := by
  obtain ⟨hx, hb, hml, hown, hts, hr, hlocks, hC⟩ := id C0
  unfold pX2_bareBearing at h
  refine lv_iload_n hx hb dX2_bareBearing_0 rfl (lv_at hl 2 rfl) ?_
  refine lv_iload_n hx hb dX2_bareBearing_1 rfl (lv_at hl 2 rfl) ?_
  refine lv_imul hx hb dX2_bareBearing_2 ?_
  obtain ⟨-, ⟨tm1, hz1, hT1⟩, -⟩ := hC.2.2.1
  refine va_getsN hx hb hz1 hS hown (va_Nw.use rfl hC.2.2.2.2) (fun _ h9 => h9) dX2_bareBearing_3 ?_
  refine lv_aload_n hx hb dX2_bareBearing_6 rfl (lv_at hl 0 rfl) ?_
  refine lv_iload_n hx hb dX2_bareBearing_7 rfl (lv_at hl 1 rfl) ?_
  refine lv_iconst (v := 1) hx hb dX2_bareBearing_8 (by decide) ?_
  obtain ⟨v2, hv2, h⟩ := gv_bind_e h
  refine gv_ri (gv_runV (n := 2) (rest := [.ref tm1, .int (a2 * a2)]) C0 (mX2_trait l X s0 a1 (1 : Int32) hv2) gX2_bareBearing_X2_trait rfl ⟨rfl, rfl⟩ (by decide +kernel) ⟨by decide, by decide⟩ gk_2.1 (by decide) rfl hP hS rfl hl.1 rfl (Nat.le_of_ble_eq_true rfl) dX2_bareBearing_9 ⟨Nat.zero_le _, Nat.zero_le _⟩) hS (fun H locs hP hS => ?_)
  obtain ⟨hin3, h⟩ := gv_in_e h
  refine va_ti hx hb hT1 hS hin3 rfl dX2_bareBearing_12 ?_
  refine lv_imul hx hb dX2_bareBearing_13 ?_
  refine lv_bipush (v := 80) hx hb dX2_bareBearing_14 (by decide) ?_
  refine lv_idiv hx hb dX2_bareBearing_16 (by decide) ?_
  exact Kr _ _ _ _ _ (gv_inj h) hP hS dX2_bareBearing_17
theorem mX2_bareBearing (l : Launch) (X : gw_X) (s0 : gs_S) (a1 : Int32) (a2 : Int32) {r : Int32} (h : pX2_bareBearing a1 a2 s0 = some r) : Met l yX2_bareBearing wsX2_bareBearing rX2_bareBearing (gm_Pc X s0 [.ref (X.1 2), .int a1, .int a2]) (gm_Qi X s0 r) 0 0 (gw_A X) :=
  gm_of RX2 (by decide) rfl rfl (Nat.le_of_ble_eq_true rfl) (fun p e s m below meth c ls C0 hP hl hS => tX2_bareBearing C0 a1 a2 s0 h (fun H locs ls pc r hr hP hS hd => by subst hr; exact gm_reti C0 hP hS hd) hP hS hl)
def pX2_bearingAt (a1 : Int32) (a2 : Int32) (s0 : gs_S) : Option (Int32) := gv_bind (pX2_bareBearing a1 a2 s0) (fun v1 => gv_bind (pX2_trait a1 (4 : Int32) s0) (fun v2 => some (v1 + ((60 : Int32) * v2))))
def rX2_bearingAt : Room := { frames := 2, cells := 0, slots := 0, locals := 44 }
set_option maxHeartbeats 4000000 in
set_option maxRecDepth 100000 in
theorem tX2_bearingAt {p : Program} {l : Launch} {e : Env} {s : State} {m : MethodId} {args : Array Value} {below : List Frame} {meth : Method} {c : Code} {X : gw_X} {Q : State → Prop} (C0 : gm_At p s m args meth c X cX2_bearingAt 3 RX2 wsX2_bearingAt (some .int)) (a1 : Int32) (a2 : Int32) (s0 : gs_S) {z : Int32} (h : pX2_bearingAt a1 a2 s0 = some z) (Kr : ∀ (H : Heap) (locs : List Loc) (ls : Array Slot) (pc : Nat) (r : Int32), z = r → gw_P X s0 H → va_S (gw_A X) s.heap H locs → decode cX2_bearingAt pc = .ok (.ireturn, 1) → W p l e rX2_bearingAt s m args below meth c H locs 0 0 Q (F0 m pc ls [.int r])) {H : Heap} {locs : List Loc} {ls : Array Slot} (hP : gw_P X s0 H) (hS : va_S (gw_A X) s.heap H locs) (hl : lv_has ls 3 [(0, .ref (X.1 2)), (1, .int a1), (2, .int a2)]) : W p l e rX2_bearingAt s m args below meth c H locs 0 0 Q (F0 m 0 ls []) := by
  obtain ⟨hx, hb, hml, hown, hts, hr, hlocks, hC⟩ := id C0
  unfold pX2_bearingAt at h
  refine lv_aload_n hx hb dX2_bearingAt_0 rfl (lv_at hl 0 rfl) ?_
  refine lv_iload_n hx hb dX2_bearingAt_1 rfl (lv_at hl 1 rfl) ?_
  refine lv_iload_n hx hb dX2_bearingAt_2 rfl (lv_at hl 2 rfl) ?_
  obtain ⟨v1, hv1, h⟩ := gv_bind_e h
  refine gv_ri (gv_runV (n := 2) (rest := []) C0 (mX2_bareBearing l X s0 a1 a2 hv1) gX2_bearingAt_X2_bareBearing rfl ⟨rfl, rfl⟩ (by decide +kernel) ⟨by decide, by decide⟩ gk_2.1 (by decide) rfl hP hS rfl hl.1 rfl (Nat.le_of_ble_eq_true rfl) dX2_bearingAt_3 ⟨Nat.zero_le _, Nat.zero_le _⟩) hS (fun H locs hP hS => ?_)
  refine lv_bipush (v := 60) hx hb dX2_bearingAt_6 (by decide) ?_
  refine lv_aload_n hx hb dX2_bearingAt_8 rfl (lv_at hl 0 rfl) ?_
  refine lv_iload_n hx hb dX2_bearingAt_9 rfl (lv_at hl 1 rfl) ?_
  refine lv_iconst (v := 4) hx hb dX2_bearingAt_10 (by decide) ?_
  obtain ⟨v2, hv2, h⟩ := gv_bind_e h
  refine gv_ri (gv_runV (n := 2) (rest := [.int (60 : Int32), .int v1]) C0 (mX2_trait l X s0 a1 (4 : Int32) hv2) gX2_bearingAt_X2_trait rfl ⟨rfl, rfl⟩ (by decide +kernel) ⟨by decide, by decide⟩ gk_2.1 (by decide) rfl hP hS rfl hl.1 rfl (Nat.le_of_ble_eq_true rfl) dX2_bearingAt_11 ⟨Nat.zero_le _, Nat.zero_le _⟩) hS (fun H locs hP hS => ?_)
  refine lv_imul hx hb dX2_bearingAt_14 ?_
  refine lv_iadd hx hb dX2_bearingAt_15 ?_
  exact Kr _ _ _ _ _ (gv_inj h) hP hS dX2_bearingAt_16
theorem mX2_bearingAt (l : Launch) (X : gw_X) (s0 : gs_S) (a1 : Int32) (a2 : Int32) {r : Int32} (h : pX2_bearingAt a1 a2 s0 = some r) : Met l yX2_bearingAt wsX2_bearingAt rX2_bearingAt (gm_Pc X s0 [.ref (X.1 2), .int a1, .int a2]) (gm_Qi X s0 r) 0 0 (gw_A X) :=
  gm_of RX2 (by decide) rfl rfl (Nat.le_of_ble_eq_true rfl) (fun p e s m below meth c ls C0 hP hl hS => tX2_bearingAt C0 a1 a2 s0 h (fun H locs ls pc r hr hP hS hd => by subst hr; exact gm_reti C0 hP hS hd) hP hS hl)
def pX2_bearing (a1 : Int32) (s0 : gs_S) : Option (Int32) := gv_bind (pX2_trait a1 (0 : Int32) s0) (fun v1 => gv_bind (pX2_bearingAt a1 v1 s0) (fun v2 => some v2))
def rX2_bearing : Room := { frames := 3, cells := 0, slots := 0, locals := 66 }
set_option maxHeartbeats 4000000 in
set_option maxRecDepth 100000 in
theorem tX2_bearing {p : Program} {l : Launch} {e : Env} {s : State} {m : MethodId} {args : Array Value} {below : List Frame} {meth : Method} {c : Code} {X : gw_X} {Q : State → Prop} (C0 : gm_At p s m args meth c X cX2_bearing 2 RX2 wsX2_bearing (some .int)) (a1 : Int32) (s0 : gs_S) {z : Int32} (h : pX2_bearing a1 s0 = some z) (Kr : ∀ (H : Heap) (locs : List Loc) (ls : Array Slot) (pc : Nat) (r : Int32), z = r → gw_P X s0 H → va_S (gw_A X) s.heap H locs → decode cX2_bearing pc = .ok (.ireturn, 1) → W p l e rX2_bearing s m args below meth c H locs 0 0 Q (F0 m pc ls [.int r])) {H : Heap} {locs : List Loc} {ls : Array Slot} (hP : gw_P X s0 H) (hS : va_S (gw_A X) s.heap H locs) (hl : lv_has ls 2 [(0, .ref (X.1 2)), (1, .int a1)]) : W p l e rX2_bearing s m args below meth c H locs 0 0 Q (F0 m 0 ls []) := by
  obtain ⟨hx, hb, hml, hown, hts, hr, hlocks, hC⟩ := id C0
  unfold pX2_bearing at h
  refine lv_aload_n hx hb dX2_bearing_0 rfl (lv_at hl 0 rfl) ?_
  refine lv_iload_n hx hb dX2_bearing_1 rfl (lv_at hl 1 rfl) ?_
  refine lv_aload_n hx hb dX2_bearing_2 rfl (lv_at hl 0 rfl) ?_
  refine lv_iload_n hx hb dX2_bearing_3 rfl (lv_at hl 1 rfl) ?_
  refine lv_iconst (v := 0) hx hb dX2_bearing_4 (by decide) ?_
  obtain ⟨v1, hv1, h⟩ := gv_bind_e h
  refine gv_ri (gv_runV (n := 2) (rest := [.int a1, .ref (X.1 2)]) C0 (mX2_trait l X s0 a1 (0 : Int32) hv1) gX2_bearing_X2_trait rfl ⟨rfl, rfl⟩ (by decide +kernel) ⟨by decide, by decide⟩ gk_2.1 (by decide) rfl hP hS rfl hl.1 rfl (Nat.le_of_ble_eq_true rfl) dX2_bearing_5 ⟨Nat.zero_le _, Nat.zero_le _⟩) hS (fun H locs hP hS => ?_)
  obtain ⟨v2, hv2, h⟩ := gv_bind_e h
  refine gv_ri (gv_runV (n := 2) (rest := []) C0 (mX2_bearingAt l X s0 a1 v1 hv2) gX2_bearing_X2_bearingAt rfl ⟨rfl, rfl⟩ (by decide +kernel) ⟨by decide, by decide⟩ gk_2.1 (by decide) rfl hP hS rfl hl.1 rfl (Nat.le_of_ble_eq_true rfl) dX2_bearing_8 ⟨Nat.zero_le _, Nat.zero_le _⟩) hS (fun H locs hP hS => ?_)
  exact Kr _ _ _ _ _ (gv_inj h) hP hS dX2_bearing_11
theorem mX2_bearing (l : Launch) (X : gw_X) (s0 : gs_S) (a1 : Int32) {r : Int32} (h : pX2_bearing a1 s0 = some r) : Met l yX2_bearing wsX2_bearing rX2_bearing (gm_Pc X s0 [.ref (X.1 2), .int a1]) (gm_Qi X s0 r) 0 0 (gw_A X) :=
  gm_of RX2 (by decide) rfl rfl (Nat.le_of_ble_eq_true rfl) (fun p e s m below meth c ls C0 hP hl hS => tX2_bearing C0 a1 s0 h (fun H locs ls pc r hr hP hS hd => by subst hr; exact gm_reti C0 hP hS hd) hP hS hl)
def pX2_pitch (a1 : Int32) (s0 : gs_S) : Option (Int32) := gv_bind (pX2_trait a1 (0 : Int32) s0) (fun v1 => if v1 ≤ 0 then some (-4 : Int32) else gv_nz v1 (gv_bind (pX2_trait a1 (1 : Int32) s0) (fun v3 => some (((9000 : Int32) / v1) + ((7 : Int32) * v3)))))
def rX2_pitch : Room := { frames := 1, cells := 0, slots := 0, locals := 22 }
set_option maxHeartbeats 4000000 in
set_option maxRecDepth 100000 in
theorem tX2_pitch {p : Program} {l : Launch} {e : Env} {s : State} {m : MethodId} {args : Array Value} {below : List Frame} {meth : Method} {c : Code} {X : gw_X} {Q : State → Prop} (C0 : gm_At p s m args meth c X cX2_pitch 3 RX2 wsX2_pitch (some .int)) (a1 : Int32) (s0 : gs_S) {z : Int32} (h : pX2_pitch a1 s0 = some z) (Kr : ∀ (H : Heap) (locs : List Loc) (ls : Array Slot) (pc : Nat) (r : Int32), z = r → gw_P X s0 H → va_S (gw_A X) s.heap H locs → decode cX2_pitch pc = .ok (.ireturn, 1) → W p l e rX2_pitch s m args below meth c H locs 0 0 Q (F0 m pc ls [.int r])) {H : Heap} {locs : List Loc} {ls : Array Slot} (hP : gw_P X s0 H) (hS : va_S (gw_A X) s.heap H locs) (hl : lv_has ls 3 [(0, .ref (X.1 2)), (1, .int a1)]) : W p l e rX2_pitch s m args below meth c H locs 0 0 Q (F0 m 0 ls []) := by
  obtain ⟨hx, hb, hml, hown, hts, hr, hlocks, hC⟩ := id C0
  unfold pX2_pitch at h
  refine lv_aload_n hx hb dX2_pitch_0 rfl (lv_at hl 0 rfl) ?_
  refine lv_iload_n hx hb dX2_pitch_1 rfl (lv_at hl 1 rfl) ?_
  refine lv_iconst (v := 0) hx hb dX2_pitch_2 (by decide) ?_
  obtain ⟨v1, hv1, h⟩ := gv_bind_e h
  refine gv_ri (gv_runV (n := 2) (rest := []) C0 (mX2_trait l X s0 a1 (0 : Int32) hv1) gX2_pitch_X2_trait rfl ⟨rfl, rfl⟩ (by decide +kernel) ⟨by decide, by decide⟩ gk_2.1 (by decide) rfl hP hS rfl hl.1 rfl (Nat.le_of_ble_eq_true rfl) dX2_pitch_3 ⟨Nat.zero_le _, Nat.zero_le _⟩) hS (fun H locs hP hS => ?_)
  refine lv_istore_n (lv' := [(2, .int v1), (0, .ref (X.1 2)), (1, .int a1)]) hx hb dX2_pitch_6 rfl hl (by decide) rfl (fun ls hl => ?_)
  refine lv_iload_n hx hb dX2_pitch_7 rfl (lv_at hl 0 rfl) ?_
  refine lv_if_le (tgt := 29) hx hb dX2_pitch_8 (by decide) (fun hc => ?_) (fun hc => ?_)
  · have h := gv_pos hc h
    refine lv_bipush (v := -4) hx hb dX2_pitch_29 (by decide) ?_
    exact Kr _ _ _ _ _ (gv_inj h) hP hS dX2_pitch_31
  · have h := gv_neg hc h
    refine lv_sipush (v := 9000) hx hb dX2_pitch_11 (by decide) ?_
    refine lv_iload_n hx hb dX2_pitch_14 rfl (lv_at hl 0 rfl) ?_
    obtain ⟨hnz2, h⟩ := gv_nz_e h
    refine lv_idiv hx hb dX2_pitch_15 hnz2 ?_
    refine lv_bipush (v := 7) hx hb dX2_pitch_16 (by decide) ?_
    refine lv_aload_n hx hb dX2_pitch_18 rfl (lv_at hl 1 rfl) ?_
    refine lv_iload_n hx hb dX2_pitch_19 rfl (lv_at hl 2 rfl) ?_
    refine lv_iconst (v := 1) hx hb dX2_pitch_20 (by decide) ?_
    obtain ⟨v3, hv3, h⟩ := gv_bind_e h
    refine gv_ri (gv_runV (n := 2) (rest := [.int (7 : Int32), .int ((9000 : Int32) / v1)]) C0 (mX2_trait l X s0 a1 (1 : Int32) hv3) gX2_pitch_X2_trait rfl ⟨rfl, rfl⟩ (by decide +kernel) ⟨by decide, by decide⟩ gk_2.1 (by decide) rfl hP hS rfl hl.1 rfl (Nat.le_of_ble_eq_true rfl) dX2_pitch_21 ⟨Nat.zero_le _, Nat.zero_le _⟩) hS (fun H locs hP hS => ?_)
    refine lv_imul hx hb dX2_pitch_24 ?_
    refine lv_iadd hx hb dX2_pitch_25 ?_
    refine lv_goto (tgt := 31) hx hb dX2_pitch_26 (by decide) ?_
    exact Kr _ _ _ _ _ (gv_inj h) hP hS dX2_pitch_31
theorem mX2_pitch (l : Launch) (X : gw_X) (s0 : gs_S) (a1 : Int32) {r : Int32} (h : pX2_pitch a1 s0 = some r) : Met l yX2_pitch wsX2_pitch rX2_pitch (gm_Pc X s0 [.ref (X.1 2), .int a1]) (gm_Qi X s0 r) 0 0 (gw_A X) :=
  gm_of RX2 (by decide) rfl rfl (Nat.le_of_ble_eq_true rfl) (fun p e s m below meth c ls C0 hP hl hS => tX2_pitch C0 a1 s0 h (fun H locs ls pc r hr hP hS hd => by subst hr; exact gm_reti C0 hP hS hd) hP hS hl)
def pX10_told (a1 : Int32) (a2 : Int32) (s0 : gs_S) : Option (Int32) := if (pX10_isSquare (a1.toInt64)) = 0 then some (-1 : Int32) else if (pX10_isWithin (a2.toInt64) (0 : Int32) (6 : Int32)) = 0 then some (-1 : Int32) else if a2 = (5 : Int32) then gv_bind (pX2_bearing a1 s0) (fun v3 => some v3) else if a2 = (6 : Int32) then gv_bind (pX2_pitch a1 s0) (fun v2 => some v2) else gv_bind (pX2_trait a1 a2 s0) (fun v1 => some v1)
def rX10_told : Room := { frames := 4, cells := 0, slots := 0, locals := 87 }
set_option maxHeartbeats 4000000 in
set_option maxRecDepth 100000 in
theorem tX10_told {p : Program} {l : Launch} {e : Env} {s : State} {m : MethodId} {args : Array Value} {below : List Frame} {meth : Method} {c : Code} {X : gw_X} {Q : State → Prop} (C0 : gm_At p s m args meth c X cX10_told 3 RX10 wsX10_told (some .int)) (a1 : Int32) (a2 : Int32) (s0 : gs_S) {z : Int32} (h : pX10_told a1 a2 s0 = some z) (Kr : ∀ (H : Heap) (locs : List Loc) (ls : Array Slot) (pc : Nat) (r : Int32), z = r → gw_P X s0 H → va_S (gw_A X) s.heap H locs → decode cX10_told pc = .ok (.ireturn, 1) → W p l e rX10_told s m args below meth c H locs 0 0 Q (F0 m pc ls [.int r])) {H : Heap} {locs : List Loc} {ls : Array Slot} (hP : gw_P X s0 H) (hS : va_S (gw_A X) s.heap H locs) (hl : lv_has ls 3 [(0, .ref (X.1 0)), (1, .int a1), (2, .int a2)]) : W p l e rX10_told s m args below meth c H locs 0 0 Q (F0 m 0 ls []) := by
  obtain ⟨hx, hb, hml, hown, hts, hr, hlocks, hC⟩ := id C0
  unfold pX10_told at h
  refine lv_iload_n hx hb dX10_told_0 rfl (lv_at hl 1 rfl) ?_
  refine lv_i2l hx hb dX10_told_1 rfl ?_
  refine gv_ri (gv_runS (n := 1) (rest := []) C0 (mX10_isSquare l X s0 (a1.toInt64)) gX10_told_X10_isSquare rfl ⟨rfl, rfl⟩ (by decide +kernel) ⟨by decide, by decide⟩ hP hS rfl hl.1 rfl (Nat.le_of_ble_eq_true rfl) dX10_told_2 ⟨Nat.zero_le _, Nat.zero_le _⟩) hS (fun H locs hP hS => ?_)
  refine lv_if_eq (tgt := 19) hx hb dX10_told_5 (by decide) (fun hc => ?_) (fun hc => ?_)
  · have h := gv_pos hc h
    refine lv_iconst (v := -1) hx hb dX10_told_19 (by decide) ?_
    exact Kr _ _ _ _ _ (gv_inj h) hP hS dX10_told_20
  · have h := gv_neg hc h
    refine lv_iload_n hx hb dX10_told_8 rfl (lv_at hl 2 rfl) ?_
    refine lv_i2l hx hb dX10_told_9 rfl ?_
    refine lv_iconst (v := 0) hx hb dX10_told_10 (by decide) ?_
    refine lv_bipush (v := 6) hx hb dX10_told_11 (by decide) ?_
    refine gv_ri (gv_runS (n := 3) (rest := []) C0 (mX10_isWithin l X s0 (a2.toInt64) (0 : Int32) (6 : Int32)) gX10_told_X10_isWithin rfl ⟨rfl, rfl⟩ (by decide +kernel) ⟨by decide, by decide⟩ hP hS rfl hl.1 rfl (Nat.le_of_ble_eq_true rfl) dX10_told_13 ⟨Nat.zero_le _, Nat.zero_le _⟩) hS (fun H locs hP hS => ?_)
    refine lv_if_ne (tgt := 21) hx hb dX10_told_16 (by decide) (fun hc => ?_) (fun hc => ?_)
    · have h := gv_neg hc h
      refine lv_iload_n hx hb dX10_told_21 rfl (lv_at hl 2 rfl) ?_
      refine lv_iconst (v := 5) hx hb dX10_told_22 (by decide) ?_
      refine lv_icmp_ne (tgt := 38) hx hb dX10_told_23 (by decide) (fun hc => ?_) (fun hc => ?_)
      · have h := gv_neg hc h
        refine lv_iload_n hx hb dX10_told_38 rfl (lv_at hl 2 rfl) ?_
        refine lv_bipush (v := 6) hx hb dX10_told_39 (by decide) ?_
        refine lv_icmp_ne (tgt := 58) hx hb dX10_told_41 (by decide) (fun hc => ?_) (fun hc => ?_)
        · have h := gv_neg hc h
          refine lv_aload_n hx hb dX10_told_58 rfl (lv_at hl 0 rfl) ?_
          refine gv_get (ref := "IceByEar") (C := RX10) (T := TX10) (N := 8) (ci := 10) (v := .ref (X.1 1)) C0 (fun _ h9 => List.mem_cons_of_mem _ (List.mem_append_left _ (List.mem_append_left _ (List.mem_append_right _ h9)))) hP 0 (gw_o10 X s0 gk_0.1) rfl 0 (by decide) (by decide +kernel) rfl rfl dX10_told_59 ?_
          refine gv_get (ref := "IceByEar$Scene") (C := RX4) (T := TX4) (N := 6) (ci := 4) (v := .ref (X.1 2)) C0 (fun _ h9 => List.mem_cons_of_mem _ (List.mem_append_left _ (List.mem_append_right _ h9))) hP 1 (gw_o4 X s0 gk_1.1) rfl 0 (by decide) (by decide +kernel) rfl rfl dX10_told_62 ?_
          refine lv_iload_n hx hb dX10_told_65 rfl (lv_at hl 1 rfl) ?_
          refine lv_iload_n hx hb dX10_told_66 rfl (lv_at hl 2 rfl) ?_
          obtain ⟨v1, hv1, h⟩ := gv_bind_e h
          refine gv_ri (gv_runV (n := 2) (rest := []) C0 (mX2_trait l X s0 a1 a2 hv1) gX10_told_X2_trait rfl ⟨rfl, rfl⟩ (by decide +kernel) ⟨by decide, by decide⟩ gk_2.1 (by decide) rfl hP hS rfl hl.1 rfl (Nat.le_of_ble_eq_true rfl) dX10_told_67 ⟨Nat.zero_le _, Nat.zero_le _⟩) hS (fun H locs hP hS => ?_)
          exact Kr _ _ _ _ _ (gv_inj h) hP hS dX10_told_70
        · have h := gv_pos hc h
          refine lv_aload_n hx hb dX10_told_44 rfl (lv_at hl 0 rfl) ?_
          refine gv_get (ref := "IceByEar") (C := RX10) (T := TX10) (N := 8) (ci := 10) (v := .ref (X.1 1)) C0 (fun _ h9 => List.mem_cons_of_mem _ (List.mem_append_left _ (List.mem_append_left _ (List.mem_append_right _ h9)))) hP 0 (gw_o10 X s0 gk_0.1) rfl 0 (by decide) (by decide +kernel) rfl rfl dX10_told_45 ?_
          refine gv_get (ref := "IceByEar$Scene") (C := RX4) (T := TX4) (N := 6) (ci := 4) (v := .ref (X.1 2)) C0 (fun _ h9 => List.mem_cons_of_mem _ (List.mem_append_left _ (List.mem_append_right _ h9))) hP 1 (gw_o4 X s0 gk_1.1) rfl 0 (by decide) (by decide +kernel) rfl rfl dX10_told_48 ?_
          refine lv_iload_n hx hb dX10_told_51 rfl (lv_at hl 1 rfl) ?_
          obtain ⟨v2, hv2, h⟩ := gv_bind_e h
          refine gv_ri (gv_runV (n := 1) (rest := []) C0 (mX2_pitch l X s0 a1 hv2) gX10_told_X2_pitch rfl ⟨rfl, rfl⟩ (by decide +kernel) ⟨by decide, by decide⟩ gk_2.1 (by decide) rfl hP hS rfl hl.1 rfl (Nat.le_of_ble_eq_true rfl) dX10_told_52 ⟨Nat.zero_le _, Nat.zero_le _⟩) hS (fun H locs hP hS => ?_)
          refine lv_goto (tgt := 70) hx hb dX10_told_55 (by decide) ?_
          exact Kr _ _ _ _ _ (gv_inj h) hP hS dX10_told_70
      · have h := gv_pos hc h
        refine lv_aload_n hx hb dX10_told_26 rfl (lv_at hl 0 rfl) ?_
        refine gv_get (ref := "IceByEar") (C := RX10) (T := TX10) (N := 8) (ci := 10) (v := .ref (X.1 1)) C0 (fun _ h9 => List.mem_cons_of_mem _ (List.mem_append_left _ (List.mem_append_left _ (List.mem_append_right _ h9)))) hP 0 (gw_o10 X s0 gk_0.1) rfl 0 (by decide) (by decide +kernel) rfl rfl dX10_told_27 ?_
        refine gv_get (ref := "IceByEar$Scene") (C := RX4) (T := TX4) (N := 6) (ci := 4) (v := .ref (X.1 2)) C0 (fun _ h9 => List.mem_cons_of_mem _ (List.mem_append_left _ (List.mem_append_right _ h9))) hP 1 (gw_o4 X s0 gk_1.1) rfl 0 (by decide) (by decide +kernel) rfl rfl dX10_told_30 ?_
        refine lv_iload_n hx hb dX10_told_33 rfl (lv_at hl 1 rfl) ?_
        obtain ⟨v3, hv3, h⟩ := gv_bind_e h
        refine gv_ri (gv_runV (n := 1) (rest := []) C0 (mX2_bearing l X s0 a1 hv3) gX10_told_X2_bearing rfl ⟨rfl, rfl⟩ (by decide +kernel) ⟨by decide, by decide⟩ gk_2.1 (by decide) rfl hP hS rfl hl.1 rfl (Nat.le_of_ble_eq_true rfl) dX10_told_34 ⟨Nat.zero_le _, Nat.zero_le _⟩) hS (fun H locs hP hS => ?_)
        exact Kr _ _ _ _ _ (gv_inj h) hP hS dX10_told_37
    · have h := gv_pos hc h
      refine lv_iconst (v := -1) hx hb dX10_told_19 (by decide) ?_
      exact Kr _ _ _ _ _ (gv_inj h) hP hS dX10_told_20
theorem mX10_told (l : Launch) (X : gw_X) (s0 : gs_S) (a1 : Int32) (a2 : Int32) {r : Int32} (h : pX10_told a1 a2 s0 = some r) : Met l yX10_told wsX10_told rX10_told (gm_Pc X s0 [.ref (X.1 0), .int a1, .int a2]) (gm_Qi X s0 r) 0 0 (gw_A X) :=
  gm_of RX10 (by decide) rfl rfl (Nat.le_of_ble_eq_true rfl) (fun p e s m below meth c ls C0 hP hl hS => tX10_told C0 a1 a2 s0 h (fun H locs ls pc r hr hP hS hd => by subst hr; exact gm_reti C0 hP hS hd) hP hS hl)
def pX2_freeze_L2 (a1 : Int32) (v1 : Int32) (s2 : gs_S) : Option ((Int32 × gs_S) ⊕ (Int32 × gs_S)) := if (64 : Int32) ≤ v1 then some (.inr (v1, s2)) else gv_bind (pX2_trait v1 (0 : Int32) s2) (fun v3 => gv_bind (pX2_trait v1 (2 : Int32) s2) (fun v4 => gv_bind (pX2_trait v1 (3 : Int32) s2) (fun v5 => gv_let ((v3 + ((a1 * ((10 : Int32) - v4)) / (10 : Int32))) - ((3 : Int32) * v5)) (fun v6 => gv_let (gv_min (99 : Int32) v6) (fun v7 => gv_let (gv_max (0 : Int32) v7) (fun v8 => gv_bind (pX2_put v1 (0 : Int32) v8 s2) (fun s9 => if v3 = 0 then if v8 ≤ 0 then gv_let (v1 + (1 : Int32)) (fun v11 => some (.inl (v11, s9))) else gv_bind (pX2_put v1 (1 : Int32) (0 : Int32) s9) (fun s12 => gv_let (v1 + (1 : Int32)) (fun v13 => some (.inl (v13, s12)))) else gv_let (v1 + (1 : Int32)) (fun v10 => some (.inl (v10, s9))))))))))
def pX2_freeze (a1 : Int32) (s0 : gs_S) : Option (gs_S) := gv_bind (gv_loop (fun q => pX2_freeze_L2 a1 q.1 q.2) gv_N ((0 : Int32), s0)) (fun q => gv_let q.1 (fun v14 => gv_let q.2 (fun s15 => some s15)))
def rX2_freeze : Room := { frames := 1, cells := 0, slots := 0, locals := 40 }
set_option maxHeartbeats 4000000 in
set_option maxRecDepth 100000 in
theorem tX2_freeze {p : Program} {l : Launch} {e : Env} {s : State} {m : MethodId} {args : Array Value} {below : List Frame} {meth : Method} {c : Code} {X : gw_X} {Q : State → Prop} (C0 : gm_At p s m args meth c X cX2_freeze 6 RX2 wsX2_freeze none) (a1 : Int32) (s0 : gs_S) {z : gs_S} (h : pX2_freeze a1 s0 = some z) (Kr : ∀ (H : Heap) (locs : List Loc) (ls : Array Slot) (pc : Nat) (τ : gs_S), z = τ → gw_P X τ H → va_S (gw_A X) s.heap H locs → decode cX2_freeze pc = .ok (.return_, 1) → W p l e rX2_freeze s m args below meth c H locs 0 0 Q (F0 m pc ls [])) {H : Heap} {locs : List Loc} {ls : Array Slot} (hP : gw_P X s0 H) (hS : va_S (gw_A X) s.heap H locs) (hl : lv_has ls 6 [(0, .ref (X.1 2)), (1, .int a1)]) : W p l e rX2_freeze s m args below meth c H locs 0 0 Q (F0 m 0 ls []) := by
  obtain ⟨hx, hb, hml, hown, hts, hr, hlocks, hC⟩ := id C0
  unfold pX2_freeze at h
  refine lv_iconst (v := 0) hx hb dX2_freeze_0 (by decide) ?_
  refine lv_istore_n (lv' := [(2, .int (0 : Int32)), (0, .ref (X.1 2)), (1, .int a1)]) hx hb dX2_freeze_1 rfl hl (by decide) rfl (fun ls hl => ?_)
  obtain ⟨q15, hq15, h⟩ := gv_bind_e h
  refine gv_loop_ind (Φ := fun q => ∀ (H : Heap) (locs : List Loc) (ls : Array Slot), gw_P X q.2 H → va_S (gw_A X) s.heap H locs → lv_has ls 6 [(0, .ref (X.1 2)), (1, .int a1), (2, .int q.1)] → W p l e rX2_freeze s m args below meth c H locs 0 0 Q (F0 m 2 ls [])) (Ψ := fun q => ∀ (H : Heap) (locs : List Loc) (ls : Array Slot), gw_P X q.2 H → va_S (gw_A X) s.heap H locs → lv_has ls 6 [] → W p l e rX2_freeze s m args below meth c H locs 0 0 Q (F0 m 85 ls [])) ?_ gv_N ((0 : Int32), s0) q15 hq15 ?_ H locs ls hP hS (lv_sub hl [1, 2, 0] rfl)
  · intro q x h Kc Ke H locs ls hP hS hl
    obtain ⟨v1, s2⟩ := q
    have h : pX2_freeze_L2 a1 v1 s2 = some x := h
    have hP : gw_P X s2 H := hP
    have hl : lv_has ls 6 [(0, .ref (X.1 2)), (1, .int a1), (2, .int v1)] := hl
    unfold pX2_freeze_L2 at h
    refine lv_iload_n hx hb dX2_freeze_2 rfl (lv_at hl 2 rfl) ?_
    refine lv_bipush (v := 64) hx hb dX2_freeze_3 (by decide) ?_
    refine lv_icmp_ge (tgt := 85) hx hb dX2_freeze_5 (by decide) (fun hc => ?_) (fun hc => ?_)
    · have h := gv_pos hc h
      exact Ke _ (gv_inj h) _ _ _ hP hS (lv_sub hl [] rfl)
    · have h := gv_neg hc h
      refine lv_aload_n hx hb dX2_freeze_8 rfl (lv_at hl 0 rfl) ?_
      refine lv_iload_n hx hb dX2_freeze_9 rfl (lv_at hl 2 rfl) ?_
      refine lv_iconst (v := 0) hx hb dX2_freeze_10 (by decide) ?_
      obtain ⟨v3, hv3, h⟩ := gv_bind_e h
      refine gv_ri (gv_runV (n := 2) (rest := []) C0 (mX2_trait l X s2 v1 (0 : Int32) hv3) gX2_freeze_X2_trait rfl ⟨rfl, rfl⟩ (by decide +kernel) ⟨by decide, by decide⟩ gk_2.1 (by decide) rfl hP hS rfl hl.1 rfl (Nat.le_of_ble_eq_true rfl) dX2_freeze_11 ⟨Nat.zero_le _, Nat.zero_le _⟩) hS (fun H locs hP hS => ?_)
      refine lv_istore_n (lv' := [(3, .int v3), (0, .ref (X.1 2)), (1, .int a1), (2, .int v1)]) hx hb dX2_freeze_14 rfl hl (by decide) rfl (fun ls hl => ?_)
      refine lv_iload_n hx hb dX2_freeze_15 rfl (lv_at hl 0 rfl) ?_
      refine lv_iload_n hx hb dX2_freeze_16 rfl (lv_at hl 2 rfl) ?_
      refine lv_bipush (v := 10) hx hb dX2_freeze_17 (by decide) ?_
      refine lv_aload_n hx hb dX2_freeze_19 rfl (lv_at hl 1 rfl) ?_
      refine lv_iload_n hx hb dX2_freeze_20 rfl (lv_at hl 3 rfl) ?_
      refine lv_iconst (v := 2) hx hb dX2_freeze_21 (by decide) ?_
      obtain ⟨v4, hv4, h⟩ := gv_bind_e h
      refine gv_ri (gv_runV (n := 2) (rest := [.int (10 : Int32), .int a1, .int v3]) C0 (mX2_trait l X s2 v1 (2 : Int32) hv4) gX2_freeze_X2_trait rfl ⟨rfl, rfl⟩ (by decide +kernel) ⟨by decide, by decide⟩ gk_2.1 (by decide) rfl hP hS rfl hl.1 rfl (Nat.le_of_ble_eq_true rfl) dX2_freeze_22 ⟨Nat.zero_le _, Nat.zero_le _⟩) hS (fun H locs hP hS => ?_)
      refine lv_isub hx hb dX2_freeze_25 ?_
      refine lv_imul hx hb dX2_freeze_26 ?_
      refine lv_bipush (v := 10) hx hb dX2_freeze_27 (by decide) ?_
      refine lv_idiv hx hb dX2_freeze_29 (by decide) ?_
      refine lv_iadd hx hb dX2_freeze_30 ?_
      refine lv_iconst (v := 3) hx hb dX2_freeze_31 (by decide) ?_
      refine lv_aload_n hx hb dX2_freeze_32 rfl (lv_at hl 1 rfl) ?_
      refine lv_iload_n hx hb dX2_freeze_33 rfl (lv_at hl 3 rfl) ?_
      refine lv_iconst (v := 3) hx hb dX2_freeze_34 (by decide) ?_
      obtain ⟨v5, hv5, h⟩ := gv_bind_e h
      refine gv_ri (gv_runV (n := 2) (rest := [.int (3 : Int32), .int (v3 + ((a1 * ((10 : Int32) - v4)) / (10 : Int32)))]) C0 (mX2_trait l X s2 v1 (3 : Int32) hv5) gX2_freeze_X2_trait rfl ⟨rfl, rfl⟩ (by decide +kernel) ⟨by decide, by decide⟩ gk_2.1 (by decide) rfl hP hS rfl hl.1 rfl (Nat.le_of_ble_eq_true rfl) dX2_freeze_35 ⟨Nat.zero_le _, Nat.zero_le _⟩) hS (fun H locs hP hS => ?_)
      refine lv_imul hx hb dX2_freeze_38 ?_
      refine lv_isub hx hb dX2_freeze_39 ?_
      refine lv_topi (fun v6 ev6 => ?_)
      have h := gv_let_e ev6 h
      refine lv_istore (lv' := [(4, .int v6), (3, .int v3), (0, .ref (X.1 2)), (1, .int a1), (2, .int v1)]) hx hb dX2_freeze_40 hl (by decide) rfl (fun ls hl => ?_)
      refine lv_iconst (v := 0) hx hb dX2_freeze_42 (by decide) ?_
      refine lv_bipush (v := 99) hx hb dX2_freeze_43 (by decide) ?_
      refine lv_iload hx hb dX2_freeze_45 (lv_at hl 0 rfl) ?_
      refine va_mmin hx hb (hml.trans hl.1.symm) hown (hts (.methodLink RX2 40 Lib.Math.min.name) (by decide +kernel)) (hts (.static Lib.Math.min.name) (by decide +kernel)) (hts (.initialized "java/lang/Math") (by decide +kernel)) (hts (.code Lib.Math.min.name Lib.Math.min.code 2 (some .int)) (by decide +kernel)) (by decide) (Nat.le_of_ble_eq_true rfl) (Nat.zero_le _) (Nat.zero_le _) dX2_freeze_47 ?_
      refine lv_topi (fun v7 ev7 => ?_)
      have h := gv_let_e ev7 h
      refine va_mmax hx hb (hml.trans hl.1.symm) hown (hts (.methodLink RX2 45 Lib.Math.max.name) (by decide +kernel)) (hts (.static Lib.Math.max.name) (by decide +kernel)) (hts (.initialized "java/lang/Math") (by decide +kernel)) (hts (.code Lib.Math.max.name Lib.Math.max.code 2 (some .int)) (by decide +kernel)) (by decide) (Nat.le_of_ble_eq_true rfl) (Nat.zero_le _) (Nat.zero_le _) dX2_freeze_50 ?_
      refine lv_topi (fun v8 ev8 => ?_)
      have h := gv_let_e ev8 h
      refine lv_istore (lv' := [(5, .int v8), (4, .int v6), (3, .int v3), (0, .ref (X.1 2)), (1, .int a1), (2, .int v1)]) hx hb dX2_freeze_53 hl (by decide) rfl (fun ls hl => ?_)
      refine lv_aload_n hx hb dX2_freeze_55 rfl (lv_at hl 3 rfl) ?_
      refine lv_iload_n hx hb dX2_freeze_56 rfl (lv_at hl 5 rfl) ?_
      refine lv_iconst (v := 0) hx hb dX2_freeze_57 (by decide) ?_
      refine lv_iload hx hb dX2_freeze_58 (lv_at hl 0 rfl) ?_
      obtain ⟨s9, hs9, h⟩ := gv_bind_e h
      refine gv_rv (gv_runV (n := 3) (rest := []) C0 (mX2_put l X s2 v1 (0 : Int32) v8 hs9) gX2_freeze_X2_put rfl ⟨rfl, rfl⟩ (by decide +kernel) ⟨by decide, by decide⟩ gk_2.1 (by decide) rfl hP hS rfl hl.1 rfl (Nat.le_of_ble_eq_true rfl) dX2_freeze_60 ⟨Nat.zero_le _, Nat.zero_le _⟩) hS (fun H locs hP hS => ?_)
      refine lv_iload_n hx hb dX2_freeze_63 rfl (lv_at hl 2 rfl) ?_
      refine lv_if_ne (tgt := 79) hx hb dX2_freeze_64 (by decide) (fun hc => ?_) (fun hc => ?_)
      · have h := gv_neg hc h
        obtain ⟨v10, ev10⟩ : ∃ y : Int32, y = (v1 + (1 : Int32)) := ⟨_, rfl⟩
        have h := gv_let_e ev10 h
        refine lv_iinc (v := v10) (lv' := [(2, .int v10), (5, .int v8), (4, .int v6), (3, .int v3), (0, .ref (X.1 2)), (1, .int a1)]) hx hb dX2_freeze_79 hl (k := 5) rfl (by rw [ev10]; rfl) (by decide) rfl (fun ls hl => ?_)
        refine lv_goto (tgt := 2) hx hb dX2_freeze_82 (by decide) ?_
        exact Kc _ (gv_inj h) _ _ _ hP hS (lv_sub hl [4, 5, 0] rfl)
      · have h := gv_pos hc h
        refine lv_iload hx hb dX2_freeze_67 (lv_at hl 0 rfl) ?_
        refine lv_if_le (tgt := 79) hx hb dX2_freeze_69 (by decide) (fun hc => ?_) (fun hc => ?_)
        · have h := gv_pos hc h
          obtain ⟨v11, ev11⟩ : ∃ y : Int32, y = (v1 + (1 : Int32)) := ⟨_, rfl⟩
          have h := gv_let_e ev11 h
          refine lv_iinc (v := v11) (lv' := [(2, .int v11), (5, .int v8), (4, .int v6), (3, .int v3), (0, .ref (X.1 2)), (1, .int a1)]) hx hb dX2_freeze_79 hl (k := 5) rfl (by rw [ev11]; rfl) (by decide) rfl (fun ls hl => ?_)
          refine lv_goto (tgt := 2) hx hb dX2_freeze_82 (by decide) ?_
          exact Kc _ (gv_inj h) _ _ _ hP hS (lv_sub hl [4, 5, 0] rfl)
        · have h := gv_neg hc h
          refine lv_aload_n hx hb dX2_freeze_72 rfl (lv_at hl 3 rfl) ?_
          refine lv_iload_n hx hb dX2_freeze_73 rfl (lv_at hl 5 rfl) ?_
          refine lv_iconst (v := 1) hx hb dX2_freeze_74 (by decide) ?_
          refine lv_iconst (v := 0) hx hb dX2_freeze_75 (by decide) ?_
          obtain ⟨s12, hs12, h⟩ := gv_bind_e h
          refine gv_rv (gv_runV (n := 3) (rest := []) C0 (mX2_put l X s9 v1 (1 : Int32) (0 : Int32) hs12) gX2_freeze_X2_put rfl ⟨rfl, rfl⟩ (by decide +kernel) ⟨by decide, by decide⟩ gk_2.1 (by decide) rfl hP hS rfl hl.1 rfl (Nat.le_of_ble_eq_true rfl) dX2_freeze_76 ⟨Nat.zero_le _, Nat.zero_le _⟩) hS (fun H locs hP hS => ?_)
          obtain ⟨v13, ev13⟩ : ∃ y : Int32, y = (v1 + (1 : Int32)) := ⟨_, rfl⟩
          have h := gv_let_e ev13 h
          refine lv_iinc (v := v13) (lv' := [(2, .int v13), (5, .int v8), (4, .int v6), (3, .int v3), (0, .ref (X.1 2)), (1, .int a1)]) hx hb dX2_freeze_79 hl (k := 5) rfl (by rw [ev13]; rfl) (by decide) rfl (fun ls hl => ?_)
          refine lv_goto (tgt := 2) hx hb dX2_freeze_82 (by decide) ?_
          exact Kc _ (gv_inj h) _ _ _ hP hS (lv_sub hl [4, 5, 0] rfl)
  · obtain ⟨v14, s15⟩ := q15
    have h := gv_let_e (x := v14) rfl h
    have h := gv_let_e (x := s15) rfl h
    intro H locs ls hP hS hl
    have hP : gw_P X s15 H := hP
    have hl : lv_has ls 6 [] := hl
    exact Kr _ _ _ _ _ (gv_inj h) hP hS dX2_freeze_85
theorem mX2_freeze (l : Launch) (X : gw_X) (s0 : gs_S) (a1 : Int32) {τ : gs_S} (h : pX2_freeze a1 s0 = some τ) : Met l yX2_freeze wsX2_freeze rX2_freeze (gm_Pc X s0 [.ref (X.1 2), .int a1]) (gm_Qv X τ) 0 0 (gw_A X) :=
  gm_of RX2 (by decide) rfl rfl (Nat.le_of_ble_eq_true rfl) (fun p e s m below meth c ls C0 hP hl hS => tX2_freeze C0 a1 s0 h (fun H locs ls pc τ hr hP hS hd => by subst hr; exact gm_retv C0 hP hS hd) hP hS hl)
def pX2_total_L4 (a1 : Int32) (s0 : gs_S) (v1 : Int32) (v2 : Int32) : Option ((Int32 × Int32) ⊕ (Int32 × Int32)) := if (64 : Int32) ≤ v2 then some (.inr (v1, v2)) else gv_bind (pX2_trait v2 a1 s0) (fun v3 => gv_let (v1 + v3) (fun v4 => gv_let (v2 + (1 : Int32)) (fun v5 => some (.inl (v4, v5)))))
def pX2_total (a1 : Int32) (s0 : gs_S) : Option (Int32) := gv_bind (gv_loop (fun q => pX2_total_L4 a1 s0 q.1 q.2) gv_N ((0 : Int32), (0 : Int32))) (fun q => gv_let q.1 (fun v6 => gv_let q.2 (fun v7 => some v6)))
def rX2_total : Room := { frames := 1, cells := 0, slots := 0, locals := 22 }
set_option maxHeartbeats 4000000 in
set_option maxRecDepth 100000 in
theorem tX2_total {p : Program} {l : Launch} {e : Env} {s : State} {m : MethodId} {args : Array Value} {below : List Frame} {meth : Method} {c : Code} {X : gw_X} {Q : State → Prop} (C0 : gm_At p s m args meth c X cX2_total 4 RX2 wsX2_total (some .int)) (a1 : Int32) (s0 : gs_S) {z : Int32} (h : pX2_total a1 s0 = some z) (Kr : ∀ (H : Heap) (locs : List Loc) (ls : Array Slot) (pc : Nat) (r : Int32), z = r → gw_P X s0 H → va_S (gw_A X) s.heap H locs → decode cX2_total pc = .ok (.ireturn, 1) → W p l e rX2_total s m args below meth c H locs 0 0 Q (F0 m pc ls [.int r])) {H : Heap} {locs : List Loc} {ls : Array Slot} (hP : gw_P X s0 H) (hS : va_S (gw_A X) s.heap H locs) (hl : lv_has ls 4 [(0, .ref (X.1 2)), (1, .int a1)]) : W p l e rX2_total s m args below meth c H locs 0 0 Q (F0 m 0 ls []) := by
  obtain ⟨hx, hb, hml, hown, hts, hr, hlocks, hC⟩ := id C0
  unfold pX2_total at h
  refine lv_iconst (v := 0) hx hb dX2_total_0 (by decide) ?_
  refine lv_istore_n (lv' := [(2, .int (0 : Int32)), (0, .ref (X.1 2)), (1, .int a1)]) hx hb dX2_total_1 rfl hl (by decide) rfl (fun ls hl => ?_)
  refine lv_iconst (v := 0) hx hb dX2_total_2 (by decide) ?_
  refine lv_istore_n (lv' := [(3, .int (0 : Int32)), (2, .int (0 : Int32)), (0, .ref (X.1 2)), (1, .int a1)]) hx hb dX2_total_3 rfl hl (by decide) rfl (fun ls hl => ?_)
  obtain ⟨q7, hq7, h⟩ := gv_bind_e h
  refine gv_loop_ind (Φ := fun q => ∀ (H : Heap) (locs : List Loc) (ls : Array Slot), gw_P X s0 H → va_S (gw_A X) s.heap H locs → lv_has ls 4 [(0, .ref (X.1 2)), (1, .int a1), (2, .int q.1), (3, .int q.2)] → W p l e rX2_total s m args below meth c H locs 0 0 Q (F0 m 4 ls [])) (Ψ := fun q => ∀ (H : Heap) (locs : List Loc) (ls : Array Slot), gw_P X s0 H → va_S (gw_A X) s.heap H locs → lv_has ls 4 [(2, .int q.1)] → W p l e rX2_total s m args below meth c H locs 0 0 Q (F0 m 25 ls [])) ?_ gv_N ((0 : Int32), (0 : Int32)) q7 hq7 ?_ H locs ls hP hS (lv_sub hl [2, 3, 1, 0] rfl)
  · intro q x h Kc Ke H locs ls hP hS hl
    obtain ⟨v1, v2⟩ := q
    have h : pX2_total_L4 a1 s0 v1 v2 = some x := h
    have hP : gw_P X s0 H := hP
    have hl : lv_has ls 4 [(0, .ref (X.1 2)), (1, .int a1), (2, .int v1), (3, .int v2)] := hl
    unfold pX2_total_L4 at h
    refine lv_iload_n hx hb dX2_total_4 rfl (lv_at hl 3 rfl) ?_
    refine lv_bipush (v := 64) hx hb dX2_total_5 (by decide) ?_
    refine lv_icmp_ge (tgt := 25) hx hb dX2_total_7 (by decide) (fun hc => ?_) (fun hc => ?_)
    · have h := gv_pos hc h
      exact Ke _ (gv_inj h) _ _ _ hP hS (lv_sub hl [2] rfl)
    · have h := gv_neg hc h
      refine lv_iload_n hx hb dX2_total_10 rfl (lv_at hl 2 rfl) ?_
      refine lv_aload_n hx hb dX2_total_11 rfl (lv_at hl 0 rfl) ?_
      refine lv_iload_n hx hb dX2_total_12 rfl (lv_at hl 3 rfl) ?_
      refine lv_iload_n hx hb dX2_total_13 rfl (lv_at hl 1 rfl) ?_
      obtain ⟨v3, hv3, h⟩ := gv_bind_e h
      refine gv_ri (gv_runV (n := 2) (rest := [.int v1]) C0 (mX2_trait l X s0 v2 a1 hv3) gX2_total_X2_trait rfl ⟨rfl, rfl⟩ (by decide +kernel) ⟨by decide, by decide⟩ gk_2.1 (by decide) rfl hP hS rfl hl.1 rfl (Nat.le_of_ble_eq_true rfl) dX2_total_14 ⟨Nat.zero_le _, Nat.zero_le _⟩) hS (fun H locs hP hS => ?_)
      refine lv_iadd hx hb dX2_total_17 ?_
      refine lv_topi (fun v4 ev4 => ?_)
      have h := gv_let_e ev4 h
      refine lv_istore_n (lv' := [(2, .int v4), (0, .ref (X.1 2)), (1, .int a1), (3, .int v2)]) hx hb dX2_total_18 rfl hl (by decide) rfl (fun ls hl => ?_)
      obtain ⟨v5, ev5⟩ : ∃ y : Int32, y = (v2 + (1 : Int32)) := ⟨_, rfl⟩
      have h := gv_let_e ev5 h
      refine lv_iinc (v := v5) (lv' := [(3, .int v5), (2, .int v4), (0, .ref (X.1 2)), (1, .int a1)]) hx hb dX2_total_19 hl (k := 3) rfl (by rw [ev5]; rfl) (by decide) rfl (fun ls hl => ?_)
      refine lv_goto (tgt := 4) hx hb dX2_total_22 (by decide) ?_
      exact Kc _ (gv_inj h) _ _ _ hP hS (lv_sub hl [2, 3, 1, 0] rfl)
  · obtain ⟨v6, v7⟩ := q7
    have h := gv_let_e (x := v6) rfl h
    have h := gv_let_e (x := v7) rfl h
    intro H locs ls hP hS hl
    have hP : gw_P X s0 H := hP
    have hl : lv_has ls 4 [(2, .int v6)] := hl
    refine lv_iload_n hx hb dX2_total_25 rfl (lv_at hl 0 rfl) ?_
    exact Kr _ _ _ _ _ (gv_inj h) hP hS dX2_total_26
theorem mX2_total (l : Launch) (X : gw_X) (s0 : gs_S) (a1 : Int32) {r : Int32} (h : pX2_total a1 s0 = some r) : Met l yX2_total wsX2_total rX2_total (gm_Pc X s0 [.ref (X.1 2), .int a1]) (gm_Qi X s0 r) 0 0 (gw_A X) :=
  gm_of RX2 (by decide) rfl rfl (Nat.le_of_ble_eq_true rfl) (fun p e s m below meth c ls C0 hP hl hS => tX2_total C0 a1 s0 h (fun H locs ls pc r hr hP hS hd => by subst hr; exact gm_reti C0 hP hS hd) hP hS hl)
def pX10_days_L26 (a2 : Int32) (a1 : Int32) (v1 : Int32) (s2 : gs_S) : Option ((Int32 × gs_S) ⊕ (Int32 × gs_S)) := if a2 ≤ v1 then some (.inr (v1, s2)) else gv_bind (pX2_freeze a1 s2) (fun s3 => gv_let (v1 + (1 : Int32)) (fun v4 => some (.inl (v4, s3))))
def pX10_days (a1 : Int32) (a2 : Int32) (s0 : gs_S) : Option (Int32 × gs_S) := if (pX10_isWithin (a1.toInt64) (0 : Int32) (9 : Int32)) = 0 then some ((-1 : Int32), s0) else if (pX10_isWithin (a2.toInt64) (1 : Int32) (30 : Int32)) = 0 then some ((-1 : Int32), s0) else gv_bind (gv_loop (fun q => pX10_days_L26 a2 a1 q.1 q.2) gv_N ((0 : Int32), s0)) (fun q => gv_let q.1 (fun v5 => gv_let q.2 (fun s6 => gv_bind (pX2_total (0 : Int32) s6) (fun v7 => some (v7, s6)))))
def rX10_days : Room := { frames := 2, cells := 0, slots := 0, locals := 65 }
set_option maxHeartbeats 4000000 in
set_option maxRecDepth 100000 in
theorem tX10_days {p : Program} {l : Launch} {e : Env} {s : State} {m : MethodId} {args : Array Value} {below : List Frame} {meth : Method} {c : Code} {X : gw_X} {Q : State → Prop} (C0 : gm_At p s m args meth c X cX10_days 4 RX10 wsX10_days (some .int)) (a1 : Int32) (a2 : Int32) (s0 : gs_S) {z : Int32 × gs_S} (h : pX10_days a1 a2 s0 = some z) (Kr : ∀ (H : Heap) (locs : List Loc) (ls : Array Slot) (pc : Nat) (r : Int32) (τ : gs_S), z = (r, τ) → gw_P X τ H → va_S (gw_A X) s.heap H locs → decode cX10_days pc = .ok (.ireturn, 1) → W p l e rX10_days s m args below meth c H locs 0 0 Q (F0 m pc ls [.int r])) {H : Heap} {locs : List Loc} {ls : Array Slot} (hP : gw_P X s0 H) (hS : va_S (gw_A X) s.heap H locs) (hl : lv_has ls 4 [(0, .ref (X.1 0)), (1, .int a1), (2, .int a2)]) : W p l e rX10_days s m args below meth c H locs 0 0 Q (F0 m 0 ls []) := by
  obtain ⟨hx, hb, hml, hown, hts, hr, hlocks, hC⟩ := id C0
  unfold pX10_days at h
  refine lv_iload_n hx hb dX10_days_0 rfl (lv_at hl 1 rfl) ?_
  refine lv_i2l hx hb dX10_days_1 rfl ?_
  refine lv_iconst (v := 0) hx hb dX10_days_2 (by decide) ?_
  refine lv_bipush (v := 9) hx hb dX10_days_3 (by decide) ?_
  refine gv_ri (gv_runS (n := 3) (rest := []) C0 (mX10_isWithin l X s0 (a1.toInt64) (0 : Int32) (9 : Int32)) gX10_days_X10_isWithin rfl ⟨rfl, rfl⟩ (by decide +kernel) ⟨by decide, by decide⟩ hP hS rfl hl.1 rfl (Nat.le_of_ble_eq_true rfl) dX10_days_5 ⟨Nat.zero_le _, Nat.zero_le _⟩) hS (fun H locs hP hS => ?_)
  refine lv_if_eq (tgt := 22) hx hb dX10_days_8 (by decide) (fun hc => ?_) (fun hc => ?_)
  · have h := gv_pos hc h
    refine lv_iconst (v := -1) hx hb dX10_days_22 (by decide) ?_
    exact Kr _ _ _ _ _ _ (gv_inj h) hP hS dX10_days_23
  · have h := gv_neg hc h
    refine lv_iload_n hx hb dX10_days_11 rfl (lv_at hl 2 rfl) ?_
    refine lv_i2l hx hb dX10_days_12 rfl ?_
    refine lv_iconst (v := 1) hx hb dX10_days_13 (by decide) ?_
    refine lv_bipush (v := 30) hx hb dX10_days_14 (by decide) ?_
    refine gv_ri (gv_runS (n := 3) (rest := []) C0 (mX10_isWithin l X s0 (a2.toInt64) (1 : Int32) (30 : Int32)) gX10_days_X10_isWithin rfl ⟨rfl, rfl⟩ (by decide +kernel) ⟨by decide, by decide⟩ hP hS rfl hl.1 rfl (Nat.le_of_ble_eq_true rfl) dX10_days_16 ⟨Nat.zero_le _, Nat.zero_le _⟩) hS (fun H locs hP hS => ?_)
    refine lv_if_ne (tgt := 24) hx hb dX10_days_19 (by decide) (fun hc => ?_) (fun hc => ?_)
    · have h := gv_neg hc h
      refine lv_iconst (v := 0) hx hb dX10_days_24 (by decide) ?_
      refine lv_istore_n (lv' := [(3, .int (0 : Int32)), (0, .ref (X.1 0)), (1, .int a1), (2, .int a2)]) hx hb dX10_days_25 rfl hl (by decide) rfl (fun ls hl => ?_)
      obtain ⟨q7, hq7, h⟩ := gv_bind_e h
      refine gv_loop_ind (Φ := fun q => ∀ (H : Heap) (locs : List Loc) (ls : Array Slot), gw_P X q.2 H → va_S (gw_A X) s.heap H locs → lv_has ls 4 [(0, .ref (X.1 0)), (1, .int a1), (2, .int a2), (3, .int q.1)] → W p l e rX10_days s m args below meth c H locs 0 0 Q (F0 m 26 ls [])) (Ψ := fun q => ∀ (H : Heap) (locs : List Loc) (ls : Array Slot), gw_P X q.2 H → va_S (gw_A X) s.heap H locs → lv_has ls 4 [(0, .ref (X.1 0))] → W p l e rX10_days s m args below meth c H locs 0 0 Q (F0 m 48 ls [])) ?_ gv_N ((0 : Int32), s0) q7 hq7 ?_ H locs ls hP hS (lv_sub hl [1, 2, 3, 0] rfl)
      · intro q x h Kc Ke H locs ls hP hS hl
        obtain ⟨v1, s2⟩ := q
        have h : pX10_days_L26 a2 a1 v1 s2 = some x := h
        have hP : gw_P X s2 H := hP
        have hl : lv_has ls 4 [(0, .ref (X.1 0)), (1, .int a1), (2, .int a2), (3, .int v1)] := hl
        unfold pX10_days_L26 at h
        refine lv_iload_n hx hb dX10_days_26 rfl (lv_at hl 3 rfl) ?_
        refine lv_iload_n hx hb dX10_days_27 rfl (lv_at hl 2 rfl) ?_
        refine lv_icmp_ge (tgt := 48) hx hb dX10_days_28 (by decide) (fun hc => ?_) (fun hc => ?_)
        · have h := gv_pos hc h
          exact Ke _ (gv_inj h) _ _ _ hP hS (lv_sub hl [0] rfl)
        · have h := gv_neg hc h
          refine lv_aload_n hx hb dX10_days_31 rfl (lv_at hl 0 rfl) ?_
          refine gv_get (ref := "IceByEar") (C := RX10) (T := TX10) (N := 8) (ci := 10) (v := .ref (X.1 1)) C0 (fun _ h9 => List.mem_cons_of_mem _ (List.mem_append_left _ (List.mem_append_left _ (List.mem_append_right _ h9)))) hP 0 (gw_o10 X s2 gk_0.1) rfl 0 (by decide) (by decide +kernel) rfl rfl dX10_days_32 ?_
          refine gv_get (ref := "IceByEar$Scene") (C := RX4) (T := TX4) (N := 6) (ci := 4) (v := .ref (X.1 2)) C0 (fun _ h9 => List.mem_cons_of_mem _ (List.mem_append_left _ (List.mem_append_right _ h9))) hP 1 (gw_o4 X s2 gk_1.1) rfl 0 (by decide) (by decide +kernel) rfl rfl dX10_days_35 ?_
          refine lv_iload_n hx hb dX10_days_38 rfl (lv_at hl 1 rfl) ?_
          obtain ⟨s3, hs3, h⟩ := gv_bind_e h
          refine gv_rv (gv_runV (n := 1) (rest := []) C0 (mX2_freeze l X s2 a1 hs3) gX10_days_X2_freeze rfl ⟨rfl, rfl⟩ (by decide +kernel) ⟨by decide, by decide⟩ gk_2.1 (by decide) rfl hP hS rfl hl.1 rfl (Nat.le_of_ble_eq_true rfl) dX10_days_39 ⟨Nat.zero_le _, Nat.zero_le _⟩) hS (fun H locs hP hS => ?_)
          obtain ⟨v4, ev4⟩ : ∃ y : Int32, y = (v1 + (1 : Int32)) := ⟨_, rfl⟩
          have h := gv_let_e ev4 h
          refine lv_iinc (v := v4) (lv' := [(3, .int v4), (0, .ref (X.1 0)), (1, .int a1), (2, .int a2)]) hx hb dX10_days_42 hl (k := 3) rfl (by rw [ev4]; rfl) (by decide) rfl (fun ls hl => ?_)
          refine lv_goto (tgt := 26) hx hb dX10_days_45 (by decide) ?_
          exact Kc _ (gv_inj h) _ _ _ hP hS (lv_sub hl [1, 2, 3, 0] rfl)
      · obtain ⟨v5, s6⟩ := q7
        have h := gv_let_e (x := v5) rfl h
        have h := gv_let_e (x := s6) rfl h
        intro H locs ls hP hS hl
        have hP : gw_P X s6 H := hP
        have hl : lv_has ls 4 [(0, .ref (X.1 0))] := hl
        refine lv_aload_n hx hb dX10_days_48 rfl (lv_at hl 0 rfl) ?_
        refine gv_get (ref := "IceByEar") (C := RX10) (T := TX10) (N := 8) (ci := 10) (v := .ref (X.1 1)) C0 (fun _ h9 => List.mem_cons_of_mem _ (List.mem_append_left _ (List.mem_append_left _ (List.mem_append_right _ h9)))) hP 0 (gw_o10 X s6 gk_0.1) rfl 0 (by decide) (by decide +kernel) rfl rfl dX10_days_49 ?_
        refine gv_get (ref := "IceByEar$Scene") (C := RX4) (T := TX4) (N := 6) (ci := 4) (v := .ref (X.1 2)) C0 (fun _ h9 => List.mem_cons_of_mem _ (List.mem_append_left _ (List.mem_append_right _ h9))) hP 1 (gw_o4 X s6 gk_1.1) rfl 0 (by decide) (by decide +kernel) rfl rfl dX10_days_52 ?_
        refine lv_iconst (v := 0) hx hb dX10_days_55 (by decide) ?_
        obtain ⟨v7, hv7, h⟩ := gv_bind_e h
        refine gv_ri (gv_runV (n := 1) (rest := []) C0 (mX2_total l X s6 (0 : Int32) hv7) gX10_days_X2_total rfl ⟨rfl, rfl⟩ (by decide +kernel) ⟨by decide, by decide⟩ gk_2.1 (by decide) rfl hP hS rfl hl.1 rfl (Nat.le_of_ble_eq_true rfl) dX10_days_56 ⟨Nat.zero_le _, Nat.zero_le _⟩) hS (fun H locs hP hS => ?_)
        exact Kr _ _ _ _ _ _ (gv_inj h) hP hS dX10_days_59
    · have h := gv_pos hc h
      refine lv_iconst (v := -1) hx hb dX10_days_22 (by decide) ?_
      exact Kr _ _ _ _ _ _ (gv_inj h) hP hS dX10_days_23
theorem mX10_days (l : Launch) (X : gw_X) (s0 : gs_S) (a1 : Int32) (a2 : Int32) {r : Int32} {τ : gs_S} (h : pX10_days a1 a2 s0 = some (r, τ)) : Met l yX10_days wsX10_days rX10_days (gm_Pc X s0 [.ref (X.1 0), .int a1, .int a2]) (gm_Qi X τ r) 0 0 (gw_A X) :=
  gm_of RX10 (by decide) rfl rfl (Nat.le_of_ble_eq_true rfl) (fun p e s m below meth c ls C0 hP hl hS => tX10_days C0 a1 a2 s0 h (fun H locs ls pc r τ hr hP hS hd => by cases hr; exact gm_reti C0 hP hS hd) hP hS hl)
def pX10_set_J44 (a1 : Int32) (s0 : gs_S) (a2 : Int32) (v1 : Int32) : Option (Int32 × gs_S) := if a1 = 0 then gv_let (gs_u s0 1 4 a2) (fun s3 => some (v1, s3)) else gv_let (gs_u s0 1 5 a2) (fun s2 => some (v1, s2))
def pX10_set (a1 : Int32) (a2 : Int32) (s0 : gs_S) : Option (Int32 × gs_S) := if (pX10_isWithin (a1.toInt64) (0 : Int32) (1 : Int32)) = 0 then some ((-1 : Int32), s0) else if (pX10_isWithin (a2.toInt64) (0 : Int32) (99 : Int32)) = 0 then some ((-1 : Int32), s0) else if a1 = 0 then pX10_set_J44 a1 s0 a2 (s0.1 1 4) else pX10_set_J44 a1 s0 a2 (s0.1 1 5)
def rX10_set : Room := { frames := 1, cells := 0, slots := 0, locals := 23 }
set_option maxHeartbeats 4000000 in
set_option maxRecDepth 100000 in
theorem tX10_set {p : Program} {l : Launch} {e : Env} {s : State} {m : MethodId} {args : Array Value} {below : List Frame} {meth : Method} {c : Code} {X : gw_X} {Q : State → Prop} (C0 : gm_At p s m args meth c X cX10_set 4 RX10 wsX10_set (some .int)) (a1 : Int32) (a2 : Int32) (s0 : gs_S) {z : Int32 × gs_S} (h : pX10_set a1 a2 s0 = some z) (Kr : ∀ (H : Heap) (locs : List Loc) (ls : Array Slot) (pc : Nat) (r : Int32) (τ : gs_S), z = (r, τ) → gw_P X τ H → va_S (gw_A X) s.heap H locs → decode cX10_set pc = .ok (.ireturn, 1) → W p l e rX10_set s m args below meth c H locs 0 0 Q (F0 m pc ls [.int r])) {H : Heap} {locs : List Loc} {ls : Array Slot} (hP : gw_P X s0 H) (hS : va_S (gw_A X) s.heap H locs) (hl : lv_has ls 4 [(0, .ref (X.1 0)), (1, .int a1), (2, .int a2)]) : W p l e rX10_set s m args below meth c H locs 0 0 Q (F0 m 0 ls []) := by
  obtain ⟨hx, hb, hml, hown, hts, hr, hlocks, hC⟩ := id C0
  unfold pX10_set at h
  refine lv_iload_n hx hb dX10_set_0 rfl (lv_at hl 1 rfl) ?_
  refine lv_i2l hx hb dX10_set_1 rfl ?_
  refine lv_iconst (v := 0) hx hb dX10_set_2 (by decide) ?_
  refine lv_iconst (v := 1) hx hb dX10_set_3 (by decide) ?_
  refine gv_ri (gv_runS (n := 3) (rest := []) C0 (mX10_isWithin l X s0 (a1.toInt64) (0 : Int32) (1 : Int32)) gX10_set_X10_isWithin rfl ⟨rfl, rfl⟩ (by decide +kernel) ⟨by decide, by decide⟩ hP hS rfl hl.1 rfl (Nat.le_of_ble_eq_true rfl) dX10_set_4 ⟨Nat.zero_le _, Nat.zero_le _⟩) hS (fun H locs hP hS => ?_)
  refine lv_if_eq (tgt := 21) hx hb dX10_set_7 (by decide) (fun hc => ?_) (fun hc => ?_)
  · have h := gv_pos hc h
    refine lv_iconst (v := -1) hx hb dX10_set_21 (by decide) ?_
    exact Kr _ _ _ _ _ _ (gv_inj h) hP hS dX10_set_22
  · have h := gv_neg hc h
    refine lv_iload_n hx hb dX10_set_10 rfl (lv_at hl 2 rfl) ?_
    refine lv_i2l hx hb dX10_set_11 rfl ?_
    refine lv_iconst (v := 0) hx hb dX10_set_12 (by decide) ?_
    refine lv_bipush (v := 99) hx hb dX10_set_13 (by decide) ?_
    refine gv_ri (gv_runS (n := 3) (rest := []) C0 (mX10_isWithin l X s0 (a2.toInt64) (0 : Int32) (99 : Int32)) gX10_set_X10_isWithin rfl ⟨rfl, rfl⟩ (by decide +kernel) ⟨by decide, by decide⟩ hP hS rfl hl.1 rfl (Nat.le_of_ble_eq_true rfl) dX10_set_15 ⟨Nat.zero_le _, Nat.zero_le _⟩) hS (fun H locs hP hS => ?_)
    refine lv_if_ne (tgt := 23) hx hb dX10_set_18 (by decide) (fun hc => ?_) (fun hc => ?_)
    · have h := gv_neg hc h
      refine lv_iload_n hx hb dX10_set_23 rfl (lv_at hl 1 rfl) ?_
      have J44 : ∀ (v1 : Int32) (H : Heap) (locs : List Loc) (ls : Array Slot), pX10_set_J44 a1 s0 a2 v1 = some z → gw_P X s0 H → va_S (gw_A X) s.heap H locs → lv_has ls 4 [(0, .ref (X.1 0)), (1, .int a1), (2, .int a2)] → W p l e rX10_set s m args below meth c H locs 0 0 Q (F0 m 44 ls [.int v1]) := by
        intro v1 H locs ls h hP hS hl
        unfold pX10_set_J44 at h
        refine lv_istore_n (lv' := [(3, .int v1), (0, .ref (X.1 0)), (1, .int a1), (2, .int a2)]) hx hb dX10_set_44 rfl hl (by decide) rfl (fun ls hl => ?_)
        refine lv_iload_n hx hb dX10_set_45 rfl (lv_at hl 2 rfl) ?_
        refine lv_if_ne (tgt := 60) hx hb dX10_set_46 (by decide) (fun hc => ?_) (fun hc => ?_)
        · have h := gv_neg hc h
          refine lv_aload_n hx hb dX10_set_60 rfl (lv_at hl 1 rfl) ?_
          refine gv_get (ref := "IceByEar") (C := RX10) (T := TX10) (N := 8) (ci := 10) (v := .ref (X.1 1)) C0 (fun _ h9 => List.mem_cons_of_mem _ (List.mem_append_left _ (List.mem_append_right _ h9))) hP 0 (gw_o10 X s0 gk_0.1) rfl 0 (by decide) (by decide +kernel) rfl rfl dX10_set_61 ?_
          refine lv_iload_n hx hb dX10_set_64 rfl (lv_at hl 3 rfl) ?_
          refine gv_put (ref := "IceByEar$Scene") (C := RX4) (T := TX4) (N := 6) (ci := 4) (v := .int a2) C0 (fun _ h9 => List.mem_cons_of_mem _ (List.mem_append_right _ h9)) tyX4 tyX4_ok nmX4 hP hS 1 (gw_o4 X s0 gk_1.1) rfl 5 (by decide) (by decide +kernel) rfl rfl (tyX4_ok 5 (by decide)) rfl rfl (Nat.le_of_ble_eq_true rfl) (gw_s4_5 gk_1.1 a2) dX10_set_65 (fun s2 H locs es2 hP hS => ?_)
          have h := gv_let_e es2 h
          refine lv_iload_n hx hb dX10_set_68 rfl (lv_at hl 0 rfl) ?_
          exact Kr _ _ _ _ _ _ (gv_inj h) hP hS dX10_set_69
        · have h := gv_pos hc h
          refine lv_aload_n hx hb dX10_set_49 rfl (lv_at hl 1 rfl) ?_
          refine gv_get (ref := "IceByEar") (C := RX10) (T := TX10) (N := 8) (ci := 10) (v := .ref (X.1 1)) C0 (fun _ h9 => List.mem_cons_of_mem _ (List.mem_append_left _ (List.mem_append_right _ h9))) hP 0 (gw_o10 X s0 gk_0.1) rfl 0 (by decide) (by decide +kernel) rfl rfl dX10_set_50 ?_
          refine lv_iload_n hx hb dX10_set_53 rfl (lv_at hl 3 rfl) ?_
          refine gv_put (ref := "IceByEar$Scene") (C := RX4) (T := TX4) (N := 6) (ci := 4) (v := .int a2) C0 (fun _ h9 => List.mem_cons_of_mem _ (List.mem_append_right _ h9)) tyX4 tyX4_ok nmX4 hP hS 1 (gw_o4 X s0 gk_1.1) rfl 4 (by decide) (by decide +kernel) rfl rfl (tyX4_ok 4 (by decide)) rfl rfl (Nat.le_of_ble_eq_true rfl) (gw_s4_4 gk_1.1 a2) dX10_set_54 (fun s3 H locs es3 hP hS => ?_)
          have h := gv_let_e es3 h
          refine lv_goto (tgt := 68) hx hb dX10_set_57 (by decide) ?_
          refine lv_iload_n hx hb dX10_set_68 rfl (lv_at hl 0 rfl) ?_
          exact Kr _ _ _ _ _ _ (gv_inj h) hP hS dX10_set_69
      refine lv_if_ne (tgt := 37) hx hb dX10_set_24 (by decide) (fun hc => ?_) (fun hc => ?_)
      · have h := gv_neg hc h
        refine lv_aload_n hx hb dX10_set_37 rfl (lv_at hl 0 rfl) ?_
        refine gv_get (ref := "IceByEar") (C := RX10) (T := TX10) (N := 8) (ci := 10) (v := .ref (X.1 1)) C0 (fun _ h9 => List.mem_cons_of_mem _ (List.mem_append_left _ (List.mem_append_right _ h9))) hP 0 (gw_o10 X s0 gk_0.1) rfl 0 (by decide) (by decide +kernel) rfl rfl dX10_set_38 ?_
        refine gv_get (ref := "IceByEar$Scene") (C := RX4) (T := TX4) (N := 6) (ci := 4) (v := .int (s0.1 1 5)) C0 (fun _ h9 => List.mem_cons_of_mem _ (List.mem_append_right _ h9)) hP 1 (gw_o4 X s0 gk_1.1) rfl 5 (by decide) (by decide +kernel) rfl rfl dX10_set_41 ?_
        exact J44 (s0.1 1 5) _ _ _ h hP hS (lv_sub hl [0, 1, 2] rfl)
      · have h := gv_pos hc h
        refine lv_aload_n hx hb dX10_set_27 rfl (lv_at hl 0 rfl) ?_
        refine gv_get (ref := "IceByEar") (C := RX10) (T := TX10) (N := 8) (ci := 10) (v := .ref (X.1 1)) C0 (fun _ h9 => List.mem_cons_of_mem _ (List.mem_append_left _ (List.mem_append_right _ h9))) hP 0 (gw_o10 X s0 gk_0.1) rfl 0 (by decide) (by decide +kernel) rfl rfl dX10_set_28 ?_
        refine gv_get (ref := "IceByEar$Scene") (C := RX4) (T := TX4) (N := 6) (ci := 4) (v := .int (s0.1 1 4)) C0 (fun _ h9 => List.mem_cons_of_mem _ (List.mem_append_right _ h9)) hP 1 (gw_o4 X s0 gk_1.1) rfl 4 (by decide) (by decide +kernel) rfl rfl dX10_set_31 ?_
        refine lv_goto (tgt := 44) hx hb dX10_set_34 (by decide) ?_
        exact J44 (s0.1 1 4) _ _ _ h hP hS (lv_sub hl [0, 1, 2] rfl)
    · have h := gv_pos hc h
      refine lv_iconst (v := -1) hx hb dX10_set_21 (by decide) ?_
      exact Kr _ _ _ _ _ _ (gv_inj h) hP hS dX10_set_22
theorem mX10_set (l : Launch) (X : gw_X) (s0 : gs_S) (a1 : Int32) (a2 : Int32) {r : Int32} {τ : gs_S} (h : pX10_set a1 a2 s0 = some (r, τ)) : Met l yX10_set wsX10_set rX10_set (gm_Pc X s0 [.ref (X.1 0), .int a1, .int a2]) (gm_Qi X τ r) 0 0 (gw_A X) :=
  gm_of RX10 (by decide) rfl rfl (Nat.le_of_ble_eq_true rfl) (fun p e s m below meth c ls C0 hP hl hS => tX10_set C0 a1 a2 s0 h (fun H locs ls pc r τ hr hP hS hd => by cases hr; exact gm_reti C0 hP hS hd) hP hS hl)
def pX10_byteOf (a0 : Int64) (a2 : Int32) : Int32 := ((((a0.toUInt64 >>> (((8 : Int32) * a2).toInt64.toUInt64 &&& Int64.toUInt64 63)).toInt64).toInt32) &&& (255 : Int32))
def rX10_byteOf : Room := { frames := 0, cells := 0, slots := 0, locals := 0 }
set_option maxHeartbeats 4000000 in
set_option maxRecDepth 100000 in
theorem tX10_byteOf {p : Program} {l : Launch} {e : Env} {s : State} {m : MethodId} {args : Array Value} {below : List Frame} {meth : Method} {c : Code} {X : gw_X} {Q : State → Prop} (C0 : gm_At p s m args meth c X cX10_byteOf 3 RX10 wsX10_byteOf (some .int)) (a0 : Int64) (a2 : Int32) (s0 : gs_S) {z : Int32} (h : pX10_byteOf a0 a2 = z) (Kr : ∀ (H : Heap) (locs : List Loc) (ls : Array Slot) (pc : Nat) (r : Int32), z = r → gw_P X s0 H → va_S (gw_A X) s.heap H locs → decode cX10_byteOf pc = .ok (.ireturn, 1) → W p l e rX10_byteOf s m args below meth c H locs 0 0 Q (F0 m pc ls [.int r])) {H : Heap} {locs : List Loc} {ls : Array Slot} (hP : gw_P X s0 H) (hS : va_S (gw_A X) s.heap H locs) (hl : lv_has ls 3 [(0, .long a0), (2, .int a2)]) : W p l e rX10_byteOf s m args below meth c H locs 0 0 Q (F0 m 0 ls []) := by
  obtain ⟨hx, hb, hml, hown, hts, hr, hlocks, hC⟩ := id C0
  unfold pX10_byteOf at h
  refine lv_lload_n hx hb dX10_byteOf_0 rfl (lv_at hl 0 rfl) ?_
  refine lv_bipush (v := 8) hx hb dX10_byteOf_1 (by decide) ?_
  refine lv_iload_n hx hb dX10_byteOf_3 rfl (lv_at hl 1 rfl) ?_
  refine lv_imul hx hb dX10_byteOf_4 ?_
  refine lv_lushr hx hb dX10_byteOf_5 rfl ?_
  refine lv_l2i hx hb dX10_byteOf_6 rfl ?_
  refine lv_sipush (v := 255) hx hb dX10_byteOf_7 (by decide) ?_
  refine lv_iand hx hb dX10_byteOf_10 ?_
  exact Kr _ _ _ _ _ h.symm hP hS dX10_byteOf_11
theorem mX10_byteOf (l : Launch) (X : gw_X) (s0 : gs_S) (a0 : Int64) (a2 : Int32) : Met l yX10_byteOf wsX10_byteOf rX10_byteOf (gm_Pc X s0 [.long a0, .int a2]) (gm_Qi X s0 (pX10_byteOf a0 a2)) 0 0 (gw_A X) :=
  gm_of RX10 (by decide) rfl rfl (Nat.le_of_ble_eq_true rfl) (fun p e s m below meth c ls C0 hP hl hS => tX10_byteOf C0 a0 a2 s0 rfl (fun H locs ls pc r hr hP hS hd => by subst hr; exact gm_reti C0 hP hS hd) hP hS hl)
def pX7_add (a1 : Int32) (s0 : gs_S) : Option (gs_S) := gv_in (s0.1 29 1) 140 (gv_let (gs_u s0 30 (s0.1 29 1).toNatClampNeg (vp_nar .byte (a1.toInt8.toInt32))) (fun s2 => gv_let (gs_u s2 29 1 ((s2.1 29 1) + (1 : Int32))) (fun s3 => some s3)))
def rX7_add : Room := { frames := 0, cells := 0, slots := 0, locals := 0 }
set_option maxHeartbeats 4000000 in
set_option maxRecDepth 100000 in
theorem tX7_add {p : Program} {l : Launch} {e : Env} {s : State} {m : MethodId} {args : Array Value} {below : List Frame} {meth : Method} {c : Code} {X : gw_X} {Q : State → Prop} (C0 : gm_At p s m args meth c X cX7_add 2 RX7 wsX7_add none) (a1 : Int32) (s0 : gs_S) {z : gs_S} (h : pX7_add a1 s0 = some z) (Kr : ∀ (H : Heap) (locs : List Loc) (ls : Array Slot) (pc : Nat) (τ : gs_S), z = τ → gw_P X τ H → va_S (gw_A X) s.heap H locs → decode cX7_add pc = .ok (.return_, 1) → W p l e rX7_add s m args below meth c H locs 0 0 Q (F0 m pc ls [])) {H : Heap} {locs : List Loc} {ls : Array Slot} (hP : gw_P X s0 H) (hS : va_S (gw_A X) s.heap H locs) (hl : lv_has ls 2 [(0, .ref (X.1 29)), (1, .int a1)]) : W p l e rX7_add s m args below meth c H locs 0 0 Q (F0 m 0 ls []) := by
  obtain ⟨hx, hb, hml, hown, hts, hr, hlocks, hC⟩ := id C0
  unfold pX7_add at h
  refine lv_aload_n hx hb dX7_add_0 rfl (lv_at hl 0 rfl) ?_
  refine gv_get (ref := "IceByEar$Tape") (C := RX7) (T := TX7) (N := 3) (ci := 7) (v := .ref (X.1 30)) C0 (fun _ h9 => List.mem_cons_of_mem _ (List.mem_append_right _ h9)) hP 29 (gw_o7 X s0 gk_29.1) rfl 0 (by decide) (by decide +kernel) rfl rfl dX7_add_1 ?_
  refine lv_aload_n hx hb dX7_add_4 rfl (lv_at hl 0 rfl) ?_
  refine gv_get (ref := "IceByEar$Tape") (C := RX7) (T := TX7) (N := 3) (ci := 7) (v := .int (s0.1 29 1)) C0 (fun _ h9 => List.mem_cons_of_mem _ (List.mem_append_right _ h9)) hP 29 (gw_o7 X s0 gk_29.1) rfl 1 (by decide) (by decide +kernel) rfl rfl dX7_add_5 ?_
  refine lv_iload_n hx hb dX7_add_8 rfl (lv_at hl 1 rfl) ?_
  refine lv_i2b hx hb dX7_add_9 rfl ?_
  obtain ⟨hin1, h⟩ := gv_in_e h
  refine gv_bast C0 hP hS 30 gk_30.1 gk_30.2 hin1 dX7_add_10 (fun s2 H locs es2 hP hS => ?_)
  have h := gv_let_e es2 h
  refine lv_aload_n hx hb dX7_add_11 rfl (lv_at hl 0 rfl) ?_
  refine lv_dup hx hb dX7_add_12 rfl ?_
  refine gv_get (ref := "IceByEar$Tape") (C := RX7) (T := TX7) (N := 3) (ci := 7) (v := .int (s2.1 29 1)) C0 (fun _ h9 => List.mem_cons_of_mem _ (List.mem_append_right _ h9)) hP 29 (gw_o7 X s2 gk_29.1) rfl 1 (by decide) (by decide +kernel) rfl rfl dX7_add_13 ?_
  refine lv_iconst (v := 1) hx hb dX7_add_16 (by decide) ?_
  refine lv_iadd hx hb dX7_add_17 ?_
  refine gv_put (ref := "IceByEar$Tape") (C := RX7) (T := TX7) (N := 3) (ci := 7) (v := .int ((s2.1 29 1) + (1 : Int32))) C0 (fun _ h9 => List.mem_cons_of_mem _ (List.mem_append_right _ h9)) tyX7 tyX7_ok nmX7 hP hS 29 (gw_o7 X s2 gk_29.1) rfl 1 (by decide) (by decide +kernel) rfl rfl (tyX7_ok 1 (by decide)) rfl rfl (Nat.le_of_ble_eq_true rfl) (gw_s7_1 gk_29.1 ((s2.1 29 1) + (1 : Int32))) dX7_add_18 (fun s3 H locs es3 hP hS => ?_)
  have h := gv_let_e es3 h
  exact Kr _ _ _ _ _ (gv_inj h) hP hS dX7_add_21
theorem mX7_add (l : Launch) (X : gw_X) (s0 : gs_S) (a1 : Int32) {τ : gs_S} (h : pX7_add a1 s0 = some τ) : Met l yX7_add wsX7_add rX7_add (gm_Pc X s0 [.ref (X.1 29), .int a1]) (gm_Qv X τ) 0 0 (gw_A X) :=
  gm_of RX7 (by decide) rfl rfl (Nat.le_of_ble_eq_true rfl) (fun p e s m below meth c ls C0 hP hl hS => tX7_add C0 a1 s0 h (fun H locs ls pc τ hr hP hS hd => by subst hr; exact gm_retv C0 hP hS hd) hP hS hl)
def pX10_type_L16 (a3 : Int32) (a1 : Int64) (s0 : gs_S) (v1 : Int32) : Option ((Int32) ⊕ ((Int32) ⊕ (Int32 × gs_S))) := if a3 ≤ v1 then some (.inr (.inl v1)) else if (pX10_isWithin ((pX10_byteOf a1 v1).toInt64) (32 : Int32) (126 : Int32)) = 0 then some (.inr (.inr ((-1 : Int32), s0))) else gv_let (v1 + (1 : Int32)) (fun v2 => some (.inl v2))
def pX10_type_L70 (a1 : Int64) (v5 : Int32) (s6 : gs_S) : Option ((Int32 × gs_S) ⊕ (Int32 × gs_S)) := if v5 < 0 then some (.inr (v5, s6)) else gv_bind (pX7_add (pX10_byteOf a1 v5) s6) (fun s7 => gv_let (v5 + (-1 : Int32)) (fun v8 => some (.inl (v8, s7))))
def pX10_type (a1 : Int64) (a3 : Int32) (s0 : gs_S) : Option (Int32 × gs_S) := if (pX10_isWithin (a3.toInt64) (1 : Int32) (8 : Int32)) = 0 then some ((-1 : Int32), s0) else gv_bret (gv_loop (fun q => pX10_type_L16 a3 a1 s0 q) gv_N (0 : Int32)) (fun r => r) (fun q => gv_let q (fun v3 => if ((s0.1 29 1) + a3) ≤ (140 : Int32) then gv_let (a3 - (1 : Int32)) (fun v4 => gv_bind (gv_loop (fun q => pX10_type_L70 a1 q.1 q.2) gv_N (v4, s0)) (fun q => gv_let q.1 (fun v9 => gv_let q.2 (fun s10 => some ((s10.1 29 1), s10))))) else some ((-3 : Int32), s0)))
def rX10_type : Room := { frames := 1, cells := 0, slots := 0, locals := 23 }
set_option maxHeartbeats 4000000 in
set_option maxRecDepth 100000 in
theorem tX10_type {p : Program} {l : Launch} {e : Env} {s : State} {m : MethodId} {args : Array Value} {below : List Frame} {meth : Method} {c : Code} {X : gw_X} {Q : State → Prop} (C0 : gm_At p s m args meth c X cX10_type 5 RX10 wsX10_type (some .int)) (a1 : Int64) (a3 : Int32) (s0 : gs_S) {z : Int32 × gs_S} (h : pX10_type a1 a3 s0 = some z) (Kr : ∀ (H : Heap) (locs : List Loc) (ls : Array Slot) (pc : Nat) (r : Int32) (τ : gs_S), z = (r, τ) → gw_P X τ H → va_S (gw_A X) s.heap H locs → decode cX10_type pc = .ok (.ireturn, 1) → W p l e rX10_type s m args below meth c H locs 0 0 Q (F0 m pc ls [.int r])) {H : Heap} {locs : List Loc} {ls : Array Slot} (hP : gw_P X s0 H) (hS : va_S (gw_A X) s.heap H locs) (hl : lv_has ls 5 [(0, .ref (X.1 0)), (1, .long a1), (3, .int a3)]) : W p l e rX10_type s m args below meth c H locs 0 0 Q (F0 m 0 ls []) := by
  obtain ⟨hx, hb, hml, hown, hts, hr, hlocks, hC⟩ := id C0
  unfold pX10_type at h
  refine lv_iload_n hx hb dX10_type_0 rfl (lv_at hl 2 rfl) ?_
  refine lv_i2l hx hb dX10_type_1 rfl ?_
  refine lv_iconst (v := 1) hx hb dX10_type_2 (by decide) ?_
  refine lv_bipush (v := 8) hx hb dX10_type_3 (by decide) ?_
  refine gv_ri (gv_runS (n := 3) (rest := []) C0 (mX10_isWithin l X s0 (a3.toInt64) (1 : Int32) (8 : Int32)) gX10_type_X10_isWithin rfl ⟨rfl, rfl⟩ (by decide +kernel) ⟨by decide, by decide⟩ hP hS rfl hl.1 rfl (Nat.le_of_ble_eq_true rfl) dX10_type_5 ⟨Nat.zero_le _, Nat.zero_le _⟩) hS (fun H locs hP hS => ?_)
  refine lv_if_ne (tgt := 13) hx hb dX10_type_8 (by decide) (fun hc => ?_) (fun hc => ?_)
  · have h := gv_neg hc h
    refine lv_iconst (v := 0) hx hb dX10_type_13 (by decide) ?_
    refine lv_istore (lv' := [(4, .int (0 : Int32)), (0, .ref (X.1 0)), (1, .long a1), (3, .int a3)]) hx hb dX10_type_14 hl (by decide) rfl (fun ls hl => ?_)
    obtain ⟨q11, hq11, h1q11, h2q11⟩ := gv_bret_e h
    refine gv_loop_ind (Φ := fun q => ∀ (H : Heap) (locs : List Loc) (ls : Array Slot), gw_P X s0 H → va_S (gw_A X) s.heap H locs → lv_has ls 5 [(0, .ref (X.1 0)), (1, .long a1), (3, .int a3), (4, .int q)] → W p l e rX10_type s m args below meth c H locs 0 0 Q (F0 m 16 ls [])) (Ψ := fun ex => (∀ q : Int32, ex = .inl q → ∀ (H : Heap) (locs : List Loc) (ls : Array Slot), gw_P X s0 H → va_S (gw_A X) s.heap H locs → lv_has ls 5 [(0, .ref (X.1 0)), (1, .long a1), (3, .int a3)] → W p l e rX10_type s m args below meth c H locs 0 0 Q (F0 m 47 ls [])) ∧ (∀ r : Int32 × gs_S, ex = .inr r → ∀ (H : Heap) (locs : List Loc) (ls : Array Slot) (pc : Nat), gw_P X r.2 H → va_S (gw_A X) s.heap H locs → decode cX10_type pc = .ok (.ireturn, 1) → W p l e rX10_type s m args below meth c H locs 0 0 Q (F0 m pc ls [.int r.1]))) ?_ gv_N (0 : Int32) q11 hq11 ⟨?_, ?_⟩ H locs ls hP hS (lv_sub hl [1, 2, 3, 0] rfl)
    · intro q x h Kc Ke H locs ls hP hS hl
      obtain ⟨v1, eq_q⟩ : ∃ y, y = q := ⟨_, rfl⟩
      subst eq_q
      have h : pX10_type_L16 a3 a1 s0 v1 = some x := h
      have hP : gw_P X s0 H := hP
      have hl : lv_has ls 5 [(0, .ref (X.1 0)), (1, .long a1), (3, .int a3), (4, .int v1)] := hl
      unfold pX10_type_L16 at h
      refine lv_iload hx hb dX10_type_16 (lv_at hl 3 rfl) ?_
      refine lv_iload_n hx hb dX10_type_18 rfl (lv_at hl 2 rfl) ?_
      refine lv_icmp_ge (tgt := 47) hx hb dX10_type_19 (by decide) (fun hc => ?_) (fun hc => ?_)
      · have h := gv_pos hc h
        exact (Ke _ (gv_inj h)).1 _ rfl _ _ _ hP hS (lv_sub hl [0, 1, 2] rfl)
      · have h := gv_neg hc h
        refine lv_lload_n hx hb dX10_type_22 rfl (lv_at hl 1 rfl) ?_
        refine lv_iload hx hb dX10_type_23 (lv_at hl 3 rfl) ?_
        refine gv_ri (gv_runS (n := 2) (rest := []) C0 (mX10_byteOf l X s0 a1 v1) gX10_type_X10_byteOf rfl ⟨rfl, rfl⟩ (by decide +kernel) ⟨by decide, by decide⟩ hP hS rfl hl.1 rfl (Nat.le_of_ble_eq_true rfl) dX10_type_25 ⟨Nat.zero_le _, Nat.zero_le _⟩) hS (fun H locs hP hS => ?_)
        refine lv_i2l hx hb dX10_type_28 rfl ?_
        refine lv_bipush (v := 32) hx hb dX10_type_29 (by decide) ?_
        refine lv_bipush (v := 126) hx hb dX10_type_31 (by decide) ?_
        refine gv_ri (gv_runS (n := 3) (rest := []) C0 (mX10_isWithin l X s0 ((pX10_byteOf a1 v1).toInt64) (32 : Int32) (126 : Int32)) gX10_type_X10_isWithin rfl ⟨rfl, rfl⟩ (by decide +kernel) ⟨by decide, by decide⟩ hP hS rfl hl.1 rfl (Nat.le_of_ble_eq_true rfl) dX10_type_33 ⟨Nat.zero_le _, Nat.zero_le _⟩) hS (fun H locs hP hS => ?_)
        refine lv_if_ne (tgt := 41) hx hb dX10_type_36 (by decide) (fun hc => ?_) (fun hc => ?_)
        · have h := gv_neg hc h
          obtain ⟨v2, ev2⟩ : ∃ y : Int32, y = (v1 + (1 : Int32)) := ⟨_, rfl⟩
          have h := gv_let_e ev2 h
          refine lv_iinc (v := v2) (lv' := [(4, .int v2), (0, .ref (X.1 0)), (1, .long a1), (3, .int a3)]) hx hb dX10_type_41 hl (k := 3) rfl (by rw [ev2]; rfl) (by decide) rfl (fun ls hl => ?_)
          refine lv_goto (tgt := 16) hx hb dX10_type_44 (by decide) ?_
          exact Kc _ (gv_inj h) _ _ _ hP hS (lv_sub hl [1, 2, 3, 0] rfl)
        · have h := gv_pos hc h
          refine lv_iconst (v := -1) hx hb dX10_type_39 (by decide) ?_
          exact (Ke _ (gv_inj h)).2 _ rfl _ _ _ _ hP hS dX10_type_40
    · intro q hex H locs ls hP hS hl
      have h := h1q11 q hex
      obtain ⟨v3, eq_q⟩ : ∃ y, y = q := ⟨_, rfl⟩
      subst eq_q
      have h := gv_let_e (x := v3) rfl h
      have hP : gw_P X s0 H := hP
      have hl : lv_has ls 5 [(0, .ref (X.1 0)), (1, .long a1), (3, .int a3)] := hl
      refine lv_aload_n hx hb dX10_type_47 rfl (lv_at hl 0 rfl) ?_
      refine gv_get (ref := "IceByEar") (C := RX10) (T := TX10) (N := 8) (ci := 10) (v := .ref (X.1 29)) C0 (fun _ h9 => List.mem_cons_of_mem _ (List.mem_append_left _ (List.mem_append_right _ h9))) hP 0 (gw_o10 X s0 gk_0.1) rfl 3 (by decide) (by decide +kernel) rfl rfl dX10_type_48 ?_
      refine gv_get (ref := "IceByEar$Tape") (C := RX7) (T := TX7) (N := 3) (ci := 7) (v := .int (s0.1 29 1)) C0 (fun _ h9 => List.mem_cons_of_mem _ (List.mem_append_right _ h9)) hP 29 (gw_o7 X s0 gk_29.1) rfl 1 (by decide) (by decide +kernel) rfl rfl dX10_type_51 ?_
      refine lv_iload_n hx hb dX10_type_54 rfl (lv_at hl 2 rfl) ?_
      refine lv_iadd hx hb dX10_type_55 ?_
      refine lv_sipush (v := 140) hx hb dX10_type_56 (by decide) ?_
      refine lv_icmp_le (tgt := 65) hx hb dX10_type_59 (by decide) (fun hc => ?_) (fun hc => ?_)
      · have h := gv_pos hc h
        refine lv_iload_n hx hb dX10_type_65 rfl (lv_at hl 2 rfl) ?_
        refine lv_iconst (v := 1) hx hb dX10_type_66 (by decide) ?_
        refine lv_isub hx hb dX10_type_67 ?_
        refine lv_topi (fun v4 ev4 => ?_)
        have h := gv_let_e ev4 h
        refine lv_istore (lv' := [(4, .int v4), (0, .ref (X.1 0)), (1, .long a1), (3, .int a3)]) hx hb dX10_type_68 hl (by decide) rfl (fun ls hl => ?_)
        obtain ⟨q10, hq10, h⟩ := gv_bind_e h
        refine gv_loop_ind (Φ := fun q => ∀ (H : Heap) (locs : List Loc) (ls : Array Slot), gw_P X q.2 H → va_S (gw_A X) s.heap H locs → lv_has ls 5 [(0, .ref (X.1 0)), (1, .long a1), (4, .int q.1)] → W p l e rX10_type s m args below meth c H locs 0 0 Q (F0 m 70 ls [])) (Ψ := fun q => ∀ (H : Heap) (locs : List Loc) (ls : Array Slot), gw_P X q.2 H → va_S (gw_A X) s.heap H locs → lv_has ls 5 [(0, .ref (X.1 0))] → W p l e rX10_type s m args below meth c H locs 0 0 Q (F0 m 94 ls [])) ?_ gv_N (v4, s0) q10 hq10 ?_ H locs ls hP hS (lv_sub hl [1, 2, 0] rfl)
        · intro q x h Kc Ke H locs ls hP hS hl
          obtain ⟨v5, s6⟩ := q
          have h : pX10_type_L70 a1 v5 s6 = some x := h
          have hP : gw_P X s6 H := hP
          have hl : lv_has ls 5 [(0, .ref (X.1 0)), (1, .long a1), (4, .int v5)] := hl
          unfold pX10_type_L70 at h
          refine lv_iload hx hb dX10_type_70 (lv_at hl 2 rfl) ?_
          refine lv_if_lt (tgt := 94) hx hb dX10_type_72 (by decide) (fun hc => ?_) (fun hc => ?_)
          · have h := gv_pos hc h
            exact Ke _ (gv_inj h) _ _ _ hP hS (lv_sub hl [0] rfl)
          · have h := gv_neg hc h
            refine lv_aload_n hx hb dX10_type_75 rfl (lv_at hl 0 rfl) ?_
            refine gv_get (ref := "IceByEar") (C := RX10) (T := TX10) (N := 8) (ci := 10) (v := .ref (X.1 29)) C0 (fun _ h9 => List.mem_cons_of_mem _ (List.mem_append_left _ (List.mem_append_right _ h9))) hP 0 (gw_o10 X s6 gk_0.1) rfl 3 (by decide) (by decide +kernel) rfl rfl dX10_type_76 ?_
            refine lv_lload_n hx hb dX10_type_79 rfl (lv_at hl 1 rfl) ?_
            refine lv_iload hx hb dX10_type_80 (lv_at hl 2 rfl) ?_
            refine gv_ri (gv_runS (n := 2) (rest := [.ref (X.1 29)]) C0 (mX10_byteOf l X s6 a1 v5) gX10_type_X10_byteOf rfl ⟨rfl, rfl⟩ (by decide +kernel) ⟨by decide, by decide⟩ hP hS rfl hl.1 rfl (Nat.le_of_ble_eq_true rfl) dX10_type_82 ⟨Nat.zero_le _, Nat.zero_le _⟩) hS (fun H locs hP hS => ?_)
            obtain ⟨s7, hs7, h⟩ := gv_bind_e h
            refine gv_rv (gv_runV (n := 1) (rest := []) C0 (mX7_add l X s6 (pX10_byteOf a1 v5) hs7) gX10_type_X7_add rfl ⟨rfl, rfl⟩ (by decide +kernel) ⟨by decide, by decide⟩ gk_29.1 (by decide) rfl hP hS rfl hl.1 rfl (Nat.le_of_ble_eq_true rfl) dX10_type_85 ⟨Nat.zero_le _, Nat.zero_le _⟩) hS (fun H locs hP hS => ?_)
            obtain ⟨v8, ev8⟩ : ∃ y : Int32, y = (v5 + (-1 : Int32)) := ⟨_, rfl⟩
            have h := gv_let_e ev8 h
            refine lv_iinc (v := v8) (lv' := [(4, .int v8), (0, .ref (X.1 0)), (1, .long a1)]) hx hb dX10_type_88 hl (k := 2) rfl (by rw [ev8]; rfl) (by decide) rfl (fun ls hl => ?_)
            refine lv_goto (tgt := 70) hx hb dX10_type_91 (by decide) ?_
            exact Kc _ (gv_inj h) _ _ _ hP hS (lv_sub hl [1, 2, 0] rfl)
        · obtain ⟨v9, s10⟩ := q10
          have h := gv_let_e (x := v9) rfl h
          have h := gv_let_e (x := s10) rfl h
          intro H locs ls hP hS hl
          have hP : gw_P X s10 H := hP
          have hl : lv_has ls 5 [(0, .ref (X.1 0))] := hl
          refine lv_aload_n hx hb dX10_type_94 rfl (lv_at hl 0 rfl) ?_
          refine gv_get (ref := "IceByEar") (C := RX10) (T := TX10) (N := 8) (ci := 10) (v := .ref (X.1 29)) C0 (fun _ h9 => List.mem_cons_of_mem _ (List.mem_append_left _ (List.mem_append_right _ h9))) hP 0 (gw_o10 X s10 gk_0.1) rfl 3 (by decide) (by decide +kernel) rfl rfl dX10_type_95 ?_
          refine gv_get (ref := "IceByEar$Tape") (C := RX7) (T := TX7) (N := 3) (ci := 7) (v := .int (s10.1 29 1)) C0 (fun _ h9 => List.mem_cons_of_mem _ (List.mem_append_right _ h9)) hP 29 (gw_o7 X s10 gk_29.1) rfl 1 (by decide) (by decide +kernel) rfl rfl dX10_type_98 ?_
          exact Kr _ _ _ _ _ _ (gv_inj h) hP hS dX10_type_101
      · have h := gv_neg hc h
        refine lv_bipush (v := -3) hx hb dX10_type_62 (by decide) ?_
        exact Kr _ _ _ _ _ _ (gv_inj h) hP hS dX10_type_64
    · intro r hex H locs ls pc hP hS hd
      exact Kr _ _ _ _ _ _ (h2q11 r hex).symm hP hS hd
  · have h := gv_pos hc h
    refine lv_iconst (v := -1) hx hb dX10_type_11 (by decide) ?_
    exact Kr _ _ _ _ _ _ (gv_inj h) hP hS dX10_type_12
theorem mX10_type (l : Launch) (X : gw_X) (s0 : gs_S) (a1 : Int64) (a3 : Int32) {r : Int32} {τ : gs_S} (h : pX10_type a1 a3 s0 = some (r, τ)) : Met l yX10_type wsX10_type rX10_type (gm_Pc X s0 [.ref (X.1 0), .long a1, .int a3]) (gm_Qi X τ r) 0 0 (gw_A X) :=
  gm_of RX10 (by decide) rfl rfl (Nat.le_of_ble_eq_true rfl) (fun p e s m below meth c ls C0 hP hl hS => tX10_type C0 a1 a3 s0 h (fun H locs ls pc r τ hr hP hS hd => by cases hr; exact gm_reti C0 hP hS hd) hP hS hl)
def pJ7_fill_53178_L5 (v1 : Int32) (t0 : Nat) (a1 : Int32) (v2 : Int32) (s3 : gs_S) : Option ((Int32 × gs_S) ⊕ (Int32 × gs_S)) := if v1 ≤ v2 then some (.inr (v2, s3)) else gv_in v2 (gl t0) (gv_let (gs_u s3 t0 v2.toNatClampNeg a1) (fun s5 => gv_let (v2 + (1 : Int32)) (fun v6 => some (.inl (v6, s5)))))
def pJ7_fill_53178 (t0 : Nat) (a1 : Int32) (s0 : gs_S) : Option (gs_S) := gv_let (Int32.ofNat (gl t0)) (fun v1 => gv_bind (gv_loop (fun q => pJ7_fill_53178_L5 v1 t0 a1 q.1 q.2) gv_N ((0 : Int32), s0)) (fun q => gv_let q.1 (fun v7 => gv_let q.2 (fun s8 => some s8))))
def rJ7_fill_53178 : Room := { frames := 0, cells := 0, slots := 0, locals := 0 }
set_option maxHeartbeats 4000000 in
set_option maxRecDepth 100000 in
theorem tJ7_fill_53178 {p : Program} {l : Launch} {e : Env} {s : State} {m : MethodId} {args : Array Value} {below : List Frame} {meth : Method} {c : Code} {X : gw_X} {Q : State → Prop} (C0 : gm_At p s m args meth c X cJ7_fill_53178 4 RJ7 wsJ7_fill_53178 none) (t0 : Nat) (ht0 : gk t0 = 13) (a1 : Int32) (s0 : gs_S) {z : gs_S} (h : pJ7_fill_53178 t0 a1 s0 = some z) (Kr : ∀ (H : Heap) (locs : List Loc) (ls : Array Slot) (pc : Nat) (τ : gs_S), z = τ → gw_P X τ H → va_S (gw_A X) s.heap H locs → decode cJ7_fill_53178 pc = .ok (.return_, 1) → W p l e rJ7_fill_53178 s m args below meth c H locs 0 0 Q (F0 m pc ls [])) {H : Heap} {locs : List Loc} {ls : Array Slot} (hP : gw_P X s0 H) (hS : va_S (gw_A X) s.heap H locs) (hl : lv_has ls 4 [(0, .ref (X.1 t0)), (1, .int a1)]) : W p l e rJ7_fill_53178 s m args below meth c H locs 0 0 Q (F0 m 0 ls []) := by
  obtain ⟨hx, hb, hml, hown, hts, hr, hlocks, hC⟩ := id C0
  unfold pJ7_fill_53178 at h
  refine lv_iconst (v := 0) hx hb dJ7_fill_53178_0 (by decide) ?_
  refine lv_istore_n (lv' := [(2, .int (0 : Int32)), (0, .ref (X.1 t0)), (1, .int a1)]) hx hb dJ7_fill_53178_1 rfl hl (by decide) rfl (fun ls hl => ?_)
  refine lv_aload_n hx hb dJ7_fill_53178_2 rfl (lv_at hl 1 rfl) ?_
  refine gv_alen (v := (Int32.ofNat (gl t0))) C0 hP t0 ht0 rfl rfl dJ7_fill_53178_3 ?_
  refine lv_topi (fun v1 ev1 => ?_)
  have h := gv_let_e ev1 h
  refine lv_istore_n (lv' := [(3, .int v1), (2, .int (0 : Int32)), (0, .ref (X.1 t0)), (1, .int a1)]) hx hb dJ7_fill_53178_4 rfl hl (by decide) rfl (fun ls hl => ?_)
  obtain ⟨q8, hq8, h⟩ := gv_bind_e h
  refine gv_loop_ind (Φ := fun q => ∀ (H : Heap) (locs : List Loc) (ls : Array Slot), gw_P X q.2 H → va_S (gw_A X) s.heap H locs → lv_has ls 4 [(3, .int v1), (0, .ref (X.1 t0)), (1, .int a1), (2, .int q.1)] → W p l e rJ7_fill_53178 s m args below meth c H locs 0 0 Q (F0 m 5 ls [])) (Ψ := fun q => ∀ (H : Heap) (locs : List Loc) (ls : Array Slot), gw_P X q.2 H → va_S (gw_A X) s.heap H locs → lv_has ls 4 [] → W p l e rJ7_fill_53178 s m args below meth c H locs 0 0 Q (F0 m 20 ls [])) ?_ gv_N ((0 : Int32), s0) q8 hq8 ?_ H locs ls hP hS (lv_sub hl [0, 2, 3, 1] rfl)
  · intro q x h Kc Ke H locs ls hP hS hl
    obtain ⟨v2, s3⟩ := q
    have h : pJ7_fill_53178_L5 v1 t0 a1 v2 s3 = some x := h
    have hP : gw_P X s3 H := hP
    have hl : lv_has ls 4 [(3, .int v1), (0, .ref (X.1 t0)), (1, .int a1), (2, .int v2)] := hl
    unfold pJ7_fill_53178_L5 at h
    refine lv_iload_n hx hb dJ7_fill_53178_5 rfl (lv_at hl 3 rfl) ?_
    refine lv_iload_n hx hb dJ7_fill_53178_6 rfl (lv_at hl 0 rfl) ?_
    refine lv_icmp_ge (tgt := 20) hx hb dJ7_fill_53178_7 (by decide) (fun hc => ?_) (fun hc => ?_)
    · have h := gv_pos hc h
      exact Ke _ (gv_inj h) _ _ _ hP hS (lv_sub hl [] rfl)
    · have h := gv_neg hc h
      refine lv_aload_n hx hb dJ7_fill_53178_10 rfl (lv_at hl 1 rfl) ?_
      refine lv_iload_n hx hb dJ7_fill_53178_11 rfl (lv_at hl 3 rfl) ?_
      refine lv_iload_n hx hb dJ7_fill_53178_12 rfl (lv_at hl 2 rfl) ?_
      obtain ⟨hin4, h⟩ := gv_in_e h
      refine gv_iast C0 hP hS t0 ht0 rfl hin4 dJ7_fill_53178_13 (fun s5 H locs es5 hP hS => ?_)
      have h := gv_let_e es5 h
      obtain ⟨v6, ev6⟩ : ∃ y : Int32, y = (v2 + (1 : Int32)) := ⟨_, rfl⟩
      have h := gv_let_e ev6 h
      refine lv_iinc (v := v6) (lv' := [(2, .int v6), (3, .int v1), (0, .ref (X.1 t0)), (1, .int a1)]) hx hb dJ7_fill_53178_14 hl (k := 3) rfl (by rw [ev6]; rfl) (by decide) rfl (fun ls hl => ?_)
      refine lv_goto (tgt := 5) hx hb dJ7_fill_53178_17 (by decide) ?_
      exact Kc _ (gv_inj h) _ _ _ hP hS (lv_sub hl [1, 2, 3, 0] rfl)
  · obtain ⟨v7, s8⟩ := q8
    have h := gv_let_e (x := v7) rfl h
    have h := gv_let_e (x := s8) rfl h
    intro H locs ls hP hS hl
    have hP : gw_P X s8 H := hP
    have hl : lv_has ls 4 [] := hl
    exact Kr _ _ _ _ _ (gv_inj h) hP hS dJ7_fill_53178_20
theorem mJ7_fill_53178 (l : Launch) (X : gw_X) (s0 : gs_S) (t0 : Nat) (ht0 : gk t0 = 13) (a1 : Int32) {τ : gs_S} (h : pJ7_fill_53178 t0 a1 s0 = some τ) : Met l yJ7_fill_53178 wsJ7_fill_53178 rJ7_fill_53178 (gm_Pc X s0 [.ref (X.1 t0), .int a1]) (gm_Qv X τ) 0 0 (gw_A X) :=
  gm_of RJ7 (by decide) rfl rfl (Nat.le_of_ble_eq_true rfl) (fun p e s m below meth c ls C0 hP hl hS => tJ7_fill_53178 C0 t0 ht0 a1 s0 h (fun H locs ls pc τ hr hP hS hd => by subst hr; exact gm_retv C0 hP hS hd) hP hS hl)
def pX7_skipBlanks_L0  (s1 : gs_S) : Option ((gs_S) ⊕ (gs_S)) := if (s1.1 29 1) ≤ (s1.1 29 2) then some (.inr s1) else gv_in (s1.1 29 2) 140 (if (s1.1 30 (s1.1 29 2).toNatClampNeg) = (32 : Int32) then gv_let (gs_u s1 29 2 ((s1.1 29 2) + (1 : Int32))) (fun s3 => some (.inl s3)) else some (.inr s1))
def pX7_skipBlanks  (s0 : gs_S) : Option (gs_S) := gv_bind (gv_loop (fun q => pX7_skipBlanks_L0 q) gv_N s0) (fun q => gv_let q (fun s4 => some s4))
def rX7_skipBlanks : Room := { frames := 0, cells := 0, slots := 0, locals := 0 }
set_option maxHeartbeats 4000000 in
set_option maxRecDepth 100000 in
theorem tX7_skipBlanks {p : Program} {l : Launch} {e : Env} {s : State} {m : MethodId} {args : Array Value} {below : List Frame} {meth : Method} {c : Code} {X : gw_X} {Q : State → Prop} (C0 : gm_At p s m args meth c X cX7_skipBlanks 1 RX7 wsX7_skipBlanks none)  (s0 : gs_S) {z : gs_S} (h : pX7_skipBlanks s0 = some z) (Kr : ∀ (H : Heap) (locs : List Loc) (ls : Array Slot) (pc : Nat) (τ : gs_S), z = τ → gw_P X τ H → va_S (gw_A X) s.heap H locs → decode cX7_skipBlanks pc = .ok (.return_, 1) → W p l e rX7_skipBlanks s m args below meth c H locs 0 0 Q (F0 m pc ls [])) {H : Heap} {locs : List Loc} {ls : Array Slot} (hP : gw_P X s0 H) (hS : va_S (gw_A X) s.heap H locs) (hl : lv_has ls 1 [(0, .ref (X.1 29))]) : W p l e rX7_skipBlanks s m args below meth c H locs 0 0 Q (F0 m 0 ls []) := by
  obtain ⟨hx, hb, hml, hown, hts, hr, hlocks, hC⟩ := id C0
  unfold pX7_skipBlanks at h
  obtain ⟨q4, hq4, h⟩ := gv_bind_e h
  refine gv_loop_ind (Φ := fun q => ∀ (H : Heap) (locs : List Loc) (ls : Array Slot), gw_P X q H → va_S (gw_A X) s.heap H locs → lv_has ls 1 [(0, .ref (X.1 29))] → W p l e rX7_skipBlanks s m args below meth c H locs 0 0 Q (F0 m 0 ls [])) (Ψ := fun q => ∀ (H : Heap) (locs : List Loc) (ls : Array Slot), gw_P X q H → va_S (gw_A X) s.heap H locs → lv_has ls 1 [] → W p l e rX7_skipBlanks s m args below meth c H locs 0 0 Q (F0 m 38 ls [])) ?_ gv_N s0 q4 hq4 ?_ H locs ls hP hS (lv_sub hl [0] rfl)
  · intro q x h Kc Ke H locs ls hP hS hl
    obtain ⟨s1, eq_q⟩ : ∃ y, y = q := ⟨_, rfl⟩
    subst eq_q
    have h : pX7_skipBlanks_L0 s1 = some x := h
    have hP : gw_P X s1 H := hP
    have hl : lv_has ls 1 [(0, .ref (X.1 29))] := hl
    unfold pX7_skipBlanks_L0 at h
    refine lv_aload_n hx hb dX7_skipBlanks_0 rfl (lv_at hl 0 rfl) ?_
    refine gv_get (ref := "IceByEar$Tape") (C := RX7) (T := TX7) (N := 3) (ci := 7) (v := .int (s1.1 29 2)) C0 (fun _ h9 => List.mem_cons_of_mem _ (List.mem_append_right _ h9)) hP 29 (gw_o7 X s1 gk_29.1) rfl 2 (by decide) (by decide +kernel) rfl rfl dX7_skipBlanks_1 ?_
    refine lv_aload_n hx hb dX7_skipBlanks_4 rfl (lv_at hl 0 rfl) ?_
    refine gv_get (ref := "IceByEar$Tape") (C := RX7) (T := TX7) (N := 3) (ci := 7) (v := .int (s1.1 29 1)) C0 (fun _ h9 => List.mem_cons_of_mem _ (List.mem_append_right _ h9)) hP 29 (gw_o7 X s1 gk_29.1) rfl 1 (by decide) (by decide +kernel) rfl rfl dX7_skipBlanks_5 ?_
    refine lv_icmp_ge (tgt := 38) hx hb dX7_skipBlanks_8 (by decide) (fun hc => ?_) (fun hc => ?_)
    · have h := gv_pos hc h
      exact Ke _ (gv_inj h) _ _ _ hP hS (lv_sub hl [] rfl)
    · have h := gv_neg hc h
      refine lv_aload_n hx hb dX7_skipBlanks_11 rfl (lv_at hl 0 rfl) ?_
      refine gv_get (ref := "IceByEar$Tape") (C := RX7) (T := TX7) (N := 3) (ci := 7) (v := .ref (X.1 30)) C0 (fun _ h9 => List.mem_cons_of_mem _ (List.mem_append_right _ h9)) hP 29 (gw_o7 X s1 gk_29.1) rfl 0 (by decide) (by decide +kernel) rfl rfl dX7_skipBlanks_12 ?_
      refine lv_aload_n hx hb dX7_skipBlanks_15 rfl (lv_at hl 0 rfl) ?_
      refine gv_get (ref := "IceByEar$Tape") (C := RX7) (T := TX7) (N := 3) (ci := 7) (v := .int (s1.1 29 2)) C0 (fun _ h9 => List.mem_cons_of_mem _ (List.mem_append_right _ h9)) hP 29 (gw_o7 X s1 gk_29.1) rfl 2 (by decide) (by decide +kernel) rfl rfl dX7_skipBlanks_16 ?_
      obtain ⟨hin2, h⟩ := gv_in_e h
      refine gv_bald C0 hP 30 gk_30.1 gk_30.2 hin2 dX7_skipBlanks_19 ?_
      refine lv_bipush (v := 32) hx hb dX7_skipBlanks_20 (by decide) ?_
      refine lv_icmp_ne (tgt := 38) hx hb dX7_skipBlanks_22 (by decide) (fun hc => ?_) (fun hc => ?_)
      · have h := gv_neg hc h
        exact Ke _ (gv_inj h) _ _ _ hP hS (lv_sub hl [] rfl)
      · have h := gv_pos hc h
        refine lv_aload_n hx hb dX7_skipBlanks_25 rfl (lv_at hl 0 rfl) ?_
        refine lv_dup hx hb dX7_skipBlanks_26 rfl ?_
        refine gv_get (ref := "IceByEar$Tape") (C := RX7) (T := TX7) (N := 3) (ci := 7) (v := .int (s1.1 29 2)) C0 (fun _ h9 => List.mem_cons_of_mem _ (List.mem_append_right _ h9)) hP 29 (gw_o7 X s1 gk_29.1) rfl 2 (by decide) (by decide +kernel) rfl rfl dX7_skipBlanks_27 ?_
        refine lv_iconst (v := 1) hx hb dX7_skipBlanks_30 (by decide) ?_
        refine lv_iadd hx hb dX7_skipBlanks_31 ?_
        refine gv_put (ref := "IceByEar$Tape") (C := RX7) (T := TX7) (N := 3) (ci := 7) (v := .int ((s1.1 29 2) + (1 : Int32))) C0 (fun _ h9 => List.mem_cons_of_mem _ (List.mem_append_right _ h9)) tyX7 tyX7_ok nmX7 hP hS 29 (gw_o7 X s1 gk_29.1) rfl 2 (by decide) (by decide +kernel) rfl rfl (tyX7_ok 2 (by decide)) rfl rfl (Nat.le_of_ble_eq_true rfl) (gw_s7_2 gk_29.1 ((s1.1 29 2) + (1 : Int32))) dX7_skipBlanks_32 (fun s3 H locs es3 hP hS => ?_)
        have h := gv_let_e es3 h
        refine lv_goto (tgt := 0) hx hb dX7_skipBlanks_35 (by decide) ?_
        exact Kc _ (gv_inj h) _ _ _ hP hS (lv_sub hl [0] rfl)
  · obtain ⟨s4, eq_q⟩ : ∃ y, y = q4 := ⟨_, rfl⟩
    subst eq_q
    have h := gv_let_e (x := s4) rfl h
    intro H locs ls hP hS hl
    have hP : gw_P X s4 H := hP
    have hl : lv_has ls 1 [] := hl
    exact Kr _ _ _ _ _ (gv_inj h) hP hS dX7_skipBlanks_38
theorem mX7_skipBlanks (l : Launch) (X : gw_X) (s0 : gs_S)  {τ : gs_S} (h : pX7_skipBlanks s0 = some τ) : Met l yX7_skipBlanks wsX7_skipBlanks rX7_skipBlanks (gm_Pc X s0 [.ref (X.1 29)]) (gm_Qv X τ) 0 0 (gw_A X) :=
  gm_of RX7 (by decide) rfl rfl (Nat.le_of_ble_eq_true rfl) (fun p e s m below meth c ls C0 hP hl hS => tX7_skipBlanks C0  s0 h (fun H locs ls pc τ hr hP hS hd => by subst hr; exact gm_retv C0 hP hS hd) hP hS hl)
def pX7_rewind  (s0 : gs_S) : Option (gs_S) := gv_let (gs_u s0 29 2 (0 : Int32)) (fun s1 => gv_bind (pX7_skipBlanks s1) (fun s2 => some s2))
def rX7_rewind : Room := { frames := 1, cells := 0, slots := 0, locals := 20 }
set_option maxHeartbeats 4000000 in
set_option maxRecDepth 100000 in
theorem tX7_rewind {p : Program} {l : Launch} {e : Env} {s : State} {m : MethodId} {args : Array Value} {below : List Frame} {meth : Method} {c : Code} {X : gw_X} {Q : State → Prop} (C0 : gm_At p s m args meth c X cX7_rewind 1 RX7 wsX7_rewind none)  (s0 : gs_S) {z : gs_S} (h : pX7_rewind s0 = some z) (Kr : ∀ (H : Heap) (locs : List Loc) (ls : Array Slot) (pc : Nat) (τ : gs_S), z = τ → gw_P X τ H → va_S (gw_A X) s.heap H locs → decode cX7_rewind pc = .ok (.return_, 1) → W p l e rX7_rewind s m args below meth c H locs 0 0 Q (F0 m pc ls [])) {H : Heap} {locs : List Loc} {ls : Array Slot} (hP : gw_P X s0 H) (hS : va_S (gw_A X) s.heap H locs) (hl : lv_has ls 1 [(0, .ref (X.1 29))]) : W p l e rX7_rewind s m args below meth c H locs 0 0 Q (F0 m 0 ls []) := by
  obtain ⟨hx, hb, hml, hown, hts, hr, hlocks, hC⟩ := id C0
  unfold pX7_rewind at h
  refine lv_aload_n hx hb dX7_rewind_0 rfl (lv_at hl 0 rfl) ?_
  refine lv_iconst (v := 0) hx hb dX7_rewind_1 (by decide) ?_
  refine gv_put (ref := "IceByEar$Tape") (C := RX7) (T := TX7) (N := 3) (ci := 7) (v := .int (0 : Int32)) C0 (fun _ h9 => List.mem_cons_of_mem _ (List.mem_append_right _ h9)) tyX7 tyX7_ok nmX7 hP hS 29 (gw_o7 X s0 gk_29.1) rfl 2 (by decide) (by decide +kernel) rfl rfl (tyX7_ok 2 (by decide)) rfl rfl (Nat.le_of_ble_eq_true rfl) (gw_s7_2 gk_29.1 (0 : Int32)) dX7_rewind_2 (fun s1 H locs es1 hP hS => ?_)
  have h := gv_let_e es1 h
  refine lv_aload_n hx hb dX7_rewind_5 rfl (lv_at hl 0 rfl) ?_
  obtain ⟨s2, hs2, h⟩ := gv_bind_e h
  refine gv_rv (gv_runV (n := 0) (rest := []) C0 (mX7_skipBlanks l X s1  hs2) gX7_rewind_X7_skipBlanks rfl ⟨rfl, rfl⟩ (by decide +kernel) ⟨by decide, by decide⟩ gk_29.1 (by decide) rfl hP hS rfl hl.1 rfl (Nat.le_of_ble_eq_true rfl) dX7_rewind_6 ⟨Nat.zero_le _, Nat.zero_le _⟩) hS (fun H locs hP hS => ?_)
  exact Kr _ _ _ _ _ (gv_inj h) hP hS dX7_rewind_9
theorem mX7_rewind (l : Launch) (X : gw_X) (s0 : gs_S)  {τ : gs_S} (h : pX7_rewind s0 = some τ) : Met l yX7_rewind wsX7_rewind rX7_rewind (gm_Pc X s0 [.ref (X.1 29)]) (gm_Qv X τ) 0 0 (gw_A X) :=
  gm_of RX7 (by decide) rfl rfl (Nat.le_of_ble_eq_true rfl) (fun p e s m below meth c ls C0 hP hl hS => tX7_rewind C0  s0 h (fun H locs ls pc τ hr hP hS hd => by subst hr; exact gm_retv C0 hP hS hd) hP hS hl)
def pX7_sign  (s0 : gs_S) : Option (Int32) := if (s0.1 29 1) ≤ (s0.1 29 2) then some (-1 : Int32) else gv_in (s0.1 29 2) 140 (some (s0.1 30 (s0.1 29 2).toNatClampNeg))
def rX7_sign : Room := { frames := 0, cells := 0, slots := 0, locals := 0 }
set_option maxHeartbeats 4000000 in
set_option maxRecDepth 100000 in
theorem tX7_sign {p : Program} {l : Launch} {e : Env} {s : State} {m : MethodId} {args : Array Value} {below : List Frame} {meth : Method} {c : Code} {X : gw_X} {Q : State → Prop} (C0 : gm_At p s m args meth c X cX7_sign 1 RX7 wsX7_sign (some .int))  (s0 : gs_S) {z : Int32} (h : pX7_sign s0 = some z) (Kr : ∀ (H : Heap) (locs : List Loc) (ls : Array Slot) (pc : Nat) (r : Int32), z = r → gw_P X s0 H → va_S (gw_A X) s.heap H locs → decode cX7_sign pc = .ok (.ireturn, 1) → W p l e rX7_sign s m args below meth c H locs 0 0 Q (F0 m pc ls [.int r])) {H : Heap} {locs : List Loc} {ls : Array Slot} (hP : gw_P X s0 H) (hS : va_S (gw_A X) s.heap H locs) (hl : lv_has ls 1 [(0, .ref (X.1 29))]) : W p l e rX7_sign s m args below meth c H locs 0 0 Q (F0 m 0 ls []) := by
  obtain ⟨hx, hb, hml, hown, hts, hr, hlocks, hC⟩ := id C0
  unfold pX7_sign at h
  refine lv_aload_n hx hb dX7_sign_0 rfl (lv_at hl 0 rfl) ?_
  refine gv_get (ref := "IceByEar$Tape") (C := RX7) (T := TX7) (N := 3) (ci := 7) (v := .int (s0.1 29 2)) C0 (fun _ h9 => List.mem_cons_of_mem _ (List.mem_append_right _ h9)) hP 29 (gw_o7 X s0 gk_29.1) rfl 2 (by decide) (by decide +kernel) rfl rfl dX7_sign_1 ?_
  refine lv_aload_n hx hb dX7_sign_4 rfl (lv_at hl 0 rfl) ?_
  refine gv_get (ref := "IceByEar$Tape") (C := RX7) (T := TX7) (N := 3) (ci := 7) (v := .int (s0.1 29 1)) C0 (fun _ h9 => List.mem_cons_of_mem _ (List.mem_append_right _ h9)) hP 29 (gw_o7 X s0 gk_29.1) rfl 1 (by decide) (by decide +kernel) rfl rfl dX7_sign_5 ?_
  refine lv_icmp_ge (tgt := 23) hx hb dX7_sign_8 (by decide) (fun hc => ?_) (fun hc => ?_)
  · have h := gv_pos hc h
    refine lv_iconst (v := -1) hx hb dX7_sign_23 (by decide) ?_
    exact Kr _ _ _ _ _ (gv_inj h) hP hS dX7_sign_24
  · have h := gv_neg hc h
    refine lv_aload_n hx hb dX7_sign_11 rfl (lv_at hl 0 rfl) ?_
    refine gv_get (ref := "IceByEar$Tape") (C := RX7) (T := TX7) (N := 3) (ci := 7) (v := .ref (X.1 30)) C0 (fun _ h9 => List.mem_cons_of_mem _ (List.mem_append_right _ h9)) hP 29 (gw_o7 X s0 gk_29.1) rfl 0 (by decide) (by decide +kernel) rfl rfl dX7_sign_12 ?_
    refine lv_aload_n hx hb dX7_sign_15 rfl (lv_at hl 0 rfl) ?_
    refine gv_get (ref := "IceByEar$Tape") (C := RX7) (T := TX7) (N := 3) (ci := 7) (v := .int (s0.1 29 2)) C0 (fun _ h9 => List.mem_cons_of_mem _ (List.mem_append_right _ h9)) hP 29 (gw_o7 X s0 gk_29.1) rfl 2 (by decide) (by decide +kernel) rfl rfl dX7_sign_16 ?_
    obtain ⟨hin1, h⟩ := gv_in_e h
    refine gv_bald C0 hP 30 gk_30.1 gk_30.2 hin1 dX7_sign_19 ?_
    refine lv_goto (tgt := 24) hx hb dX7_sign_20 (by decide) ?_
    exact Kr _ _ _ _ _ (gv_inj h) hP hS dX7_sign_24
theorem mX7_sign (l : Launch) (X : gw_X) (s0 : gs_S)  {r : Int32} (h : pX7_sign s0 = some r) : Met l yX7_sign wsX7_sign rX7_sign (gm_Pc X s0 [.ref (X.1 29)]) (gm_Qi X s0 r) 0 0 (gw_A X) :=
  gm_of RX7 (by decide) rfl rfl (Nat.le_of_ble_eq_true rfl) (fun p e s m below meth c ls C0 hP hl hS => tX7_sign C0  s0 h (fun H locs ls pc r hr hP hS hd => by subst hr; exact gm_reti C0 hP hS hd) hP hS hl)
def pX7_isDigit  (s0 : gs_S) : Option (Int32) := gv_bind (pX7_sign s0) (fun v1 => some (pX10_isWithin (v1.toInt64) (48 : Int32) (57 : Int32)))
def rX7_isDigit : Room := { frames := 1, cells := 0, slots := 0, locals := 23 }
set_option maxHeartbeats 4000000 in
set_option maxRecDepth 100000 in
theorem tX7_isDigit {p : Program} {l : Launch} {e : Env} {s : State} {m : MethodId} {args : Array Value} {below : List Frame} {meth : Method} {c : Code} {X : gw_X} {Q : State → Prop} (C0 : gm_At p s m args meth c X cX7_isDigit 1 RX7 wsX7_isDigit (some .boolean))  (s0 : gs_S) {z : Int32} (h : pX7_isDigit s0 = some z) (Kr : ∀ (H : Heap) (locs : List Loc) (ls : Array Slot) (pc : Nat) (r : Int32), z = r → narrow .boolean (.int r) = .int r → gw_P X s0 H → va_S (gw_A X) s.heap H locs → decode cX7_isDigit pc = .ok (.ireturn, 1) → W p l e rX7_isDigit s m args below meth c H locs 0 0 Q (F0 m pc ls [.int r])) {H : Heap} {locs : List Loc} {ls : Array Slot} (hP : gw_P X s0 H) (hS : va_S (gw_A X) s.heap H locs) (hl : lv_has ls 1 [(0, .ref (X.1 29))]) : W p l e rX7_isDigit s m args below meth c H locs 0 0 Q (F0 m 0 ls []) := by
  obtain ⟨hx, hb, hml, hown, hts, hr, hlocks, hC⟩ := id C0
  unfold pX7_isDigit at h
  refine lv_aload_n hx hb dX7_isDigit_0 rfl (lv_at hl 0 rfl) ?_
  obtain ⟨v1, hv1, h⟩ := gv_bind_e h
  refine gv_ri (gv_runV (n := 0) (rest := []) C0 (mX7_sign l X s0  hv1) gX7_isDigit_X7_sign rfl ⟨rfl, rfl⟩ (by decide +kernel) ⟨by decide, by decide⟩ gk_29.1 (by decide) rfl hP hS rfl hl.1 rfl (Nat.le_of_ble_eq_true rfl) dX7_isDigit_1 ⟨Nat.zero_le _, Nat.zero_le _⟩) hS (fun H locs hP hS => ?_)
  refine lv_i2l hx hb dX7_isDigit_4 rfl ?_
  refine lv_bipush (v := 48) hx hb dX7_isDigit_5 (by decide) ?_
  refine lv_bipush (v := 57) hx hb dX7_isDigit_7 (by decide) ?_
  refine gv_ri (gv_runN (n := 3) (rest := []) (host := "IceByEar") C0 (mX10_isWithin l X s0 (v1.toInt64) (48 : Int32) (57 : Int32)) gX7_isDigit_X10_isWithin_n29 rfl ⟨rfl, rfl⟩ (by decide +kernel) ⟨by decide +kernel, by decide +kernel⟩ (by decide +kernel) ⟨by decide, by decide⟩ hP hS rfl hl.1 rfl (Nat.le_of_ble_eq_true rfl) dX7_isDigit_9 ⟨Nat.zero_le _, Nat.zero_le _⟩) hS (fun H locs hP hS => ?_)
  exact Kr _ _ _ _ _ (gv_inj h) (bX10_isWithin (v1.toInt64) (48 : Int32) (57 : Int32)) hP hS dX7_isDigit_12
theorem mX7_isDigit (l : Launch) (X : gw_X) (s0 : gs_S)  {r : Int32} (h : pX7_isDigit s0 = some r) : Met l yX7_isDigit wsX7_isDigit rX7_isDigit (gm_Pc X s0 [.ref (X.1 29)]) (gm_Qi X s0 r) 0 0 (gw_A X) :=
  gm_of RX7 (by decide) rfl rfl (Nat.le_of_ble_eq_true rfl) (fun p e s m below meth c ls C0 hP hl hS => tX7_isDigit C0  s0 h (fun H locs ls pc r hr hn hP hS hd => by subst hr; exact gm_retz hn C0 hP hS hd) hP hS hl)
def pX7_pass  (s0 : gs_S) : Option (gs_S) := gv_let (gs_u s0 29 2 ((s0.1 29 2) + (1 : Int32))) (fun s1 => gv_bind (pX7_skipBlanks s1) (fun s2 => some s2))
def rX7_pass : Room := { frames := 1, cells := 0, slots := 0, locals := 20 }
set_option maxHeartbeats 4000000 in
set_option maxRecDepth 100000 in
theorem tX7_pass {p : Program} {l : Launch} {e : Env} {s : State} {m : MethodId} {args : Array Value} {below : List Frame} {meth : Method} {c : Code} {X : gw_X} {Q : State → Prop} (C0 : gm_At p s m args meth c X cX7_pass 1 RX7 wsX7_pass none)  (s0 : gs_S) {z : gs_S} (h : pX7_pass s0 = some z) (Kr : ∀ (H : Heap) (locs : List Loc) (ls : Array Slot) (pc : Nat) (τ : gs_S), z = τ → gw_P X τ H → va_S (gw_A X) s.heap H locs → decode cX7_pass pc = .ok (.return_, 1) → W p l e rX7_pass s m args below meth c H locs 0 0 Q (F0 m pc ls [])) {H : Heap} {locs : List Loc} {ls : Array Slot} (hP : gw_P X s0 H) (hS : va_S (gw_A X) s.heap H locs) (hl : lv_has ls 1 [(0, .ref (X.1 29))]) : W p l e rX7_pass s m args below meth c H locs 0 0 Q (F0 m 0 ls []) := by
  obtain ⟨hx, hb, hml, hown, hts, hr, hlocks, hC⟩ := id C0
  unfold pX7_pass at h
  refine lv_aload_n hx hb dX7_pass_0 rfl (lv_at hl 0 rfl) ?_
  refine lv_dup hx hb dX7_pass_1 rfl ?_
  refine gv_get (ref := "IceByEar$Tape") (C := RX7) (T := TX7) (N := 3) (ci := 7) (v := .int (s0.1 29 2)) C0 (fun _ h9 => List.mem_cons_of_mem _ (List.mem_append_right _ h9)) hP 29 (gw_o7 X s0 gk_29.1) rfl 2 (by decide) (by decide +kernel) rfl rfl dX7_pass_2 ?_
  refine lv_iconst (v := 1) hx hb dX7_pass_5 (by decide) ?_
  refine lv_iadd hx hb dX7_pass_6 ?_
  refine gv_put (ref := "IceByEar$Tape") (C := RX7) (T := TX7) (N := 3) (ci := 7) (v := .int ((s0.1 29 2) + (1 : Int32))) C0 (fun _ h9 => List.mem_cons_of_mem _ (List.mem_append_right _ h9)) tyX7 tyX7_ok nmX7 hP hS 29 (gw_o7 X s0 gk_29.1) rfl 2 (by decide) (by decide +kernel) rfl rfl (tyX7_ok 2 (by decide)) rfl rfl (Nat.le_of_ble_eq_true rfl) (gw_s7_2 gk_29.1 ((s0.1 29 2) + (1 : Int32))) dX7_pass_7 (fun s1 H locs es1 hP hS => ?_)
  have h := gv_let_e es1 h
  refine lv_aload_n hx hb dX7_pass_10 rfl (lv_at hl 0 rfl) ?_
  obtain ⟨s2, hs2, h⟩ := gv_bind_e h
  refine gv_rv (gv_runV (n := 0) (rest := []) C0 (mX7_skipBlanks l X s1  hs2) gX7_pass_X7_skipBlanks rfl ⟨rfl, rfl⟩ (by decide +kernel) ⟨by decide, by decide⟩ gk_29.1 (by decide) rfl hP hS rfl hl.1 rfl (Nat.le_of_ble_eq_true rfl) dX7_pass_11 ⟨Nat.zero_le _, Nat.zero_le _⟩) hS (fun H locs hP hS => ?_)
  exact Kr _ _ _ _ _ (gv_inj h) hP hS dX7_pass_14
theorem mX7_pass (l : Launch) (X : gw_X) (s0 : gs_S)  {τ : gs_S} (h : pX7_pass s0 = some τ) : Met l yX7_pass wsX7_pass rX7_pass (gm_Pc X s0 [.ref (X.1 29)]) (gm_Qv X τ) 0 0 (gw_A X) :=
  gm_of RX7 (by decide) rfl rfl (Nat.le_of_ble_eq_true rfl) (fun p e s m below meth c ls C0 hP hl hS => tX7_pass C0  s0 h (fun H locs ls pc τ hr hP hS hd => by subst hr; exact gm_retv C0 hP hS hd) hP hS hl)
def pX7_takes_J13 (s0 : gs_S) (v2 : Int32) : Option (Int32 × gs_S) := if v2 = 0 then gv_bo v2 (some (v2, s0)) else gv_bind (pX7_pass s0) (fun s4 => gv_bo v2 (some (v2, s4)))
def pX7_takes (a1 : Int32) (s0 : gs_S) : Option (Int32 × gs_S) := gv_bind (pX7_sign s0) (fun v1 => if v1 = a1 then pX7_takes_J13 s0 (1 : Int32) else pX7_takes_J13 s0 (0 : Int32))
def rX7_takes : Room := { frames := 2, cells := 0, slots := 0, locals := 40 }
set_option maxHeartbeats 4000000 in
set_option maxRecDepth 100000 in
theorem tX7_takes {p : Program} {l : Launch} {e : Env} {s : State} {m : MethodId} {args : Array Value} {below : List Frame} {meth : Method} {c : Code} {X : gw_X} {Q : State → Prop} (C0 : gm_At p s m args meth c X cX7_takes 3 RX7 wsX7_takes (some .boolean)) (a1 : Int32) (s0 : gs_S) {z : Int32 × gs_S} (h : pX7_takes a1 s0 = some z) (Kr : ∀ (H : Heap) (locs : List Loc) (ls : Array Slot) (pc : Nat) (r : Int32) (τ : gs_S), z = (r, τ) → narrow .boolean (.int r) = .int r → gw_P X τ H → va_S (gw_A X) s.heap H locs → decode cX7_takes pc = .ok (.ireturn, 1) → W p l e rX7_takes s m args below meth c H locs 0 0 Q (F0 m pc ls [.int r])) {H : Heap} {locs : List Loc} {ls : Array Slot} (hP : gw_P X s0 H) (hS : va_S (gw_A X) s.heap H locs) (hl : lv_has ls 3 [(0, .ref (X.1 29)), (1, .int a1)]) : W p l e rX7_takes s m args below meth c H locs 0 0 Q (F0 m 0 ls []) := by
  obtain ⟨hx, hb, hml, hown, hts, hr, hlocks, hC⟩ := id C0
  unfold pX7_takes at h
  refine lv_aload_n hx hb dX7_takes_0 rfl (lv_at hl 0 rfl) ?_
  obtain ⟨v1, hv1, h⟩ := gv_bind_e h
  refine gv_ri (gv_runV (n := 0) (rest := []) C0 (mX7_sign l X s0  hv1) gX7_takes_X7_sign rfl ⟨rfl, rfl⟩ (by decide +kernel) ⟨by decide, by decide⟩ gk_29.1 (by decide) rfl hP hS rfl hl.1 rfl (Nat.le_of_ble_eq_true rfl) dX7_takes_1 ⟨Nat.zero_le _, Nat.zero_le _⟩) hS (fun H locs hP hS => ?_)
  refine lv_iload_n hx hb dX7_takes_4 rfl (lv_at hl 1 rfl) ?_
  have J13 : ∀ (v2 : Int32) (H : Heap) (locs : List Loc) (ls : Array Slot), pX7_takes_J13 s0 v2 = some z → gw_P X s0 H → va_S (gw_A X) s.heap H locs → lv_has ls 3 [(0, .ref (X.1 29))] → W p l e rX7_takes s m args below meth c H locs 0 0 Q (F0 m 13 ls [.int v2]) := by
    intro v2 H locs ls h hP hS hl
    unfold pX7_takes_J13 at h
    refine lv_istore_n (lv' := [(2, .int v2), (0, .ref (X.1 29))]) hx hb dX7_takes_13 rfl hl (by decide) rfl (fun ls hl => ?_)
    refine lv_iload_n hx hb dX7_takes_14 rfl (lv_at hl 0 rfl) ?_
    refine lv_if_eq (tgt := 22) hx hb dX7_takes_15 (by decide) (fun hc => ?_) (fun hc => ?_)
    · have h := gv_pos hc h
      refine lv_iload_n hx hb dX7_takes_22 rfl (lv_at hl 0 rfl) ?_
      obtain ⟨hbo3, h⟩ := gv_bo_e h
      exact Kr _ _ _ _ _ _ (gv_inj h) hbo3 hP hS dX7_takes_23
    · have h := gv_neg hc h
      refine lv_aload_n hx hb dX7_takes_18 rfl (lv_at hl 1 rfl) ?_
      obtain ⟨s4, hs4, h⟩ := gv_bind_e h
      refine gv_rv (gv_runV (n := 0) (rest := []) C0 (mX7_pass l X s0  hs4) gX7_takes_X7_pass rfl ⟨rfl, rfl⟩ (by decide +kernel) ⟨by decide, by decide⟩ gk_29.1 (by decide) rfl hP hS rfl hl.1 rfl (Nat.le_of_ble_eq_true rfl) dX7_takes_19 ⟨Nat.zero_le _, Nat.zero_le _⟩) hS (fun H locs hP hS => ?_)
      refine lv_iload_n hx hb dX7_takes_22 rfl (lv_at hl 0 rfl) ?_
      obtain ⟨hbo5, h⟩ := gv_bo_e h
      exact Kr _ _ _ _ _ _ (gv_inj h) hbo5 hP hS dX7_takes_23
  refine lv_icmp_ne (tgt := 12) hx hb dX7_takes_5 (by decide) (fun hc => ?_) (fun hc => ?_)
  · have h := gv_neg hc h
    refine lv_iconst (v := 0) hx hb dX7_takes_12 (by decide) ?_
    exact J13 (0 : Int32) _ _ _ h hP hS (lv_sub hl [0] rfl)
  · have h := gv_pos hc h
    refine lv_iconst (v := 1) hx hb dX7_takes_8 (by decide) ?_
    refine lv_goto (tgt := 13) hx hb dX7_takes_9 (by decide) ?_
    exact J13 (1 : Int32) _ _ _ h hP hS (lv_sub hl [0] rfl)
theorem mX7_takes (l : Launch) (X : gw_X) (s0 : gs_S) (a1 : Int32) {r : Int32} {τ : gs_S} (h : pX7_takes a1 s0 = some (r, τ)) : Met l yX7_takes wsX7_takes rX7_takes (gm_Pc X s0 [.ref (X.1 29), .int a1]) (gm_Qi X τ r) 0 0 (gw_A X) :=
  gm_of RX7 (by decide) rfl rfl (Nat.le_of_ble_eq_true rfl) (fun p e s m below meth c ls C0 hP hl hS => tX7_takes C0 a1 s0 h (fun H locs ls pc r τ hr hn hP hS hd => by cases hr; exact gm_retz hn C0 hP hS hd) hP hS hl)
def pX0_readKind_L2  (v1 : Int32) (s2 : gs_S) : Option ((Int32 × gs_S) ⊕ ((Int32 × gs_S) ⊕ (Int32 × gs_S))) := if (4 : Int32) < v1 then some (.inr (.inl (v1, s2))) else gv_bind (gs_chat v1) (fun v3 => gv_bind2 (pX7_takes v3 s2) (fun v4 s5 => if v4 = 0 then gv_let (v1 + (1 : Int32)) (fun v6 => some (.inl (v6, s5))) else some (.inr (.inr (v1, s5)))))
def pX0_readKind  (s0 : gs_S) : Option (Int32 × gs_S) := gv_bret (gv_loop (fun q => pX0_readKind_L2 q.1 q.2) gv_N ((1 : Int32), s0)) (fun r => r) (fun q => gv_let q.1 (fun v7 => gv_let q.2 (fun s8 => some ((0 : Int32), s8))))
def rX0_readKind : Room := { frames := 4, cells := 0, slots := 0, locals := 110 }
set_option maxHeartbeats 4000000 in
set_option maxRecDepth 100000 in
theorem tX0_readKind {p : Program} {l : Launch} {e : Env} {s : State} {m : MethodId} {args : Array Value} {below : List Frame} {meth : Method} {c : Code} {X : gw_X} {Q : State → Prop} (C0 : gm_At p s m args meth c X cX0_readKind 3 RX0 wsX0_readKind (some .int))  (s0 : gs_S) {z : Int32 × gs_S} (h : pX0_readKind s0 = some z) (Kr : ∀ (H : Heap) (locs : List Loc) (ls : Array Slot) (pc : Nat) (r : Int32) (τ : gs_S), z = (r, τ) → gw_P X τ H → va_S (gw_A X) s.heap H locs → decode cX0_readKind pc = .ok (.ireturn, 1) → W p l e rX0_readKind s m args below meth c H locs 0 0 Q (F0 m pc ls [.int r])) {H : Heap} {locs : List Loc} {ls : Array Slot} (hP : gw_P X s0 H) (hS : va_S (gw_A X) s.heap H locs) (hl : lv_has ls 3 [(0, .ref (X.1 31)), (1, .ref (X.1 29))]) : W p l e rX0_readKind s m args below meth c H locs 0 0 Q (F0 m 0 ls []) := by
  obtain ⟨hx, hb, hml, hown, hts, hr, hlocks, hC⟩ := id C0
  unfold pX0_readKind at h
  refine lv_iconst (v := 1) hx hb dX0_readKind_0 (by decide) ?_
  refine lv_istore_n (lv' := [(2, .int (1 : Int32)), (0, .ref (X.1 31)), (1, .ref (X.1 29))]) hx hb dX0_readKind_1 rfl hl (by decide) rfl (fun ls hl => ?_)
  obtain ⟨q8, hq8, h1q8, h2q8⟩ := gv_bret_e h
  refine gv_loop_ind (Φ := fun q => ∀ (H : Heap) (locs : List Loc) (ls : Array Slot), gw_P X q.2 H → va_S (gw_A X) s.heap H locs → lv_has ls 3 [(1, .ref (X.1 29)), (2, .int q.1)] → W p l e rX0_readKind s m args below meth c H locs 0 0 Q (F0 m 2 ls [])) (Ψ := fun ex => (∀ q : Int32 × gs_S, ex = .inl q → ∀ (H : Heap) (locs : List Loc) (ls : Array Slot), gw_P X q.2 H → va_S (gw_A X) s.heap H locs → lv_has ls 3 [] → W p l e rX0_readKind s m args below meth c H locs 0 0 Q (F0 m 28 ls [])) ∧ (∀ r : Int32 × gs_S, ex = .inr r → ∀ (H : Heap) (locs : List Loc) (ls : Array Slot) (pc : Nat), gw_P X r.2 H → va_S (gw_A X) s.heap H locs → decode cX0_readKind pc = .ok (.ireturn, 1) → W p l e rX0_readKind s m args below meth c H locs 0 0 Q (F0 m pc ls [.int r.1]))) ?_ gv_N ((1 : Int32), s0) q8 hq8 ⟨?_, ?_⟩ H locs ls hP hS (lv_sub hl [2, 0] rfl)
  · intro q x h Kc Ke H locs ls hP hS hl
    obtain ⟨v1, s2⟩ := q
    have h : pX0_readKind_L2 v1 s2 = some x := h
    have hP : gw_P X s2 H := hP
    have hl : lv_has ls 3 [(1, .ref (X.1 29)), (2, .int v1)] := hl
    unfold pX0_readKind_L2 at h
    refine lv_iload_n hx hb dX0_readKind_2 rfl (lv_at hl 1 rfl) ?_
    refine lv_iconst (v := 4) hx hb dX0_readKind_3 (by decide) ?_
    refine lv_icmp_gt (tgt := 28) hx hb dX0_readKind_4 (by decide) (fun hc => ?_) (fun hc => ?_)
    · have h := gv_pos hc h
      exact (Ke _ (gv_inj h)).1 _ rfl _ _ _ hP hS (lv_sub hl [] rfl)
    · have h := gv_neg hc h
      refine lv_aload_n hx hb dX0_readKind_7 rfl (lv_at hl 0 rfl) ?_
      refine va_ldcS hx hb hown hC.2.2.1.2.2.2.2.2.2.2.2 dX0_readKind_8 ?_
      refine lv_iload_n hx hb dX0_readKind_10 rfl (lv_at hl 1 rfl) ?_
      obtain ⟨v3, hv3, h⟩ := gv_bind_e h
      refine gv_chat (rest := [.ref (X.1 29)]) (index := 64) C0 hv3 gX0_readKind_J0_charAt_5068e (by decide +kernel) hP hS hl.1 (Nat.le_of_ble_eq_true rfl) dX0_readKind_11 ⟨Nat.zero_le _, Nat.zero_le _⟩ (fun H locs hP hS => ?_)
      obtain ⟨v4, s5, hv4, h⟩ := gv_bind2_e h
      refine gv_ri (gv_runV (n := 1) (rest := []) C0 (mX7_takes l X s2 v3 hv4) gX0_readKind_X7_takes rfl ⟨rfl, rfl⟩ (by decide +kernel) ⟨by decide, by decide⟩ gk_29.1 (by decide) rfl hP hS rfl hl.1 rfl (Nat.le_of_ble_eq_true rfl) dX0_readKind_14 ⟨Nat.zero_le _, Nat.zero_le _⟩) hS (fun H locs hP hS => ?_)
      refine lv_if_eq (tgt := 22) hx hb dX0_readKind_17 (by decide) (fun hc => ?_) (fun hc => ?_)
      · have h := gv_pos hc h
        obtain ⟨v6, ev6⟩ : ∃ y : Int32, y = (v1 + (1 : Int32)) := ⟨_, rfl⟩
        have h := gv_let_e ev6 h
        refine lv_iinc (v := v6) (lv' := [(2, .int v6), (1, .ref (X.1 29))]) hx hb dX0_readKind_22 hl (k := 1) rfl (by rw [ev6]; rfl) (by decide) rfl (fun ls hl => ?_)
        refine lv_goto (tgt := 2) hx hb dX0_readKind_25 (by decide) ?_
        exact Kc _ (gv_inj h) _ _ _ hP hS (lv_sub hl [1, 0] rfl)
      · have h := gv_neg hc h
        refine lv_iload_n hx hb dX0_readKind_20 rfl (lv_at hl 1 rfl) ?_
        exact (Ke _ (gv_inj h)).2 _ rfl _ _ _ _ hP hS dX0_readKind_21
  · intro q hex H locs ls hP hS hl
    have h := h1q8 q hex
    obtain ⟨v7, s8⟩ := q
    have h := gv_let_e (x := v7) rfl h
    have h := gv_let_e (x := s8) rfl h
    have hP : gw_P X s8 H := hP
    have hl : lv_has ls 3 [] := hl
    refine lv_iconst (v := 0) hx hb dX0_readKind_28 (by decide) ?_
    exact Kr _ _ _ _ _ _ (gv_inj h) hP hS dX0_readKind_29
  · intro r hex H locs ls pc hP hS hd
    exact Kr _ _ _ _ _ _ (h2q8 r hex).symm hP hS hd
theorem mX0_readKind (l : Launch) (X : gw_X) (s0 : gs_S)  {r : Int32} {τ : gs_S} (h : pX0_readKind s0 = some (r, τ)) : Met l yX0_readKind wsX0_readKind rX0_readKind (gm_Pc X s0 [.ref (X.1 31), .ref (X.1 29)]) (gm_Qi X τ r) 0 0 (gw_A X) :=
  gm_of RX0 (by decide) rfl rfl (Nat.le_of_ble_eq_true rfl) (fun p e s m below meth c ls C0 hP hl hS => tX0_readKind C0  s0 h (fun H locs ls pc r τ hr hP hS hd => by cases hr; exact gm_reti C0 hP hS hd) hP hS hl)
def pX0_readRow_L2 (a2 : Int32) (v1 : Int32) (s2 : gs_S) : Option ((Int32 × gs_S) ⊕ (Int32 × gs_S)) := if (8 : Int32) ≤ v1 then some (.inr (v1, s2)) else gv_bind (pX7_isDigit s2) (fun v3 => if v3 = 0 then some (.inr (v1, s2)) else gv_let ((a2 * (8 : Int32)) + v1) (fun v4 => gv_bind (pX7_sign s2) (fun v5 => gv_in v4 64 (gv_let (gs_u s2 32 v4.toNatClampNeg ((10 : Int32) * (v5 - (48 : Int32)))) (fun s7 => gv_bind (pX7_pass s7) (fun s8 => gv_bind2 (pX0_readKind s8) (fun v9 s10 => gv_in v4 64 (gv_let (gs_u s10 33 v4.toNatClampNeg v9) (fun s12 => gv_let (v1 + (1 : Int32)) (fun v13 => some (.inl (v13, s12))))))))))))
def pX0_readRow (a2 : Int32) (s0 : gs_S) : Option (Int32 × gs_S) := gv_bind (gv_loop (fun q => pX0_readRow_L2 a2 q.1 q.2) gv_N ((0 : Int32), s0)) (fun q => gv_let q.1 (fun v14 => gv_let q.2 (fun s15 => some (v14, s15))))
def rX0_readRow : Room := { frames := 5, cells := 0, slots := 0, locals := 132 }
set_option maxHeartbeats 4000000 in
set_option maxRecDepth 100000 in
theorem tX0_readRow {p : Program} {l : Launch} {e : Env} {s : State} {m : MethodId} {args : Array Value} {below : List Frame} {meth : Method} {c : Code} {X : gw_X} {Q : State → Prop} (C0 : gm_At p s m args meth c X cX0_readRow 5 RX0 wsX0_readRow (some .int)) (a2 : Int32) (s0 : gs_S) {z : Int32 × gs_S} (h : pX0_readRow a2 s0 = some z) (Kr : ∀ (H : Heap) (locs : List Loc) (ls : Array Slot) (pc : Nat) (r : Int32) (τ : gs_S), z = (r, τ) → gw_P X τ H → va_S (gw_A X) s.heap H locs → decode cX0_readRow pc = .ok (.ireturn, 1) → W p l e rX0_readRow s m args below meth c H locs 0 0 Q (F0 m pc ls [.int r])) {H : Heap} {locs : List Loc} {ls : Array Slot} (hP : gw_P X s0 H) (hS : va_S (gw_A X) s.heap H locs) (hl : lv_has ls 5 [(0, .ref (X.1 31)), (1, .ref (X.1 29)), (2, .int a2)]) : W p l e rX0_readRow s m args below meth c H locs 0 0 Q (F0 m 0 ls []) := by
  obtain ⟨hx, hb, hml, hown, hts, hr, hlocks, hC⟩ := id C0
  unfold pX0_readRow at h
  refine lv_iconst (v := 0) hx hb dX0_readRow_0 (by decide) ?_
  refine lv_istore_n (lv' := [(3, .int (0 : Int32)), (0, .ref (X.1 31)), (1, .ref (X.1 29)), (2, .int a2)]) hx hb dX0_readRow_1 rfl hl (by decide) rfl (fun ls hl => ?_)
  obtain ⟨q15, hq15, h⟩ := gv_bind_e h
  refine gv_loop_ind (Φ := fun q => ∀ (H : Heap) (locs : List Loc) (ls : Array Slot), gw_P X q.2 H → va_S (gw_A X) s.heap H locs → lv_has ls 5 [(0, .ref (X.1 31)), (1, .ref (X.1 29)), (2, .int a2), (3, .int q.1)] → W p l e rX0_readRow s m args below meth c H locs 0 0 Q (F0 m 2 ls [])) (Ψ := fun q => ∀ (H : Heap) (locs : List Loc) (ls : Array Slot), gw_P X q.2 H → va_S (gw_A X) s.heap H locs → lv_has ls 5 [(3, .int q.1)] → W p l e rX0_readRow s m args below meth c H locs 0 0 Q (F0 m 62 ls [])) ?_ gv_N ((0 : Int32), s0) q15 hq15 ?_ H locs ls hP hS (lv_sub hl [1, 2, 3, 0] rfl)
  · intro q x h Kc Ke H locs ls hP hS hl
    obtain ⟨v1, s2⟩ := q
    have h : pX0_readRow_L2 a2 v1 s2 = some x := h
    have hP : gw_P X s2 H := hP
    have hl : lv_has ls 5 [(0, .ref (X.1 31)), (1, .ref (X.1 29)), (2, .int a2), (3, .int v1)] := hl
    unfold pX0_readRow_L2 at h
    refine lv_iload_n hx hb dX0_readRow_2 rfl (lv_at hl 3 rfl) ?_
    refine lv_bipush (v := 8) hx hb dX0_readRow_3 (by decide) ?_
    refine lv_icmp_ge (tgt := 62) hx hb dX0_readRow_5 (by decide) (fun hc => ?_) (fun hc => ?_)
    · have h := gv_pos hc h
      exact Ke _ (gv_inj h) _ _ _ hP hS (lv_sub hl [3] rfl)
    · have h := gv_neg hc h
      refine lv_aload_n hx hb dX0_readRow_8 rfl (lv_at hl 1 rfl) ?_
      obtain ⟨v3, hv3, h⟩ := gv_bind_e h
      refine gv_ri (gv_runV (n := 0) (rest := []) C0 (mX7_isDigit l X s2  hv3) gX0_readRow_X7_isDigit rfl ⟨rfl, rfl⟩ (by decide +kernel) ⟨by decide, by decide⟩ gk_29.1 (by decide) rfl hP hS rfl hl.1 rfl (Nat.le_of_ble_eq_true rfl) dX0_readRow_9 ⟨Nat.zero_le _, Nat.zero_le _⟩) hS (fun H locs hP hS => ?_)
      refine lv_if_eq (tgt := 62) hx hb dX0_readRow_12 (by decide) (fun hc => ?_) (fun hc => ?_)
      · have h := gv_pos hc h
        exact Ke _ (gv_inj h) _ _ _ hP hS (lv_sub hl [3] rfl)
      · have h := gv_neg hc h
        refine lv_iload_n hx hb dX0_readRow_15 rfl (lv_at hl 2 rfl) ?_
        refine lv_bipush (v := 8) hx hb dX0_readRow_16 (by decide) ?_
        refine lv_imul hx hb dX0_readRow_18 ?_
        refine lv_iload_n hx hb dX0_readRow_19 rfl (lv_at hl 3 rfl) ?_
        refine lv_iadd hx hb dX0_readRow_20 ?_
        refine lv_topi (fun v4 ev4 => ?_)
        have h := gv_let_e ev4 h
        refine lv_istore (lv' := [(4, .int v4), (0, .ref (X.1 31)), (1, .ref (X.1 29)), (2, .int a2), (3, .int v1)]) hx hb dX0_readRow_21 hl (by decide) rfl (fun ls hl => ?_)
        refine lv_aload_n hx hb dX0_readRow_23 rfl (lv_at hl 1 rfl) ?_
        refine gv_get (ref := "IceByEar$Drafts") (C := RX0) (T := TX0) (N := 3) (ci := 0) (v := .ref (X.1 32)) C0 (fun _ h9 => List.mem_cons_of_mem _ (List.mem_append_left _ (List.mem_append_right _ h9))) hP 31 (gw_o0 X s2 gk_31.1) rfl 0 (by decide) (by decide +kernel) rfl rfl dX0_readRow_24 ?_
        refine lv_iload hx hb dX0_readRow_27 (lv_at hl 0 rfl) ?_
        refine lv_bipush (v := 10) hx hb dX0_readRow_29 (by decide) ?_
        refine lv_aload_n hx hb dX0_readRow_31 rfl (lv_at hl 2 rfl) ?_
        obtain ⟨v5, hv5, h⟩ := gv_bind_e h
        refine gv_ri (gv_runV (n := 0) (rest := [.int (10 : Int32), .int v4, .ref (X.1 32)]) C0 (mX7_sign l X s2  hv5) gX0_readRow_X7_sign rfl ⟨rfl, rfl⟩ (by decide +kernel) ⟨by decide, by decide⟩ gk_29.1 (by decide) rfl hP hS rfl hl.1 rfl (Nat.le_of_ble_eq_true rfl) dX0_readRow_32 ⟨Nat.zero_le _, Nat.zero_le _⟩) hS (fun H locs hP hS => ?_)
        refine lv_bipush (v := 48) hx hb dX0_readRow_35 (by decide) ?_
        refine lv_isub hx hb dX0_readRow_37 ?_
        refine lv_imul hx hb dX0_readRow_38 ?_
        obtain ⟨hin6, h⟩ := gv_in_e h
        refine gv_iast C0 hP hS 32 gk_32.1 gk_32.2 hin6 dX0_readRow_39 (fun s7 H locs es7 hP hS => ?_)
        have h := gv_let_e es7 h
        refine lv_aload_n hx hb dX0_readRow_40 rfl (lv_at hl 2 rfl) ?_
        obtain ⟨s8, hs8, h⟩ := gv_bind_e h
        refine gv_rv (gv_runV (n := 0) (rest := []) C0 (mX7_pass l X s7  hs8) gX0_readRow_X7_pass rfl ⟨rfl, rfl⟩ (by decide +kernel) ⟨by decide, by decide⟩ gk_29.1 (by decide) rfl hP hS rfl hl.1 rfl (Nat.le_of_ble_eq_true rfl) dX0_readRow_41 ⟨Nat.zero_le _, Nat.zero_le _⟩) hS (fun H locs hP hS => ?_)
        refine lv_aload_n hx hb dX0_readRow_44 rfl (lv_at hl 1 rfl) ?_
        refine gv_get (ref := "IceByEar$Drafts") (C := RX0) (T := TX0) (N := 3) (ci := 0) (v := .ref (X.1 33)) C0 (fun _ h9 => List.mem_cons_of_mem _ (List.mem_append_left _ (List.mem_append_right _ h9))) hP 31 (gw_o0 X s8 gk_31.1) rfl 1 (by decide) (by decide +kernel) rfl rfl dX0_readRow_45 ?_
        refine lv_iload hx hb dX0_readRow_48 (lv_at hl 0 rfl) ?_
        refine lv_aload_n hx hb dX0_readRow_50 rfl (lv_at hl 1 rfl) ?_
        refine lv_aload_n hx hb dX0_readRow_51 rfl (lv_at hl 2 rfl) ?_
        obtain ⟨v9, s10, hv9, h⟩ := gv_bind2_e h
        refine gv_ri (gv_runV (n := 1) (rest := [.int v4, .ref (X.1 33)]) C0 (mX0_readKind l X s8  hv9) gX0_readRow_X0_readKind rfl ⟨rfl, rfl⟩ (by decide +kernel) ⟨by decide, by decide⟩ gk_31.1 (by decide) rfl hP hS rfl hl.1 rfl (Nat.le_of_ble_eq_true rfl) dX0_readRow_52 ⟨Nat.zero_le _, Nat.zero_le _⟩) hS (fun H locs hP hS => ?_)
        obtain ⟨hin11, h⟩ := gv_in_e h
        refine gv_iast C0 hP hS 33 gk_33.1 gk_33.2 hin11 dX0_readRow_55 (fun s12 H locs es12 hP hS => ?_)
        have h := gv_let_e es12 h
        obtain ⟨v13, ev13⟩ : ∃ y : Int32, y = (v1 + (1 : Int32)) := ⟨_, rfl⟩
        have h := gv_let_e ev13 h
        refine lv_iinc (v := v13) (lv' := [(3, .int v13), (4, .int v4), (0, .ref (X.1 31)), (1, .ref (X.1 29)), (2, .int a2)]) hx hb dX0_readRow_56 hl (k := 4) rfl (by rw [ev13]; rfl) (by decide) rfl (fun ls hl => ?_)
        refine lv_goto (tgt := 2) hx hb dX0_readRow_59 (by decide) ?_
        exact Kc _ (gv_inj h) _ _ _ hP hS (lv_sub hl [2, 3, 4, 0] rfl)
  · obtain ⟨v14, s15⟩ := q15
    have h := gv_let_e (x := v14) rfl h
    have h := gv_let_e (x := s15) rfl h
    intro H locs ls hP hS hl
    have hP : gw_P X s15 H := hP
    have hl : lv_has ls 5 [(3, .int v14)] := hl
    refine lv_iload_n hx hb dX0_readRow_62 rfl (lv_at hl 0 rfl) ?_
    exact Kr _ _ _ _ _ _ (gv_inj h) hP hS dX0_readRow_63
theorem mX0_readRow (l : Launch) (X : gw_X) (s0 : gs_S) (a2 : Int32) {r : Int32} {τ : gs_S} (h : pX0_readRow a2 s0 = some (r, τ)) : Met l yX0_readRow wsX0_readRow rX0_readRow (gm_Pc X s0 [.ref (X.1 31), .ref (X.1 29), .int a2]) (gm_Qi X τ r) 0 0 (gw_A X) :=
  gm_of RX0 (by decide) rfl rfl (Nat.le_of_ble_eq_true rfl) (fun p e s m below meth c ls C0 hP hl hS => tX0_readRow C0 a2 s0 h (fun H locs ls pc r τ hr hP hS hd => by cases hr; exact gm_reti C0 hP hS hd) hP hS hl)
def pX7_fault  (s0 : gs_S) : Int32 := ((-20 : Int32) - (s0.1 29 2))
def rX7_fault : Room := { frames := 0, cells := 0, slots := 0, locals := 0 }
set_option maxHeartbeats 4000000 in
set_option maxRecDepth 100000 in
theorem tX7_fault {p : Program} {l : Launch} {e : Env} {s : State} {m : MethodId} {args : Array Value} {below : List Frame} {meth : Method} {c : Code} {X : gw_X} {Q : State → Prop} (C0 : gm_At p s m args meth c X cX7_fault 1 RX7 wsX7_fault (some .int))  (s0 : gs_S) {z : Int32} (h : pX7_fault s0 = z) (Kr : ∀ (H : Heap) (locs : List Loc) (ls : Array Slot) (pc : Nat) (r : Int32), z = r → gw_P X s0 H → va_S (gw_A X) s.heap H locs → decode cX7_fault pc = .ok (.ireturn, 1) → W p l e rX7_fault s m args below meth c H locs 0 0 Q (F0 m pc ls [.int r])) {H : Heap} {locs : List Loc} {ls : Array Slot} (hP : gw_P X s0 H) (hS : va_S (gw_A X) s.heap H locs) (hl : lv_has ls 1 [(0, .ref (X.1 29))]) : W p l e rX7_fault s m args below meth c H locs 0 0 Q (F0 m 0 ls []) := by
  obtain ⟨hx, hb, hml, hown, hts, hr, hlocks, hC⟩ := id C0
  unfold pX7_fault at h
  refine lv_bipush (v := -20) hx hb dX7_fault_0 (by decide) ?_
  refine lv_aload_n hx hb dX7_fault_2 rfl (lv_at hl 0 rfl) ?_
  refine gv_get (ref := "IceByEar$Tape") (C := RX7) (T := TX7) (N := 3) (ci := 7) (v := .int (s0.1 29 2)) C0 (fun _ h9 => List.mem_cons_of_mem _ (List.mem_append_right _ h9)) hP 29 (gw_o7 X s0 gk_29.1) rfl 2 (by decide) (by decide +kernel) rfl rfl dX7_fault_3 ?_
  refine lv_isub hx hb dX7_fault_6 ?_
  exact Kr _ _ _ _ _ h.symm hP hS dX7_fault_7
theorem mX7_fault (l : Launch) (X : gw_X) (s0 : gs_S)  : Met l yX7_fault wsX7_fault rX7_fault (gm_Pc X s0 [.ref (X.1 29)]) (gm_Qi X s0 (pX7_fault s0)) 0 0 (gw_A X) :=
  gm_of RX7 (by decide) rfl rfl (Nat.le_of_ble_eq_true rfl) (fun p e s m below meth c ls C0 hP hl hS => tX7_fault C0  s0 rfl (fun H locs ls pc r hr hP hS hd => by subst hr; exact gm_reti C0 hP hS hd) hP hS hl)
def pX0_readIce_J50 (v6 : Int32) (v8 : Int32) (v4 : Int32) (s7 : gs_S)  : Option ((Int32 × Int32 × gs_S) ⊕ ((Int32 × Int32 × gs_S) ⊕ (Int32 × gs_S))) := if v6 = 0 then some (.inr (.inl (v8, v4, s7))) else if v4 = (7 : Int32) then some (.inr (.inl (v8, v4, s7))) else gv_bind2 (pX7_takes (47 : Int32) s7) (fun v9 s10 => if v9 = 0 then some (.inr (.inl (v8, v4, s10))) else gv_let (v4 + (1 : Int32)) (fun v11 => some (.inl (v8, v11, s10))))
def pX0_readIce_L16  (v3 : Int32) (v4 : Int32) (s5 : gs_S) : Option ((Int32 × Int32 × gs_S) ⊕ ((Int32 × Int32 × gs_S) ⊕ (Int32 × gs_S))) := if (8 : Int32) ≤ v4 then some (.inr (.inl (v3, v4, s5))) else gv_bind2 (pX0_readRow v4 s5) (fun v6 s7 => gv_let (v3 + v6) (fun v8 => if v6 ≤ 0 then pX0_readIce_J50 v6 v8 v4 s7 else gv_bind (pX7_sign s7) (fun v12 => if v12 = (-1 : Int32) then some (.inr (.inr (v8, s7))) else pX0_readIce_J50 v6 v8 v4 s7)))
def pX0_readIce  (s0 : gs_S) : Option (Int32 × gs_S) := gv_bind (pJ7_fill_53178 32 (-1 : Int32) s0) (fun s1 => gv_bind (pX7_rewind s1) (fun s2 => gv_bret (gv_loop (fun q => pX0_readIce_L16 q.1 q.2.1 q.2.2) gv_N ((0 : Int32), (0 : Int32), s2)) (fun r => r) (fun q => gv_let q.1 (fun v13 => gv_let q.2.1 (fun v14 => gv_let q.2.2 (fun s15 => some ((pX7_fault s15), s15)))))))
def rX0_readIce : Room := { frames := 6, cells := 0, slots := 0, locals := 156 }
set_option maxHeartbeats 4000000 in
set_option maxRecDepth 100000 in
theorem tX0_readIce {p : Program} {l : Launch} {e : Env} {s : State} {m : MethodId} {args : Array Value} {below : List Frame} {meth : Method} {c : Code} {X : gw_X} {Q : State → Prop} (C0 : gm_At p s m args meth c X cX0_readIce 5 RX0 wsX0_readIce (some .int))  (s0 : gs_S) {z : Int32 × gs_S} (h : pX0_readIce s0 = some z) (Kr : ∀ (H : Heap) (locs : List Loc) (ls : Array Slot) (pc : Nat) (r : Int32) (τ : gs_S), z = (r, τ) → gw_P X τ H → va_S (gw_A X) s.heap H locs → decode cX0_readIce pc = .ok (.ireturn, 1) → W p l e rX0_readIce s m args below meth c H locs 0 0 Q (F0 m pc ls [.int r])) {H : Heap} {locs : List Loc} {ls : Array Slot} (hP : gw_P X s0 H) (hS : va_S (gw_A X) s.heap H locs) (hl : lv_has ls 5 [(0, .ref (X.1 31)), (1, .ref (X.1 29))]) : W p l e rX0_readIce s m args below meth c H locs 0 0 Q (F0 m 0 ls []) := by
  obtain ⟨hx, hb, hml, hown, hts, hr, hlocks, hC⟩ := id C0
  unfold pX0_readIce at h
  refine lv_aload_n hx hb dX0_readIce_0 rfl (lv_at hl 0 rfl) ?_
  refine gv_get (ref := "IceByEar$Drafts") (C := RX0) (T := TX0) (N := 3) (ci := 0) (v := .ref (X.1 32)) C0 (fun _ h9 => List.mem_cons_of_mem _ (List.mem_append_left _ (List.mem_append_right _ h9))) hP 31 (gw_o0 X s0 gk_31.1) rfl 0 (by decide) (by decide +kernel) rfl rfl dX0_readIce_1 ?_
  refine lv_iconst (v := -1) hx hb dX0_readIce_4 (by decide) ?_
  obtain ⟨s1, hs1, h⟩ := gv_bind_e h
  refine gv_rv (gv_runS (n := 2) (rest := []) C0 (mJ7_fill_53178 l X s0 32 gk_32.1 (-1 : Int32) hs1) gX0_readIce_J7_fill_53178 rfl ⟨rfl, rfl⟩ (by decide +kernel) ⟨by decide, by decide⟩ hP hS rfl hl.1 rfl (Nat.le_of_ble_eq_true rfl) dX0_readIce_5 ⟨Nat.zero_le _, Nat.zero_le _⟩) hS (fun H locs hP hS => ?_)
  refine lv_aload_n hx hb dX0_readIce_8 rfl (lv_at hl 1 rfl) ?_
  obtain ⟨s2, hs2, h⟩ := gv_bind_e h
  refine gv_rv (gv_runV (n := 0) (rest := []) C0 (mX7_rewind l X s1  hs2) gX0_readIce_X7_rewind rfl ⟨rfl, rfl⟩ (by decide +kernel) ⟨by decide, by decide⟩ gk_29.1 (by decide) rfl hP hS rfl hl.1 rfl (Nat.le_of_ble_eq_true rfl) dX0_readIce_9 ⟨Nat.zero_le _, Nat.zero_le _⟩) hS (fun H locs hP hS => ?_)
  refine lv_iconst (v := 0) hx hb dX0_readIce_12 (by decide) ?_
  refine lv_istore_n (lv' := [(2, .int (0 : Int32)), (0, .ref (X.1 31)), (1, .ref (X.1 29))]) hx hb dX0_readIce_13 rfl hl (by decide) rfl (fun ls hl => ?_)
  refine lv_iconst (v := 0) hx hb dX0_readIce_14 (by decide) ?_
  refine lv_istore_n (lv' := [(3, .int (0 : Int32)), (2, .int (0 : Int32)), (0, .ref (X.1 31)), (1, .ref (X.1 29))]) hx hb dX0_readIce_15 rfl hl (by decide) rfl (fun ls hl => ?_)
  obtain ⟨q15, hq15, h1q15, h2q15⟩ := gv_bret_e h
  refine gv_loop_ind (Φ := fun q => ∀ (H : Heap) (locs : List Loc) (ls : Array Slot), gw_P X q.2.2 H → va_S (gw_A X) s.heap H locs → lv_has ls 5 [(0, .ref (X.1 31)), (1, .ref (X.1 29)), (2, .int q.1), (3, .int q.2.1)] → W p l e rX0_readIce s m args below meth c H locs 0 0 Q (F0 m 16 ls [])) (Ψ := fun ex => (∀ q : Int32 × Int32 × gs_S, ex = .inl q → ∀ (H : Heap) (locs : List Loc) (ls : Array Slot), gw_P X q.2.2 H → va_S (gw_A X) s.heap H locs → lv_has ls 5 [(1, .ref (X.1 29))] → W p l e rX0_readIce s m args below meth c H locs 0 0 Q (F0 m 79 ls [])) ∧ (∀ r : Int32 × gs_S, ex = .inr r → ∀ (H : Heap) (locs : List Loc) (ls : Array Slot) (pc : Nat), gw_P X r.2 H → va_S (gw_A X) s.heap H locs → decode cX0_readIce pc = .ok (.ireturn, 1) → W p l e rX0_readIce s m args below meth c H locs 0 0 Q (F0 m pc ls [.int r.1]))) ?_ gv_N ((0 : Int32), (0 : Int32), s2) q15 hq15 ⟨?_, ?_⟩ H locs ls hP hS (lv_sub hl [2, 3, 1, 0] rfl)
  · intro q x h Kc Ke H locs ls hP hS hl
    obtain ⟨v3, v4, s5⟩ := q
    have h : pX0_readIce_L16 v3 v4 s5 = some x := h
    have hP : gw_P X s5 H := hP
    have hl : lv_has ls 5 [(0, .ref (X.1 31)), (1, .ref (X.1 29)), (2, .int v3), (3, .int v4)] := hl
    unfold pX0_readIce_L16 at h
    refine lv_iload_n hx hb dX0_readIce_16 rfl (lv_at hl 3 rfl) ?_
    refine lv_bipush (v := 8) hx hb dX0_readIce_17 (by decide) ?_
    refine lv_icmp_ge (tgt := 79) hx hb dX0_readIce_19 (by decide) (fun hc => ?_) (fun hc => ?_)
    · have h := gv_pos hc h
      exact (Ke _ (gv_inj h)).1 _ rfl _ _ _ hP hS (lv_sub hl [1] rfl)
    · have h := gv_neg hc h
      refine lv_aload_n hx hb dX0_readIce_22 rfl (lv_at hl 0 rfl) ?_
      refine lv_aload_n hx hb dX0_readIce_23 rfl (lv_at hl 1 rfl) ?_
      refine lv_iload_n hx hb dX0_readIce_24 rfl (lv_at hl 3 rfl) ?_
      obtain ⟨v6, s7, hv6, h⟩ := gv_bind2_e h
      refine gv_ri (gv_runV (n := 2) (rest := []) C0 (mX0_readRow l X s5 v4 hv6) gX0_readIce_X0_readRow rfl ⟨rfl, rfl⟩ (by decide +kernel) ⟨by decide, by decide⟩ gk_31.1 (by decide) rfl hP hS rfl hl.1 rfl (Nat.le_of_ble_eq_true rfl) dX0_readIce_25 ⟨Nat.zero_le _, Nat.zero_le _⟩) hS (fun H locs hP hS => ?_)
      refine lv_istore (lv' := [(4, .int v6), (0, .ref (X.1 31)), (1, .ref (X.1 29)), (2, .int v3), (3, .int v4)]) hx hb dX0_readIce_28 hl (by decide) rfl (fun ls hl => ?_)
      refine lv_iload_n hx hb dX0_readIce_30 rfl (lv_at hl 3 rfl) ?_
      refine lv_iload hx hb dX0_readIce_31 (lv_at hl 0 rfl) ?_
      refine lv_iadd hx hb dX0_readIce_33 ?_
      refine lv_topi (fun v8 ev8 => ?_)
      have h := gv_let_e ev8 h
      refine lv_istore_n (lv' := [(2, .int v8), (4, .int v6), (0, .ref (X.1 31)), (1, .ref (X.1 29)), (3, .int v4)]) hx hb dX0_readIce_34 rfl hl (by decide) rfl (fun ls hl => ?_)
      refine lv_iload hx hb dX0_readIce_35 (lv_at hl 1 rfl) ?_
      have J50 : ∀  (H : Heap) (locs : List Loc) (ls : Array Slot), pX0_readIce_J50 v6 v8 v4 s7 = some x → gw_P X s7 H → va_S (gw_A X) s.heap H locs → lv_has ls 5 [(2, .int v8), (4, .int v6), (0, .ref (X.1 31)), (1, .ref (X.1 29)), (3, .int v4)] → W p l e rX0_readIce s m args below meth c H locs 0 0 Q (F0 m 50 ls []) := by
        intro  H locs ls h hP hS hl
        unfold pX0_readIce_J50 at h
        refine lv_iload hx hb dX0_readIce_50 (lv_at hl 1 rfl) ?_
        refine lv_if_eq (tgt := 79) hx hb dX0_readIce_52 (by decide) (fun hc => ?_) (fun hc => ?_)
        · have h := gv_pos hc h
          exact (Ke _ (gv_inj h)).1 _ rfl _ _ _ hP hS (lv_sub hl [3] rfl)
        · have h := gv_neg hc h
          refine lv_iload_n hx hb dX0_readIce_55 rfl (lv_at hl 4 rfl) ?_
          refine lv_bipush (v := 7) hx hb dX0_readIce_56 (by decide) ?_
          refine lv_icmp_eq (tgt := 79) hx hb dX0_readIce_58 (by decide) (fun hc => ?_) (fun hc => ?_)
          · have h := gv_pos hc h
            exact (Ke _ (gv_inj h)).1 _ rfl _ _ _ hP hS (lv_sub hl [3] rfl)
          · have h := gv_neg hc h
            refine lv_aload_n hx hb dX0_readIce_61 rfl (lv_at hl 3 rfl) ?_
            refine lv_bipush (v := 47) hx hb dX0_readIce_62 (by decide) ?_
            obtain ⟨v9, s10, hv9, h⟩ := gv_bind2_e h
            refine gv_ri (gv_runV (n := 1) (rest := []) C0 (mX7_takes l X s7 (47 : Int32) hv9) gX0_readIce_X7_takes rfl ⟨rfl, rfl⟩ (by decide +kernel) ⟨by decide, by decide⟩ gk_29.1 (by decide) rfl hP hS rfl hl.1 rfl (Nat.le_of_ble_eq_true rfl) dX0_readIce_64 ⟨Nat.zero_le _, Nat.zero_le _⟩) hS (fun H locs hP hS => ?_)
            refine lv_if_ne (tgt := 73) hx hb dX0_readIce_67 (by decide) (fun hc => ?_) (fun hc => ?_)
            · have h := gv_neg hc h
              obtain ⟨v11, ev11⟩ : ∃ y : Int32, y = (v4 + (1 : Int32)) := ⟨_, rfl⟩
              have h := gv_let_e ev11 h
              refine lv_iinc (v := v11) (lv' := [(3, .int v11), (2, .int v8), (4, .int v6), (0, .ref (X.1 31)), (1, .ref (X.1 29))]) hx hb dX0_readIce_73 hl (k := 4) rfl (by rw [ev11]; rfl) (by decide) rfl (fun ls hl => ?_)
              refine lv_goto (tgt := 16) hx hb dX0_readIce_76 (by decide) ?_
              exact Kc _ (gv_inj h) _ _ _ hP hS (lv_sub hl [3, 4, 1, 0] rfl)
            · have h := gv_pos hc h
              refine lv_goto (tgt := 79) hx hb dX0_readIce_70 (by decide) ?_
              exact (Ke _ (gv_inj h)).1 _ rfl _ _ _ hP hS (lv_sub hl [3] rfl)
      refine lv_if_le (tgt := 50) hx hb dX0_readIce_37 (by decide) (fun hc => ?_) (fun hc => ?_)
      · have h := gv_pos hc h
        exact J50  _ _ _ h hP hS (lv_sub hl [0, 1, 2, 3, 4] rfl)
      · have h := gv_neg hc h
        refine lv_aload_n hx hb dX0_readIce_40 rfl (lv_at hl 3 rfl) ?_
        obtain ⟨v12, hv12, h⟩ := gv_bind_e h
        refine gv_ri (gv_runV (n := 0) (rest := []) C0 (mX7_sign l X s7  hv12) gX0_readIce_X7_sign rfl ⟨rfl, rfl⟩ (by decide +kernel) ⟨by decide, by decide⟩ gk_29.1 (by decide) rfl hP hS rfl hl.1 rfl (Nat.le_of_ble_eq_true rfl) dX0_readIce_41 ⟨Nat.zero_le _, Nat.zero_le _⟩) hS (fun H locs hP hS => ?_)
        refine lv_iconst (v := -1) hx hb dX0_readIce_44 (by decide) ?_
        refine lv_icmp_ne (tgt := 50) hx hb dX0_readIce_45 (by decide) (fun hc => ?_) (fun hc => ?_)
        · have h := gv_neg hc h
          exact J50  _ _ _ h hP hS (lv_sub hl [0, 1, 2, 3, 4] rfl)
        · have h := gv_pos hc h
          refine lv_iload_n hx hb dX0_readIce_48 rfl (lv_at hl 0 rfl) ?_
          exact (Ke _ (gv_inj h)).2 _ rfl _ _ _ _ hP hS dX0_readIce_49
  · intro q hex H locs ls hP hS hl
    have h := h1q15 q hex
    obtain ⟨v13, v14, s15⟩ := q
    have h := gv_let_e (x := v13) rfl h
    have h := gv_let_e (x := v14) rfl h
    have h := gv_let_e (x := s15) rfl h
    have hP : gw_P X s15 H := hP
    have hl : lv_has ls 5 [(1, .ref (X.1 29))] := hl
    refine lv_aload_n hx hb dX0_readIce_79 rfl (lv_at hl 0 rfl) ?_
    refine gv_ri (gv_runV (n := 0) (rest := []) C0 (mX7_fault l X s15 ) gX0_readIce_X7_fault rfl ⟨rfl, rfl⟩ (by decide +kernel) ⟨by decide, by decide⟩ gk_29.1 (by decide) rfl hP hS rfl hl.1 rfl (Nat.le_of_ble_eq_true rfl) dX0_readIce_80 ⟨Nat.zero_le _, Nat.zero_le _⟩) hS (fun H locs hP hS => ?_)
    exact Kr _ _ _ _ _ _ (gv_inj h) hP hS dX0_readIce_83
  · intro r hex H locs ls pc hP hS hd
    exact Kr _ _ _ _ _ _ (h2q15 r hex).symm hP hS hd
theorem mX0_readIce (l : Launch) (X : gw_X) (s0 : gs_S)  {r : Int32} {τ : gs_S} (h : pX0_readIce s0 = some (r, τ)) : Met l yX0_readIce wsX0_readIce rX0_readIce (gm_Pc X s0 [.ref (X.1 31), .ref (X.1 29)]) (gm_Qi X τ r) 0 0 (gw_A X) :=
  gm_of RX0 (by decide) rfl rfl (Nat.le_of_ble_eq_true rfl) (fun p e s m below meth c ls C0 hP hl hS => tX0_readIce C0  s0 h (fun H locs ls pc r τ hr hP hS hd => by cases hr; exact gm_reti C0 hP hS hd) hP hS hl)
def pX0_layIce_L2  (v1 : Int32) (s2 : gs_S) : Option ((Int32 × gs_S) ⊕ (Int32 × gs_S)) := if (64 : Int32) ≤ v1 then some (.inr (v1, s2)) else gv_in v1 64 (if (s2.1 32 v1.toNatClampNeg) = (-1 : Int32) then gv_let (v1 + (1 : Int32)) (fun v4 => some (.inl (v4, s2))) else gv_in v1 64 (gv_bind (pX2_put v1 (0 : Int32) (s2.1 32 v1.toNatClampNeg) s2) (fun s6 => gv_in v1 64 (gv_bind (pX2_put v1 (1 : Int32) (s6.1 33 v1.toNatClampNeg) s6) (fun s8 => gv_bind (pX2_put v1 (2 : Int32) (0 : Int32) s8) (fun s9 => gv_bind (pX2_put v1 (3 : Int32) (0 : Int32) s9) (fun s10 => gv_bind (pX2_put v1 (4 : Int32) (0 : Int32) s10) (fun s11 => gv_let (v1 + (1 : Int32)) (fun v12 => some (.inl (v12, s11)))))))))))
def pX0_layIce  (s0 : gs_S) : Option (gs_S) := gv_bind (gv_loop (fun q => pX0_layIce_L2 q.1 q.2) gv_N ((0 : Int32), s0)) (fun q => gv_let q.1 (fun v13 => gv_let q.2 (fun s14 => some s14)))
def rX0_layIce : Room := { frames := 1, cells := 0, slots := 0, locals := 23 }
set_option maxHeartbeats 4000000 in
set_option maxRecDepth 100000 in
theorem tX0_layIce {p : Program} {l : Launch} {e : Env} {s : State} {m : MethodId} {args : Array Value} {below : List Frame} {meth : Method} {c : Code} {X : gw_X} {Q : State → Prop} (C0 : gm_At p s m args meth c X cX0_layIce 3 RX0 wsX0_layIce none)  (s0 : gs_S) {z : gs_S} (h : pX0_layIce s0 = some z) (Kr : ∀ (H : Heap) (locs : List Loc) (ls : Array Slot) (pc : Nat) (τ : gs_S), z = τ → gw_P X τ H → va_S (gw_A X) s.heap H locs → decode cX0_layIce pc = .ok (.return_, 1) → W p l e rX0_layIce s m args below meth c H locs 0 0 Q (F0 m pc ls [])) {H : Heap} {locs : List Loc} {ls : Array Slot} (hP : gw_P X s0 H) (hS : va_S (gw_A X) s.heap H locs) (hl : lv_has ls 3 [(0, .ref (X.1 31)), (1, .ref (X.1 2))]) : W p l e rX0_layIce s m args below meth c H locs 0 0 Q (F0 m 0 ls []) := by
  obtain ⟨hx, hb, hml, hown, hts, hr, hlocks, hC⟩ := id C0
  unfold pX0_layIce at h
  refine lv_iconst (v := 0) hx hb dX0_layIce_0 (by decide) ?_
  refine lv_istore_n (lv' := [(2, .int (0 : Int32)), (0, .ref (X.1 31)), (1, .ref (X.1 2))]) hx hb dX0_layIce_1 rfl hl (by decide) rfl (fun ls hl => ?_)
  obtain ⟨q14, hq14, h⟩ := gv_bind_e h
  refine gv_loop_ind (Φ := fun q => ∀ (H : Heap) (locs : List Loc) (ls : Array Slot), gw_P X q.2 H → va_S (gw_A X) s.heap H locs → lv_has ls 3 [(0, .ref (X.1 31)), (1, .ref (X.1 2)), (2, .int q.1)] → W p l e rX0_layIce s m args below meth c H locs 0 0 Q (F0 m 2 ls [])) (Ψ := fun q => ∀ (H : Heap) (locs : List Loc) (ls : Array Slot), gw_P X q.2 H → va_S (gw_A X) s.heap H locs → lv_has ls 3 [] → W p l e rX0_layIce s m args below meth c H locs 0 0 Q (F0 m 69 ls [])) ?_ gv_N ((0 : Int32), s0) q14 hq14 ?_ H locs ls hP hS (lv_sub hl [1, 2, 0] rfl)
  · intro q x h Kc Ke H locs ls hP hS hl
    obtain ⟨v1, s2⟩ := q
    have h : pX0_layIce_L2 v1 s2 = some x := h
    have hP : gw_P X s2 H := hP
    have hl : lv_has ls 3 [(0, .ref (X.1 31)), (1, .ref (X.1 2)), (2, .int v1)] := hl
    unfold pX0_layIce_L2 at h
    refine lv_iload_n hx hb dX0_layIce_2 rfl (lv_at hl 2 rfl) ?_
    refine lv_bipush (v := 64) hx hb dX0_layIce_3 (by decide) ?_
    refine lv_icmp_ge (tgt := 69) hx hb dX0_layIce_5 (by decide) (fun hc => ?_) (fun hc => ?_)
    · have h := gv_pos hc h
      exact Ke _ (gv_inj h) _ _ _ hP hS (lv_sub hl [] rfl)
    · have h := gv_neg hc h
      refine lv_aload_n hx hb dX0_layIce_8 rfl (lv_at hl 0 rfl) ?_
      refine gv_get (ref := "IceByEar$Drafts") (C := RX0) (T := TX0) (N := 3) (ci := 0) (v := .ref (X.1 32)) C0 (fun _ h9 => List.mem_cons_of_mem _ (List.mem_append_left _ (List.mem_append_right _ h9))) hP 31 (gw_o0 X s2 gk_31.1) rfl 0 (by decide) (by decide +kernel) rfl rfl dX0_layIce_9 ?_
      refine lv_iload_n hx hb dX0_layIce_12 rfl (lv_at hl 2 rfl) ?_
      obtain ⟨hin3, h⟩ := gv_in_e h
      refine gv_iald C0 hP 32 gk_32.1 gk_32.2 hin3 dX0_layIce_13 ?_
      refine lv_iconst (v := -1) hx hb dX0_layIce_14 (by decide) ?_
      refine lv_icmp_eq (tgt := 63) hx hb dX0_layIce_15 (by decide) (fun hc => ?_) (fun hc => ?_)
      · have h := gv_pos hc h
        obtain ⟨v4, ev4⟩ : ∃ y : Int32, y = (v1 + (1 : Int32)) := ⟨_, rfl⟩
        have h := gv_let_e ev4 h
        refine lv_iinc (v := v4) (lv' := [(2, .int v4), (0, .ref (X.1 31)), (1, .ref (X.1 2))]) hx hb dX0_layIce_63 hl (k := 2) rfl (by rw [ev4]; rfl) (by decide) rfl (fun ls hl => ?_)
        refine lv_goto (tgt := 2) hx hb dX0_layIce_66 (by decide) ?_
        exact Kc _ (gv_inj h) _ _ _ hP hS (lv_sub hl [1, 2, 0] rfl)
      · have h := gv_neg hc h
        refine lv_aload_n hx hb dX0_layIce_18 rfl (lv_at hl 1 rfl) ?_
        refine lv_iload_n hx hb dX0_layIce_19 rfl (lv_at hl 2 rfl) ?_
        refine lv_iconst (v := 0) hx hb dX0_layIce_20 (by decide) ?_
        refine lv_aload_n hx hb dX0_layIce_21 rfl (lv_at hl 0 rfl) ?_
        refine gv_get (ref := "IceByEar$Drafts") (C := RX0) (T := TX0) (N := 3) (ci := 0) (v := .ref (X.1 32)) C0 (fun _ h9 => List.mem_cons_of_mem _ (List.mem_append_left _ (List.mem_append_right _ h9))) hP 31 (gw_o0 X s2 gk_31.1) rfl 0 (by decide) (by decide +kernel) rfl rfl dX0_layIce_22 ?_
        refine lv_iload_n hx hb dX0_layIce_25 rfl (lv_at hl 2 rfl) ?_
        obtain ⟨hin5, h⟩ := gv_in_e h
        refine gv_iald C0 hP 32 gk_32.1 gk_32.2 hin5 dX0_layIce_26 ?_
        obtain ⟨s6, hs6, h⟩ := gv_bind_e h
        refine gv_rv (gv_runV (n := 3) (rest := []) C0 (mX2_put l X s2 v1 (0 : Int32) (s2.1 32 v1.toNatClampNeg) hs6) gX0_layIce_X2_put rfl ⟨rfl, rfl⟩ (by decide +kernel) ⟨by decide, by decide⟩ gk_2.1 (by decide) rfl hP hS rfl hl.1 rfl (Nat.le_of_ble_eq_true rfl) dX0_layIce_27 ⟨Nat.zero_le _, Nat.zero_le _⟩) hS (fun H locs hP hS => ?_)
        refine lv_aload_n hx hb dX0_layIce_30 rfl (lv_at hl 1 rfl) ?_
        refine lv_iload_n hx hb dX0_layIce_31 rfl (lv_at hl 2 rfl) ?_
        refine lv_iconst (v := 1) hx hb dX0_layIce_32 (by decide) ?_
        refine lv_aload_n hx hb dX0_layIce_33 rfl (lv_at hl 0 rfl) ?_
        refine gv_get (ref := "IceByEar$Drafts") (C := RX0) (T := TX0) (N := 3) (ci := 0) (v := .ref (X.1 33)) C0 (fun _ h9 => List.mem_cons_of_mem _ (List.mem_append_left _ (List.mem_append_right _ h9))) hP 31 (gw_o0 X s6 gk_31.1) rfl 1 (by decide) (by decide +kernel) rfl rfl dX0_layIce_34 ?_
        refine lv_iload_n hx hb dX0_layIce_37 rfl (lv_at hl 2 rfl) ?_
        obtain ⟨hin7, h⟩ := gv_in_e h
        refine gv_iald C0 hP 33 gk_33.1 gk_33.2 hin7 dX0_layIce_38 ?_
        obtain ⟨s8, hs8, h⟩ := gv_bind_e h
        refine gv_rv (gv_runV (n := 3) (rest := []) C0 (mX2_put l X s6 v1 (1 : Int32) (s6.1 33 v1.toNatClampNeg) hs8) gX0_layIce_X2_put rfl ⟨rfl, rfl⟩ (by decide +kernel) ⟨by decide, by decide⟩ gk_2.1 (by decide) rfl hP hS rfl hl.1 rfl (Nat.le_of_ble_eq_true rfl) dX0_layIce_39 ⟨Nat.zero_le _, Nat.zero_le _⟩) hS (fun H locs hP hS => ?_)
        refine lv_aload_n hx hb dX0_layIce_42 rfl (lv_at hl 1 rfl) ?_
        refine lv_iload_n hx hb dX0_layIce_43 rfl (lv_at hl 2 rfl) ?_
        refine lv_iconst (v := 2) hx hb dX0_layIce_44 (by decide) ?_
        refine lv_iconst (v := 0) hx hb dX0_layIce_45 (by decide) ?_
        obtain ⟨s9, hs9, h⟩ := gv_bind_e h
        refine gv_rv (gv_runV (n := 3) (rest := []) C0 (mX2_put l X s8 v1 (2 : Int32) (0 : Int32) hs9) gX0_layIce_X2_put rfl ⟨rfl, rfl⟩ (by decide +kernel) ⟨by decide, by decide⟩ gk_2.1 (by decide) rfl hP hS rfl hl.1 rfl (Nat.le_of_ble_eq_true rfl) dX0_layIce_46 ⟨Nat.zero_le _, Nat.zero_le _⟩) hS (fun H locs hP hS => ?_)
        refine lv_aload_n hx hb dX0_layIce_49 rfl (lv_at hl 1 rfl) ?_
        refine lv_iload_n hx hb dX0_layIce_50 rfl (lv_at hl 2 rfl) ?_
        refine lv_iconst (v := 3) hx hb dX0_layIce_51 (by decide) ?_
        refine lv_iconst (v := 0) hx hb dX0_layIce_52 (by decide) ?_
        obtain ⟨s10, hs10, h⟩ := gv_bind_e h
        refine gv_rv (gv_runV (n := 3) (rest := []) C0 (mX2_put l X s9 v1 (3 : Int32) (0 : Int32) hs10) gX0_layIce_X2_put rfl ⟨rfl, rfl⟩ (by decide +kernel) ⟨by decide, by decide⟩ gk_2.1 (by decide) rfl hP hS rfl hl.1 rfl (Nat.le_of_ble_eq_true rfl) dX0_layIce_53 ⟨Nat.zero_le _, Nat.zero_le _⟩) hS (fun H locs hP hS => ?_)
        refine lv_aload_n hx hb dX0_layIce_56 rfl (lv_at hl 1 rfl) ?_
        refine lv_iload_n hx hb dX0_layIce_57 rfl (lv_at hl 2 rfl) ?_
        refine lv_iconst (v := 4) hx hb dX0_layIce_58 (by decide) ?_
        refine lv_iconst (v := 0) hx hb dX0_layIce_59 (by decide) ?_
        obtain ⟨s11, hs11, h⟩ := gv_bind_e h
        refine gv_rv (gv_runV (n := 3) (rest := []) C0 (mX2_put l X s10 v1 (4 : Int32) (0 : Int32) hs11) gX0_layIce_X2_put rfl ⟨rfl, rfl⟩ (by decide +kernel) ⟨by decide, by decide⟩ gk_2.1 (by decide) rfl hP hS rfl hl.1 rfl (Nat.le_of_ble_eq_true rfl) dX0_layIce_60 ⟨Nat.zero_le _, Nat.zero_le _⟩) hS (fun H locs hP hS => ?_)
        obtain ⟨v12, ev12⟩ : ∃ y : Int32, y = (v1 + (1 : Int32)) := ⟨_, rfl⟩
        have h := gv_let_e ev12 h
        refine lv_iinc (v := v12) (lv' := [(2, .int v12), (0, .ref (X.1 31)), (1, .ref (X.1 2))]) hx hb dX0_layIce_63 hl (k := 2) rfl (by rw [ev12]; rfl) (by decide) rfl (fun ls hl => ?_)
        refine lv_goto (tgt := 2) hx hb dX0_layIce_66 (by decide) ?_
        exact Kc _ (gv_inj h) _ _ _ hP hS (lv_sub hl [1, 2, 0] rfl)
  · obtain ⟨v13, s14⟩ := q14
    have h := gv_let_e (x := v13) rfl h
    have h := gv_let_e (x := s14) rfl h
    intro H locs ls hP hS hl
    have hP : gw_P X s14 H := hP
    have hl : lv_has ls 3 [] := hl
    exact Kr _ _ _ _ _ (gv_inj h) hP hS dX0_layIce_69
theorem mX0_layIce (l : Launch) (X : gw_X) (s0 : gs_S)  {τ : gs_S} (h : pX0_layIce s0 = some τ) : Met l yX0_layIce wsX0_layIce rX0_layIce (gm_Pc X s0 [.ref (X.1 31), .ref (X.1 2)]) (gm_Qv X τ) 0 0 (gw_A X) :=
  gm_of RX0 (by decide) rfl rfl (Nat.le_of_ble_eq_true rfl) (fun p e s m below meth c ls C0 hP hl hS => tX0_layIce C0  s0 h (fun H locs ls pc τ hr hP hS hd => by subst hr; exact gm_retv C0 hP hS hd) hP hS hl)
def pX10_ice_J30 (v1 : Int32) (s3 : gs_S) : Option (Int32 × gs_S) := gv_let (gs_u s3 29 1 (0 : Int32)) (fun s4 => some (v1, s4))
def pX10_ice  (s0 : gs_S) : Option (Int32 × gs_S) := gv_bind2 (pX0_readIce s0) (fun v1 s2 => if v1 ≤ 0 then pX10_ice_J30 v1 s2 else gv_bind (pX0_layIce s2) (fun s5 => pX10_ice_J30 v1 s5))
def rX10_ice : Room := { frames := 7, cells := 0, slots := 0, locals := 180 }
set_option maxHeartbeats 4000000 in
set_option maxRecDepth 100000 in
theorem tX10_ice {p : Program} {l : Launch} {e : Env} {s : State} {m : MethodId} {args : Array Value} {below : List Frame} {meth : Method} {c : Code} {X : gw_X} {Q : State → Prop} (C0 : gm_At p s m args meth c X cX10_ice 2 RX10 wsX10_ice (some .int))  (s0 : gs_S) {z : Int32 × gs_S} (h : pX10_ice s0 = some z) (Kr : ∀ (H : Heap) (locs : List Loc) (ls : Array Slot) (pc : Nat) (r : Int32) (τ : gs_S), z = (r, τ) → gw_P X τ H → va_S (gw_A X) s.heap H locs → decode cX10_ice pc = .ok (.ireturn, 1) → W p l e rX10_ice s m args below meth c H locs 0 0 Q (F0 m pc ls [.int r])) {H : Heap} {locs : List Loc} {ls : Array Slot} (hP : gw_P X s0 H) (hS : va_S (gw_A X) s.heap H locs) (hl : lv_has ls 2 [(0, .ref (X.1 0))]) : W p l e rX10_ice s m args below meth c H locs 0 0 Q (F0 m 0 ls []) := by
  obtain ⟨hx, hb, hml, hown, hts, hr, hlocks, hC⟩ := id C0
  unfold pX10_ice at h
  refine lv_aload_n hx hb dX10_ice_0 rfl (lv_at hl 0 rfl) ?_
  refine gv_get (ref := "IceByEar") (C := RX10) (T := TX10) (N := 8) (ci := 10) (v := .ref (X.1 31)) C0 (fun _ h9 => List.mem_cons_of_mem _ (List.mem_append_left _ (List.mem_append_left _ (List.mem_append_left _ (List.mem_append_left _ (List.mem_append_right _ h9)))))) hP 0 (gw_o10 X s0 gk_0.1) rfl 4 (by decide) (by decide +kernel) rfl rfl dX10_ice_1 ?_
  refine lv_aload_n hx hb dX10_ice_4 rfl (lv_at hl 0 rfl) ?_
  refine gv_get (ref := "IceByEar") (C := RX10) (T := TX10) (N := 8) (ci := 10) (v := .ref (X.1 29)) C0 (fun _ h9 => List.mem_cons_of_mem _ (List.mem_append_left _ (List.mem_append_left _ (List.mem_append_left _ (List.mem_append_left _ (List.mem_append_right _ h9)))))) hP 0 (gw_o10 X s0 gk_0.1) rfl 3 (by decide) (by decide +kernel) rfl rfl dX10_ice_5 ?_
  obtain ⟨v1, s2, hv1, h⟩ := gv_bind2_e h
  refine gv_ri (gv_runV (n := 1) (rest := []) C0 (mX0_readIce l X s0  hv1) gX10_ice_X0_readIce rfl ⟨rfl, rfl⟩ (by decide +kernel) ⟨by decide, by decide⟩ gk_31.1 (by decide) rfl hP hS rfl hl.1 rfl (Nat.le_of_ble_eq_true rfl) dX10_ice_8 ⟨Nat.zero_le _, Nat.zero_le _⟩) hS (fun H locs hP hS => ?_)
  refine lv_istore_n (lv' := [(1, .int v1), (0, .ref (X.1 0))]) hx hb dX10_ice_11 rfl hl (by decide) rfl (fun ls hl => ?_)
  refine lv_iload_n hx hb dX10_ice_12 rfl (lv_at hl 0 rfl) ?_
  have J30 : ∀ (s3 : gs_S) (H : Heap) (locs : List Loc) (ls : Array Slot), pX10_ice_J30 v1 s3 = some z → gw_P X s3 H → va_S (gw_A X) s.heap H locs → lv_has ls 2 [(1, .int v1), (0, .ref (X.1 0))] → W p l e rX10_ice s m args below meth c H locs 0 0 Q (F0 m 30 ls []) := by
    intro s3 H locs ls h hP hS hl
    unfold pX10_ice_J30 at h
    refine lv_aload_n hx hb dX10_ice_30 rfl (lv_at hl 1 rfl) ?_
    refine gv_get (ref := "IceByEar") (C := RX10) (T := TX10) (N := 8) (ci := 10) (v := .ref (X.1 29)) C0 (fun _ h9 => List.mem_cons_of_mem _ (List.mem_append_left _ (List.mem_append_left _ (List.mem_append_left _ (List.mem_append_left _ (List.mem_append_right _ h9)))))) hP 0 (gw_o10 X s3 gk_0.1) rfl 3 (by decide) (by decide +kernel) rfl rfl dX10_ice_31 ?_
    refine lv_iconst (v := 0) hx hb dX10_ice_34 (by decide) ?_
    refine gv_put (ref := "IceByEar$Tape") (C := RX7) (T := TX7) (N := 3) (ci := 7) (v := .int (0 : Int32)) C0 (fun _ h9 => List.mem_cons_of_mem _ (List.mem_append_left _ (List.mem_append_left _ (List.mem_append_right _ h9)))) tyX7 tyX7_ok nmX7 hP hS 29 (gw_o7 X s3 gk_29.1) rfl 1 (by decide) (by decide +kernel) rfl rfl (tyX7_ok 1 (by decide)) rfl rfl (Nat.le_of_ble_eq_true rfl) (gw_s7_1 gk_29.1 (0 : Int32)) dX10_ice_35 (fun s4 H locs es4 hP hS => ?_)
    have h := gv_let_e es4 h
    refine lv_iload_n hx hb dX10_ice_38 rfl (lv_at hl 0 rfl) ?_
    exact Kr _ _ _ _ _ _ (gv_inj h) hP hS dX10_ice_39
  refine lv_if_le (tgt := 30) hx hb dX10_ice_13 (by decide) (fun hc => ?_) (fun hc => ?_)
  · have h := gv_pos hc h
    exact J30 s2 _ _ _ h hP hS (lv_sub hl [0, 1] rfl)
  · have h := gv_neg hc h
    refine lv_aload_n hx hb dX10_ice_16 rfl (lv_at hl 1 rfl) ?_
    refine gv_get (ref := "IceByEar") (C := RX10) (T := TX10) (N := 8) (ci := 10) (v := .ref (X.1 31)) C0 (fun _ h9 => List.mem_cons_of_mem _ (List.mem_append_left _ (List.mem_append_left _ (List.mem_append_left _ (List.mem_append_left _ (List.mem_append_right _ h9)))))) hP 0 (gw_o10 X s2 gk_0.1) rfl 4 (by decide) (by decide +kernel) rfl rfl dX10_ice_17 ?_
    refine lv_aload_n hx hb dX10_ice_20 rfl (lv_at hl 1 rfl) ?_
    refine gv_get (ref := "IceByEar") (C := RX10) (T := TX10) (N := 8) (ci := 10) (v := .ref (X.1 1)) C0 (fun _ h9 => List.mem_cons_of_mem _ (List.mem_append_left _ (List.mem_append_left _ (List.mem_append_left _ (List.mem_append_left _ (List.mem_append_right _ h9)))))) hP 0 (gw_o10 X s2 gk_0.1) rfl 0 (by decide) (by decide +kernel) rfl rfl dX10_ice_21 ?_
    refine gv_get (ref := "IceByEar$Scene") (C := RX4) (T := TX4) (N := 6) (ci := 4) (v := .ref (X.1 2)) C0 (fun _ h9 => List.mem_cons_of_mem _ (List.mem_append_left _ (List.mem_append_left _ (List.mem_append_left _ (List.mem_append_right _ h9))))) hP 1 (gw_o4 X s2 gk_1.1) rfl 0 (by decide) (by decide +kernel) rfl rfl dX10_ice_24 ?_
    obtain ⟨s5, hs5, h⟩ := gv_bind_e h
    refine gv_rv (gv_runV (n := 1) (rest := []) C0 (mX0_layIce l X s2  hs5) gX10_ice_X0_layIce rfl ⟨rfl, rfl⟩ (by decide +kernel) ⟨by decide, by decide⟩ gk_31.1 (by decide) rfl hP hS rfl hl.1 rfl (Nat.le_of_ble_eq_true rfl) dX10_ice_27 ⟨Nat.zero_le _, Nat.zero_le _⟩) hS (fun H locs hP hS => ?_)
    exact J30 s5 _ _ _ h hP hS (lv_sub hl [0, 1] rfl)
theorem mX10_ice (l : Launch) (X : gw_X) (s0 : gs_S)  {r : Int32} {τ : gs_S} (h : pX10_ice s0 = some (r, τ)) : Met l yX10_ice wsX10_ice rX10_ice (gm_Pc X s0 [.ref (X.1 0)]) (gm_Qi X τ r) 0 0 (gw_A X) :=
  gm_of RX10 (by decide) rfl rfl (Nat.le_of_ble_eq_true rfl) (fun p e s m below meth c ls C0 hP hl hS => tX10_ice C0  s0 h (fun H locs ls pc r τ hr hP hS hd => by cases hr; exact gm_reti C0 hP hS hd) hP hS hl)
def pX7_number_L8  (v2 : Int32) (s3 : gs_S) : Option ((Int32 × gs_S) ⊕ (Int32 × gs_S)) := if (s3.1 29 1) ≤ (s3.1 29 2) then some (.inr (v2, s3)) else gv_bind (pX7_isDigit s3) (fun v4 => if v4 = 0 then some (.inr (v2, s3)) else gv_bind (pX7_sign s3) (fun v5 => gv_let (gv_min (1000 : Int32) ((((10 : Int32) * v2) + v5) - (48 : Int32))) (fun v6 => gv_let (gs_u s3 29 2 ((s3.1 29 2) + (1 : Int32))) (fun s7 => some (.inl (v6, s7))))))
def pX7_number_J79 (s9 : gs_S) (v1 : Int32)  : Option (Int32 × gs_S) := gv_let (gs_u s9 29 2 v1) (fun s10 => some ((-4 : Int32), s10))
def pX7_number (a1 : Int32) (a2 : Int32) (s0 : gs_S) : Option (Int32 × gs_S) := gv_let (s0.1 29 2) (fun v1 => gv_bind (gv_loop (fun q => pX7_number_L8 q.1 q.2) gv_N ((0 : Int32), s0)) (fun q => gv_let q.1 (fun v8 => gv_let q.2 (fun s9 => if (s9.1 29 2) = v1 then pX7_number_J79 s9 v1 else if (pX10_isWithin (v8.toInt64) a1 a2) = 0 then pX7_number_J79 s9 v1 else gv_bind (pX7_skipBlanks s9) (fun s11 => some (v8, s11))))))
def rX7_number : Room := { frames := 2, cells := 0, slots := 0, locals := 43 }
set_option maxHeartbeats 4000000 in
set_option maxRecDepth 100000 in
theorem tX7_number {p : Program} {l : Launch} {e : Env} {s : State} {m : MethodId} {args : Array Value} {below : List Frame} {meth : Method} {c : Code} {X : gw_X} {Q : State → Prop} (C0 : gm_At p s m args meth c X cX7_number 5 RX7 wsX7_number (some .int)) (a1 : Int32) (a2 : Int32) (s0 : gs_S) {z : Int32 × gs_S} (h : pX7_number a1 a2 s0 = some z) (Kr : ∀ (H : Heap) (locs : List Loc) (ls : Array Slot) (pc : Nat) (r : Int32) (τ : gs_S), z = (r, τ) → gw_P X τ H → va_S (gw_A X) s.heap H locs → decode cX7_number pc = .ok (.ireturn, 1) → W p l e rX7_number s m args below meth c H locs 0 0 Q (F0 m pc ls [.int r])) {H : Heap} {locs : List Loc} {ls : Array Slot} (hP : gw_P X s0 H) (hS : va_S (gw_A X) s.heap H locs) (hl : lv_has ls 5 [(0, .ref (X.1 29)), (1, .int a1), (2, .int a2)]) : W p l e rX7_number s m args below meth c H locs 0 0 Q (F0 m 0 ls []) := by
  obtain ⟨hx, hb, hml, hown, hts, hr, hlocks, hC⟩ := id C0
  unfold pX7_number at h
  refine lv_aload_n hx hb dX7_number_0 rfl (lv_at hl 0 rfl) ?_
  refine gv_get (ref := "IceByEar$Tape") (C := RX7) (T := TX7) (N := 3) (ci := 7) (v := .int (s0.1 29 2)) C0 (fun _ h9 => List.mem_cons_of_mem _ (List.mem_append_right _ h9)) hP 29 (gw_o7 X s0 gk_29.1) rfl 2 (by decide) (by decide +kernel) rfl rfl dX7_number_1 ?_
  refine lv_topi (fun v1 ev1 => ?_)
  have h := gv_let_e ev1 h
  refine lv_istore_n (lv' := [(3, .int v1), (0, .ref (X.1 29)), (1, .int a1), (2, .int a2)]) hx hb dX7_number_4 rfl hl (by decide) rfl (fun ls hl => ?_)
  refine lv_iconst (v := 0) hx hb dX7_number_5 (by decide) ?_
  refine lv_istore (lv' := [(4, .int (0 : Int32)), (3, .int v1), (0, .ref (X.1 29)), (1, .int a1), (2, .int a2)]) hx hb dX7_number_6 hl (by decide) rfl (fun ls hl => ?_)
  obtain ⟨q11, hq11, h⟩ := gv_bind_e h
  refine gv_loop_ind (Φ := fun q => ∀ (H : Heap) (locs : List Loc) (ls : Array Slot), gw_P X q.2 H → va_S (gw_A X) s.heap H locs → lv_has ls 5 [(3, .int v1), (0, .ref (X.1 29)), (1, .int a1), (2, .int a2), (4, .int q.1)] → W p l e rX7_number s m args below meth c H locs 0 0 Q (F0 m 8 ls [])) (Ψ := fun q => ∀ (H : Heap) (locs : List Loc) (ls : Array Slot), gw_P X q.2 H → va_S (gw_A X) s.heap H locs → lv_has ls 5 [(3, .int v1), (0, .ref (X.1 29)), (1, .int a1), (2, .int a2), (4, .int q.1)] → W p l e rX7_number s m args below meth c H locs 0 0 Q (F0 m 60 ls [])) ?_ gv_N ((0 : Int32), s0) q11 hq11 ?_ H locs ls hP hS (lv_sub hl [1, 2, 3, 4, 0] rfl)
  · intro q x h Kc Ke H locs ls hP hS hl
    obtain ⟨v2, s3⟩ := q
    have h : pX7_number_L8 v2 s3 = some x := h
    have hP : gw_P X s3 H := hP
    have hl : lv_has ls 5 [(3, .int v1), (0, .ref (X.1 29)), (1, .int a1), (2, .int a2), (4, .int v2)] := hl
    unfold pX7_number_L8 at h
    refine lv_aload_n hx hb dX7_number_8 rfl (lv_at hl 1 rfl) ?_
    refine gv_get (ref := "IceByEar$Tape") (C := RX7) (T := TX7) (N := 3) (ci := 7) (v := .int (s3.1 29 2)) C0 (fun _ h9 => List.mem_cons_of_mem _ (List.mem_append_right _ h9)) hP 29 (gw_o7 X s3 gk_29.1) rfl 2 (by decide) (by decide +kernel) rfl rfl dX7_number_9 ?_
    refine lv_aload_n hx hb dX7_number_12 rfl (lv_at hl 1 rfl) ?_
    refine gv_get (ref := "IceByEar$Tape") (C := RX7) (T := TX7) (N := 3) (ci := 7) (v := .int (s3.1 29 1)) C0 (fun _ h9 => List.mem_cons_of_mem _ (List.mem_append_right _ h9)) hP 29 (gw_o7 X s3 gk_29.1) rfl 1 (by decide) (by decide +kernel) rfl rfl dX7_number_13 ?_
    refine lv_icmp_ge (tgt := 60) hx hb dX7_number_16 (by decide) (fun hc => ?_) (fun hc => ?_)
    · have h := gv_pos hc h
      exact Ke _ (gv_inj h) _ _ _ hP hS (lv_sub hl [0, 1, 2, 3, 4] rfl)
    · have h := gv_neg hc h
      refine lv_aload_n hx hb dX7_number_19 rfl (lv_at hl 1 rfl) ?_
      obtain ⟨v4, hv4, h⟩ := gv_bind_e h
      refine gv_ri (gv_runV (n := 0) (rest := []) C0 (mX7_isDigit l X s3  hv4) gX7_number_X7_isDigit rfl ⟨rfl, rfl⟩ (by decide +kernel) ⟨by decide, by decide⟩ gk_29.1 (by decide) rfl hP hS rfl hl.1 rfl (Nat.le_of_ble_eq_true rfl) dX7_number_20 ⟨Nat.zero_le _, Nat.zero_le _⟩) hS (fun H locs hP hS => ?_)
      refine lv_if_eq (tgt := 60) hx hb dX7_number_23 (by decide) (fun hc => ?_) (fun hc => ?_)
      · have h := gv_pos hc h
        exact Ke _ (gv_inj h) _ _ _ hP hS (lv_sub hl [0, 1, 2, 3, 4] rfl)
      · have h := gv_neg hc h
        refine lv_sipush (v := 1000) hx hb dX7_number_26 (by decide) ?_
        refine lv_bipush (v := 10) hx hb dX7_number_29 (by decide) ?_
        refine lv_iload hx hb dX7_number_31 (lv_at hl 4 rfl) ?_
        refine lv_imul hx hb dX7_number_33 ?_
        refine lv_aload_n hx hb dX7_number_34 rfl (lv_at hl 1 rfl) ?_
        obtain ⟨v5, hv5, h⟩ := gv_bind_e h
        refine gv_ri (gv_runV (n := 0) (rest := [.int ((10 : Int32) * v2), .int (1000 : Int32)]) C0 (mX7_sign l X s3  hv5) gX7_number_X7_sign rfl ⟨rfl, rfl⟩ (by decide +kernel) ⟨by decide, by decide⟩ gk_29.1 (by decide) rfl hP hS rfl hl.1 rfl (Nat.le_of_ble_eq_true rfl) dX7_number_35 ⟨Nat.zero_le _, Nat.zero_le _⟩) hS (fun H locs hP hS => ?_)
        refine lv_iadd hx hb dX7_number_38 ?_
        refine lv_bipush (v := 48) hx hb dX7_number_39 (by decide) ?_
        refine lv_isub hx hb dX7_number_41 ?_
        refine va_mmin hx hb (hml.trans hl.1.symm) hown (hts (.methodLink RX7 40 Lib.Math.min.name) (by decide +kernel)) (hts (.static Lib.Math.min.name) (by decide +kernel)) (hts (.initialized "java/lang/Math") (by decide +kernel)) (hts (.code Lib.Math.min.name Lib.Math.min.code 2 (some .int)) (by decide +kernel)) (by decide) (Nat.le_of_ble_eq_true rfl) (Nat.zero_le _) (Nat.zero_le _) dX7_number_42 ?_
        refine lv_topi (fun v6 ev6 => ?_)
        have h := gv_let_e ev6 h
        refine lv_istore (lv' := [(4, .int v6), (3, .int v1), (0, .ref (X.1 29)), (1, .int a1), (2, .int a2)]) hx hb dX7_number_45 hl (by decide) rfl (fun ls hl => ?_)
        refine lv_aload_n hx hb dX7_number_47 rfl (lv_at hl 2 rfl) ?_
        refine lv_dup hx hb dX7_number_48 rfl ?_
        refine gv_get (ref := "IceByEar$Tape") (C := RX7) (T := TX7) (N := 3) (ci := 7) (v := .int (s3.1 29 2)) C0 (fun _ h9 => List.mem_cons_of_mem _ (List.mem_append_right _ h9)) hP 29 (gw_o7 X s3 gk_29.1) rfl 2 (by decide) (by decide +kernel) rfl rfl dX7_number_49 ?_
        refine lv_iconst (v := 1) hx hb dX7_number_52 (by decide) ?_
        refine lv_iadd hx hb dX7_number_53 ?_
        refine gv_put (ref := "IceByEar$Tape") (C := RX7) (T := TX7) (N := 3) (ci := 7) (v := .int ((s3.1 29 2) + (1 : Int32))) C0 (fun _ h9 => List.mem_cons_of_mem _ (List.mem_append_right _ h9)) tyX7 tyX7_ok nmX7 hP hS 29 (gw_o7 X s3 gk_29.1) rfl 2 (by decide) (by decide +kernel) rfl rfl (tyX7_ok 2 (by decide)) rfl rfl (Nat.le_of_ble_eq_true rfl) (gw_s7_2 gk_29.1 ((s3.1 29 2) + (1 : Int32))) dX7_number_54 (fun s7 H locs es7 hP hS => ?_)
        have h := gv_let_e es7 h
        refine lv_goto (tgt := 8) hx hb dX7_number_57 (by decide) ?_
        exact Kc _ (gv_inj h) _ _ _ hP hS (lv_sub hl [1, 2, 3, 4, 0] rfl)
  · obtain ⟨v8, s9⟩ := q11
    have h := gv_let_e (x := v8) rfl h
    have h := gv_let_e (x := s9) rfl h
    intro H locs ls hP hS hl
    have hP : gw_P X s9 H := hP
    have hl : lv_has ls 5 [(3, .int v1), (0, .ref (X.1 29)), (1, .int a1), (2, .int a2), (4, .int v8)] := hl
    refine lv_aload_n hx hb dX7_number_60 rfl (lv_at hl 1 rfl) ?_
    refine gv_get (ref := "IceByEar$Tape") (C := RX7) (T := TX7) (N := 3) (ci := 7) (v := .int (s9.1 29 2)) C0 (fun _ h9 => List.mem_cons_of_mem _ (List.mem_append_right _ h9)) hP 29 (gw_o7 X s9 gk_29.1) rfl 2 (by decide) (by decide +kernel) rfl rfl dX7_number_61 ?_
    refine lv_iload_n hx hb dX7_number_64 rfl (lv_at hl 0 rfl) ?_
    have J79 : ∀  (H : Heap) (locs : List Loc) (ls : Array Slot), pX7_number_J79 s9 v1 = some z → gw_P X s9 H → va_S (gw_A X) s.heap H locs → lv_has ls 5 [(3, .int v1), (0, .ref (X.1 29))] → W p l e rX7_number s m args below meth c H locs 0 0 Q (F0 m 79 ls []) := by
      intro  H locs ls h hP hS hl
      unfold pX7_number_J79 at h
      refine lv_aload_n hx hb dX7_number_79 rfl (lv_at hl 1 rfl) ?_
      refine lv_iload_n hx hb dX7_number_80 rfl (lv_at hl 0 rfl) ?_
      refine gv_put (ref := "IceByEar$Tape") (C := RX7) (T := TX7) (N := 3) (ci := 7) (v := .int v1) C0 (fun _ h9 => List.mem_cons_of_mem _ (List.mem_append_right _ h9)) tyX7 tyX7_ok nmX7 hP hS 29 (gw_o7 X s9 gk_29.1) rfl 2 (by decide) (by decide +kernel) rfl rfl (tyX7_ok 2 (by decide)) rfl rfl (Nat.le_of_ble_eq_true rfl) (gw_s7_2 gk_29.1 v1) dX7_number_81 (fun s10 H locs es10 hP hS => ?_)
      have h := gv_let_e es10 h
      refine lv_bipush (v := -4) hx hb dX7_number_84 (by decide) ?_
      exact Kr _ _ _ _ _ _ (gv_inj h) hP hS dX7_number_86
    refine lv_icmp_eq (tgt := 79) hx hb dX7_number_65 (by decide) (fun hc => ?_) (fun hc => ?_)
    · have h := gv_pos hc h
      exact J79  _ _ _ h hP hS (lv_sub hl [0, 1] rfl)
    · have h := gv_neg hc h
      refine lv_iload hx hb dX7_number_68 (lv_at hl 4 rfl) ?_
      refine lv_i2l hx hb dX7_number_70 rfl ?_
      refine lv_iload_n hx hb dX7_number_71 rfl (lv_at hl 2 rfl) ?_
      refine lv_iload_n hx hb dX7_number_72 rfl (lv_at hl 3 rfl) ?_
      refine gv_ri (gv_runN (n := 3) (rest := []) (host := "IceByEar") C0 (mX10_isWithin l X s9 (v8.toInt64) a1 a2) gX7_number_X10_isWithin_n29 rfl ⟨rfl, rfl⟩ (by decide +kernel) ⟨by decide +kernel, by decide +kernel⟩ (by decide +kernel) ⟨by decide, by decide⟩ hP hS rfl hl.1 rfl (Nat.le_of_ble_eq_true rfl) dX7_number_73 ⟨Nat.zero_le _, Nat.zero_le _⟩) hS (fun H locs hP hS => ?_)
      refine lv_if_ne (tgt := 87) hx hb dX7_number_76 (by decide) (fun hc => ?_) (fun hc => ?_)
      · have h := gv_neg hc h
        refine lv_aload_n hx hb dX7_number_87 rfl (lv_at hl 1 rfl) ?_
        obtain ⟨s11, hs11, h⟩ := gv_bind_e h
        refine gv_rv (gv_runV (n := 0) (rest := []) C0 (mX7_skipBlanks l X s9  hs11) gX7_number_X7_skipBlanks rfl ⟨rfl, rfl⟩ (by decide +kernel) ⟨by decide, by decide⟩ gk_29.1 (by decide) rfl hP hS rfl hl.1 rfl (Nat.le_of_ble_eq_true rfl) dX7_number_88 ⟨Nat.zero_le _, Nat.zero_le _⟩) hS (fun H locs hP hS => ?_)
        refine lv_iload hx hb dX7_number_91 (lv_at hl 4 rfl) ?_
        exact Kr _ _ _ _ _ _ (gv_inj h) hP hS dX7_number_93
      · have h := gv_pos hc h
        exact J79  _ _ _ h hP hS (lv_sub hl [0, 1] rfl)
theorem mX7_number (l : Launch) (X : gw_X) (s0 : gs_S) (a1 : Int32) (a2 : Int32) {r : Int32} {τ : gs_S} (h : pX7_number a1 a2 s0 = some (r, τ)) : Met l yX7_number wsX7_number rX7_number (gm_Pc X s0 [.ref (X.1 29), .int a1, .int a2]) (gm_Qi X τ r) 0 0 (gw_A X) :=
  gm_of RX7 (by decide) rfl rfl (Nat.le_of_ble_eq_true rfl) (fun p e s m below meth c ls C0 hP hl hS => tX7_number C0 a1 a2 s0 h (fun H locs ls pc r τ hr hP hS hd => by cases hr; exact gm_reti C0 hP hS hd) hP hS hl)
