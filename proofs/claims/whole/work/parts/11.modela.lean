def pX11_in (a0 : Int64) (a2 : Int64) (a4 : Int64) : Int32 := if (lg_cmp a0 a2) < 0 then (0 : Int32) else if 0 < (lg_cmp a0 a4) then (0 : Int32) else (1 : Int32)
def rX11_in : Room := { frames := 0, cells := 0, slots := 0, locals := 0 }
set_option maxHeartbeats 4000000 in
set_option maxRecDepth 100000 in
theorem tX11_in {p : Program} {l : Launch} {e : Env} {s : State} {m : MethodId} {args : Array Value} {below : List Frame} {meth : Method} {c : Code} {X : gw_X} {Q : State → Prop} (C0 : gm_At p s m args meth c X cX11_in 6 RX11 wsX11_in (some .boolean)) (a0 : Int64) (a2 : Int64) (a4 : Int64) (s0 : gs_S) {z : Int32} (h : pX11_in a0 a2 a4 = z) (Kr : ∀ (H : Heap) (locs : List Loc) (ls : Array Slot) (pc : Nat) (r : Int32), z = r → narrow .boolean (.int r) = .int r → gw_P X s0 H → va_S (gw_A X) s.heap H locs → decode cX11_in pc = .ok (.ireturn, 1) → W p l e rX11_in s m args below meth c H locs 0 0 Q (F0 m pc ls [.int r])) {H : Heap} {locs : List Loc} {ls : Array Slot} (hP : gw_P X s0 H) (hS : va_S (gw_A X) s.heap H locs) (hl : lv_has ls 6 [(0, .long a0), (2, .long a2), (4, .long a4)]) : W p l e rX11_in s m args below meth c H locs 0 0 Q (F0 m 0 ls []) := by
  obtain ⟨hx, hb, hml, hown, hts, hr, hlocks, hC⟩ := id C0
  unfold pX11_in at h
  refine lv_lload_n hx hb dX11_in_0 rfl (lv_at hl 0 rfl) ?_
  refine lv_lload_n hx hb dX11_in_1 rfl (lv_at hl 1 rfl) ?_
  refine W.lcmp hx hb dX11_in_2 ?_
  refine lv_if_lt (tgt := 17) hx hb dX11_in_3 (by decide) (fun hc => ?_) (fun hc => ?_)
  · have h := gv_pos hc h
    refine lv_iconst (v := 0) hx hb dX11_in_17 (by decide) ?_
    exact Kr _ _ _ _ _ h.symm (show narrow .boolean (.int (0 : Int32)) = .int (0 : Int32) by decide) hP hS dX11_in_18
  · have h := gv_neg hc h
    refine lv_lload_n hx hb dX11_in_6 rfl (lv_at hl 0 rfl) ?_
    refine lv_lload hx hb dX11_in_7 (lv_at hl 2 rfl) ?_
    refine W.lcmp hx hb dX11_in_9 ?_
    refine lv_if_gt (tgt := 17) hx hb dX11_in_10 (by decide) (fun hc => ?_) (fun hc => ?_)
    · have h := gv_pos hc h
      refine lv_iconst (v := 0) hx hb dX11_in_17 (by decide) ?_
      exact Kr _ _ _ _ _ h.symm (show narrow .boolean (.int (0 : Int32)) = .int (0 : Int32) by decide) hP hS dX11_in_18
    · have h := gv_neg hc h
      refine lv_iconst (v := 1) hx hb dX11_in_13 (by decide) ?_
      refine lv_goto (tgt := 18) hx hb dX11_in_14 (by decide) ?_
      exact Kr _ _ _ _ _ h.symm (show narrow .boolean (.int (1 : Int32)) = .int (1 : Int32) by decide) hP hS dX11_in_18
theorem mX11_in (l : Launch) (X : gw_X) (s0 : gs_S) (a0 : Int64) (a2 : Int64) (a4 : Int64) : Met l yX11_in wsX11_in rX11_in (gm_Pc X s0 [.long a0, .long a2, .long a4]) (gm_Qi X s0 (pX11_in a0 a2 a4)) 0 0 (gw_A X) :=
  gm_of RX11 (by decide) rfl rfl (Nat.le_of_ble_eq_true rfl) (fun p e s m below meth c ls C0 hP hl hS => tX11_in C0 a0 a2 a4 s0 rfl (fun H locs ls pc r hr hn hP hS hd => by subst hr; exact gm_retz hn C0 hP hS hd) hP hS hl)
theorem bX11_in (a0 : Int64) (a2 : Int64) (a4 : Int64) : narrow .boolean (.int (pX11_in a0 a2 a4)) = .int (pX11_in a0 a2 a4) := by
  unfold pX11_in
  repeat' split
  all_goals first | rfl
def pX11_isSquare (a0 : Int64) : Int32 := (pX11_in a0 (0 : Int64) (63 : Int64))
def rX11_isSquare : Room := { frames := 1, cells := 0, slots := 0, locals := 25 }
set_option maxHeartbeats 4000000 in
set_option maxRecDepth 100000 in
theorem tX11_isSquare {p : Program} {l : Launch} {e : Env} {s : State} {m : MethodId} {args : Array Value} {below : List Frame} {meth : Method} {c : Code} {X : gw_X} {Q : State → Prop} (C0 : gm_At p s m args meth c X cX11_isSquare 2 RX11 wsX11_isSquare (some .boolean)) (a0 : Int64) (s0 : gs_S) {z : Int32} (h : pX11_isSquare a0 = z) (Kr : ∀ (H : Heap) (locs : List Loc) (ls : Array Slot) (pc : Nat) (r : Int32), z = r → narrow .boolean (.int r) = .int r → gw_P X s0 H → va_S (gw_A X) s.heap H locs → decode cX11_isSquare pc = .ok (.ireturn, 1) → W p l e rX11_isSquare s m args below meth c H locs 0 0 Q (F0 m pc ls [.int r])) {H : Heap} {locs : List Loc} {ls : Array Slot} (hP : gw_P X s0 H) (hS : va_S (gw_A X) s.heap H locs) (hl : lv_has ls 2 [(0, .long a0)]) : W p l e rX11_isSquare s m args below meth c H locs 0 0 Q (F0 m 0 ls []) := by
  obtain ⟨hx, hb, hml, hown, hts, hr, hlocks, hC⟩ := id C0
  unfold pX11_isSquare at h
  refine lv_lload_n hx hb dX11_isSquare_0 rfl (lv_at hl 0 rfl) ?_
  refine lv_lconst (v := 0) hx hb dX11_isSquare_1 (by decide) ?_
  refine lv_ldc2 (v := 63) hx hb hown (hts (.constantLong RX11 71 (63)) (by decide +kernel)) dX11_isSquare_2 ?_
  refine gv_ri (gv_runS (n := 3) (rest := []) C0 (mX11_in l X s0 a0 (0 : Int64) (63 : Int64)) gX11_isSquare_X11_in rfl ⟨rfl, rfl⟩ (by decide +kernel) ⟨by decide, by decide⟩ hP hS rfl hl.1 rfl (Nat.le_of_ble_eq_true rfl) dX11_isSquare_5 ⟨Nat.zero_le _, Nat.zero_le _⟩) hS (fun H locs hP hS => ?_)
  exact Kr _ _ _ _ _ h.symm (bX11_in a0 (0 : Int64) (63 : Int64)) hP hS dX11_isSquare_8
theorem mX11_isSquare (l : Launch) (X : gw_X) (s0 : gs_S) (a0 : Int64) : Met l yX11_isSquare wsX11_isSquare rX11_isSquare (gm_Pc X s0 [.long a0]) (gm_Qi X s0 (pX11_isSquare a0)) 0 0 (gw_A X) :=
  gm_of RX11 (by decide) rfl rfl (Nat.le_of_ble_eq_true rfl) (fun p e s m below meth c ls C0 hP hl hS => tX11_isSquare C0 a0 s0 rfl (fun H locs ls pc r hr hn hP hS hd => by subst hr; exact gm_retz hn C0 hP hS hd) hP hS hl)
theorem bX11_isSquare (a0 : Int64) : narrow .boolean (.int (pX11_isSquare a0)) = .int (pX11_isSquare a0) := by
  unfold pX11_isSquare
  repeat' split
  all_goals first | rfl | exact bX11_in _ _ _
def pX11_mostOf (a0 : Int32) : Int32 := if a0 = 0 then (99 : Int32) else if a0 = (1 : Int32) then (4 : Int32) else if a0 = (2 : Int32) then (9 : Int32) else if a0 = (3 : Int32) then (1 : Int32) else (3 : Int32)
def rX11_mostOf : Room := { frames := 0, cells := 0, slots := 0, locals := 0 }
set_option maxHeartbeats 4000000 in
set_option maxRecDepth 100000 in
theorem tX11_mostOf {p : Program} {l : Launch} {e : Env} {s : State} {m : MethodId} {args : Array Value} {below : List Frame} {meth : Method} {c : Code} {X : gw_X} {Q : State → Prop} (C0 : gm_At p s m args meth c X cX11_mostOf 1 RX11 wsX11_mostOf (some .int)) (a0 : Int32) (s0 : gs_S) {z : Int32} (h : pX11_mostOf a0 = z) (Kr : ∀ (H : Heap) (locs : List Loc) (ls : Array Slot) (pc : Nat) (r : Int32), z = r → gw_P X s0 H → va_S (gw_A X) s.heap H locs → decode cX11_mostOf pc = .ok (.ireturn, 1) → W p l e rX11_mostOf s m args below meth c H locs 0 0 Q (F0 m pc ls [.int r])) {H : Heap} {locs : List Loc} {ls : Array Slot} (hP : gw_P X s0 H) (hS : va_S (gw_A X) s.heap H locs) (hl : lv_has ls 1 [(0, .int a0)]) : W p l e rX11_mostOf s m args below meth c H locs 0 0 Q (F0 m 0 ls []) := by
  obtain ⟨hx, hb, hml, hown, hts, hr, hlocks, hC⟩ := id C0
  unfold pX11_mostOf at h
  refine lv_iload_n hx hb dX11_mostOf_0 rfl (lv_at hl 0 rfl) ?_
  refine lv_if_ne (tgt := 9) hx hb dX11_mostOf_1 (by decide) (fun hc => ?_) (fun hc => ?_)
  · have h := gv_neg hc h
    refine lv_iload_n hx hb dX11_mostOf_9 rfl (lv_at hl 0 rfl) ?_
    refine lv_iconst (v := 1) hx hb dX11_mostOf_10 (by decide) ?_
    refine lv_icmp_ne (tgt := 18) hx hb dX11_mostOf_11 (by decide) (fun hc => ?_) (fun hc => ?_)
    · have h := gv_neg hc h
      refine lv_iload_n hx hb dX11_mostOf_18 rfl (lv_at hl 0 rfl) ?_
      refine lv_iconst (v := 2) hx hb dX11_mostOf_19 (by decide) ?_
      refine lv_icmp_ne (tgt := 28) hx hb dX11_mostOf_20 (by decide) (fun hc => ?_) (fun hc => ?_)
      · have h := gv_neg hc h
        refine lv_iload_n hx hb dX11_mostOf_28 rfl (lv_at hl 0 rfl) ?_
        refine lv_iconst (v := 3) hx hb dX11_mostOf_29 (by decide) ?_
        refine lv_icmp_ne (tgt := 37) hx hb dX11_mostOf_30 (by decide) (fun hc => ?_) (fun hc => ?_)
        · have h := gv_neg hc h
          refine lv_iconst (v := 3) hx hb dX11_mostOf_37 (by decide) ?_
          exact Kr _ _ _ _ _ h.symm hP hS dX11_mostOf_38
        · have h := gv_pos hc h
          refine lv_iconst (v := 1) hx hb dX11_mostOf_33 (by decide) ?_
          refine lv_goto (tgt := 38) hx hb dX11_mostOf_34 (by decide) ?_
          exact Kr _ _ _ _ _ h.symm hP hS dX11_mostOf_38
      · have h := gv_pos hc h
        refine lv_bipush (v := 9) hx hb dX11_mostOf_23 (by decide) ?_
        refine lv_goto (tgt := 38) hx hb dX11_mostOf_25 (by decide) ?_
        exact Kr _ _ _ _ _ h.symm hP hS dX11_mostOf_38
    · have h := gv_pos hc h
      refine lv_iconst (v := 4) hx hb dX11_mostOf_14 (by decide) ?_
      refine lv_goto (tgt := 38) hx hb dX11_mostOf_15 (by decide) ?_
      exact Kr _ _ _ _ _ h.symm hP hS dX11_mostOf_38
  · have h := gv_pos hc h
    refine lv_bipush (v := 99) hx hb dX11_mostOf_4 (by decide) ?_
    refine lv_goto (tgt := 38) hx hb dX11_mostOf_6 (by decide) ?_
    exact Kr _ _ _ _ _ h.symm hP hS dX11_mostOf_38
theorem mX11_mostOf (l : Launch) (X : gw_X) (s0 : gs_S) (a0 : Int32) : Met l yX11_mostOf wsX11_mostOf rX11_mostOf (gm_Pc X s0 [.int a0]) (gm_Qi X s0 (pX11_mostOf a0)) 0 0 (gw_A X) :=
  gm_of RX11 (by decide) rfl rfl (Nat.le_of_ble_eq_true rfl) (fun p e s m below meth c ls C0 hP hl hS => tX11_mostOf C0 a0 s0 rfl (fun H locs ls pc r hr hP hS hd => by subst hr; exact gm_reti C0 hP hS hd) hP hS hl)
def pX11_make (a1 : Int32) (a2 : Int32) (a3 : Int32) (s0 : gs_S) : Option (Int32 × gs_S) := if (pX11_isSquare (a1.toInt64)) = 0 then some ((-1 : Int32), s0) else if (pX11_in (a2.toInt64) (0 : Int64) (4 : Int64)) = 0 then some ((-1 : Int32), s0) else if (pX11_in (a3.toInt64) (0 : Int64) ((pX11_mostOf a2).toInt64)) = 0 then some ((-1 : Int32), s0) else gv_in (((64 : Int32) * a2) + a1) 320 (gv_let (s0.1 64 (((64 : Int32) * a2) + a1).toNatClampNeg) (fun v2 => gv_in (((64 : Int32) * a2) + a1) 320 (gv_let (gs_u s0 64 (((64 : Int32) * a2) + a1).toNatClampNeg a3) (fun s4 => some (v2, s4)))))
def rX11_make : Room := { frames := 2, cells := 0, slots := 0, locals := 46 }
set_option maxHeartbeats 4000000 in
set_option maxRecDepth 100000 in
theorem tX11_make {p : Program} {l : Launch} {e : Env} {s : State} {m : MethodId} {args : Array Value} {below : List Frame} {meth : Method} {c : Code} {X : gw_X} {Q : State → Prop} (C0 : gm_At p s m args meth c X cX11_make 5 RX11 wsX11_make (some .int)) (a1 : Int32) (a2 : Int32) (a3 : Int32) (s0 : gs_S) {z : Int32 × gs_S} (h : pX11_make a1 a2 a3 s0 = some z) (Kr : ∀ (H : Heap) (locs : List Loc) (ls : Array Slot) (pc : Nat) (r : Int32) (τ : gs_S), z = (r, τ) → gw_P X τ H → va_S (gw_A X) s.heap H locs → decode cX11_make pc = .ok (.ireturn, 1) → W p l e rX11_make s m args below meth c H locs 0 0 Q (F0 m pc ls [.int r])) {H : Heap} {locs : List Loc} {ls : Array Slot} (hP : gw_P X s0 H) (hS : va_S (gw_A X) s.heap H locs) (hl : lv_has ls 5 [(0, .ref (X.1 63)), (1, .int a1), (2, .int a2), (3, .int a3)]) : W p l e rX11_make s m args below meth c H locs 0 0 Q (F0 m 0 ls []) := by
  obtain ⟨hx, hb, hml, hown, hts, hr, hlocks, hC⟩ := id C0
  unfold pX11_make at h
  refine lv_iload_n hx hb dX11_make_0 rfl (lv_at hl 1 rfl) ?_
  refine lv_i2l hx hb dX11_make_1 rfl ?_
  refine gv_ri (gv_runS (n := 1) (rest := []) C0 (mX11_isSquare l X s0 (a1.toInt64)) gX11_make_X11_isSquare rfl ⟨rfl, rfl⟩ (by decide +kernel) ⟨by decide, by decide⟩ hP hS rfl hl.1 rfl (Nat.le_of_ble_eq_true rfl) dX11_make_2 ⟨Nat.zero_le _, Nat.zero_le _⟩) hS (fun H locs hP hS => ?_)
  refine lv_if_eq (tgt := 34) hx hb dX11_make_5 (by decide) (fun hc => ?_) (fun hc => ?_)
  · have h := gv_pos hc h
    refine lv_iconst (v := -1) hx hb dX11_make_34 (by decide) ?_
    exact Kr _ _ _ _ _ _ (gv_inj h) hP hS dX11_make_35
  · have h := gv_neg hc h
    refine lv_iload_n hx hb dX11_make_8 rfl (lv_at hl 2 rfl) ?_
    refine lv_i2l hx hb dX11_make_9 rfl ?_
    refine lv_lconst (v := 0) hx hb dX11_make_10 (by decide) ?_
    refine lv_ldc2 (v := 4) hx hb hown (hts (.constantLong RX11 81 (4)) (by decide +kernel)) dX11_make_11 ?_
    refine gv_ri (gv_runS (n := 3) (rest := []) C0 (mX11_in l X s0 (a2.toInt64) (0 : Int64) (4 : Int64)) gX11_make_X11_in rfl ⟨rfl, rfl⟩ (by decide +kernel) ⟨by decide, by decide⟩ hP hS rfl hl.1 rfl (Nat.le_of_ble_eq_true rfl) dX11_make_14 ⟨Nat.zero_le _, Nat.zero_le _⟩) hS (fun H locs hP hS => ?_)
    refine lv_if_eq (tgt := 34) hx hb dX11_make_17 (by decide) (fun hc => ?_) (fun hc => ?_)
    · have h := gv_pos hc h
      refine lv_iconst (v := -1) hx hb dX11_make_34 (by decide) ?_
      exact Kr _ _ _ _ _ _ (gv_inj h) hP hS dX11_make_35
    · have h := gv_neg hc h
      refine lv_iload_n hx hb dX11_make_20 rfl (lv_at hl 3 rfl) ?_
      refine lv_i2l hx hb dX11_make_21 rfl ?_
      refine lv_lconst (v := 0) hx hb dX11_make_22 (by decide) ?_
      refine lv_iload_n hx hb dX11_make_23 rfl (lv_at hl 2 rfl) ?_
      refine gv_ri (gv_runS (n := 1) (rest := [.long (0 : Int64), .long (a3.toInt64)]) C0 (mX11_mostOf l X s0 a2) gX11_make_X11_mostOf rfl ⟨rfl, rfl⟩ (by decide +kernel) ⟨by decide, by decide⟩ hP hS rfl hl.1 rfl (Nat.le_of_ble_eq_true rfl) dX11_make_24 ⟨Nat.zero_le _, Nat.zero_le _⟩) hS (fun H locs hP hS => ?_)
      refine lv_i2l hx hb dX11_make_27 rfl ?_
      refine gv_ri (gv_runS (n := 3) (rest := []) C0 (mX11_in l X s0 (a3.toInt64) (0 : Int64) ((pX11_mostOf a2).toInt64)) gX11_make_X11_in rfl ⟨rfl, rfl⟩ (by decide +kernel) ⟨by decide, by decide⟩ hP hS rfl hl.1 rfl (Nat.le_of_ble_eq_true rfl) dX11_make_28 ⟨Nat.zero_le _, Nat.zero_le _⟩) hS (fun H locs hP hS => ?_)
      refine lv_if_ne (tgt := 36) hx hb dX11_make_31 (by decide) (fun hc => ?_) (fun hc => ?_)
      · have h := gv_neg hc h
        refine lv_aload_n hx hb dX11_make_36 rfl (lv_at hl 0 rfl) ?_
        refine gv_get (ref := "IceByEarModel") (C := RX11) (T := TX11) (N := 28) (ci := 11) (v := .ref (X.1 64)) C0 (fun _ h9 => List.mem_cons_of_mem _ (List.mem_append_right _ h9)) hP 63 (gw_o11 X s0 gk_63.1) rfl 0 (by decide) (by decide +kernel) rfl rfl dX11_make_37 ?_
        refine lv_bipush (v := 64) hx hb dX11_make_40 (by decide) ?_
        refine lv_iload_n hx hb dX11_make_42 rfl (lv_at hl 2 rfl) ?_
        refine lv_imul hx hb dX11_make_43 ?_
        refine lv_iload_n hx hb dX11_make_44 rfl (lv_at hl 1 rfl) ?_
        refine lv_iadd hx hb dX11_make_45 ?_
        obtain ⟨hin1, h⟩ := gv_in_e h
        refine gv_iald C0 hP 64 gk_64.1 gk_64.2 hin1 dX11_make_46 ?_
        refine lv_topi (fun v2 ev2 => ?_)
        have h := gv_let_e ev2 h
        refine lv_istore (lv' := [(4, .int v2), (0, .ref (X.1 63)), (1, .int a1), (2, .int a2), (3, .int a3)]) hx hb dX11_make_47 hl (by decide) rfl (fun ls hl => ?_)
        refine lv_aload_n hx hb dX11_make_49 rfl (lv_at hl 1 rfl) ?_
        refine gv_get (ref := "IceByEarModel") (C := RX11) (T := TX11) (N := 28) (ci := 11) (v := .ref (X.1 64)) C0 (fun _ h9 => List.mem_cons_of_mem _ (List.mem_append_right _ h9)) hP 63 (gw_o11 X s0 gk_63.1) rfl 0 (by decide) (by decide +kernel) rfl rfl dX11_make_50 ?_
        refine lv_bipush (v := 64) hx hb dX11_make_53 (by decide) ?_
        refine lv_iload_n hx hb dX11_make_55 rfl (lv_at hl 3 rfl) ?_
        refine lv_imul hx hb dX11_make_56 ?_
        refine lv_iload_n hx hb dX11_make_57 rfl (lv_at hl 2 rfl) ?_
        refine lv_iadd hx hb dX11_make_58 ?_
        refine lv_iload_n hx hb dX11_make_59 rfl (lv_at hl 4 rfl) ?_
        obtain ⟨hin3, h⟩ := gv_in_e h
        refine gv_iast C0 hP hS 64 gk_64.1 gk_64.2 hin3 dX11_make_60 (fun s4 H locs es4 hP hS => ?_)
        have h := gv_let_e es4 h
        refine lv_iload hx hb dX11_make_61 (lv_at hl 0 rfl) ?_
        exact Kr _ _ _ _ _ _ (gv_inj h) hP hS dX11_make_63
      · have h := gv_pos hc h
        refine lv_iconst (v := -1) hx hb dX11_make_34 (by decide) ?_
        exact Kr _ _ _ _ _ _ (gv_inj h) hP hS dX11_make_35
theorem mX11_make (l : Launch) (X : gw_X) (s0 : gs_S) (a1 : Int32) (a2 : Int32) (a3 : Int32) {r : Int32} {τ : gs_S} (h : pX11_make a1 a2 a3 s0 = some (r, τ)) : Met l yX11_make wsX11_make rX11_make (gm_Pc X s0 [.ref (X.1 63), .int a1, .int a2, .int a3]) (gm_Qi X τ r) 0 0 (gw_A X) :=
  gm_of RX11 (by decide) rfl rfl (Nat.le_of_ble_eq_true rfl) (fun p e s m below meth c ls C0 hP hl hS => tX11_make C0 a1 a2 a3 s0 h (fun H locs ls pc r τ hr hP hS hd => by cases hr; exact gm_reti C0 hP hS hd) hP hS hl)
def pX11_partOf (a0 : Int32) : Int32 := if a0 = 0 then (8 : Int32) else if a0 = (1 : Int32) then (5 : Int32) else if a0 = (2 : Int32) then (3 : Int32) else if a0 = (3 : Int32) then (2 : Int32) else (7 : Int32)
def rX11_partOf : Room := { frames := 0, cells := 0, slots := 0, locals := 0 }
set_option maxHeartbeats 4000000 in
set_option maxRecDepth 100000 in
theorem tX11_partOf {p : Program} {l : Launch} {e : Env} {s : State} {m : MethodId} {args : Array Value} {below : List Frame} {meth : Method} {c : Code} {X : gw_X} {Q : State → Prop} (C0 : gm_At p s m args meth c X cX11_partOf 1 RX11 wsX11_partOf (some .int)) (a0 : Int32) (s0 : gs_S) {z : Int32} (h : pX11_partOf a0 = z) (Kr : ∀ (H : Heap) (locs : List Loc) (ls : Array Slot) (pc : Nat) (r : Int32), z = r → gw_P X s0 H → va_S (gw_A X) s.heap H locs → decode cX11_partOf pc = .ok (.ireturn, 1) → W p l e rX11_partOf s m args below meth c H locs 0 0 Q (F0 m pc ls [.int r])) {H : Heap} {locs : List Loc} {ls : Array Slot} (hP : gw_P X s0 H) (hS : va_S (gw_A X) s.heap H locs) (hl : lv_has ls 1 [(0, .int a0)]) : W p l e rX11_partOf s m args below meth c H locs 0 0 Q (F0 m 0 ls []) := by
  obtain ⟨hx, hb, hml, hown, hts, hr, hlocks, hC⟩ := id C0
  unfold pX11_partOf at h
  refine lv_iload_n hx hb dX11_partOf_0 rfl (lv_at hl 0 rfl) ?_
  refine lv_if_ne (tgt := 9) hx hb dX11_partOf_1 (by decide) (fun hc => ?_) (fun hc => ?_)
  · have h := gv_neg hc h
    refine lv_iload_n hx hb dX11_partOf_9 rfl (lv_at hl 0 rfl) ?_
    refine lv_iconst (v := 1) hx hb dX11_partOf_10 (by decide) ?_
    refine lv_icmp_ne (tgt := 18) hx hb dX11_partOf_11 (by decide) (fun hc => ?_) (fun hc => ?_)
    · have h := gv_neg hc h
      refine lv_iload_n hx hb dX11_partOf_18 rfl (lv_at hl 0 rfl) ?_
      refine lv_iconst (v := 2) hx hb dX11_partOf_19 (by decide) ?_
      refine lv_icmp_ne (tgt := 27) hx hb dX11_partOf_20 (by decide) (fun hc => ?_) (fun hc => ?_)
      · have h := gv_neg hc h
        refine lv_iload_n hx hb dX11_partOf_27 rfl (lv_at hl 0 rfl) ?_
        refine lv_iconst (v := 3) hx hb dX11_partOf_28 (by decide) ?_
        refine lv_icmp_ne (tgt := 36) hx hb dX11_partOf_29 (by decide) (fun hc => ?_) (fun hc => ?_)
        · have h := gv_neg hc h
          refine lv_bipush (v := 7) hx hb dX11_partOf_36 (by decide) ?_
          exact Kr _ _ _ _ _ h.symm hP hS dX11_partOf_38
        · have h := gv_pos hc h
          refine lv_iconst (v := 2) hx hb dX11_partOf_32 (by decide) ?_
          refine lv_goto (tgt := 38) hx hb dX11_partOf_33 (by decide) ?_
          exact Kr _ _ _ _ _ h.symm hP hS dX11_partOf_38
      · have h := gv_pos hc h
        refine lv_iconst (v := 3) hx hb dX11_partOf_23 (by decide) ?_
        refine lv_goto (tgt := 38) hx hb dX11_partOf_24 (by decide) ?_
        exact Kr _ _ _ _ _ h.symm hP hS dX11_partOf_38
    · have h := gv_pos hc h
      refine lv_iconst (v := 5) hx hb dX11_partOf_14 (by decide) ?_
      refine lv_goto (tgt := 38) hx hb dX11_partOf_15 (by decide) ?_
      exact Kr _ _ _ _ _ h.symm hP hS dX11_partOf_38
  · have h := gv_pos hc h
    refine lv_bipush (v := 8) hx hb dX11_partOf_4 (by decide) ?_
    refine lv_goto (tgt := 38) hx hb dX11_partOf_6 (by decide) ?_
    exact Kr _ _ _ _ _ h.symm hP hS dX11_partOf_38
theorem mX11_partOf (l : Launch) (X : gw_X) (s0 : gs_S) (a0 : Int32) : Met l yX11_partOf wsX11_partOf rX11_partOf (gm_Pc X s0 [.int a0]) (gm_Qi X s0 (pX11_partOf a0)) 0 0 (gw_A X) :=
  gm_of RX11 (by decide) rfl rfl (Nat.le_of_ble_eq_true rfl) (fun p e s m below meth c ls C0 hP hl hS => tX11_partOf C0 a0 s0 rfl (fun H locs ls pc r hr hP hS hd => by subst hr; exact gm_reti C0 hP hS hd) hP hS hl)
def pX11_bearsBy (a0 : Int32) (a1 : Int32) : Int32 := (((a0 * a0) * (pX11_partOf a1)) / (80 : Int32))
def rX11_bearsBy : Room := { frames := 1, cells := 0, slots := 0, locals := 20 }
set_option maxHeartbeats 4000000 in
set_option maxRecDepth 100000 in
theorem tX11_bearsBy {p : Program} {l : Launch} {e : Env} {s : State} {m : MethodId} {args : Array Value} {below : List Frame} {meth : Method} {c : Code} {X : gw_X} {Q : State → Prop} (C0 : gm_At p s m args meth c X cX11_bearsBy 2 RX11 wsX11_bearsBy (some .int)) (a0 : Int32) (a1 : Int32) (s0 : gs_S) {z : Int32} (h : pX11_bearsBy a0 a1 = z) (Kr : ∀ (H : Heap) (locs : List Loc) (ls : Array Slot) (pc : Nat) (r : Int32), z = r → gw_P X s0 H → va_S (gw_A X) s.heap H locs → decode cX11_bearsBy pc = .ok (.ireturn, 1) → W p l e rX11_bearsBy s m args below meth c H locs 0 0 Q (F0 m pc ls [.int r])) {H : Heap} {locs : List Loc} {ls : Array Slot} (hP : gw_P X s0 H) (hS : va_S (gw_A X) s.heap H locs) (hl : lv_has ls 2 [(0, .int a0), (1, .int a1)]) : W p l e rX11_bearsBy s m args below meth c H locs 0 0 Q (F0 m 0 ls []) := by
  obtain ⟨hx, hb, hml, hown, hts, hr, hlocks, hC⟩ := id C0
  unfold pX11_bearsBy at h
  refine lv_iload_n hx hb dX11_bearsBy_0 rfl (lv_at hl 0 rfl) ?_
  refine lv_iload_n hx hb dX11_bearsBy_1 rfl (lv_at hl 0 rfl) ?_
  refine lv_imul hx hb dX11_bearsBy_2 ?_
  refine lv_iload_n hx hb dX11_bearsBy_3 rfl (lv_at hl 1 rfl) ?_
  refine gv_ri (gv_runS (n := 1) (rest := [.int (a0 * a0)]) C0 (mX11_partOf l X s0 a1) gX11_bearsBy_X11_partOf rfl ⟨rfl, rfl⟩ (by decide +kernel) ⟨by decide, by decide⟩ hP hS rfl hl.1 rfl (Nat.le_of_ble_eq_true rfl) dX11_bearsBy_4 ⟨Nat.zero_le _, Nat.zero_le _⟩) hS (fun H locs hP hS => ?_)
  refine lv_imul hx hb dX11_bearsBy_7 ?_
  refine lv_bipush (v := 80) hx hb dX11_bearsBy_8 (by decide) ?_
  refine lv_idiv hx hb dX11_bearsBy_10 (by decide) ?_
  exact Kr _ _ _ _ _ h.symm hP hS dX11_bearsBy_11
theorem mX11_bearsBy (l : Launch) (X : gw_X) (s0 : gs_S) (a0 : Int32) (a1 : Int32) : Met l yX11_bearsBy wsX11_bearsBy rX11_bearsBy (gm_Pc X s0 [.int a0, .int a1]) (gm_Qi X s0 (pX11_bearsBy a0 a1)) 0 0 (gw_A X) :=
  gm_of RX11 (by decide) rfl rfl (Nat.le_of_ble_eq_true rfl) (fun p e s m below meth c ls C0 hP hl hS => tX11_bearsBy C0 a0 a1 s0 rfl (fun H locs ls pc r hr hP hS hd => by subst hr; exact gm_reti C0 hP hS hd) hP hS hl)
def pX11_bears (a1 : Int32) (s0 : gs_S) : Option (Int32) := gv_in a1 320 (gv_in ((64 : Int32) + a1) 320 (gv_in ((256 : Int32) + a1) 320 (some ((pX11_bearsBy (s0.1 64 a1.toNatClampNeg) (s0.1 64 ((64 : Int32) + a1).toNatClampNeg)) + ((60 : Int32) * (s0.1 64 ((256 : Int32) + a1).toNatClampNeg))))))
def rX11_bears : Room := { frames := 2, cells := 0, slots := 0, locals := 41 }
set_option maxHeartbeats 4000000 in
set_option maxRecDepth 100000 in
theorem tX11_bears {p : Program} {l : Launch} {e : Env} {s : State} {m : MethodId} {args : Array Value} {below : List Frame} {meth : Method} {c : Code} {X : gw_X} {Q : State → Prop} (C0 : gm_At p s m args meth c X cX11_bears 2 RX11 wsX11_bears (some .int)) (a1 : Int32) (s0 : gs_S) {z : Int32} (h : pX11_bears a1 s0 = some z) (Kr : ∀ (H : Heap) (locs : List Loc) (ls : Array Slot) (pc : Nat) (r : Int32), z = r → gw_P X s0 H → va_S (gw_A X) s.heap H locs → decode cX11_bears pc = .ok (.ireturn, 1) → W p l e rX11_bears s m args below meth c H locs 0 0 Q (F0 m pc ls [.int r])) {H : Heap} {locs : List Loc} {ls : Array Slot} (hP : gw_P X s0 H) (hS : va_S (gw_A X) s.heap H locs) (hl : lv_has ls 2 [(0, .ref (X.1 63)), (1, .int a1)]) : W p l e rX11_bears s m args below meth c H locs 0 0 Q (F0 m 0 ls []) := by
  obtain ⟨hx, hb, hml, hown, hts, hr, hlocks, hC⟩ := id C0
  unfold pX11_bears at h
  refine lv_aload_n hx hb dX11_bears_0 rfl (lv_at hl 0 rfl) ?_
  refine gv_get (ref := "IceByEarModel") (C := RX11) (T := TX11) (N := 28) (ci := 11) (v := .ref (X.1 64)) C0 (fun _ h9 => List.mem_cons_of_mem _ (List.mem_append_right _ h9)) hP 63 (gw_o11 X s0 gk_63.1) rfl 0 (by decide) (by decide +kernel) rfl rfl dX11_bears_1 ?_
  refine lv_iload_n hx hb dX11_bears_4 rfl (lv_at hl 1 rfl) ?_
  obtain ⟨hin1, h⟩ := gv_in_e h
  refine gv_iald C0 hP 64 gk_64.1 gk_64.2 hin1 dX11_bears_5 ?_
  refine lv_aload_n hx hb dX11_bears_6 rfl (lv_at hl 0 rfl) ?_
  refine gv_get (ref := "IceByEarModel") (C := RX11) (T := TX11) (N := 28) (ci := 11) (v := .ref (X.1 64)) C0 (fun _ h9 => List.mem_cons_of_mem _ (List.mem_append_right _ h9)) hP 63 (gw_o11 X s0 gk_63.1) rfl 0 (by decide) (by decide +kernel) rfl rfl dX11_bears_7 ?_
  refine lv_bipush (v := 64) hx hb dX11_bears_10 (by decide) ?_
  refine lv_iload_n hx hb dX11_bears_12 rfl (lv_at hl 1 rfl) ?_
  refine lv_iadd hx hb dX11_bears_13 ?_
  obtain ⟨hin2, h⟩ := gv_in_e h
  refine gv_iald C0 hP 64 gk_64.1 gk_64.2 hin2 dX11_bears_14 ?_
  refine gv_ri (gv_runS (n := 2) (rest := []) C0 (mX11_bearsBy l X s0 (s0.1 64 a1.toNatClampNeg) (s0.1 64 ((64 : Int32) + a1).toNatClampNeg)) gX11_bears_X11_bearsBy rfl ⟨rfl, rfl⟩ (by decide +kernel) ⟨by decide, by decide⟩ hP hS rfl hl.1 rfl (Nat.le_of_ble_eq_true rfl) dX11_bears_15 ⟨Nat.zero_le _, Nat.zero_le _⟩) hS (fun H locs hP hS => ?_)
  refine lv_bipush (v := 60) hx hb dX11_bears_18 (by decide) ?_
  refine lv_aload_n hx hb dX11_bears_20 rfl (lv_at hl 0 rfl) ?_
  refine gv_get (ref := "IceByEarModel") (C := RX11) (T := TX11) (N := 28) (ci := 11) (v := .ref (X.1 64)) C0 (fun _ h9 => List.mem_cons_of_mem _ (List.mem_append_right _ h9)) hP 63 (gw_o11 X s0 gk_63.1) rfl 0 (by decide) (by decide +kernel) rfl rfl dX11_bears_21 ?_
  refine lv_sipush (v := 256) hx hb dX11_bears_24 (by decide) ?_
  refine lv_iload_n hx hb dX11_bears_27 rfl (lv_at hl 1 rfl) ?_
  refine lv_iadd hx hb dX11_bears_28 ?_
  obtain ⟨hin3, h⟩ := gv_in_e h
  refine gv_iald C0 hP 64 gk_64.1 gk_64.2 hin3 dX11_bears_29 ?_
  refine lv_imul hx hb dX11_bears_30 ?_
  refine lv_iadd hx hb dX11_bears_31 ?_
  exact Kr _ _ _ _ _ (gv_inj h) hP hS dX11_bears_32
theorem mX11_bears (l : Launch) (X : gw_X) (s0 : gs_S) (a1 : Int32) {r : Int32} (h : pX11_bears a1 s0 = some r) : Met l yX11_bears wsX11_bears rX11_bears (gm_Pc X s0 [.ref (X.1 63), .int a1]) (gm_Qi X s0 r) 0 0 (gw_A X) :=
  gm_of RX11 (by decide) rfl rfl (Nat.le_of_ble_eq_true rfl) (fun p e s m below meth c ls C0 hP hl hS => tX11_bears C0 a1 s0 h (fun H locs ls pc r hr hP hS hd => by subst hr; exact gm_reti C0 hP hS hd) hP hS hl)
def pX11_pitchOf (a0 : Int32) (a1 : Int32) : Option (Int32) := gv_nz a0 (some (((9000 : Int32) / a0) + ((7 : Int32) * a1)))
def rX11_pitchOf : Room := { frames := 0, cells := 0, slots := 0, locals := 0 }
set_option maxHeartbeats 4000000 in
set_option maxRecDepth 100000 in
theorem tX11_pitchOf {p : Program} {l : Launch} {e : Env} {s : State} {m : MethodId} {args : Array Value} {below : List Frame} {meth : Method} {c : Code} {X : gw_X} {Q : State → Prop} (C0 : gm_At p s m args meth c X cX11_pitchOf 2 RX11 wsX11_pitchOf (some .int)) (a0 : Int32) (a1 : Int32) (s0 : gs_S) {z : Int32} (h : pX11_pitchOf a0 a1 = some z) (Kr : ∀ (H : Heap) (locs : List Loc) (ls : Array Slot) (pc : Nat) (r : Int32), z = r → gw_P X s0 H → va_S (gw_A X) s.heap H locs → decode cX11_pitchOf pc = .ok (.ireturn, 1) → W p l e rX11_pitchOf s m args below meth c H locs 0 0 Q (F0 m pc ls [.int r])) {H : Heap} {locs : List Loc} {ls : Array Slot} (hP : gw_P X s0 H) (hS : va_S (gw_A X) s.heap H locs) (hl : lv_has ls 2 [(0, .int a0), (1, .int a1)]) : W p l e rX11_pitchOf s m args below meth c H locs 0 0 Q (F0 m 0 ls []) := by
  obtain ⟨hx, hb, hml, hown, hts, hr, hlocks, hC⟩ := id C0
  unfold pX11_pitchOf at h
  refine lv_sipush (v := 9000) hx hb dX11_pitchOf_0 (by decide) ?_
  refine lv_iload_n hx hb dX11_pitchOf_3 rfl (lv_at hl 0 rfl) ?_
  obtain ⟨hnz1, h⟩ := gv_nz_e h
  refine lv_idiv hx hb dX11_pitchOf_4 hnz1 ?_
  refine lv_bipush (v := 7) hx hb dX11_pitchOf_5 (by decide) ?_
  refine lv_iload_n hx hb dX11_pitchOf_7 rfl (lv_at hl 1 rfl) ?_
  refine lv_imul hx hb dX11_pitchOf_8 ?_
  refine lv_iadd hx hb dX11_pitchOf_9 ?_
  exact Kr _ _ _ _ _ (gv_inj h) hP hS dX11_pitchOf_10
theorem mX11_pitchOf (l : Launch) (X : gw_X) (s0 : gs_S) (a0 : Int32) (a1 : Int32) {r : Int32} (h : pX11_pitchOf a0 a1 = some r) : Met l yX11_pitchOf wsX11_pitchOf rX11_pitchOf (gm_Pc X s0 [.int a0, .int a1]) (gm_Qi X s0 r) 0 0 (gw_A X) :=
  gm_of RX11 (by decide) rfl rfl (Nat.le_of_ble_eq_true rfl) (fun p e s m below meth c ls C0 hP hl hS => tX11_pitchOf C0 a0 a1 s0 h (fun H locs ls pc r hr hP hS hd => by subst hr; exact gm_reti C0 hP hS hd) hP hS hl)
def pX11_told (a1 : Int32) (a2 : Int32) (s0 : gs_S) : Option (Int32) := if (pX11_isSquare (a1.toInt64)) = 0 then some (-1 : Int32) else if (pX11_in (a2.toInt64) (0 : Int64) (6 : Int64)) = 0 then some (-1 : Int32) else if (5 : Int32) ≤ a2 then if a2 = (5 : Int32) then gv_bind (pX11_bears a1 s0) (fun v5 => some v5) else gv_in a1 320 (if (s0.1 64 a1.toNatClampNeg) = 0 then some (-4 : Int32) else gv_in a1 320 (gv_in ((64 : Int32) + a1) 320 (gv_bind (pX11_pitchOf (s0.1 64 a1.toNatClampNeg) (s0.1 64 ((64 : Int32) + a1).toNatClampNeg)) (fun v4 => some v4)))) else gv_in (((64 : Int32) * a2) + a1) 320 (some (s0.1 64 (((64 : Int32) * a2) + a1).toNatClampNeg))
def rX11_told : Room := { frames := 3, cells := 0, slots := 0, locals := 62 }
set_option maxHeartbeats 4000000 in
set_option maxRecDepth 100000 in
theorem tX11_told {p : Program} {l : Launch} {e : Env} {s : State} {m : MethodId} {args : Array Value} {below : List Frame} {meth : Method} {c : Code} {X : gw_X} {Q : State → Prop} (C0 : gm_At p s m args meth c X cX11_told 3 RX11 wsX11_told (some .int)) (a1 : Int32) (a2 : Int32) (s0 : gs_S) {z : Int32} (h : pX11_told a1 a2 s0 = some z) (Kr : ∀ (H : Heap) (locs : List Loc) (ls : Array Slot) (pc : Nat) (r : Int32), z = r → gw_P X s0 H → va_S (gw_A X) s.heap H locs → decode cX11_told pc = .ok (.ireturn, 1) → W p l e rX11_told s m args below meth c H locs 0 0 Q (F0 m pc ls [.int r])) {H : Heap} {locs : List Loc} {ls : Array Slot} (hP : gw_P X s0 H) (hS : va_S (gw_A X) s.heap H locs) (hl : lv_has ls 3 [(0, .ref (X.1 63)), (1, .int a1), (2, .int a2)]) : W p l e rX11_told s m args below meth c H locs 0 0 Q (F0 m 0 ls []) := by
  obtain ⟨hx, hb, hml, hown, hts, hr, hlocks, hC⟩ := id C0
  unfold pX11_told at h
  refine lv_iload_n hx hb dX11_told_0 rfl (lv_at hl 1 rfl) ?_
  refine lv_i2l hx hb dX11_told_1 rfl ?_
  refine gv_ri (gv_runS (n := 1) (rest := []) C0 (mX11_isSquare l X s0 (a1.toInt64)) gX11_told_X11_isSquare rfl ⟨rfl, rfl⟩ (by decide +kernel) ⟨by decide, by decide⟩ hP hS rfl hl.1 rfl (Nat.le_of_ble_eq_true rfl) dX11_told_2 ⟨Nat.zero_le _, Nat.zero_le _⟩) hS (fun H locs hP hS => ?_)
  refine lv_if_eq (tgt := 20) hx hb dX11_told_5 (by decide) (fun hc => ?_) (fun hc => ?_)
  · have h := gv_pos hc h
    refine lv_iconst (v := -1) hx hb dX11_told_20 (by decide) ?_
    exact Kr _ _ _ _ _ (gv_inj h) hP hS dX11_told_21
  · have h := gv_neg hc h
    refine lv_iload_n hx hb dX11_told_8 rfl (lv_at hl 2 rfl) ?_
    refine lv_i2l hx hb dX11_told_9 rfl ?_
    refine lv_lconst (v := 0) hx hb dX11_told_10 (by decide) ?_
    refine lv_ldc2 (v := 6) hx hb hown (hts (.constantLong RX11 94 (6)) (by decide +kernel)) dX11_told_11 ?_
    refine gv_ri (gv_runS (n := 3) (rest := []) C0 (mX11_in l X s0 (a2.toInt64) (0 : Int64) (6 : Int64)) gX11_told_X11_in rfl ⟨rfl, rfl⟩ (by decide +kernel) ⟨by decide, by decide⟩ hP hS rfl hl.1 rfl (Nat.le_of_ble_eq_true rfl) dX11_told_14 ⟨Nat.zero_le _, Nat.zero_le _⟩) hS (fun H locs hP hS => ?_)
    refine lv_if_ne (tgt := 22) hx hb dX11_told_17 (by decide) (fun hc => ?_) (fun hc => ?_)
    · have h := gv_neg hc h
      refine lv_iload_n hx hb dX11_told_22 rfl (lv_at hl 2 rfl) ?_
      refine lv_iconst (v := 5) hx hb dX11_told_23 (by decide) ?_
      refine lv_icmp_ge (tgt := 41) hx hb dX11_told_24 (by decide) (fun hc => ?_) (fun hc => ?_)
      · have h := gv_pos hc h
        refine lv_iload_n hx hb dX11_told_41 rfl (lv_at hl 2 rfl) ?_
        refine lv_iconst (v := 5) hx hb dX11_told_42 (by decide) ?_
        refine lv_icmp_ne (tgt := 54) hx hb dX11_told_43 (by decide) (fun hc => ?_) (fun hc => ?_)
        · have h := gv_neg hc h
          refine lv_aload_n hx hb dX11_told_54 rfl (lv_at hl 0 rfl) ?_
          refine gv_get (ref := "IceByEarModel") (C := RX11) (T := TX11) (N := 28) (ci := 11) (v := .ref (X.1 64)) C0 (fun _ h9 => List.mem_cons_of_mem _ (List.mem_append_right _ h9)) hP 63 (gw_o11 X s0 gk_63.1) rfl 0 (by decide) (by decide +kernel) rfl rfl dX11_told_55 ?_
          refine lv_iload_n hx hb dX11_told_58 rfl (lv_at hl 1 rfl) ?_
          obtain ⟨hin1, h⟩ := gv_in_e h
          refine gv_iald C0 hP 64 gk_64.1 gk_64.2 hin1 dX11_told_59 ?_
          refine lv_if_ne (tgt := 68) hx hb dX11_told_60 (by decide) (fun hc => ?_) (fun hc => ?_)
          · have h := gv_neg hc h
            refine lv_aload_n hx hb dX11_told_68 rfl (lv_at hl 0 rfl) ?_
            refine gv_get (ref := "IceByEarModel") (C := RX11) (T := TX11) (N := 28) (ci := 11) (v := .ref (X.1 64)) C0 (fun _ h9 => List.mem_cons_of_mem _ (List.mem_append_right _ h9)) hP 63 (gw_o11 X s0 gk_63.1) rfl 0 (by decide) (by decide +kernel) rfl rfl dX11_told_69 ?_
            refine lv_iload_n hx hb dX11_told_72 rfl (lv_at hl 1 rfl) ?_
            obtain ⟨hin2, h⟩ := gv_in_e h
            refine gv_iald C0 hP 64 gk_64.1 gk_64.2 hin2 dX11_told_73 ?_
            refine lv_aload_n hx hb dX11_told_74 rfl (lv_at hl 0 rfl) ?_
            refine gv_get (ref := "IceByEarModel") (C := RX11) (T := TX11) (N := 28) (ci := 11) (v := .ref (X.1 64)) C0 (fun _ h9 => List.mem_cons_of_mem _ (List.mem_append_right _ h9)) hP 63 (gw_o11 X s0 gk_63.1) rfl 0 (by decide) (by decide +kernel) rfl rfl dX11_told_75 ?_
            refine lv_bipush (v := 64) hx hb dX11_told_78 (by decide) ?_
            refine lv_iload_n hx hb dX11_told_80 rfl (lv_at hl 1 rfl) ?_
            refine lv_iadd hx hb dX11_told_81 ?_
            obtain ⟨hin3, h⟩ := gv_in_e h
            refine gv_iald C0 hP 64 gk_64.1 gk_64.2 hin3 dX11_told_82 ?_
            obtain ⟨v4, hv4, h⟩ := gv_bind_e h
            refine gv_ri (gv_runS (n := 2) (rest := []) C0 (mX11_pitchOf l X s0 (s0.1 64 a1.toNatClampNeg) (s0.1 64 ((64 : Int32) + a1).toNatClampNeg) hv4) gX11_told_X11_pitchOf rfl ⟨rfl, rfl⟩ (by decide +kernel) ⟨by decide, by decide⟩ hP hS rfl hl.1 rfl (Nat.le_of_ble_eq_true rfl) dX11_told_83 ⟨Nat.zero_le _, Nat.zero_le _⟩) hS (fun H locs hP hS => ?_)
            exact Kr _ _ _ _ _ (gv_inj h) hP hS dX11_told_86
          · have h := gv_pos hc h
            refine lv_bipush (v := -4) hx hb dX11_told_63 (by decide) ?_
            refine lv_goto (tgt := 86) hx hb dX11_told_65 (by decide) ?_
            exact Kr _ _ _ _ _ (gv_inj h) hP hS dX11_told_86
        · have h := gv_pos hc h
          refine lv_aload_n hx hb dX11_told_46 rfl (lv_at hl 0 rfl) ?_
          refine lv_iload_n hx hb dX11_told_47 rfl (lv_at hl 1 rfl) ?_
          obtain ⟨v5, hv5, h⟩ := gv_bind_e h
          refine gv_ri (gv_runV (n := 1) (rest := []) C0 (mX11_bears l X s0 a1 hv5) gX11_told_X11_bears rfl ⟨rfl, rfl⟩ (by decide +kernel) ⟨by decide, by decide⟩ gk_63.1 (by decide) rfl hP hS rfl hl.1 rfl (Nat.le_of_ble_eq_true rfl) dX11_told_48 ⟨Nat.zero_le _, Nat.zero_le _⟩) hS (fun H locs hP hS => ?_)
          refine lv_goto (tgt := 86) hx hb dX11_told_51 (by decide) ?_
          exact Kr _ _ _ _ _ (gv_inj h) hP hS dX11_told_86
      · have h := gv_neg hc h
        refine lv_aload_n hx hb dX11_told_27 rfl (lv_at hl 0 rfl) ?_
        refine gv_get (ref := "IceByEarModel") (C := RX11) (T := TX11) (N := 28) (ci := 11) (v := .ref (X.1 64)) C0 (fun _ h9 => List.mem_cons_of_mem _ (List.mem_append_right _ h9)) hP 63 (gw_o11 X s0 gk_63.1) rfl 0 (by decide) (by decide +kernel) rfl rfl dX11_told_28 ?_
        refine lv_bipush (v := 64) hx hb dX11_told_31 (by decide) ?_
        refine lv_iload_n hx hb dX11_told_33 rfl (lv_at hl 2 rfl) ?_
        refine lv_imul hx hb dX11_told_34 ?_
        refine lv_iload_n hx hb dX11_told_35 rfl (lv_at hl 1 rfl) ?_
        refine lv_iadd hx hb dX11_told_36 ?_
        obtain ⟨hin6, h⟩ := gv_in_e h
        refine gv_iald C0 hP 64 gk_64.1 gk_64.2 hin6 dX11_told_37 ?_
        refine lv_goto (tgt := 86) hx hb dX11_told_38 (by decide) ?_
        exact Kr _ _ _ _ _ (gv_inj h) hP hS dX11_told_86
    · have h := gv_pos hc h
      refine lv_iconst (v := -1) hx hb dX11_told_20 (by decide) ?_
      exact Kr _ _ _ _ _ (gv_inj h) hP hS dX11_told_21
theorem mX11_told (l : Launch) (X : gw_X) (s0 : gs_S) (a1 : Int32) (a2 : Int32) {r : Int32} (h : pX11_told a1 a2 s0 = some r) : Met l yX11_told wsX11_told rX11_told (gm_Pc X s0 [.ref (X.1 63), .int a1, .int a2]) (gm_Qi X s0 r) 0 0 (gw_A X) :=
  gm_of RX11 (by decide) rfl rfl (Nat.le_of_ble_eq_true rfl) (fun p e s m below meth c ls C0 hP hl hS => tX11_told C0 a1 a2 s0 h (fun H locs ls pc r hr hP hS hd => by subst hr; exact gm_reti C0 hP hS hd) hP hS hl)
def pX11_freeze_J96 (a1 : Int32) (s8 : gs_S)  : Option (gs_S) := gv_in ((64 : Int32) + a1) 320 (gv_in ((64 : Int32) + a1) 320 (gv_let (gs_u s8 64 ((64 : Int32) + a1).toNatClampNeg (s8.1 64 ((64 : Int32) + a1).toNatClampNeg)) (fun s11 => some s11)))
def pX11_freeze_J70 (a1 : Int32) (s0 : gs_S) (v2 : Int32) (v6 : Int32) : Option (gs_S) := gv_in a1 320 (gv_let (gs_u s0 64 a1.toNatClampNeg v6) (fun s8 => if v2 = 0 then gv_in a1 320 (if (s8.1 64 a1.toNatClampNeg) ≤ 0 then pX11_freeze_J96 a1 s8 else gv_in ((64 : Int32) + a1) 320 (gv_let (gs_u s8 64 ((64 : Int32) + a1).toNatClampNeg (0 : Int32)) (fun s14 => some s14))) else pX11_freeze_J96 a1 s8))
def pX11_freeze (a1 : Int32) (a2 : Int32) (s0 : gs_S) : Option (gs_S) := gv_in a1 320 (gv_let (s0.1 64 a1.toNatClampNeg) (fun v2 => gv_in ((128 : Int32) + a1) 320 (gv_in ((192 : Int32) + a1) 320 (gv_let ((v2 + ((a2 * ((10 : Int32) - (s0.1 64 ((128 : Int32) + a1).toNatClampNeg))) / (10 : Int32))) - ((3 : Int32) * (s0.1 64 ((192 : Int32) + a1).toNatClampNeg))) (fun v5 => if 0 ≤ v5 then if v5 ≤ (99 : Int32) then pX11_freeze_J70 a1 s0 v2 v5 else pX11_freeze_J70 a1 s0 v2 (99 : Int32) else pX11_freeze_J70 a1 s0 v2 (0 : Int32))))))
def rX11_freeze : Room := { frames := 0, cells := 0, slots := 0, locals := 0 }
set_option maxHeartbeats 4000000 in
set_option maxRecDepth 100000 in
theorem tX11_freeze {p : Program} {l : Launch} {e : Env} {s : State} {m : MethodId} {args : Array Value} {below : List Frame} {meth : Method} {c : Code} {X : gw_X} {Q : State → Prop} (C0 : gm_At p s m args meth c X cX11_freeze 5 RX11 wsX11_freeze none) (a1 : Int32) (a2 : Int32) (s0 : gs_S) {z : gs_S} (h : pX11_freeze a1 a2 s0 = some z) (Kr : ∀ (H : Heap) (locs : List Loc) (ls : Array Slot) (pc : Nat) (τ : gs_S), z = τ → gw_P X τ H → va_S (gw_A X) s.heap H locs → decode cX11_freeze pc = .ok (.return_, 1) → W p l e rX11_freeze s m args below meth c H locs 0 0 Q (F0 m pc ls [])) {H : Heap} {locs : List Loc} {ls : Array Slot} (hP : gw_P X s0 H) (hS : va_S (gw_A X) s.heap H locs) (hl : lv_has ls 5 [(0, .ref (X.1 63)), (1, .int a1), (2, .int a2)]) : W p l e rX11_freeze s m args below meth c H locs 0 0 Q (F0 m 0 ls []) := by
  obtain ⟨hx, hb, hml, hown, hts, hr, hlocks, hC⟩ := id C0
  unfold pX11_freeze at h
  refine lv_aload_n hx hb dX11_freeze_0 rfl (lv_at hl 0 rfl) ?_
  refine gv_get (ref := "IceByEarModel") (C := RX11) (T := TX11) (N := 28) (ci := 11) (v := .ref (X.1 64)) C0 (fun _ h9 => List.mem_cons_of_mem _ (List.mem_append_right _ h9)) hP 63 (gw_o11 X s0 gk_63.1) rfl 0 (by decide) (by decide +kernel) rfl rfl dX11_freeze_1 ?_
  refine lv_iload_n hx hb dX11_freeze_4 rfl (lv_at hl 1 rfl) ?_
  obtain ⟨hin1, h⟩ := gv_in_e h
  refine gv_iald C0 hP 64 gk_64.1 gk_64.2 hin1 dX11_freeze_5 ?_
  refine lv_topi (fun v2 ev2 => ?_)
  have h := gv_let_e ev2 h
  refine lv_istore_n (lv' := [(3, .int v2), (0, .ref (X.1 63)), (1, .int a1), (2, .int a2)]) hx hb dX11_freeze_6 rfl hl (by decide) rfl (fun ls hl => ?_)
  refine lv_iload_n hx hb dX11_freeze_7 rfl (lv_at hl 0 rfl) ?_
  refine lv_iload_n hx hb dX11_freeze_8 rfl (lv_at hl 3 rfl) ?_
  refine lv_bipush (v := 10) hx hb dX11_freeze_9 (by decide) ?_
  refine lv_aload_n hx hb dX11_freeze_11 rfl (lv_at hl 1 rfl) ?_
  refine gv_get (ref := "IceByEarModel") (C := RX11) (T := TX11) (N := 28) (ci := 11) (v := .ref (X.1 64)) C0 (fun _ h9 => List.mem_cons_of_mem _ (List.mem_append_right _ h9)) hP 63 (gw_o11 X s0 gk_63.1) rfl 0 (by decide) (by decide +kernel) rfl rfl dX11_freeze_12 ?_
  refine lv_sipush (v := 128) hx hb dX11_freeze_15 (by decide) ?_
  refine lv_iload_n hx hb dX11_freeze_18 rfl (lv_at hl 2 rfl) ?_
  refine lv_iadd hx hb dX11_freeze_19 ?_
  obtain ⟨hin3, h⟩ := gv_in_e h
  refine gv_iald C0 hP 64 gk_64.1 gk_64.2 hin3 dX11_freeze_20 ?_
  refine lv_isub hx hb dX11_freeze_21 ?_
  refine lv_imul hx hb dX11_freeze_22 ?_
  refine lv_bipush (v := 10) hx hb dX11_freeze_23 (by decide) ?_
  refine lv_idiv hx hb dX11_freeze_25 (by decide) ?_
  refine lv_iadd hx hb dX11_freeze_26 ?_
  refine lv_iconst (v := 3) hx hb dX11_freeze_27 (by decide) ?_
  refine lv_aload_n hx hb dX11_freeze_28 rfl (lv_at hl 1 rfl) ?_
  refine gv_get (ref := "IceByEarModel") (C := RX11) (T := TX11) (N := 28) (ci := 11) (v := .ref (X.1 64)) C0 (fun _ h9 => List.mem_cons_of_mem _ (List.mem_append_right _ h9)) hP 63 (gw_o11 X s0 gk_63.1) rfl 0 (by decide) (by decide +kernel) rfl rfl dX11_freeze_29 ?_
  refine lv_sipush (v := 192) hx hb dX11_freeze_32 (by decide) ?_
  refine lv_iload_n hx hb dX11_freeze_35 rfl (lv_at hl 2 rfl) ?_
  refine lv_iadd hx hb dX11_freeze_36 ?_
  obtain ⟨hin4, h⟩ := gv_in_e h
  refine gv_iald C0 hP 64 gk_64.1 gk_64.2 hin4 dX11_freeze_37 ?_
  refine lv_imul hx hb dX11_freeze_38 ?_
  refine lv_isub hx hb dX11_freeze_39 ?_
  refine lv_topi (fun v5 ev5 => ?_)
  have h := gv_let_e ev5 h
  refine lv_istore (lv' := [(4, .int v5), (3, .int v2), (0, .ref (X.1 63)), (1, .int a1), (2, .int a2)]) hx hb dX11_freeze_40 hl (by decide) rfl (fun ls hl => ?_)
  refine lv_aload_n hx hb dX11_freeze_42 rfl (lv_at hl 2 rfl) ?_
  refine gv_get (ref := "IceByEarModel") (C := RX11) (T := TX11) (N := 28) (ci := 11) (v := .ref (X.1 64)) C0 (fun _ h9 => List.mem_cons_of_mem _ (List.mem_append_right _ h9)) hP 63 (gw_o11 X s0 gk_63.1) rfl 0 (by decide) (by decide +kernel) rfl rfl dX11_freeze_43 ?_
  refine lv_iload_n hx hb dX11_freeze_46 rfl (lv_at hl 3 rfl) ?_
  refine lv_iload hx hb dX11_freeze_47 (lv_at hl 0 rfl) ?_
  have J70 : ∀ (v6 : Int32) (H : Heap) (locs : List Loc) (ls : Array Slot), pX11_freeze_J70 a1 s0 v2 v6 = some z → gw_P X s0 H → va_S (gw_A X) s.heap H locs → lv_has ls 5 [(3, .int v2), (0, .ref (X.1 63)), (1, .int a1)] → W p l e rX11_freeze s m args below meth c H locs 0 0 Q (F0 m 70 ls [.int v6, .int a1, .ref (X.1 64)]) := by
    intro v6 H locs ls h hP hS hl
    unfold pX11_freeze_J70 at h
    obtain ⟨hin7, h⟩ := gv_in_e h
    refine gv_iast C0 hP hS 64 gk_64.1 gk_64.2 hin7 dX11_freeze_70 (fun s8 H locs es8 hP hS => ?_)
    have h := gv_let_e es8 h
    refine lv_aload_n hx hb dX11_freeze_71 rfl (lv_at hl 1 rfl) ?_
    refine gv_get (ref := "IceByEarModel") (C := RX11) (T := TX11) (N := 28) (ci := 11) (v := .ref (X.1 64)) C0 (fun _ h9 => List.mem_cons_of_mem _ (List.mem_append_right _ h9)) hP 63 (gw_o11 X s8 gk_63.1) rfl 0 (by decide) (by decide +kernel) rfl rfl dX11_freeze_72 ?_
    refine lv_bipush (v := 64) hx hb dX11_freeze_75 (by decide) ?_
    refine lv_iload_n hx hb dX11_freeze_77 rfl (lv_at hl 2 rfl) ?_
    refine lv_iadd hx hb dX11_freeze_78 ?_
    refine lv_iload_n hx hb dX11_freeze_79 rfl (lv_at hl 0 rfl) ?_
    have J96 : ∀  (H : Heap) (locs : List Loc) (ls : Array Slot), pX11_freeze_J96 a1 s8 = some z → gw_P X s8 H → va_S (gw_A X) s.heap H locs → lv_has ls 5 [(0, .ref (X.1 63)), (1, .int a1)] → W p l e rX11_freeze s m args below meth c H locs 0 0 Q (F0 m 96 ls [.int ((64 : Int32) + a1), .ref (X.1 64)]) := by
      intro  H locs ls h hP hS hl
      unfold pX11_freeze_J96 at h
      refine lv_aload_n hx hb dX11_freeze_96 rfl (lv_at hl 0 rfl) ?_
      refine gv_get (ref := "IceByEarModel") (C := RX11) (T := TX11) (N := 28) (ci := 11) (v := .ref (X.1 64)) C0 (fun _ h9 => List.mem_cons_of_mem _ (List.mem_append_right _ h9)) hP 63 (gw_o11 X s8 gk_63.1) rfl 0 (by decide) (by decide +kernel) rfl rfl dX11_freeze_97 ?_
      refine lv_bipush (v := 64) hx hb dX11_freeze_100 (by decide) ?_
      refine lv_iload_n hx hb dX11_freeze_102 rfl (lv_at hl 1 rfl) ?_
      refine lv_iadd hx hb dX11_freeze_103 ?_
      obtain ⟨hin9, h⟩ := gv_in_e h
      refine gv_iald C0 hP 64 gk_64.1 gk_64.2 hin9 dX11_freeze_104 ?_
      obtain ⟨hin10, h⟩ := gv_in_e h
      refine gv_iast C0 hP hS 64 gk_64.1 gk_64.2 hin10 dX11_freeze_105 (fun s11 H locs es11 hP hS => ?_)
      have h := gv_let_e es11 h
      exact Kr _ _ _ _ _ (gv_inj h) hP hS dX11_freeze_106
    refine lv_if_ne (tgt := 96) hx hb dX11_freeze_80 (by decide) (fun hc => ?_) (fun hc => ?_)
    · have h := gv_neg hc h
      exact J96  _ _ _ h hP hS (lv_sub hl [1, 2] rfl)
    · have h := gv_pos hc h
      refine lv_aload_n hx hb dX11_freeze_83 rfl (lv_at hl 1 rfl) ?_
      refine gv_get (ref := "IceByEarModel") (C := RX11) (T := TX11) (N := 28) (ci := 11) (v := .ref (X.1 64)) C0 (fun _ h9 => List.mem_cons_of_mem _ (List.mem_append_right _ h9)) hP 63 (gw_o11 X s8 gk_63.1) rfl 0 (by decide) (by decide +kernel) rfl rfl dX11_freeze_84 ?_
      refine lv_iload_n hx hb dX11_freeze_87 rfl (lv_at hl 2 rfl) ?_
      obtain ⟨hin12, h⟩ := gv_in_e h
      refine gv_iald C0 hP 64 gk_64.1 gk_64.2 hin12 dX11_freeze_88 ?_
      refine lv_if_le (tgt := 96) hx hb dX11_freeze_89 (by decide) (fun hc => ?_) (fun hc => ?_)
      · have h := gv_pos hc h
        exact J96  _ _ _ h hP hS (lv_sub hl [1, 2] rfl)
      · have h := gv_neg hc h
        refine lv_iconst (v := 0) hx hb dX11_freeze_92 (by decide) ?_
        refine lv_goto (tgt := 105) hx hb dX11_freeze_93 (by decide) ?_
        obtain ⟨hin13, h⟩ := gv_in_e h
        refine gv_iast C0 hP hS 64 gk_64.1 gk_64.2 hin13 dX11_freeze_105 (fun s14 H locs es14 hP hS => ?_)
        have h := gv_let_e es14 h
        exact Kr _ _ _ _ _ (gv_inj h) hP hS dX11_freeze_106
  refine lv_if_ge (tgt := 56) hx hb dX11_freeze_49 (by decide) (fun hc => ?_) (fun hc => ?_)
  · have h := gv_pos hc h
    refine lv_iload hx hb dX11_freeze_56 (lv_at hl 0 rfl) ?_
    refine lv_bipush (v := 99) hx hb dX11_freeze_58 (by decide) ?_
    refine lv_icmp_le (tgt := 68) hx hb dX11_freeze_60 (by decide) (fun hc => ?_) (fun hc => ?_)
    · have h := gv_pos hc h
      refine lv_iload hx hb dX11_freeze_68 (lv_at hl 0 rfl) ?_
      exact J70 v5 _ _ _ h hP hS (lv_sub hl [1, 2, 3] rfl)
    · have h := gv_neg hc h
      refine lv_bipush (v := 99) hx hb dX11_freeze_63 (by decide) ?_
      refine lv_goto (tgt := 70) hx hb dX11_freeze_65 (by decide) ?_
      exact J70 (99 : Int32) _ _ _ h hP hS (lv_sub hl [1, 2, 3] rfl)
  · have h := gv_neg hc h
    refine lv_iconst (v := 0) hx hb dX11_freeze_52 (by decide) ?_
    refine lv_goto (tgt := 70) hx hb dX11_freeze_53 (by decide) ?_
    exact J70 (0 : Int32) _ _ _ h hP hS (lv_sub hl [1, 2, 3] rfl)
theorem mX11_freeze (l : Launch) (X : gw_X) (s0 : gs_S) (a1 : Int32) (a2 : Int32) {τ : gs_S} (h : pX11_freeze a1 a2 s0 = some τ) : Met l yX11_freeze wsX11_freeze rX11_freeze (gm_Pc X s0 [.ref (X.1 63), .int a1, .int a2]) (gm_Qv X τ) 0 0 (gw_A X) :=
  gm_of RX11 (by decide) rfl rfl (Nat.le_of_ble_eq_true rfl) (fun p e s m below meth c ls C0 hP hl hS => tX11_freeze C0 a1 a2 s0 h (fun H locs ls pc τ hr hP hS hd => by subst hr; exact gm_retv C0 hP hS hd) hP hS hl)
def pX11_days_L41 (a2 : Int32) (v2 : Int32) (a1 : Int32) (v4 : Int32) (s5 : gs_S) : Option ((Int32 × gs_S) ⊕ (Int32 × gs_S)) := if a2 ≤ v4 then some (.inr (v4, s5)) else gv_bind (pX11_freeze v2 a1 s5) (fun s6 => gv_let (v4 + (1 : Int32)) (fun v7 => some (.inl (v7, s6))))
def pX11_days_L31 (a2 : Int32) (a1 : Int32) (v1 : Int32) (v2 : Int32) (s3 : gs_S) : Option ((Int32 × Int32 × gs_S) ⊕ (Int32 × Int32 × gs_S)) := if (64 : Int32) ≤ v2 then some (.inr (v1, v2, s3)) else gv_bind (gv_loop (fun q => pX11_days_L41 a2 v2 a1 q.1 q.2) gv_N ((0 : Int32), s3)) (fun q => gv_let q.1 (fun v8 => gv_let q.2 (fun s9 => gv_in v2 320 (gv_let (v1 + (s9.1 64 v2.toNatClampNeg)) (fun v11 => gv_let (v2 + (1 : Int32)) (fun v12 => some (.inl (v11, v12, s9))))))))
def pX11_days (a1 : Int32) (a2 : Int32) (s0 : gs_S) : Option (Int32 × gs_S) := if (pX11_in (a1.toInt64) (0 : Int64) (9 : Int64)) = 0 then some ((-1 : Int32), s0) else if (pX11_in (a2.toInt64) (1 : Int64) (30 : Int64)) = 0 then some ((-1 : Int32), s0) else gv_bind (gv_loop (fun q => pX11_days_L31 a2 a1 q.1 q.2.1 q.2.2) gv_N ((0 : Int32), (0 : Int32), s0)) (fun q => gv_let q.1 (fun v14 => gv_let q.2.1 (fun v15 => gv_let q.2.2 (fun s16 => some (v14, s16)))))
def rX11_days : Room := { frames := 1, cells := 0, slots := 0, locals := 25 }
set_option maxHeartbeats 4000000 in
set_option maxRecDepth 100000 in
theorem tX11_days {p : Program} {l : Launch} {e : Env} {s : State} {m : MethodId} {args : Array Value} {below : List Frame} {meth : Method} {c : Code} {X : gw_X} {Q : State → Prop} (C0 : gm_At p s m args meth c X cX11_days 6 RX11 wsX11_days (some .int)) (a1 : Int32) (a2 : Int32) (s0 : gs_S) {z : Int32 × gs_S} (h : pX11_days a1 a2 s0 = some z) (Kr : ∀ (H : Heap) (locs : List Loc) (ls : Array Slot) (pc : Nat) (r : Int32) (τ : gs_S), z = (r, τ) → gw_P X τ H → va_S (gw_A X) s.heap H locs → decode cX11_days pc = .ok (.ireturn, 1) → W p l e rX11_days s m args below meth c H locs 0 0 Q (F0 m pc ls [.int r])) {H : Heap} {locs : List Loc} {ls : Array Slot} (hP : gw_P X s0 H) (hS : va_S (gw_A X) s.heap H locs) (hl : lv_has ls 6 [(0, .ref (X.1 63)), (1, .int a1), (2, .int a2)]) : W p l e rX11_days s m args below meth c H locs 0 0 Q (F0 m 0 ls []) := by
  obtain ⟨hx, hb, hml, hown, hts, hr, hlocks, hC⟩ := id C0
  unfold pX11_days at h
  refine lv_iload_n hx hb dX11_days_0 rfl (lv_at hl 1 rfl) ?_
  refine lv_i2l hx hb dX11_days_1 rfl ?_
  refine lv_lconst (v := 0) hx hb dX11_days_2 (by decide) ?_
  refine lv_ldc2 (v := 9) hx hb hown (hts (.constantLong RX11 102 (9)) (by decide +kernel)) dX11_days_3 ?_
  refine gv_ri (gv_runS (n := 3) (rest := []) C0 (mX11_in l X s0 (a1.toInt64) (0 : Int64) (9 : Int64)) gX11_days_X11_in rfl ⟨rfl, rfl⟩ (by decide +kernel) ⟨by decide, by decide⟩ hP hS rfl hl.1 rfl (Nat.le_of_ble_eq_true rfl) dX11_days_6 ⟨Nat.zero_le _, Nat.zero_le _⟩) hS (fun H locs hP hS => ?_)
  refine lv_if_eq (tgt := 24) hx hb dX11_days_9 (by decide) (fun hc => ?_) (fun hc => ?_)
  · have h := gv_pos hc h
    refine lv_iconst (v := -1) hx hb dX11_days_24 (by decide) ?_
    exact Kr _ _ _ _ _ _ (gv_inj h) hP hS dX11_days_25
  · have h := gv_neg hc h
    refine lv_iload_n hx hb dX11_days_12 rfl (lv_at hl 2 rfl) ?_
    refine lv_i2l hx hb dX11_days_13 rfl ?_
    refine lv_lconst (v := 1) hx hb dX11_days_14 (by decide) ?_
    refine lv_ldc2 (v := 30) hx hb hown (hts (.constantLong RX11 104 (30)) (by decide +kernel)) dX11_days_15 ?_
    refine gv_ri (gv_runS (n := 3) (rest := []) C0 (mX11_in l X s0 (a2.toInt64) (1 : Int64) (30 : Int64)) gX11_days_X11_in rfl ⟨rfl, rfl⟩ (by decide +kernel) ⟨by decide, by decide⟩ hP hS rfl hl.1 rfl (Nat.le_of_ble_eq_true rfl) dX11_days_18 ⟨Nat.zero_le _, Nat.zero_le _⟩) hS (fun H locs hP hS => ?_)
    refine lv_if_ne (tgt := 26) hx hb dX11_days_21 (by decide) (fun hc => ?_) (fun hc => ?_)
    · have h := gv_neg hc h
      refine lv_iconst (v := 0) hx hb dX11_days_26 (by decide) ?_
      refine lv_istore_n (lv' := [(3, .int (0 : Int32)), (0, .ref (X.1 63)), (1, .int a1), (2, .int a2)]) hx hb dX11_days_27 rfl hl (by decide) rfl (fun ls hl => ?_)
      refine lv_iconst (v := 0) hx hb dX11_days_28 (by decide) ?_
      refine lv_istore (lv' := [(4, .int (0 : Int32)), (3, .int (0 : Int32)), (0, .ref (X.1 63)), (1, .int a1), (2, .int a2)]) hx hb dX11_days_29 hl (by decide) rfl (fun ls hl => ?_)
      obtain ⟨q16, hq16, h⟩ := gv_bind_e h
      refine gv_loop_ind (Φ := fun q => ∀ (H : Heap) (locs : List Loc) (ls : Array Slot), gw_P X q.2.2 H → va_S (gw_A X) s.heap H locs → lv_has ls 6 [(0, .ref (X.1 63)), (1, .int a1), (2, .int a2), (3, .int q.1), (4, .int q.2.1)] → W p l e rX11_days s m args below meth c H locs 0 0 Q (F0 m 31 ls [])) (Ψ := fun q => ∀ (H : Heap) (locs : List Loc) (ls : Array Slot), gw_P X q.2.2 H → va_S (gw_A X) s.heap H locs → lv_has ls 6 [(3, .int q.1)] → W p l e rX11_days s m args below meth c H locs 0 0 Q (F0 m 76 ls [])) ?_ gv_N ((0 : Int32), (0 : Int32), s0) q16 hq16 ?_ H locs ls hP hS (lv_sub hl [2, 3, 4, 1, 0] rfl)
      · intro q x h Kc Ke H locs ls hP hS hl
        obtain ⟨v1, v2, s3⟩ := q
        have h : pX11_days_L31 a2 a1 v1 v2 s3 = some x := h
        have hP : gw_P X s3 H := hP
        have hl : lv_has ls 6 [(0, .ref (X.1 63)), (1, .int a1), (2, .int a2), (3, .int v1), (4, .int v2)] := hl
        unfold pX11_days_L31 at h
        refine lv_iload hx hb dX11_days_31 (lv_at hl 4 rfl) ?_
        refine lv_bipush (v := 64) hx hb dX11_days_33 (by decide) ?_
        refine lv_icmp_ge (tgt := 76) hx hb dX11_days_35 (by decide) (fun hc => ?_) (fun hc => ?_)
        · have h := gv_pos hc h
          exact Ke _ (gv_inj h) _ _ _ hP hS (lv_sub hl [3] rfl)
        · have h := gv_neg hc h
          refine lv_iconst (v := 0) hx hb dX11_days_38 (by decide) ?_
          refine lv_istore (lv' := [(5, .int (0 : Int32)), (0, .ref (X.1 63)), (1, .int a1), (2, .int a2), (3, .int v1), (4, .int v2)]) hx hb dX11_days_39 hl (by decide) rfl (fun ls hl => ?_)
          obtain ⟨q12, hq12, h⟩ := gv_bind_e h
          refine gv_loop_ind (Φ := fun q => ∀ (H : Heap) (locs : List Loc) (ls : Array Slot), gw_P X q.2 H → va_S (gw_A X) s.heap H locs → lv_has ls 6 [(0, .ref (X.1 63)), (1, .int a1), (2, .int a2), (3, .int v1), (4, .int v2), (5, .int q.1)] → W p l e rX11_days s m args below meth c H locs 0 0 Q (F0 m 41 ls [])) (Ψ := fun q => ∀ (H : Heap) (locs : List Loc) (ls : Array Slot), gw_P X q.2 H → va_S (gw_A X) s.heap H locs → lv_has ls 6 [(0, .ref (X.1 63)), (1, .int a1), (2, .int a2), (3, .int v1), (4, .int v2)] → W p l e rX11_days s m args below meth c H locs 0 0 Q (F0 m 60 ls [])) ?_ gv_N ((0 : Int32), s3) q12 hq12 ?_ H locs ls hP hS (lv_sub hl [1, 2, 3, 4, 5, 0] rfl)
          · intro q x h Kc Ke H locs ls hP hS hl
            obtain ⟨v4, s5⟩ := q
            have h : pX11_days_L41 a2 v2 a1 v4 s5 = some x := h
            have hP : gw_P X s5 H := hP
            have hl : lv_has ls 6 [(0, .ref (X.1 63)), (1, .int a1), (2, .int a2), (3, .int v1), (4, .int v2), (5, .int v4)] := hl
            unfold pX11_days_L41 at h
            refine lv_iload hx hb dX11_days_41 (lv_at hl 5 rfl) ?_
            refine lv_iload_n hx hb dX11_days_43 rfl (lv_at hl 2 rfl) ?_
            refine lv_icmp_ge (tgt := 60) hx hb dX11_days_44 (by decide) (fun hc => ?_) (fun hc => ?_)
            · have h := gv_pos hc h
              exact Ke _ (gv_inj h) _ _ _ hP hS (lv_sub hl [0, 1, 2, 3, 4] rfl)
            · have h := gv_neg hc h
              refine lv_aload_n hx hb dX11_days_47 rfl (lv_at hl 0 rfl) ?_
              refine lv_iload hx hb dX11_days_48 (lv_at hl 4 rfl) ?_
              refine lv_iload_n hx hb dX11_days_50 rfl (lv_at hl 1 rfl) ?_
              obtain ⟨s6, hs6, h⟩ := gv_bind_e h
              refine gv_rv (gv_runV (n := 2) (rest := []) C0 (mX11_freeze l X s5 v2 a1 hs6) gX11_days_X11_freeze rfl ⟨rfl, rfl⟩ (by decide +kernel) ⟨by decide, by decide⟩ gk_63.1 (by decide) rfl hP hS rfl hl.1 rfl (Nat.le_of_ble_eq_true rfl) dX11_days_51 ⟨Nat.zero_le _, Nat.zero_le _⟩) hS (fun H locs hP hS => ?_)
              obtain ⟨v7, ev7⟩ : ∃ y : Int32, y = (v4 + (1 : Int32)) := ⟨_, rfl⟩
              have h := gv_let_e ev7 h
              refine lv_iinc (v := v7) (lv' := [(5, .int v7), (0, .ref (X.1 63)), (1, .int a1), (2, .int a2), (3, .int v1), (4, .int v2)]) hx hb dX11_days_54 hl (k := 5) rfl (by rw [ev7]; rfl) (by decide) rfl (fun ls hl => ?_)
              refine lv_goto (tgt := 41) hx hb dX11_days_57 (by decide) ?_
              exact Kc _ (gv_inj h) _ _ _ hP hS (lv_sub hl [1, 2, 3, 4, 5, 0] rfl)
          · obtain ⟨v8, s9⟩ := q12
            have h := gv_let_e (x := v8) rfl h
            have h := gv_let_e (x := s9) rfl h
            intro H locs ls hP hS hl
            have hP : gw_P X s9 H := hP
            have hl : lv_has ls 6 [(0, .ref (X.1 63)), (1, .int a1), (2, .int a2), (3, .int v1), (4, .int v2)] := hl
            refine lv_iload_n hx hb dX11_days_60 rfl (lv_at hl 3 rfl) ?_
            refine lv_aload_n hx hb dX11_days_61 rfl (lv_at hl 0 rfl) ?_
            refine gv_get (ref := "IceByEarModel") (C := RX11) (T := TX11) (N := 28) (ci := 11) (v := .ref (X.1 64)) C0 (fun _ h9 => List.mem_cons_of_mem _ (List.mem_append_right _ h9)) hP 63 (gw_o11 X s9 gk_63.1) rfl 0 (by decide) (by decide +kernel) rfl rfl dX11_days_62 ?_
            refine lv_iload hx hb dX11_days_65 (lv_at hl 4 rfl) ?_
            obtain ⟨hin10, h⟩ := gv_in_e h
            refine gv_iald C0 hP 64 gk_64.1 gk_64.2 hin10 dX11_days_67 ?_
            refine lv_iadd hx hb dX11_days_68 ?_
            refine lv_topi (fun v11 ev11 => ?_)
            have h := gv_let_e ev11 h
            refine lv_istore_n (lv' := [(3, .int v11), (0, .ref (X.1 63)), (1, .int a1), (2, .int a2), (4, .int v2)]) hx hb dX11_days_69 rfl hl (by decide) rfl (fun ls hl => ?_)
            obtain ⟨v12, ev12⟩ : ∃ y : Int32, y = (v2 + (1 : Int32)) := ⟨_, rfl⟩
            have h := gv_let_e ev12 h
            refine lv_iinc (v := v12) (lv' := [(4, .int v12), (3, .int v11), (0, .ref (X.1 63)), (1, .int a1), (2, .int a2)]) hx hb dX11_days_70 hl (k := 4) rfl (by rw [ev12]; rfl) (by decide) rfl (fun ls hl => ?_)
            refine lv_goto (tgt := 31) hx hb dX11_days_73 (by decide) ?_
            exact Kc _ (gv_inj h) _ _ _ hP hS (lv_sub hl [2, 3, 4, 1, 0] rfl)
      · obtain ⟨v14, v15, s16⟩ := q16
        have h := gv_let_e (x := v14) rfl h
        have h := gv_let_e (x := v15) rfl h
        have h := gv_let_e (x := s16) rfl h
        intro H locs ls hP hS hl
        have hP : gw_P X s16 H := hP
        have hl : lv_has ls 6 [(3, .int v14)] := hl
        refine lv_iload_n hx hb dX11_days_76 rfl (lv_at hl 0 rfl) ?_
        exact Kr _ _ _ _ _ _ (gv_inj h) hP hS dX11_days_77
    · have h := gv_pos hc h
      refine lv_iconst (v := -1) hx hb dX11_days_24 (by decide) ?_
      exact Kr _ _ _ _ _ _ (gv_inj h) hP hS dX11_days_25
theorem mX11_days (l : Launch) (X : gw_X) (s0 : gs_S) (a1 : Int32) (a2 : Int32) {r : Int32} {τ : gs_S} (h : pX11_days a1 a2 s0 = some (r, τ)) : Met l yX11_days wsX11_days rX11_days (gm_Pc X s0 [.ref (X.1 63), .int a1, .int a2]) (gm_Qi X τ r) 0 0 (gw_A X) :=
  gm_of RX11 (by decide) rfl rfl (Nat.le_of_ble_eq_true rfl) (fun p e s m below meth c ls C0 hP hl hS => tX11_days C0 a1 a2 s0 h (fun H locs ls pc r τ hr hP hS hd => by cases hr; exact gm_reti C0 hP hS hd) hP hS hl)
def pX11_set (a1 : Int32) (a2 : Int32) (s0 : gs_S) : Option (Int32 × gs_S) := if (pX11_in (a1.toInt64) (0 : Int64) (1 : Int64)) = 0 then some ((-1 : Int32), s0) else if (pX11_in (a2.toInt64) (0 : Int64) (99 : Int64)) = 0 then some ((-1 : Int32), s0) else gv_in a1 2 (gv_let (s0.1 69 a1.toNatClampNeg) (fun v2 => gv_in a1 2 (gv_let (gs_u s0 69 a1.toNatClampNeg a2) (fun s4 => some (v2, s4)))))
def rX11_set : Room := { frames := 1, cells := 0, slots := 0, locals := 25 }
set_option maxHeartbeats 4000000 in
set_option maxRecDepth 100000 in
theorem tX11_set {p : Program} {l : Launch} {e : Env} {s : State} {m : MethodId} {args : Array Value} {below : List Frame} {meth : Method} {c : Code} {X : gw_X} {Q : State → Prop} (C0 : gm_At p s m args meth c X cX11_set 4 RX11 wsX11_set (some .int)) (a1 : Int32) (a2 : Int32) (s0 : gs_S) {z : Int32 × gs_S} (h : pX11_set a1 a2 s0 = some z) (Kr : ∀ (H : Heap) (locs : List Loc) (ls : Array Slot) (pc : Nat) (r : Int32) (τ : gs_S), z = (r, τ) → gw_P X τ H → va_S (gw_A X) s.heap H locs → decode cX11_set pc = .ok (.ireturn, 1) → W p l e rX11_set s m args below meth c H locs 0 0 Q (F0 m pc ls [.int r])) {H : Heap} {locs : List Loc} {ls : Array Slot} (hP : gw_P X s0 H) (hS : va_S (gw_A X) s.heap H locs) (hl : lv_has ls 4 [(0, .ref (X.1 63)), (1, .int a1), (2, .int a2)]) : W p l e rX11_set s m args below meth c H locs 0 0 Q (F0 m 0 ls []) := by
  obtain ⟨hx, hb, hml, hown, hts, hr, hlocks, hC⟩ := id C0
  unfold pX11_set at h
  refine lv_iload_n hx hb dX11_set_0 rfl (lv_at hl 1 rfl) ?_
  refine lv_i2l hx hb dX11_set_1 rfl ?_
  refine lv_lconst (v := 0) hx hb dX11_set_2 (by decide) ?_
  refine lv_lconst (v := 1) hx hb dX11_set_3 (by decide) ?_
  refine gv_ri (gv_runS (n := 3) (rest := []) C0 (mX11_in l X s0 (a1.toInt64) (0 : Int64) (1 : Int64)) gX11_set_X11_in rfl ⟨rfl, rfl⟩ (by decide +kernel) ⟨by decide, by decide⟩ hP hS rfl hl.1 rfl (Nat.le_of_ble_eq_true rfl) dX11_set_4 ⟨Nat.zero_le _, Nat.zero_le _⟩) hS (fun H locs hP hS => ?_)
  refine lv_if_eq (tgt := 22) hx hb dX11_set_7 (by decide) (fun hc => ?_) (fun hc => ?_)
  · have h := gv_pos hc h
    refine lv_iconst (v := -1) hx hb dX11_set_22 (by decide) ?_
    exact Kr _ _ _ _ _ _ (gv_inj h) hP hS dX11_set_23
  · have h := gv_neg hc h
    refine lv_iload_n hx hb dX11_set_10 rfl (lv_at hl 2 rfl) ?_
    refine lv_i2l hx hb dX11_set_11 rfl ?_
    refine lv_lconst (v := 0) hx hb dX11_set_12 (by decide) ?_
    refine lv_ldc2 (v := 99) hx hb hown (hts (.constantLong RX11 110 (99)) (by decide +kernel)) dX11_set_13 ?_
    refine gv_ri (gv_runS (n := 3) (rest := []) C0 (mX11_in l X s0 (a2.toInt64) (0 : Int64) (99 : Int64)) gX11_set_X11_in rfl ⟨rfl, rfl⟩ (by decide +kernel) ⟨by decide, by decide⟩ hP hS rfl hl.1 rfl (Nat.le_of_ble_eq_true rfl) dX11_set_16 ⟨Nat.zero_le _, Nat.zero_le _⟩) hS (fun H locs hP hS => ?_)
    refine lv_if_ne (tgt := 24) hx hb dX11_set_19 (by decide) (fun hc => ?_) (fun hc => ?_)
    · have h := gv_neg hc h
      refine lv_aload_n hx hb dX11_set_24 rfl (lv_at hl 0 rfl) ?_
      refine gv_get (ref := "IceByEarModel") (C := RX11) (T := TX11) (N := 28) (ci := 11) (v := .ref (X.1 69)) C0 (fun _ h9 => List.mem_cons_of_mem _ (List.mem_append_right _ h9)) hP 63 (gw_o11 X s0 gk_63.1) rfl 7 (by decide) (by decide +kernel) rfl rfl dX11_set_25 ?_
      refine lv_iload_n hx hb dX11_set_28 rfl (lv_at hl 1 rfl) ?_
      obtain ⟨hin1, h⟩ := gv_in_e h
      refine gv_iald C0 hP 69 gk_69.1 gk_69.2 hin1 dX11_set_29 ?_
      refine lv_topi (fun v2 ev2 => ?_)
      have h := gv_let_e ev2 h
      refine lv_istore_n (lv' := [(3, .int v2), (0, .ref (X.1 63)), (1, .int a1), (2, .int a2)]) hx hb dX11_set_30 rfl hl (by decide) rfl (fun ls hl => ?_)
      refine lv_aload_n hx hb dX11_set_31 rfl (lv_at hl 1 rfl) ?_
      refine gv_get (ref := "IceByEarModel") (C := RX11) (T := TX11) (N := 28) (ci := 11) (v := .ref (X.1 69)) C0 (fun _ h9 => List.mem_cons_of_mem _ (List.mem_append_right _ h9)) hP 63 (gw_o11 X s0 gk_63.1) rfl 7 (by decide) (by decide +kernel) rfl rfl dX11_set_32 ?_
      refine lv_iload_n hx hb dX11_set_35 rfl (lv_at hl 2 rfl) ?_
      refine lv_iload_n hx hb dX11_set_36 rfl (lv_at hl 3 rfl) ?_
      obtain ⟨hin3, h⟩ := gv_in_e h
      refine gv_iast C0 hP hS 69 gk_69.1 gk_69.2 hin3 dX11_set_37 (fun s4 H locs es4 hP hS => ?_)
      have h := gv_let_e es4 h
      refine lv_iload_n hx hb dX11_set_38 rfl (lv_at hl 0 rfl) ?_
      exact Kr _ _ _ _ _ _ (gv_inj h) hP hS dX11_set_39
    · have h := gv_pos hc h
      refine lv_iconst (v := -1) hx hb dX11_set_22 (by decide) ?_
      exact Kr _ _ _ _ _ _ (gv_inj h) hP hS dX11_set_23
theorem mX11_set (l : Launch) (X : gw_X) (s0 : gs_S) (a1 : Int32) (a2 : Int32) {r : Int32} {τ : gs_S} (h : pX11_set a1 a2 s0 = some (r, τ)) : Met l yX11_set wsX11_set rX11_set (gm_Pc X s0 [.ref (X.1 63), .int a1, .int a2]) (gm_Qi X τ r) 0 0 (gw_A X) :=
  gm_of RX11 (by decide) rfl rfl (Nat.le_of_ble_eq_true rfl) (fun p e s m below meth c ls C0 hP hl hS => tX11_set C0 a1 a2 s0 h (fun H locs ls pc r τ hr hP hS hd => by cases hr; exact gm_reti C0 hP hS hd) hP hS hl)
def pX11_count_J30 (v1 : Int32) (v3 : Int32) (v2 : Int32) (s0 : gs_S) (v5 : Int32) : Option ((Int32 × Int32 × Int32) ⊕ (Int32 × Int32 × Int32)) := gv_let (v1 + v5) (fun v6 => gv_in ((256 : Int32) + v3) 320 (gv_let (v2 + (s0.1 64 ((256 : Int32) + v3).toNatClampNeg)) (fun v8 => gv_let (v3 + (1 : Int32)) (fun v9 => some (.inl (v6, v8, v9))))))
def pX11_count_L7 (s0 : gs_S) (v1 : Int32) (v2 : Int32) (v3 : Int32) : Option ((Int32 × Int32 × Int32) ⊕ (Int32 × Int32 × Int32)) := if (64 : Int32) ≤ v3 then some (.inr (v1, v2, v3)) else gv_in v3 320 (if (s0.1 64 v3.toNatClampNeg) = 0 then pX11_count_J30 v1 v3 v2 s0 (1 : Int32) else pX11_count_J30 v1 v3 v2 s0 (0 : Int32))
def pX11_count (a1 : Int32) (s0 : gs_S) : Option (Int32) := gv_bind (gv_loop (fun q => pX11_count_L7 s0 q.1 q.2.1 q.2.2) gv_N ((0 : Int32), (0 : Int32), (0 : Int32))) (fun q => gv_let q.1 (fun v10 => gv_let q.2.1 (fun v11 => gv_let q.2.2 (fun v12 => if a1 = 0 then some (s0.1 63 4) else if a1 = (1 : Int32) then some (s0.1 63 6) else if a1 = (2 : Int32) then some (s0.1 63 10) else if a1 = (3 : Int32) then some v10 else if a1 = (4 : Int32) then some v11 else some (-1 : Int32)))))
def rX11_count : Room := { frames := 0, cells := 0, slots := 0, locals := 0 }
set_option maxHeartbeats 4000000 in
set_option maxRecDepth 100000 in
theorem tX11_count {p : Program} {l : Launch} {e : Env} {s : State} {m : MethodId} {args : Array Value} {below : List Frame} {meth : Method} {c : Code} {X : gw_X} {Q : State → Prop} (C0 : gm_At p s m args meth c X cX11_count 5 RX11 wsX11_count (some .int)) (a1 : Int32) (s0 : gs_S) {z : Int32} (h : pX11_count a1 s0 = some z) (Kr : ∀ (H : Heap) (locs : List Loc) (ls : Array Slot) (pc : Nat) (r : Int32), z = r → gw_P X s0 H → va_S (gw_A X) s.heap H locs → decode cX11_count pc = .ok (.ireturn, 1) → W p l e rX11_count s m args below meth c H locs 0 0 Q (F0 m pc ls [.int r])) {H : Heap} {locs : List Loc} {ls : Array Slot} (hP : gw_P X s0 H) (hS : va_S (gw_A X) s.heap H locs) (hl : lv_has ls 5 [(0, .ref (X.1 63)), (1, .int a1)]) : W p l e rX11_count s m args below meth c H locs 0 0 Q (F0 m 0 ls []) := by
  obtain ⟨hx, hb, hml, hown, hts, hr, hlocks, hC⟩ := id C0
  unfold pX11_count at h
  refine lv_iconst (v := 0) hx hb dX11_count_0 (by decide) ?_
  refine lv_istore_n (lv' := [(2, .int (0 : Int32)), (0, .ref (X.1 63)), (1, .int a1)]) hx hb dX11_count_1 rfl hl (by decide) rfl (fun ls hl => ?_)
  refine lv_iconst (v := 0) hx hb dX11_count_2 (by decide) ?_
  refine lv_istore_n (lv' := [(3, .int (0 : Int32)), (2, .int (0 : Int32)), (0, .ref (X.1 63)), (1, .int a1)]) hx hb dX11_count_3 rfl hl (by decide) rfl (fun ls hl => ?_)
  refine lv_iconst (v := 0) hx hb dX11_count_4 (by decide) ?_
  refine lv_istore (lv' := [(4, .int (0 : Int32)), (3, .int (0 : Int32)), (2, .int (0 : Int32)), (0, .ref (X.1 63)), (1, .int a1)]) hx hb dX11_count_5 hl (by decide) rfl (fun ls hl => ?_)
  obtain ⟨q12, hq12, h⟩ := gv_bind_e h
  refine gv_loop_ind (Φ := fun q => ∀ (H : Heap) (locs : List Loc) (ls : Array Slot), gw_P X s0 H → va_S (gw_A X) s.heap H locs → lv_has ls 5 [(0, .ref (X.1 63)), (1, .int a1), (2, .int q.1), (3, .int q.2.1), (4, .int q.2.2)] → W p l e rX11_count s m args below meth c H locs 0 0 Q (F0 m 7 ls [])) (Ψ := fun q => ∀ (H : Heap) (locs : List Loc) (ls : Array Slot), gw_P X s0 H → va_S (gw_A X) s.heap H locs → lv_has ls 5 [(0, .ref (X.1 63)), (1, .int a1), (2, .int q.1), (3, .int q.2.1)] → W p l e rX11_count s m args below meth c H locs 0 0 Q (F0 m 52 ls [])) ?_ gv_N ((0 : Int32), (0 : Int32), (0 : Int32)) q12 hq12 ?_ H locs ls hP hS (lv_sub hl [3, 4, 2, 1, 0] rfl)
  · intro q x h Kc Ke H locs ls hP hS hl
    obtain ⟨v1, v2, v3⟩ := q
    have h : pX11_count_L7 s0 v1 v2 v3 = some x := h
    have hP : gw_P X s0 H := hP
    have hl : lv_has ls 5 [(0, .ref (X.1 63)), (1, .int a1), (2, .int v1), (3, .int v2), (4, .int v3)] := hl
    unfold pX11_count_L7 at h
    refine lv_iload hx hb dX11_count_7 (lv_at hl 4 rfl) ?_
    refine lv_bipush (v := 64) hx hb dX11_count_9 (by decide) ?_
    refine lv_icmp_ge (tgt := 52) hx hb dX11_count_11 (by decide) (fun hc => ?_) (fun hc => ?_)
    · have h := gv_pos hc h
      exact Ke _ (gv_inj h) _ _ _ hP hS (lv_sub hl [0, 1, 2, 3] rfl)
    · have h := gv_neg hc h
      refine lv_iload_n hx hb dX11_count_14 rfl (lv_at hl 2 rfl) ?_
      refine lv_aload_n hx hb dX11_count_15 rfl (lv_at hl 0 rfl) ?_
      refine gv_get (ref := "IceByEarModel") (C := RX11) (T := TX11) (N := 28) (ci := 11) (v := .ref (X.1 64)) C0 (fun _ h9 => List.mem_cons_of_mem _ (List.mem_append_right _ h9)) hP 63 (gw_o11 X s0 gk_63.1) rfl 0 (by decide) (by decide +kernel) rfl rfl dX11_count_16 ?_
      refine lv_iload hx hb dX11_count_19 (lv_at hl 4 rfl) ?_
      obtain ⟨hin4, h⟩ := gv_in_e h
      refine gv_iald C0 hP 64 gk_64.1 gk_64.2 hin4 dX11_count_21 ?_
      have J30 : ∀ (v5 : Int32) (H : Heap) (locs : List Loc) (ls : Array Slot), pX11_count_J30 v1 v3 v2 s0 v5 = some x → gw_P X s0 H → va_S (gw_A X) s.heap H locs → lv_has ls 5 [(0, .ref (X.1 63)), (1, .int a1), (3, .int v2), (4, .int v3)] → W p l e rX11_count s m args below meth c H locs 0 0 Q (F0 m 30 ls [.int v5, .int v1]) := by
        intro v5 H locs ls h hP hS hl
        unfold pX11_count_J30 at h
        refine lv_iadd hx hb dX11_count_30 ?_
        refine lv_topi (fun v6 ev6 => ?_)
        have h := gv_let_e ev6 h
        refine lv_istore_n (lv' := [(2, .int v6), (0, .ref (X.1 63)), (1, .int a1), (3, .int v2), (4, .int v3)]) hx hb dX11_count_31 rfl hl (by decide) rfl (fun ls hl => ?_)
        refine lv_iload_n hx hb dX11_count_32 rfl (lv_at hl 3 rfl) ?_
        refine lv_aload_n hx hb dX11_count_33 rfl (lv_at hl 1 rfl) ?_
        refine gv_get (ref := "IceByEarModel") (C := RX11) (T := TX11) (N := 28) (ci := 11) (v := .ref (X.1 64)) C0 (fun _ h9 => List.mem_cons_of_mem _ (List.mem_append_right _ h9)) hP 63 (gw_o11 X s0 gk_63.1) rfl 0 (by decide) (by decide +kernel) rfl rfl dX11_count_34 ?_
        refine lv_sipush (v := 256) hx hb dX11_count_37 (by decide) ?_
        refine lv_iload hx hb dX11_count_40 (lv_at hl 4 rfl) ?_
        refine lv_iadd hx hb dX11_count_42 ?_
        obtain ⟨hin7, h⟩ := gv_in_e h
        refine gv_iald C0 hP 64 gk_64.1 gk_64.2 hin7 dX11_count_43 ?_
        refine lv_iadd hx hb dX11_count_44 ?_
        refine lv_topi (fun v8 ev8 => ?_)
        have h := gv_let_e ev8 h
        refine lv_istore_n (lv' := [(3, .int v8), (2, .int v6), (0, .ref (X.1 63)), (1, .int a1), (4, .int v3)]) hx hb dX11_count_45 rfl hl (by decide) rfl (fun ls hl => ?_)
        obtain ⟨v9, ev9⟩ : ∃ y : Int32, y = (v3 + (1 : Int32)) := ⟨_, rfl⟩
        have h := gv_let_e ev9 h
        refine lv_iinc (v := v9) (lv' := [(4, .int v9), (3, .int v8), (2, .int v6), (0, .ref (X.1 63)), (1, .int a1)]) hx hb dX11_count_46 hl (k := 4) rfl (by rw [ev9]; rfl) (by decide) rfl (fun ls hl => ?_)
        refine lv_goto (tgt := 7) hx hb dX11_count_49 (by decide) ?_
        exact Kc _ (gv_inj h) _ _ _ hP hS (lv_sub hl [3, 4, 2, 1, 0] rfl)
      refine lv_if_ne (tgt := 29) hx hb dX11_count_22 (by decide) (fun hc => ?_) (fun hc => ?_)
      · have h := gv_neg hc h
        refine lv_iconst (v := 0) hx hb dX11_count_29 (by decide) ?_
        exact J30 (0 : Int32) _ _ _ h hP hS (lv_sub hl [0, 1, 3, 4] rfl)
      · have h := gv_pos hc h
        refine lv_iconst (v := 1) hx hb dX11_count_25 (by decide) ?_
        refine lv_goto (tgt := 30) hx hb dX11_count_26 (by decide) ?_
        exact J30 (1 : Int32) _ _ _ h hP hS (lv_sub hl [0, 1, 3, 4] rfl)
  · obtain ⟨v10, v11, v12⟩ := q12
    have h := gv_let_e (x := v10) rfl h
    have h := gv_let_e (x := v11) rfl h
    have h := gv_let_e (x := v12) rfl h
    intro H locs ls hP hS hl
    have hP : gw_P X s0 H := hP
    have hl : lv_has ls 5 [(0, .ref (X.1 63)), (1, .int a1), (2, .int v10), (3, .int v11)] := hl
    refine lv_iload_n hx hb dX11_count_52 rfl (lv_at hl 1 rfl) ?_
    refine lv_if_ne (tgt := 63) hx hb dX11_count_53 (by decide) (fun hc => ?_) (fun hc => ?_)
    · have h := gv_neg hc h
      refine lv_iload_n hx hb dX11_count_63 rfl (lv_at hl 1 rfl) ?_
      refine lv_iconst (v := 1) hx hb dX11_count_64 (by decide) ?_
      refine lv_icmp_ne (tgt := 75) hx hb dX11_count_65 (by decide) (fun hc => ?_) (fun hc => ?_)
      · have h := gv_neg hc h
        refine lv_iload_n hx hb dX11_count_75 rfl (lv_at hl 1 rfl) ?_
        refine lv_iconst (v := 2) hx hb dX11_count_76 (by decide) ?_
        refine lv_icmp_ne (tgt := 87) hx hb dX11_count_77 (by decide) (fun hc => ?_) (fun hc => ?_)
        · have h := gv_neg hc h
          refine lv_iload_n hx hb dX11_count_87 rfl (lv_at hl 1 rfl) ?_
          refine lv_iconst (v := 3) hx hb dX11_count_88 (by decide) ?_
          refine lv_icmp_ne (tgt := 96) hx hb dX11_count_89 (by decide) (fun hc => ?_) (fun hc => ?_)
          · have h := gv_neg hc h
            refine lv_iload_n hx hb dX11_count_96 rfl (lv_at hl 1 rfl) ?_
            refine lv_iconst (v := 4) hx hb dX11_count_97 (by decide) ?_
            refine lv_icmp_ne (tgt := 105) hx hb dX11_count_98 (by decide) (fun hc => ?_) (fun hc => ?_)
            · have h := gv_neg hc h
              refine lv_iconst (v := -1) hx hb dX11_count_105 (by decide) ?_
              exact Kr _ _ _ _ _ (gv_inj h) hP hS dX11_count_106
            · have h := gv_pos hc h
              refine lv_iload_n hx hb dX11_count_101 rfl (lv_at hl 3 rfl) ?_
              refine lv_goto (tgt := 106) hx hb dX11_count_102 (by decide) ?_
              exact Kr _ _ _ _ _ (gv_inj h) hP hS dX11_count_106
          · have h := gv_pos hc h
            refine lv_iload_n hx hb dX11_count_92 rfl (lv_at hl 2 rfl) ?_
            refine lv_goto (tgt := 106) hx hb dX11_count_93 (by decide) ?_
            exact Kr _ _ _ _ _ (gv_inj h) hP hS dX11_count_106
        · have h := gv_pos hc h
          refine lv_aload_n hx hb dX11_count_80 rfl (lv_at hl 0 rfl) ?_
          refine gv_get (ref := "IceByEarModel") (C := RX11) (T := TX11) (N := 28) (ci := 11) (v := .int (s0.1 63 10)) C0 (fun _ h9 => List.mem_cons_of_mem _ (List.mem_append_right _ h9)) hP 63 (gw_o11 X s0 gk_63.1) rfl 10 (by decide) (by decide +kernel) rfl rfl dX11_count_81 ?_
          refine lv_goto (tgt := 106) hx hb dX11_count_84 (by decide) ?_
          exact Kr _ _ _ _ _ (gv_inj h) hP hS dX11_count_106
      · have h := gv_pos hc h
        refine lv_aload_n hx hb dX11_count_68 rfl (lv_at hl 0 rfl) ?_
        refine gv_get (ref := "IceByEarModel") (C := RX11) (T := TX11) (N := 28) (ci := 11) (v := .int (s0.1 63 6)) C0 (fun _ h9 => List.mem_cons_of_mem _ (List.mem_append_right _ h9)) hP 63 (gw_o11 X s0 gk_63.1) rfl 6 (by decide) (by decide +kernel) rfl rfl dX11_count_69 ?_
        refine lv_goto (tgt := 106) hx hb dX11_count_72 (by decide) ?_
        exact Kr _ _ _ _ _ (gv_inj h) hP hS dX11_count_106
    · have h := gv_pos hc h
      refine lv_aload_n hx hb dX11_count_56 rfl (lv_at hl 0 rfl) ?_
      refine gv_get (ref := "IceByEarModel") (C := RX11) (T := TX11) (N := 28) (ci := 11) (v := .int (s0.1 63 4)) C0 (fun _ h9 => List.mem_cons_of_mem _ (List.mem_append_right _ h9)) hP 63 (gw_o11 X s0 gk_63.1) rfl 4 (by decide) (by decide +kernel) rfl rfl dX11_count_57 ?_
      refine lv_goto (tgt := 106) hx hb dX11_count_60 (by decide) ?_
      exact Kr _ _ _ _ _ (gv_inj h) hP hS dX11_count_106
theorem mX11_count (l : Launch) (X : gw_X) (s0 : gs_S) (a1 : Int32) {r : Int32} (h : pX11_count a1 s0 = some r) : Met l yX11_count wsX11_count rX11_count (gm_Pc X s0 [.ref (X.1 63), .int a1]) (gm_Qi X s0 r) 0 0 (gw_A X) :=
  gm_of RX11 (by decide) rfl rfl (Nat.le_of_ble_eq_true rfl) (fun p e s m below meth c ls C0 hP hl hS => tX11_count C0 a1 s0 h (fun H locs ls pc r hr hP hS hd => by subst hr; exact gm_reti C0 hP hS hd) hP hS hl)
def pX11_type_L19 (a1 : Int64) (s0 : gs_S) (v2 : Int32) : Option ((Int32) ⊕ ((Int32) ⊕ (Int32 × gs_S))) := if v2 < 0 then some (.inr (.inl v2)) else if (pX11_in ((a1 >>> (((8 : Int32) * v2).toInt64 &&& 63)) &&& (255 : Int64)) (32 : Int64) (126 : Int64)) = 0 then some (.inr (.inr ((-1 : Int32), s0))) else gv_let (v2 + (-1 : Int32)) (fun v3 => some (.inl v3))
def pX11_type_L75 (a1 : Int64) (v6 : Int32) (s7 : gs_S) : Option ((Int32 × gs_S) ⊕ (Int32 × gs_S)) := if v6 < 0 then some (.inr (v6, s7)) else gv_in (s7.1 63 12) 140 (gv_let (gs_u s7 72 (s7.1 63 12).toNatClampNeg (((a1 >>> (((8 : Int32) * v6).toInt64 &&& 63)) &&& (255 : Int64)).toInt32)) (fun s9 => gv_let (gs_u s9 63 12 ((s9.1 63 12) + (1 : Int32))) (fun s10 => gv_let (v6 + (-1 : Int32)) (fun v11 => some (.inl (v11, s10))))))
def pX11_type (a1 : Int64) (a3 : Int32) (s0 : gs_S) : Option (Int32 × gs_S) := if (pX11_in (a3.toInt64) (1 : Int64) (8 : Int64)) = 0 then some ((-1 : Int32), s0) else gv_let (a3 - (1 : Int32)) (fun v1 => gv_bret (gv_loop (fun q => pX11_type_L19 a1 s0 q) gv_N v1) (fun r => r) (fun q => gv_let q (fun v4 => if ((s0.1 63 12) + a3) ≤ (140 : Int32) then gv_let (a3 - (1 : Int32)) (fun v5 => gv_bind (gv_loop (fun q => pX11_type_L75 a1 q.1 q.2) gv_N (v5, s0)) (fun q => gv_let q.1 (fun v12 => gv_let q.2 (fun s13 => some ((s13.1 63 12), s13))))) else some ((-3 : Int32), s0))))
def rX11_type : Room := { frames := 1, cells := 0, slots := 0, locals := 25 }
set_option maxHeartbeats 4000000 in
set_option maxRecDepth 100000 in
theorem tX11_type {p : Program} {l : Launch} {e : Env} {s : State} {m : MethodId} {args : Array Value} {below : List Frame} {meth : Method} {c : Code} {X : gw_X} {Q : State → Prop} (C0 : gm_At p s m args meth c X cX11_type 5 RX11 wsX11_type (some .int)) (a1 : Int64) (a3 : Int32) (s0 : gs_S) {z : Int32 × gs_S} (h : pX11_type a1 a3 s0 = some z) (Kr : ∀ (H : Heap) (locs : List Loc) (ls : Array Slot) (pc : Nat) (r : Int32) (τ : gs_S), z = (r, τ) → gw_P X τ H → va_S (gw_A X) s.heap H locs → decode cX11_type pc = .ok (.ireturn, 1) → W p l e rX11_type s m args below meth c H locs 0 0 Q (F0 m pc ls [.int r])) {H : Heap} {locs : List Loc} {ls : Array Slot} (hP : gw_P X s0 H) (hS : va_S (gw_A X) s.heap H locs) (hl : lv_has ls 5 [(0, .ref (X.1 63)), (1, .long a1), (3, .int a3)]) : W p l e rX11_type s m args below meth c H locs 0 0 Q (F0 m 0 ls []) := by
  obtain ⟨hx, hb, hml, hown, hts, hr, hlocks, hC⟩ := id C0
  unfold pX11_type at h
  refine lv_iload_n hx hb dX11_type_0 rfl (lv_at hl 2 rfl) ?_
  refine lv_i2l hx hb dX11_type_1 rfl ?_
  refine lv_lconst (v := 1) hx hb dX11_type_2 (by decide) ?_
  refine lv_ldc2 (v := 8) hx hb hown (hts (.constantLong RX11 122 (8)) (by decide +kernel)) dX11_type_3 ?_
  refine gv_ri (gv_runS (n := 3) (rest := []) C0 (mX11_in l X s0 (a3.toInt64) (1 : Int64) (8 : Int64)) gX11_type_X11_in rfl ⟨rfl, rfl⟩ (by decide +kernel) ⟨by decide, by decide⟩ hP hS rfl hl.1 rfl (Nat.le_of_ble_eq_true rfl) dX11_type_6 ⟨Nat.zero_le _, Nat.zero_le _⟩) hS (fun H locs hP hS => ?_)
  refine lv_if_ne (tgt := 14) hx hb dX11_type_9 (by decide) (fun hc => ?_) (fun hc => ?_)
  · have h := gv_neg hc h
    refine lv_iload_n hx hb dX11_type_14 rfl (lv_at hl 2 rfl) ?_
    refine lv_iconst (v := 1) hx hb dX11_type_15 (by decide) ?_
    refine lv_isub hx hb dX11_type_16 ?_
    refine lv_topi (fun v1 ev1 => ?_)
    have h := gv_let_e ev1 h
    refine lv_istore (lv' := [(4, .int v1), (0, .ref (X.1 63)), (1, .long a1), (3, .int a3)]) hx hb dX11_type_17 hl (by decide) rfl (fun ls hl => ?_)
    obtain ⟨q14, hq14, h1q14, h2q14⟩ := gv_bret_e h
    refine gv_loop_ind (Φ := fun q => ∀ (H : Heap) (locs : List Loc) (ls : Array Slot), gw_P X s0 H → va_S (gw_A X) s.heap H locs → lv_has ls 5 [(0, .ref (X.1 63)), (1, .long a1), (3, .int a3), (4, .int q)] → W p l e rX11_type s m args below meth c H locs 0 0 Q (F0 m 19 ls [])) (Ψ := fun ex => (∀ q : Int32, ex = .inl q → ∀ (H : Heap) (locs : List Loc) (ls : Array Slot), gw_P X s0 H → va_S (gw_A X) s.heap H locs → lv_has ls 5 [(0, .ref (X.1 63)), (1, .long a1), (3, .int a3)] → W p l e rX11_type s m args below meth c H locs 0 0 Q (F0 m 55 ls [])) ∧ (∀ r : Int32 × gs_S, ex = .inr r → ∀ (H : Heap) (locs : List Loc) (ls : Array Slot) (pc : Nat), gw_P X r.2 H → va_S (gw_A X) s.heap H locs → decode cX11_type pc = .ok (.ireturn, 1) → W p l e rX11_type s m args below meth c H locs 0 0 Q (F0 m pc ls [.int r.1]))) ?_ gv_N v1 q14 hq14 ⟨?_, ?_⟩ H locs ls hP hS (lv_sub hl [1, 2, 3, 0] rfl)
    · intro q x h Kc Ke H locs ls hP hS hl
      obtain ⟨v2, eq_q⟩ : ∃ y, y = q := ⟨_, rfl⟩
      subst eq_q
      have h : pX11_type_L19 a1 s0 v2 = some x := h
      have hP : gw_P X s0 H := hP
      have hl : lv_has ls 5 [(0, .ref (X.1 63)), (1, .long a1), (3, .int a3), (4, .int v2)] := hl
      unfold pX11_type_L19 at h
      refine lv_iload hx hb dX11_type_19 (lv_at hl 3 rfl) ?_
      refine lv_if_lt (tgt := 55) hx hb dX11_type_21 (by decide) (fun hc => ?_) (fun hc => ?_)
      · have h := gv_pos hc h
        exact (Ke _ (gv_inj h)).1 _ rfl _ _ _ hP hS (lv_sub hl [0, 1, 2] rfl)
      · have h := gv_neg hc h
        refine lv_lload_n hx hb dX11_type_24 rfl (lv_at hl 1 rfl) ?_
        refine lv_bipush (v := 8) hx hb dX11_type_25 (by decide) ?_
        refine lv_iload hx hb dX11_type_27 (lv_at hl 3 rfl) ?_
        refine lv_imul hx hb dX11_type_29 ?_
        refine lv_lshr hx hb dX11_type_30 rfl ?_
        refine lv_ldc2 (v := 255) hx hb hown (hts (.constantLong RX11 124 (255)) (by decide +kernel)) dX11_type_31 ?_
        refine lv_land hx hb dX11_type_34 ?_
        refine lv_ldc2 (v := 32) hx hb hown (hts (.constantLong RX11 126 (32)) (by decide +kernel)) dX11_type_35 ?_
        refine lv_ldc2 (v := 126) hx hb hown (hts (.constantLong RX11 128 (126)) (by decide +kernel)) dX11_type_38 ?_
        refine gv_ri (gv_runS (n := 3) (rest := []) C0 (mX11_in l X s0 ((a1 >>> (((8 : Int32) * v2).toInt64 &&& 63)) &&& (255 : Int64)) (32 : Int64) (126 : Int64)) gX11_type_X11_in rfl ⟨rfl, rfl⟩ (by decide +kernel) ⟨by decide, by decide⟩ hP hS rfl hl.1 rfl (Nat.le_of_ble_eq_true rfl) dX11_type_41 ⟨Nat.zero_le _, Nat.zero_le _⟩) hS (fun H locs hP hS => ?_)
        refine lv_if_ne (tgt := 49) hx hb dX11_type_44 (by decide) (fun hc => ?_) (fun hc => ?_)
        · have h := gv_neg hc h
          obtain ⟨v3, ev3⟩ : ∃ y : Int32, y = (v2 + (-1 : Int32)) := ⟨_, rfl⟩
          have h := gv_let_e ev3 h
          refine lv_iinc (v := v3) (lv' := [(4, .int v3), (0, .ref (X.1 63)), (1, .long a1), (3, .int a3)]) hx hb dX11_type_49 hl (k := 3) rfl (by rw [ev3]; rfl) (by decide) rfl (fun ls hl => ?_)
          refine lv_goto (tgt := 19) hx hb dX11_type_52 (by decide) ?_
          exact Kc _ (gv_inj h) _ _ _ hP hS (lv_sub hl [1, 2, 3, 0] rfl)
        · have h := gv_pos hc h
          refine lv_iconst (v := -1) hx hb dX11_type_47 (by decide) ?_
          exact (Ke _ (gv_inj h)).2 _ rfl _ _ _ _ hP hS dX11_type_48
    · intro q hex H locs ls hP hS hl
      have h := h1q14 q hex
      obtain ⟨v4, eq_q⟩ : ∃ y, y = q := ⟨_, rfl⟩
      subst eq_q
      have h := gv_let_e (x := v4) rfl h
      have hP : gw_P X s0 H := hP
      have hl : lv_has ls 5 [(0, .ref (X.1 63)), (1, .long a1), (3, .int a3)] := hl
      refine lv_aload_n hx hb dX11_type_55 rfl (lv_at hl 0 rfl) ?_
      refine gv_get (ref := "IceByEarModel") (C := RX11) (T := TX11) (N := 28) (ci := 11) (v := .int (s0.1 63 12)) C0 (fun _ h9 => List.mem_cons_of_mem _ (List.mem_append_right _ h9)) hP 63 (gw_o11 X s0 gk_63.1) rfl 12 (by decide) (by decide +kernel) rfl rfl dX11_type_56 ?_
      refine lv_iload_n hx hb dX11_type_59 rfl (lv_at hl 2 rfl) ?_
      refine lv_iadd hx hb dX11_type_60 ?_
      refine lv_sipush (v := 140) hx hb dX11_type_61 (by decide) ?_
      refine lv_icmp_le (tgt := 70) hx hb dX11_type_64 (by decide) (fun hc => ?_) (fun hc => ?_)
      · have h := gv_pos hc h
        refine lv_iload_n hx hb dX11_type_70 rfl (lv_at hl 2 rfl) ?_
        refine lv_iconst (v := 1) hx hb dX11_type_71 (by decide) ?_
        refine lv_isub hx hb dX11_type_72 ?_
        refine lv_topi (fun v5 ev5 => ?_)
        have h := gv_let_e ev5 h
        refine lv_istore (lv' := [(4, .int v5), (0, .ref (X.1 63)), (1, .long a1), (3, .int a3)]) hx hb dX11_type_73 hl (by decide) rfl (fun ls hl => ?_)
        obtain ⟨q13, hq13, h⟩ := gv_bind_e h
        refine gv_loop_ind (Φ := fun q => ∀ (H : Heap) (locs : List Loc) (ls : Array Slot), gw_P X q.2 H → va_S (gw_A X) s.heap H locs → lv_has ls 5 [(0, .ref (X.1 63)), (1, .long a1), (4, .int q.1)] → W p l e rX11_type s m args below meth c H locs 0 0 Q (F0 m 75 ls [])) (Ψ := fun q => ∀ (H : Heap) (locs : List Loc) (ls : Array Slot), gw_P X q.2 H → va_S (gw_A X) s.heap H locs → lv_has ls 5 [(0, .ref (X.1 63))] → W p l e rX11_type s m args below meth c H locs 0 0 Q (F0 m 117 ls [])) ?_ gv_N (v5, s0) q13 hq13 ?_ H locs ls hP hS (lv_sub hl [1, 2, 0] rfl)
        · intro q x h Kc Ke H locs ls hP hS hl
          obtain ⟨v6, s7⟩ := q
          have h : pX11_type_L75 a1 v6 s7 = some x := h
          have hP : gw_P X s7 H := hP
          have hl : lv_has ls 5 [(0, .ref (X.1 63)), (1, .long a1), (4, .int v6)] := hl
          unfold pX11_type_L75 at h
          refine lv_iload hx hb dX11_type_75 (lv_at hl 2 rfl) ?_
          refine lv_if_lt (tgt := 117) hx hb dX11_type_77 (by decide) (fun hc => ?_) (fun hc => ?_)
          · have h := gv_pos hc h
            exact Ke _ (gv_inj h) _ _ _ hP hS (lv_sub hl [0] rfl)
          · have h := gv_neg hc h
            refine lv_aload_n hx hb dX11_type_80 rfl (lv_at hl 0 rfl) ?_
            refine gv_get (ref := "IceByEarModel") (C := RX11) (T := TX11) (N := 28) (ci := 11) (v := .ref (X.1 72)) C0 (fun _ h9 => List.mem_cons_of_mem _ (List.mem_append_right _ h9)) hP 63 (gw_o11 X s7 gk_63.1) rfl 11 (by decide) (by decide +kernel) rfl rfl dX11_type_81 ?_
            refine lv_aload_n hx hb dX11_type_84 rfl (lv_at hl 0 rfl) ?_
            refine gv_get (ref := "IceByEarModel") (C := RX11) (T := TX11) (N := 28) (ci := 11) (v := .int (s7.1 63 12)) C0 (fun _ h9 => List.mem_cons_of_mem _ (List.mem_append_right _ h9)) hP 63 (gw_o11 X s7 gk_63.1) rfl 12 (by decide) (by decide +kernel) rfl rfl dX11_type_85 ?_
            refine lv_lload_n hx hb dX11_type_88 rfl (lv_at hl 1 rfl) ?_
            refine lv_bipush (v := 8) hx hb dX11_type_89 (by decide) ?_
            refine lv_iload hx hb dX11_type_91 (lv_at hl 2 rfl) ?_
            refine lv_imul hx hb dX11_type_93 ?_
            refine lv_lshr hx hb dX11_type_94 rfl ?_
            refine lv_ldc2 (v := 255) hx hb hown (hts (.constantLong RX11 124 (255)) (by decide +kernel)) dX11_type_95 ?_
            refine lv_land hx hb dX11_type_98 ?_
            refine lv_l2i hx hb dX11_type_99 rfl ?_
            obtain ⟨hin8, h⟩ := gv_in_e h
            refine gv_iast C0 hP hS 72 gk_72.1 gk_72.2 hin8 dX11_type_100 (fun s9 H locs es9 hP hS => ?_)
            have h := gv_let_e es9 h
            refine lv_aload_n hx hb dX11_type_101 rfl (lv_at hl 0 rfl) ?_
            refine lv_dup hx hb dX11_type_102 rfl ?_
            refine gv_get (ref := "IceByEarModel") (C := RX11) (T := TX11) (N := 28) (ci := 11) (v := .int (s9.1 63 12)) C0 (fun _ h9 => List.mem_cons_of_mem _ (List.mem_append_right _ h9)) hP 63 (gw_o11 X s9 gk_63.1) rfl 12 (by decide) (by decide +kernel) rfl rfl dX11_type_103 ?_
            refine lv_iconst (v := 1) hx hb dX11_type_106 (by decide) ?_
            refine lv_iadd hx hb dX11_type_107 ?_
            refine gv_put (ref := "IceByEarModel") (C := RX11) (T := TX11) (N := 28) (ci := 11) (v := .int ((s9.1 63 12) + (1 : Int32))) C0 (fun _ h9 => List.mem_cons_of_mem _ (List.mem_append_right _ h9)) tyX11 tyX11_ok nmX11 hP hS 63 (gw_o11 X s9 gk_63.1) rfl 12 (by decide) (by decide +kernel) rfl rfl (tyX11_ok 12 (by decide)) rfl rfl (Nat.le_of_ble_eq_true rfl) (gw_s11_12 gk_63.1 ((s9.1 63 12) + (1 : Int32))) dX11_type_108 (fun s10 H locs es10 hP hS => ?_)
            have h := gv_let_e es10 h
            obtain ⟨v11, ev11⟩ : ∃ y : Int32, y = (v6 + (-1 : Int32)) := ⟨_, rfl⟩
            have h := gv_let_e ev11 h
            refine lv_iinc (v := v11) (lv' := [(4, .int v11), (0, .ref (X.1 63)), (1, .long a1)]) hx hb dX11_type_111 hl (k := 2) rfl (by rw [ev11]; rfl) (by decide) rfl (fun ls hl => ?_)
            refine lv_goto (tgt := 75) hx hb dX11_type_114 (by decide) ?_
            exact Kc _ (gv_inj h) _ _ _ hP hS (lv_sub hl [1, 2, 0] rfl)
        · obtain ⟨v12, s13⟩ := q13
          have h := gv_let_e (x := v12) rfl h
          have h := gv_let_e (x := s13) rfl h
          intro H locs ls hP hS hl
          have hP : gw_P X s13 H := hP
          have hl : lv_has ls 5 [(0, .ref (X.1 63))] := hl
          refine lv_aload_n hx hb dX11_type_117 rfl (lv_at hl 0 rfl) ?_
          refine gv_get (ref := "IceByEarModel") (C := RX11) (T := TX11) (N := 28) (ci := 11) (v := .int (s13.1 63 12)) C0 (fun _ h9 => List.mem_cons_of_mem _ (List.mem_append_right _ h9)) hP 63 (gw_o11 X s13 gk_63.1) rfl 12 (by decide) (by decide +kernel) rfl rfl dX11_type_118 ?_
          exact Kr _ _ _ _ _ _ (gv_inj h) hP hS dX11_type_121
      · have h := gv_neg hc h
        refine lv_bipush (v := -3) hx hb dX11_type_67 (by decide) ?_
        exact Kr _ _ _ _ _ _ (gv_inj h) hP hS dX11_type_69
    · intro r hex H locs ls pc hP hS hd
      exact Kr _ _ _ _ _ _ (h2q14 r hex).symm hP hS hd
  · have h := gv_pos hc h
    refine lv_iconst (v := -1) hx hb dX11_type_12 (by decide) ?_
    exact Kr _ _ _ _ _ _ (gv_inj h) hP hS dX11_type_13
theorem mX11_type (l : Launch) (X : gw_X) (s0 : gs_S) (a1 : Int64) (a3 : Int32) {r : Int32} {τ : gs_S} (h : pX11_type a1 a3 s0 = some (r, τ)) : Met l yX11_type wsX11_type rX11_type (gm_Pc X s0 [.ref (X.1 63), .long a1, .int a3]) (gm_Qi X τ r) 0 0 (gw_A X) :=
  gm_of RX11 (by decide) rfl rfl (Nat.le_of_ble_eq_true rfl) (fun p e s m below meth c ls C0 hP hl hS => tX11_type C0 a1 a3 s0 h (fun H locs ls pc r τ hr hP hS hd => by cases hr; exact gm_reti C0 hP hS hd) hP hS hl)
def pX11_nextByte_L0  (s1 : gs_S) : Option ((gs_S) ⊕ (gs_S)) := if (s1.1 63 12) ≤ (s1.1 63 13) then some (.inr s1) else gv_in (s1.1 63 13) 140 (if (s1.1 72 (s1.1 63 13).toNatClampNeg) = (32 : Int32) then gv_let (gs_u s1 63 13 ((s1.1 63 13) + (1 : Int32))) (fun s3 => some (.inl s3)) else some (.inr s1))
def pX11_nextByte  (s0 : gs_S) : Option (Int32 × gs_S) := gv_bind (gv_loop (fun q => pX11_nextByte_L0 q) gv_N s0) (fun q => gv_let q (fun s4 => if (s4.1 63 12) ≤ (s4.1 63 13) then some ((-1 : Int32), s4) else gv_in (s4.1 63 13) 140 (some ((s4.1 72 (s4.1 63 13).toNatClampNeg), s4))))
def rX11_nextByte : Room := { frames := 0, cells := 0, slots := 0, locals := 0 }
set_option maxHeartbeats 4000000 in
set_option maxRecDepth 100000 in
theorem tX11_nextByte {p : Program} {l : Launch} {e : Env} {s : State} {m : MethodId} {args : Array Value} {below : List Frame} {meth : Method} {c : Code} {X : gw_X} {Q : State → Prop} (C0 : gm_At p s m args meth c X cX11_nextByte 1 RX11 wsX11_nextByte (some .int))  (s0 : gs_S) {z : Int32 × gs_S} (h : pX11_nextByte s0 = some z) (Kr : ∀ (H : Heap) (locs : List Loc) (ls : Array Slot) (pc : Nat) (r : Int32) (τ : gs_S), z = (r, τ) → gw_P X τ H → va_S (gw_A X) s.heap H locs → decode cX11_nextByte pc = .ok (.ireturn, 1) → W p l e rX11_nextByte s m args below meth c H locs 0 0 Q (F0 m pc ls [.int r])) {H : Heap} {locs : List Loc} {ls : Array Slot} (hP : gw_P X s0 H) (hS : va_S (gw_A X) s.heap H locs) (hl : lv_has ls 1 [(0, .ref (X.1 63))]) : W p l e rX11_nextByte s m args below meth c H locs 0 0 Q (F0 m 0 ls []) := by
  obtain ⟨hx, hb, hml, hown, hts, hr, hlocks, hC⟩ := id C0
  unfold pX11_nextByte at h
  obtain ⟨q5, hq5, h⟩ := gv_bind_e h
  refine gv_loop_ind (Φ := fun q => ∀ (H : Heap) (locs : List Loc) (ls : Array Slot), gw_P X q H → va_S (gw_A X) s.heap H locs → lv_has ls 1 [(0, .ref (X.1 63))] → W p l e rX11_nextByte s m args below meth c H locs 0 0 Q (F0 m 0 ls [])) (Ψ := fun q => ∀ (H : Heap) (locs : List Loc) (ls : Array Slot), gw_P X q H → va_S (gw_A X) s.heap H locs → lv_has ls 1 [(0, .ref (X.1 63))] → W p l e rX11_nextByte s m args below meth c H locs 0 0 Q (F0 m 38 ls [])) ?_ gv_N s0 q5 hq5 ?_ H locs ls hP hS (lv_sub hl [0] rfl)
  · intro q x h Kc Ke H locs ls hP hS hl
    obtain ⟨s1, eq_q⟩ : ∃ y, y = q := ⟨_, rfl⟩
    subst eq_q
    have h : pX11_nextByte_L0 s1 = some x := h
    have hP : gw_P X s1 H := hP
    have hl : lv_has ls 1 [(0, .ref (X.1 63))] := hl
    unfold pX11_nextByte_L0 at h
    refine lv_aload_n hx hb dX11_nextByte_0 rfl (lv_at hl 0 rfl) ?_
    refine gv_get (ref := "IceByEarModel") (C := RX11) (T := TX11) (N := 28) (ci := 11) (v := .int (s1.1 63 13)) C0 (fun _ h9 => List.mem_cons_of_mem _ (List.mem_append_right _ h9)) hP 63 (gw_o11 X s1 gk_63.1) rfl 13 (by decide) (by decide +kernel) rfl rfl dX11_nextByte_1 ?_
    refine lv_aload_n hx hb dX11_nextByte_4 rfl (lv_at hl 0 rfl) ?_
    refine gv_get (ref := "IceByEarModel") (C := RX11) (T := TX11) (N := 28) (ci := 11) (v := .int (s1.1 63 12)) C0 (fun _ h9 => List.mem_cons_of_mem _ (List.mem_append_right _ h9)) hP 63 (gw_o11 X s1 gk_63.1) rfl 12 (by decide) (by decide +kernel) rfl rfl dX11_nextByte_5 ?_
    refine lv_icmp_ge (tgt := 38) hx hb dX11_nextByte_8 (by decide) (fun hc => ?_) (fun hc => ?_)
    · have h := gv_pos hc h
      exact Ke _ (gv_inj h) _ _ _ hP hS (lv_sub hl [0] rfl)
    · have h := gv_neg hc h
      refine lv_aload_n hx hb dX11_nextByte_11 rfl (lv_at hl 0 rfl) ?_
      refine gv_get (ref := "IceByEarModel") (C := RX11) (T := TX11) (N := 28) (ci := 11) (v := .ref (X.1 72)) C0 (fun _ h9 => List.mem_cons_of_mem _ (List.mem_append_right _ h9)) hP 63 (gw_o11 X s1 gk_63.1) rfl 11 (by decide) (by decide +kernel) rfl rfl dX11_nextByte_12 ?_
      refine lv_aload_n hx hb dX11_nextByte_15 rfl (lv_at hl 0 rfl) ?_
      refine gv_get (ref := "IceByEarModel") (C := RX11) (T := TX11) (N := 28) (ci := 11) (v := .int (s1.1 63 13)) C0 (fun _ h9 => List.mem_cons_of_mem _ (List.mem_append_right _ h9)) hP 63 (gw_o11 X s1 gk_63.1) rfl 13 (by decide) (by decide +kernel) rfl rfl dX11_nextByte_16 ?_
      obtain ⟨hin2, h⟩ := gv_in_e h
      refine gv_iald C0 hP 72 gk_72.1 gk_72.2 hin2 dX11_nextByte_19 ?_
      refine lv_bipush (v := 32) hx hb dX11_nextByte_20 (by decide) ?_
      refine lv_icmp_ne (tgt := 38) hx hb dX11_nextByte_22 (by decide) (fun hc => ?_) (fun hc => ?_)
      · have h := gv_neg hc h
        exact Ke _ (gv_inj h) _ _ _ hP hS (lv_sub hl [0] rfl)
      · have h := gv_pos hc h
        refine lv_aload_n hx hb dX11_nextByte_25 rfl (lv_at hl 0 rfl) ?_
        refine lv_dup hx hb dX11_nextByte_26 rfl ?_
        refine gv_get (ref := "IceByEarModel") (C := RX11) (T := TX11) (N := 28) (ci := 11) (v := .int (s1.1 63 13)) C0 (fun _ h9 => List.mem_cons_of_mem _ (List.mem_append_right _ h9)) hP 63 (gw_o11 X s1 gk_63.1) rfl 13 (by decide) (by decide +kernel) rfl rfl dX11_nextByte_27 ?_
        refine lv_iconst (v := 1) hx hb dX11_nextByte_30 (by decide) ?_
        refine lv_iadd hx hb dX11_nextByte_31 ?_
        refine gv_put (ref := "IceByEarModel") (C := RX11) (T := TX11) (N := 28) (ci := 11) (v := .int ((s1.1 63 13) + (1 : Int32))) C0 (fun _ h9 => List.mem_cons_of_mem _ (List.mem_append_right _ h9)) tyX11 tyX11_ok nmX11 hP hS 63 (gw_o11 X s1 gk_63.1) rfl 13 (by decide) (by decide +kernel) rfl rfl (tyX11_ok 13 (by decide)) rfl rfl (Nat.le_of_ble_eq_true rfl) (gw_s11_13 gk_63.1 ((s1.1 63 13) + (1 : Int32))) dX11_nextByte_32 (fun s3 H locs es3 hP hS => ?_)
        have h := gv_let_e es3 h
        refine lv_goto (tgt := 0) hx hb dX11_nextByte_35 (by decide) ?_
        exact Kc _ (gv_inj h) _ _ _ hP hS (lv_sub hl [0] rfl)
  · obtain ⟨s4, eq_q⟩ : ∃ y, y = q5 := ⟨_, rfl⟩
    subst eq_q
    have h := gv_let_e (x := s4) rfl h
    intro H locs ls hP hS hl
    have hP : gw_P X s4 H := hP
    have hl : lv_has ls 1 [(0, .ref (X.1 63))] := hl
    refine lv_aload_n hx hb dX11_nextByte_38 rfl (lv_at hl 0 rfl) ?_
    refine gv_get (ref := "IceByEarModel") (C := RX11) (T := TX11) (N := 28) (ci := 11) (v := .int (s4.1 63 13)) C0 (fun _ h9 => List.mem_cons_of_mem _ (List.mem_append_right _ h9)) hP 63 (gw_o11 X s4 gk_63.1) rfl 13 (by decide) (by decide +kernel) rfl rfl dX11_nextByte_39 ?_
    refine lv_aload_n hx hb dX11_nextByte_42 rfl (lv_at hl 0 rfl) ?_
    refine gv_get (ref := "IceByEarModel") (C := RX11) (T := TX11) (N := 28) (ci := 11) (v := .int (s4.1 63 12)) C0 (fun _ h9 => List.mem_cons_of_mem _ (List.mem_append_right _ h9)) hP 63 (gw_o11 X s4 gk_63.1) rfl 12 (by decide) (by decide +kernel) rfl rfl dX11_nextByte_43 ?_
    refine lv_icmp_ge (tgt := 61) hx hb dX11_nextByte_46 (by decide) (fun hc => ?_) (fun hc => ?_)
    · have h := gv_pos hc h
      refine lv_iconst (v := -1) hx hb dX11_nextByte_61 (by decide) ?_
      exact Kr _ _ _ _ _ _ (gv_inj h) hP hS dX11_nextByte_62
    · have h := gv_neg hc h
      refine lv_aload_n hx hb dX11_nextByte_49 rfl (lv_at hl 0 rfl) ?_
      refine gv_get (ref := "IceByEarModel") (C := RX11) (T := TX11) (N := 28) (ci := 11) (v := .ref (X.1 72)) C0 (fun _ h9 => List.mem_cons_of_mem _ (List.mem_append_right _ h9)) hP 63 (gw_o11 X s4 gk_63.1) rfl 11 (by decide) (by decide +kernel) rfl rfl dX11_nextByte_50 ?_
      refine lv_aload_n hx hb dX11_nextByte_53 rfl (lv_at hl 0 rfl) ?_
      refine gv_get (ref := "IceByEarModel") (C := RX11) (T := TX11) (N := 28) (ci := 11) (v := .int (s4.1 63 13)) C0 (fun _ h9 => List.mem_cons_of_mem _ (List.mem_append_right _ h9)) hP 63 (gw_o11 X s4 gk_63.1) rfl 13 (by decide) (by decide +kernel) rfl rfl dX11_nextByte_54 ?_
      obtain ⟨hin5, h⟩ := gv_in_e h
      refine gv_iald C0 hP 72 gk_72.1 gk_72.2 hin5 dX11_nextByte_57 ?_
      refine lv_goto (tgt := 62) hx hb dX11_nextByte_58 (by decide) ?_
      exact Kr _ _ _ _ _ _ (gv_inj h) hP hS dX11_nextByte_62
theorem mX11_nextByte (l : Launch) (X : gw_X) (s0 : gs_S)  {r : Int32} {τ : gs_S} (h : pX11_nextByte s0 = some (r, τ)) : Met l yX11_nextByte wsX11_nextByte rX11_nextByte (gm_Pc X s0 [.ref (X.1 63)]) (gm_Qi X τ r) 0 0 (gw_A X) :=
  gm_of RX11 (by decide) rfl rfl (Nat.le_of_ble_eq_true rfl) (fun p e s m below meth c ls C0 hP hl hS => tX11_nextByte C0  s0 h (fun H locs ls pc r τ hr hP hS hd => by cases hr; exact gm_reti C0 hP hS hd) hP hS hl)
def pX11_readNumber_J77 (s5 : gs_S) (v7 : Int32) : Option ((Int32 × gs_S) ⊕ (Int32 × gs_S)) := gv_let (gs_u s5 63 13 ((s5.1 63 13) + (1 : Int32))) (fun s8 => some (.inl (v7, s8)))
def pX11_readNumber_L13  (v4 : Int32) (s5 : gs_S) : Option ((Int32 × gs_S) ⊕ (Int32 × gs_S)) := if (s5.1 63 12) ≤ (s5.1 63 13) then some (.inr (v4, s5)) else gv_in (s5.1 63 13) 140 (if (pX11_in ((s5.1 72 (s5.1 63 13).toNatClampNeg).toInt64) (48 : Int64) (57 : Int64)) = 0 then some (.inr (v4, s5)) else if v4 ≤ (999 : Int32) then gv_in (s5.1 63 13) 140 (pX11_readNumber_J77 s5 ((((10 : Int32) * v4) + (s5.1 72 (s5.1 63 13).toNatClampNeg)) - (48 : Int32))) else pX11_readNumber_J77 s5 v4)
def pX11_readNumber (a1 : Int32) (a2 : Int32) (s0 : gs_S) : Option (Int32 × gs_S) := gv_bind2 (pX11_nextByte s0) (fun v1 s2 => gv_let (s2.1 63 13) (fun v3 => gv_bind (gv_loop (fun q => pX11_readNumber_L13 q.1 q.2) gv_N ((0 : Int32), s2)) (fun q => gv_let q.1 (fun v10 => gv_let q.2 (fun s11 => if (s11.1 63 13) = v3 then some ((-1 : Int32), s11) else if (pX11_in (v10.toInt64) (a1.toInt64) (a2.toInt64)) = 0 then gv_let (gs_u s11 63 13 v3) (fun s12 => some ((-1 : Int32), s12)) else some (v10, s11))))))
def rX11_readNumber : Room := { frames := 1, cells := 0, slots := 0, locals := 25 }
set_option maxHeartbeats 4000000 in
set_option maxRecDepth 100000 in
theorem tX11_readNumber {p : Program} {l : Launch} {e : Env} {s : State} {m : MethodId} {args : Array Value} {below : List Frame} {meth : Method} {c : Code} {X : gw_X} {Q : State → Prop} (C0 : gm_At p s m args meth c X cX11_readNumber 5 RX11 wsX11_readNumber (some .int)) (a1 : Int32) (a2 : Int32) (s0 : gs_S) {z : Int32 × gs_S} (h : pX11_readNumber a1 a2 s0 = some z) (Kr : ∀ (H : Heap) (locs : List Loc) (ls : Array Slot) (pc : Nat) (r : Int32) (τ : gs_S), z = (r, τ) → gw_P X τ H → va_S (gw_A X) s.heap H locs → decode cX11_readNumber pc = .ok (.ireturn, 1) → W p l e rX11_readNumber s m args below meth c H locs 0 0 Q (F0 m pc ls [.int r])) {H : Heap} {locs : List Loc} {ls : Array Slot} (hP : gw_P X s0 H) (hS : va_S (gw_A X) s.heap H locs) (hl : lv_has ls 5 [(0, .ref (X.1 63)), (1, .int a1), (2, .int a2)]) : W p l e rX11_readNumber s m args below meth c H locs 0 0 Q (F0 m 0 ls []) := by
  obtain ⟨hx, hb, hml, hown, hts, hr, hlocks, hC⟩ := id C0
  unfold pX11_readNumber at h
  refine lv_aload_n hx hb dX11_readNumber_0 rfl (lv_at hl 0 rfl) ?_
  obtain ⟨v1, s2, hv1, h⟩ := gv_bind2_e h
  refine gv_ri (gv_runV (n := 0) (rest := []) C0 (mX11_nextByte l X s0  hv1) gX11_readNumber_X11_nextByte rfl ⟨rfl, rfl⟩ (by decide +kernel) ⟨by decide, by decide⟩ gk_63.1 (by decide) rfl hP hS rfl hl.1 rfl (Nat.le_of_ble_eq_true rfl) dX11_readNumber_1 ⟨Nat.zero_le _, Nat.zero_le _⟩) hS (fun H locs hP hS => ?_)
  refine lv_pop hx hb dX11_readNumber_4 rfl ?_
  refine lv_aload_n hx hb dX11_readNumber_5 rfl (lv_at hl 0 rfl) ?_
  refine gv_get (ref := "IceByEarModel") (C := RX11) (T := TX11) (N := 28) (ci := 11) (v := .int (s2.1 63 13)) C0 (fun _ h9 => List.mem_cons_of_mem _ (List.mem_append_right _ h9)) hP 63 (gw_o11 X s2 gk_63.1) rfl 13 (by decide) (by decide +kernel) rfl rfl dX11_readNumber_6 ?_
  refine lv_topi (fun v3 ev3 => ?_)
  have h := gv_let_e ev3 h
  refine lv_istore_n (lv' := [(3, .int v3), (0, .ref (X.1 63)), (1, .int a1), (2, .int a2)]) hx hb dX11_readNumber_9 rfl hl (by decide) rfl (fun ls hl => ?_)
  refine lv_iconst (v := 0) hx hb dX11_readNumber_10 (by decide) ?_
  refine lv_istore (lv' := [(4, .int (0 : Int32)), (3, .int v3), (0, .ref (X.1 63)), (1, .int a1), (2, .int a2)]) hx hb dX11_readNumber_11 hl (by decide) rfl (fun ls hl => ?_)
  obtain ⟨q12, hq12, h⟩ := gv_bind_e h
  refine gv_loop_ind (Φ := fun q => ∀ (H : Heap) (locs : List Loc) (ls : Array Slot), gw_P X q.2 H → va_S (gw_A X) s.heap H locs → lv_has ls 5 [(3, .int v3), (0, .ref (X.1 63)), (1, .int a1), (2, .int a2), (4, .int q.1)] → W p l e rX11_readNumber s m args below meth c H locs 0 0 Q (F0 m 13 ls [])) (Ψ := fun q => ∀ (H : Heap) (locs : List Loc) (ls : Array Slot), gw_P X q.2 H → va_S (gw_A X) s.heap H locs → lv_has ls 5 [(3, .int v3), (0, .ref (X.1 63)), (1, .int a1), (2, .int a2), (4, .int q.1)] → W p l e rX11_readNumber s m args below meth c H locs 0 0 Q (F0 m 92 ls [])) ?_ gv_N ((0 : Int32), s2) q12 hq12 ?_ H locs ls hP hS (lv_sub hl [1, 2, 3, 4, 0] rfl)
  · intro q x h Kc Ke H locs ls hP hS hl
    obtain ⟨v4, s5⟩ := q
    have h : pX11_readNumber_L13 v4 s5 = some x := h
    have hP : gw_P X s5 H := hP
    have hl : lv_has ls 5 [(3, .int v3), (0, .ref (X.1 63)), (1, .int a1), (2, .int a2), (4, .int v4)] := hl
    unfold pX11_readNumber_L13 at h
    refine lv_aload_n hx hb dX11_readNumber_13 rfl (lv_at hl 1 rfl) ?_
    refine gv_get (ref := "IceByEarModel") (C := RX11) (T := TX11) (N := 28) (ci := 11) (v := .int (s5.1 63 13)) C0 (fun _ h9 => List.mem_cons_of_mem _ (List.mem_append_right _ h9)) hP 63 (gw_o11 X s5 gk_63.1) rfl 13 (by decide) (by decide +kernel) rfl rfl dX11_readNumber_14 ?_
    refine lv_aload_n hx hb dX11_readNumber_17 rfl (lv_at hl 1 rfl) ?_
    refine gv_get (ref := "IceByEarModel") (C := RX11) (T := TX11) (N := 28) (ci := 11) (v := .int (s5.1 63 12)) C0 (fun _ h9 => List.mem_cons_of_mem _ (List.mem_append_right _ h9)) hP 63 (gw_o11 X s5 gk_63.1) rfl 12 (by decide) (by decide +kernel) rfl rfl dX11_readNumber_18 ?_
    refine lv_icmp_ge (tgt := 92) hx hb dX11_readNumber_21 (by decide) (fun hc => ?_) (fun hc => ?_)
    · have h := gv_pos hc h
      exact Ke _ (gv_inj h) _ _ _ hP hS (lv_sub hl [0, 1, 2, 3, 4] rfl)
    · have h := gv_neg hc h
      refine lv_aload_n hx hb dX11_readNumber_24 rfl (lv_at hl 1 rfl) ?_
      refine gv_get (ref := "IceByEarModel") (C := RX11) (T := TX11) (N := 28) (ci := 11) (v := .ref (X.1 72)) C0 (fun _ h9 => List.mem_cons_of_mem _ (List.mem_append_right _ h9)) hP 63 (gw_o11 X s5 gk_63.1) rfl 11 (by decide) (by decide +kernel) rfl rfl dX11_readNumber_25 ?_
      refine lv_aload_n hx hb dX11_readNumber_28 rfl (lv_at hl 1 rfl) ?_
      refine gv_get (ref := "IceByEarModel") (C := RX11) (T := TX11) (N := 28) (ci := 11) (v := .int (s5.1 63 13)) C0 (fun _ h9 => List.mem_cons_of_mem _ (List.mem_append_right _ h9)) hP 63 (gw_o11 X s5 gk_63.1) rfl 13 (by decide) (by decide +kernel) rfl rfl dX11_readNumber_29 ?_
      obtain ⟨hin6, h⟩ := gv_in_e h
      refine gv_iald C0 hP 72 gk_72.1 gk_72.2 hin6 dX11_readNumber_32 ?_
      refine lv_i2l hx hb dX11_readNumber_33 rfl ?_
      refine lv_ldc2 (v := 48) hx hb hown (hts (.constantLong RX11 140 (48)) (by decide +kernel)) dX11_readNumber_34 ?_
      refine lv_ldc2 (v := 57) hx hb hown (hts (.constantLong RX11 142 (57)) (by decide +kernel)) dX11_readNumber_37 ?_
      refine gv_ri (gv_runS (n := 3) (rest := []) C0 (mX11_in l X s5 ((s5.1 72 (s5.1 63 13).toNatClampNeg).toInt64) (48 : Int64) (57 : Int64)) gX11_readNumber_X11_in rfl ⟨rfl, rfl⟩ (by decide +kernel) ⟨by decide, by decide⟩ hP hS rfl hl.1 rfl (Nat.le_of_ble_eq_true rfl) dX11_readNumber_40 ⟨Nat.zero_le _, Nat.zero_le _⟩) hS (fun H locs hP hS => ?_)
      refine lv_if_eq (tgt := 92) hx hb dX11_readNumber_43 (by decide) (fun hc => ?_) (fun hc => ?_)
      · have h := gv_pos hc h
        exact Ke _ (gv_inj h) _ _ _ hP hS (lv_sub hl [0, 1, 2, 3, 4] rfl)
      · have h := gv_neg hc h
        refine lv_iload hx hb dX11_readNumber_46 (lv_at hl 4 rfl) ?_
        refine lv_sipush (v := 999) hx hb dX11_readNumber_48 (by decide) ?_
        have J77 : ∀ (v7 : Int32) (H : Heap) (locs : List Loc) (ls : Array Slot), pX11_readNumber_J77 s5 v7 = some x → gw_P X s5 H → va_S (gw_A X) s.heap H locs → lv_has ls 5 [(3, .int v3), (0, .ref (X.1 63)), (1, .int a1), (2, .int a2)] → W p l e rX11_readNumber s m args below meth c H locs 0 0 Q (F0 m 77 ls [.int v7]) := by
          intro v7 H locs ls h hP hS hl
          unfold pX11_readNumber_J77 at h
          refine lv_istore (lv' := [(4, .int v7), (3, .int v3), (0, .ref (X.1 63)), (1, .int a1), (2, .int a2)]) hx hb dX11_readNumber_77 hl (by decide) rfl (fun ls hl => ?_)
          refine lv_aload_n hx hb dX11_readNumber_79 rfl (lv_at hl 2 rfl) ?_
          refine lv_dup hx hb dX11_readNumber_80 rfl ?_
          refine gv_get (ref := "IceByEarModel") (C := RX11) (T := TX11) (N := 28) (ci := 11) (v := .int (s5.1 63 13)) C0 (fun _ h9 => List.mem_cons_of_mem _ (List.mem_append_right _ h9)) hP 63 (gw_o11 X s5 gk_63.1) rfl 13 (by decide) (by decide +kernel) rfl rfl dX11_readNumber_81 ?_
          refine lv_iconst (v := 1) hx hb dX11_readNumber_84 (by decide) ?_
          refine lv_iadd hx hb dX11_readNumber_85 ?_
          refine gv_put (ref := "IceByEarModel") (C := RX11) (T := TX11) (N := 28) (ci := 11) (v := .int ((s5.1 63 13) + (1 : Int32))) C0 (fun _ h9 => List.mem_cons_of_mem _ (List.mem_append_right _ h9)) tyX11 tyX11_ok nmX11 hP hS 63 (gw_o11 X s5 gk_63.1) rfl 13 (by decide) (by decide +kernel) rfl rfl (tyX11_ok 13 (by decide)) rfl rfl (Nat.le_of_ble_eq_true rfl) (gw_s11_13 gk_63.1 ((s5.1 63 13) + (1 : Int32))) dX11_readNumber_86 (fun s8 H locs es8 hP hS => ?_)
          have h := gv_let_e es8 h
          refine lv_goto (tgt := 13) hx hb dX11_readNumber_89 (by decide) ?_
          exact Kc _ (gv_inj h) _ _ _ hP hS (lv_sub hl [1, 2, 3, 4, 0] rfl)
        refine lv_icmp_le (tgt := 59) hx hb dX11_readNumber_51 (by decide) (fun hc => ?_) (fun hc => ?_)
        · have h := gv_pos hc h
          refine lv_bipush (v := 10) hx hb dX11_readNumber_59 (by decide) ?_
          refine lv_iload hx hb dX11_readNumber_61 (lv_at hl 4 rfl) ?_
          refine lv_imul hx hb dX11_readNumber_63 ?_
          refine lv_aload_n hx hb dX11_readNumber_64 rfl (lv_at hl 1 rfl) ?_
          refine gv_get (ref := "IceByEarModel") (C := RX11) (T := TX11) (N := 28) (ci := 11) (v := .ref (X.1 72)) C0 (fun _ h9 => List.mem_cons_of_mem _ (List.mem_append_right _ h9)) hP 63 (gw_o11 X s5 gk_63.1) rfl 11 (by decide) (by decide +kernel) rfl rfl dX11_readNumber_65 ?_
          refine lv_aload_n hx hb dX11_readNumber_68 rfl (lv_at hl 1 rfl) ?_
          refine gv_get (ref := "IceByEarModel") (C := RX11) (T := TX11) (N := 28) (ci := 11) (v := .int (s5.1 63 13)) C0 (fun _ h9 => List.mem_cons_of_mem _ (List.mem_append_right _ h9)) hP 63 (gw_o11 X s5 gk_63.1) rfl 13 (by decide) (by decide +kernel) rfl rfl dX11_readNumber_69 ?_
          obtain ⟨hin9, h⟩ := gv_in_e h
          refine gv_iald C0 hP 72 gk_72.1 gk_72.2 hin9 dX11_readNumber_72 ?_
          refine lv_iadd hx hb dX11_readNumber_73 ?_
          refine lv_bipush (v := 48) hx hb dX11_readNumber_74 (by decide) ?_
          refine lv_isub hx hb dX11_readNumber_76 ?_
          exact J77 ((((10 : Int32) * v4) + (s5.1 72 (s5.1 63 13).toNatClampNeg)) - (48 : Int32)) _ _ _ h hP hS (lv_sub hl [0, 1, 2, 3] rfl)
        · have h := gv_neg hc h
          refine lv_iload hx hb dX11_readNumber_54 (lv_at hl 4 rfl) ?_
          refine lv_goto (tgt := 77) hx hb dX11_readNumber_56 (by decide) ?_
          exact J77 v4 _ _ _ h hP hS (lv_sub hl [0, 1, 2, 3] rfl)
  · obtain ⟨v10, s11⟩ := q12
    have h := gv_let_e (x := v10) rfl h
    have h := gv_let_e (x := s11) rfl h
    intro H locs ls hP hS hl
    have hP : gw_P X s11 H := hP
    have hl : lv_has ls 5 [(3, .int v3), (0, .ref (X.1 63)), (1, .int a1), (2, .int a2), (4, .int v10)] := hl
    refine lv_aload_n hx hb dX11_readNumber_92 rfl (lv_at hl 1 rfl) ?_
    refine gv_get (ref := "IceByEarModel") (C := RX11) (T := TX11) (N := 28) (ci := 11) (v := .int (s11.1 63 13)) C0 (fun _ h9 => List.mem_cons_of_mem _ (List.mem_append_right _ h9)) hP 63 (gw_o11 X s11 gk_63.1) rfl 13 (by decide) (by decide +kernel) rfl rfl dX11_readNumber_93 ?_
    refine lv_iload_n hx hb dX11_readNumber_96 rfl (lv_at hl 0 rfl) ?_
    refine lv_icmp_ne (tgt := 102) hx hb dX11_readNumber_97 (by decide) (fun hc => ?_) (fun hc => ?_)
    · have h := gv_neg hc h
      refine lv_iload hx hb dX11_readNumber_102 (lv_at hl 4 rfl) ?_
      refine lv_i2l hx hb dX11_readNumber_104 rfl ?_
      refine lv_iload_n hx hb dX11_readNumber_105 rfl (lv_at hl 2 rfl) ?_
      refine lv_i2l hx hb dX11_readNumber_106 rfl ?_
      refine lv_iload_n hx hb dX11_readNumber_107 rfl (lv_at hl 3 rfl) ?_
      refine lv_i2l hx hb dX11_readNumber_108 rfl ?_
      refine gv_ri (gv_runS (n := 3) (rest := []) C0 (mX11_in l X s11 (v10.toInt64) (a1.toInt64) (a2.toInt64)) gX11_readNumber_X11_in rfl ⟨rfl, rfl⟩ (by decide +kernel) ⟨by decide, by decide⟩ hP hS rfl hl.1 rfl (Nat.le_of_ble_eq_true rfl) dX11_readNumber_109 ⟨Nat.zero_le _, Nat.zero_le _⟩) hS (fun H locs hP hS => ?_)
      refine lv_if_ne (tgt := 122) hx hb dX11_readNumber_112 (by decide) (fun hc => ?_) (fun hc => ?_)
      · have h := gv_neg hc h
        refine lv_iload hx hb dX11_readNumber_122 (lv_at hl 4 rfl) ?_
        exact Kr _ _ _ _ _ _ (gv_inj h) hP hS dX11_readNumber_124
      · have h := gv_pos hc h
        refine lv_aload_n hx hb dX11_readNumber_115 rfl (lv_at hl 1 rfl) ?_
        refine lv_iload_n hx hb dX11_readNumber_116 rfl (lv_at hl 0 rfl) ?_
        refine gv_put (ref := "IceByEarModel") (C := RX11) (T := TX11) (N := 28) (ci := 11) (v := .int v3) C0 (fun _ h9 => List.mem_cons_of_mem _ (List.mem_append_right _ h9)) tyX11 tyX11_ok nmX11 hP hS 63 (gw_o11 X s11 gk_63.1) rfl 13 (by decide) (by decide +kernel) rfl rfl (tyX11_ok 13 (by decide)) rfl rfl (Nat.le_of_ble_eq_true rfl) (gw_s11_13 gk_63.1 v3) dX11_readNumber_117 (fun s12 H locs es12 hP hS => ?_)
        have h := gv_let_e es12 h
        refine lv_iconst (v := -1) hx hb dX11_readNumber_120 (by decide) ?_
        exact Kr _ _ _ _ _ _ (gv_inj h) hP hS dX11_readNumber_121
    · have h := gv_pos hc h
      refine lv_iconst (v := -1) hx hb dX11_readNumber_100 (by decide) ?_
      exact Kr _ _ _ _ _ _ (gv_inj h) hP hS dX11_readNumber_101
theorem mX11_readNumber (l : Launch) (X : gw_X) (s0 : gs_S) (a1 : Int32) (a2 : Int32) {r : Int32} {τ : gs_S} (h : pX11_readNumber a1 a2 s0 = some (r, τ)) : Met l yX11_readNumber wsX11_readNumber rX11_readNumber (gm_Pc X s0 [.ref (X.1 63), .int a1, .int a2]) (gm_Qi X τ r) 0 0 (gw_A X) :=
  gm_of RX11 (by decide) rfl rfl (Nat.le_of_ble_eq_true rfl) (fun p e s m below meth c ls C0 hP hl hS => tX11_readNumber C0 a1 a2 s0 h (fun H locs ls pc r τ hr hP hS hd => by cases hr; exact gm_reti C0 hP hS hd) hP hS hl)
def pX11_kindBy (a0 : Int32) : Int32 := if a0 = (108 : Int32) then (1 : Int32) else if a0 = (99 : Int32) then (2 : Int32) else if a0 = (111 : Int32) then (3 : Int32) else if a0 = (101 : Int32) then (4 : Int32) else (0 : Int32)
def rX11_kindBy : Room := { frames := 0, cells := 0, slots := 0, locals := 0 }
set_option maxHeartbeats 4000000 in
set_option maxRecDepth 100000 in
theorem tX11_kindBy {p : Program} {l : Launch} {e : Env} {s : State} {m : MethodId} {args : Array Value} {below : List Frame} {meth : Method} {c : Code} {X : gw_X} {Q : State → Prop} (C0 : gm_At p s m args meth c X cX11_kindBy 1 RX11 wsX11_kindBy (some .int)) (a0 : Int32) (s0 : gs_S) {z : Int32} (h : pX11_kindBy a0 = z) (Kr : ∀ (H : Heap) (locs : List Loc) (ls : Array Slot) (pc : Nat) (r : Int32), z = r → gw_P X s0 H → va_S (gw_A X) s.heap H locs → decode cX11_kindBy pc = .ok (.ireturn, 1) → W p l e rX11_kindBy s m args below meth c H locs 0 0 Q (F0 m pc ls [.int r])) {H : Heap} {locs : List Loc} {ls : Array Slot} (hP : gw_P X s0 H) (hS : va_S (gw_A X) s.heap H locs) (hl : lv_has ls 1 [(0, .int a0)]) : W p l e rX11_kindBy s m args below meth c H locs 0 0 Q (F0 m 0 ls []) := by
  obtain ⟨hx, hb, hml, hown, hts, hr, hlocks, hC⟩ := id C0
  unfold pX11_kindBy at h
  refine lv_iload_n hx hb dX11_kindBy_0 rfl (lv_at hl 0 rfl) ?_
  refine lv_bipush (v := 108) hx hb dX11_kindBy_1 (by decide) ?_
  refine lv_icmp_ne (tgt := 10) hx hb dX11_kindBy_3 (by decide) (fun hc => ?_) (fun hc => ?_)
  · have h := gv_neg hc h
    refine lv_iload_n hx hb dX11_kindBy_10 rfl (lv_at hl 0 rfl) ?_
    refine lv_bipush (v := 99) hx hb dX11_kindBy_11 (by decide) ?_
    refine lv_icmp_ne (tgt := 20) hx hb dX11_kindBy_13 (by decide) (fun hc => ?_) (fun hc => ?_)
    · have h := gv_neg hc h
      refine lv_iload_n hx hb dX11_kindBy_20 rfl (lv_at hl 0 rfl) ?_
      refine lv_bipush (v := 111) hx hb dX11_kindBy_21 (by decide) ?_
      refine lv_icmp_ne (tgt := 30) hx hb dX11_kindBy_23 (by decide) (fun hc => ?_) (fun hc => ?_)
      · have h := gv_neg hc h
        refine lv_iload_n hx hb dX11_kindBy_30 rfl (lv_at hl 0 rfl) ?_
        refine lv_bipush (v := 101) hx hb dX11_kindBy_31 (by decide) ?_
        refine lv_icmp_ne (tgt := 40) hx hb dX11_kindBy_33 (by decide) (fun hc => ?_) (fun hc => ?_)
        · have h := gv_neg hc h
          refine lv_iconst (v := 0) hx hb dX11_kindBy_40 (by decide) ?_
          exact Kr _ _ _ _ _ h.symm hP hS dX11_kindBy_41
        · have h := gv_pos hc h
          refine lv_iconst (v := 4) hx hb dX11_kindBy_36 (by decide) ?_
          refine lv_goto (tgt := 41) hx hb dX11_kindBy_37 (by decide) ?_
          exact Kr _ _ _ _ _ h.symm hP hS dX11_kindBy_41
      · have h := gv_pos hc h
        refine lv_iconst (v := 3) hx hb dX11_kindBy_26 (by decide) ?_
        refine lv_goto (tgt := 41) hx hb dX11_kindBy_27 (by decide) ?_
        exact Kr _ _ _ _ _ h.symm hP hS dX11_kindBy_41
    · have h := gv_pos hc h
      refine lv_iconst (v := 2) hx hb dX11_kindBy_16 (by decide) ?_
      refine lv_goto (tgt := 41) hx hb dX11_kindBy_17 (by decide) ?_
      exact Kr _ _ _ _ _ h.symm hP hS dX11_kindBy_41
  · have h := gv_pos hc h
    refine lv_iconst (v := 1) hx hb dX11_kindBy_6 (by decide) ?_
    refine lv_goto (tgt := 41) hx hb dX11_kindBy_7 (by decide) ?_
    exact Kr _ _ _ _ _ h.symm hP hS dX11_kindBy_41
theorem mX11_kindBy (l : Launch) (X : gw_X) (s0 : gs_S) (a0 : Int32) : Met l yX11_kindBy wsX11_kindBy rX11_kindBy (gm_Pc X s0 [.int a0]) (gm_Qi X s0 (pX11_kindBy a0)) 0 0 (gw_A X) :=
  gm_of RX11 (by decide) rfl rfl (Nat.le_of_ble_eq_true rfl) (fun p e s m below meth c ls C0 hP hl hS => tX11_kindBy C0 a0 s0 rfl (fun H locs ls pc r hr hP hS hd => by subst hr; exact gm_reti C0 hP hS hd) hP hS hl)
def pX11_readRow_J70 (s10 : gs_S) (a1 : Int32) (v1 : Int32) (v7 : Int32) (v11 : Int32) (v12 : Int32) : Option ((Int32 × gs_S) ⊕ (Int32 × gs_S)) := gv_let (gs_u s10 63 13 ((s10.1 63 13) + v12)) (fun s13 => gv_in (((8 : Int32) * a1) + v1) 64 (gv_let (gs_u s13 73 (((8 : Int32) * a1) + v1).toNatClampNeg (((5 : Int32) * v7) + v11)) (fun s15 => gv_let (v1 + (1 : Int32)) (fun v16 => some (.inl (v16, s15))))))
def pX11_readRow_L2 (a1 : Int32) (v1 : Int32) (s2 : gs_S) : Option ((Int32 × gs_S) ⊕ (Int32 × gs_S)) := if (8 : Int32) ≤ v1 then some (.inr (v1, s2)) else gv_bind2 (pX11_nextByte s2) (fun v3 s4 => if (pX11_in (v3.toInt64) (48 : Int64) (57 : Int64)) = 0 then some (.inr (v1, s4)) else gv_bind2 (pX11_nextByte s4) (fun v5 s6 => gv_let ((10 : Int32) * (v5 - (48 : Int32))) (fun v7 => gv_let (gs_u s6 63 13 ((s6.1 63 13) + (1 : Int32))) (fun s8 => gv_bind2 (pX11_nextByte s8) (fun v9 s10 => gv_let (pX11_kindBy v9) (fun v11 => if v11 ≤ 0 then pX11_readRow_J70 s10 a1 v1 v7 v11 (0 : Int32) else pX11_readRow_J70 s10 a1 v1 v7 v11 (1 : Int32)))))))
def pX11_readRow (a1 : Int32) (s0 : gs_S) : Option (Int32 × gs_S) := gv_bind (gv_loop (fun q => pX11_readRow_L2 a1 q.1 q.2) gv_N ((0 : Int32), s0)) (fun q => gv_let q.1 (fun v17 => gv_let q.2 (fun s18 => gv_let (gs_u s18 63 14 ((s18.1 63 14) + v17)) (fun s19 => if v17 ≤ 0 then some ((0 : Int32), s19) else some ((1 : Int32), s19)))))
def rX11_readRow : Room := { frames := 1, cells := 0, slots := 0, locals := 25 }
set_option maxHeartbeats 4000000 in
set_option maxRecDepth 100000 in
theorem tX11_readRow {p : Program} {l : Launch} {e : Env} {s : State} {m : MethodId} {args : Array Value} {below : List Frame} {meth : Method} {c : Code} {X : gw_X} {Q : State → Prop} (C0 : gm_At p s m args meth c X cX11_readRow 5 RX11 wsX11_readRow (some .boolean)) (a1 : Int32) (s0 : gs_S) {z : Int32 × gs_S} (h : pX11_readRow a1 s0 = some z) (Kr : ∀ (H : Heap) (locs : List Loc) (ls : Array Slot) (pc : Nat) (r : Int32) (τ : gs_S), z = (r, τ) → narrow .boolean (.int r) = .int r → gw_P X τ H → va_S (gw_A X) s.heap H locs → decode cX11_readRow pc = .ok (.ireturn, 1) → W p l e rX11_readRow s m args below meth c H locs 0 0 Q (F0 m pc ls [.int r])) {H : Heap} {locs : List Loc} {ls : Array Slot} (hP : gw_P X s0 H) (hS : va_S (gw_A X) s.heap H locs) (hl : lv_has ls 5 [(0, .ref (X.1 63)), (1, .int a1)]) : W p l e rX11_readRow s m args below meth c H locs 0 0 Q (F0 m 0 ls []) := by
  obtain ⟨hx, hb, hml, hown, hts, hr, hlocks, hC⟩ := id C0
  unfold pX11_readRow at h
  refine lv_iconst (v := 0) hx hb dX11_readRow_0 (by decide) ?_
  refine lv_istore_n (lv' := [(2, .int (0 : Int32)), (0, .ref (X.1 63)), (1, .int a1)]) hx hb dX11_readRow_1 rfl hl (by decide) rfl (fun ls hl => ?_)
  obtain ⟨q19, hq19, h⟩ := gv_bind_e h
  refine gv_loop_ind (Φ := fun q => ∀ (H : Heap) (locs : List Loc) (ls : Array Slot), gw_P X q.2 H → va_S (gw_A X) s.heap H locs → lv_has ls 5 [(0, .ref (X.1 63)), (1, .int a1), (2, .int q.1)] → W p l e rX11_readRow s m args below meth c H locs 0 0 Q (F0 m 2 ls [])) (Ψ := fun q => ∀ (H : Heap) (locs : List Loc) (ls : Array Slot), gw_P X q.2 H → va_S (gw_A X) s.heap H locs → lv_has ls 5 [(0, .ref (X.1 63)), (2, .int q.1)] → W p l e rX11_readRow s m args below meth c H locs 0 0 Q (F0 m 97 ls [])) ?_ gv_N ((0 : Int32), s0) q19 hq19 ?_ H locs ls hP hS (lv_sub hl [1, 2, 0] rfl)
  · intro q x h Kc Ke H locs ls hP hS hl
    obtain ⟨v1, s2⟩ := q
    have h : pX11_readRow_L2 a1 v1 s2 = some x := h
    have hP : gw_P X s2 H := hP
    have hl : lv_has ls 5 [(0, .ref (X.1 63)), (1, .int a1), (2, .int v1)] := hl
    unfold pX11_readRow_L2 at h
    refine lv_iload_n hx hb dX11_readRow_2 rfl (lv_at hl 2 rfl) ?_
    refine lv_bipush (v := 8) hx hb dX11_readRow_3 (by decide) ?_
    refine lv_icmp_ge (tgt := 97) hx hb dX11_readRow_5 (by decide) (fun hc => ?_) (fun hc => ?_)
    · have h := gv_pos hc h
      exact Ke _ (gv_inj h) _ _ _ hP hS (lv_sub hl [0, 2] rfl)
    · have h := gv_neg hc h
      refine lv_aload_n hx hb dX11_readRow_8 rfl (lv_at hl 0 rfl) ?_
      obtain ⟨v3, s4, hv3, h⟩ := gv_bind2_e h
      refine gv_ri (gv_runV (n := 0) (rest := []) C0 (mX11_nextByte l X s2  hv3) gX11_readRow_X11_nextByte rfl ⟨rfl, rfl⟩ (by decide +kernel) ⟨by decide, by decide⟩ gk_63.1 (by decide) rfl hP hS rfl hl.1 rfl (Nat.le_of_ble_eq_true rfl) dX11_readRow_9 ⟨Nat.zero_le _, Nat.zero_le _⟩) hS (fun H locs hP hS => ?_)
      refine lv_i2l hx hb dX11_readRow_12 rfl ?_
      refine lv_ldc2 (v := 48) hx hb hown (hts (.constantLong RX11 140 (48)) (by decide +kernel)) dX11_readRow_13 ?_
      refine lv_ldc2 (v := 57) hx hb hown (hts (.constantLong RX11 142 (57)) (by decide +kernel)) dX11_readRow_16 ?_
      refine gv_ri (gv_runS (n := 3) (rest := []) C0 (mX11_in l X s4 (v3.toInt64) (48 : Int64) (57 : Int64)) gX11_readRow_X11_in rfl ⟨rfl, rfl⟩ (by decide +kernel) ⟨by decide, by decide⟩ hP hS rfl hl.1 rfl (Nat.le_of_ble_eq_true rfl) dX11_readRow_19 ⟨Nat.zero_le _, Nat.zero_le _⟩) hS (fun H locs hP hS => ?_)
      refine lv_if_eq (tgt := 97) hx hb dX11_readRow_22 (by decide) (fun hc => ?_) (fun hc => ?_)
      · have h := gv_pos hc h
        exact Ke _ (gv_inj h) _ _ _ hP hS (lv_sub hl [0, 2] rfl)
      · have h := gv_neg hc h
        refine lv_bipush (v := 10) hx hb dX11_readRow_25 (by decide) ?_
        refine lv_aload_n hx hb dX11_readRow_27 rfl (lv_at hl 0 rfl) ?_
        obtain ⟨v5, s6, hv5, h⟩ := gv_bind2_e h
        refine gv_ri (gv_runV (n := 0) (rest := [.int (10 : Int32)]) C0 (mX11_nextByte l X s4  hv5) gX11_readRow_X11_nextByte rfl ⟨rfl, rfl⟩ (by decide +kernel) ⟨by decide, by decide⟩ gk_63.1 (by decide) rfl hP hS rfl hl.1 rfl (Nat.le_of_ble_eq_true rfl) dX11_readRow_28 ⟨Nat.zero_le _, Nat.zero_le _⟩) hS (fun H locs hP hS => ?_)
        refine lv_bipush (v := 48) hx hb dX11_readRow_31 (by decide) ?_
        refine lv_isub hx hb dX11_readRow_33 ?_
        refine lv_imul hx hb dX11_readRow_34 ?_
        refine lv_topi (fun v7 ev7 => ?_)
        have h := gv_let_e ev7 h
        refine lv_istore_n (lv' := [(3, .int v7), (0, .ref (X.1 63)), (1, .int a1), (2, .int v1)]) hx hb dX11_readRow_35 rfl hl (by decide) rfl (fun ls hl => ?_)
        refine lv_aload_n hx hb dX11_readRow_36 rfl (lv_at hl 1 rfl) ?_
        refine lv_dup hx hb dX11_readRow_37 rfl ?_
        refine gv_get (ref := "IceByEarModel") (C := RX11) (T := TX11) (N := 28) (ci := 11) (v := .int (s6.1 63 13)) C0 (fun _ h9 => List.mem_cons_of_mem _ (List.mem_append_right _ h9)) hP 63 (gw_o11 X s6 gk_63.1) rfl 13 (by decide) (by decide +kernel) rfl rfl dX11_readRow_38 ?_
        refine lv_iconst (v := 1) hx hb dX11_readRow_41 (by decide) ?_
        refine lv_iadd hx hb dX11_readRow_42 ?_
        refine gv_put (ref := "IceByEarModel") (C := RX11) (T := TX11) (N := 28) (ci := 11) (v := .int ((s6.1 63 13) + (1 : Int32))) C0 (fun _ h9 => List.mem_cons_of_mem _ (List.mem_append_right _ h9)) tyX11 tyX11_ok nmX11 hP hS 63 (gw_o11 X s6 gk_63.1) rfl 13 (by decide) (by decide +kernel) rfl rfl (tyX11_ok 13 (by decide)) rfl rfl (Nat.le_of_ble_eq_true rfl) (gw_s11_13 gk_63.1 ((s6.1 63 13) + (1 : Int32))) dX11_readRow_43 (fun s8 H locs es8 hP hS => ?_)
        have h := gv_let_e es8 h
        refine lv_aload_n hx hb dX11_readRow_46 rfl (lv_at hl 1 rfl) ?_
        obtain ⟨v9, s10, hv9, h⟩ := gv_bind2_e h
        refine gv_ri (gv_runV (n := 0) (rest := []) C0 (mX11_nextByte l X s8  hv9) gX11_readRow_X11_nextByte rfl ⟨rfl, rfl⟩ (by decide +kernel) ⟨by decide, by decide⟩ gk_63.1 (by decide) rfl hP hS rfl hl.1 rfl (Nat.le_of_ble_eq_true rfl) dX11_readRow_47 ⟨Nat.zero_le _, Nat.zero_le _⟩) hS (fun H locs hP hS => ?_)
        refine gv_ri (gv_runS (n := 1) (rest := []) C0 (mX11_kindBy l X s10 v9) gX11_readRow_X11_kindBy rfl ⟨rfl, rfl⟩ (by decide +kernel) ⟨by decide, by decide⟩ hP hS rfl hl.1 rfl (Nat.le_of_ble_eq_true rfl) dX11_readRow_50 ⟨Nat.zero_le _, Nat.zero_le _⟩) hS (fun H locs hP hS => ?_)
        refine lv_topi (fun v11 ev11 => ?_)
        have h := gv_let_e ev11 h
        refine lv_istore (lv' := [(4, .int v11), (3, .int v7), (0, .ref (X.1 63)), (1, .int a1), (2, .int v1)]) hx hb dX11_readRow_53 hl (by decide) rfl (fun ls hl => ?_)
        refine lv_aload_n hx hb dX11_readRow_55 rfl (lv_at hl 2 rfl) ?_
        refine lv_dup hx hb dX11_readRow_56 rfl ?_
        refine gv_get (ref := "IceByEarModel") (C := RX11) (T := TX11) (N := 28) (ci := 11) (v := .int (s10.1 63 13)) C0 (fun _ h9 => List.mem_cons_of_mem _ (List.mem_append_right _ h9)) hP 63 (gw_o11 X s10 gk_63.1) rfl 13 (by decide) (by decide +kernel) rfl rfl dX11_readRow_57 ?_
        refine lv_iload hx hb dX11_readRow_60 (lv_at hl 0 rfl) ?_
        have J70 : ∀ (v12 : Int32) (H : Heap) (locs : List Loc) (ls : Array Slot), pX11_readRow_J70 s10 a1 v1 v7 v11 v12 = some x → gw_P X s10 H → va_S (gw_A X) s.heap H locs → lv_has ls 5 [(4, .int v11), (3, .int v7), (0, .ref (X.1 63)), (1, .int a1), (2, .int v1)] → W p l e rX11_readRow s m args below meth c H locs 0 0 Q (F0 m 70 ls [.int v12, .int (s10.1 63 13), .ref (X.1 63)]) := by
          intro v12 H locs ls h hP hS hl
          unfold pX11_readRow_J70 at h
          refine lv_iadd hx hb dX11_readRow_70 ?_
          refine gv_put (ref := "IceByEarModel") (C := RX11) (T := TX11) (N := 28) (ci := 11) (v := .int ((s10.1 63 13) + v12)) C0 (fun _ h9 => List.mem_cons_of_mem _ (List.mem_append_right _ h9)) tyX11 tyX11_ok nmX11 hP hS 63 (gw_o11 X s10 gk_63.1) rfl 13 (by decide) (by decide +kernel) rfl rfl (tyX11_ok 13 (by decide)) rfl rfl (Nat.le_of_ble_eq_true rfl) (gw_s11_13 gk_63.1 ((s10.1 63 13) + v12)) dX11_readRow_71 (fun s13 H locs es13 hP hS => ?_)
          have h := gv_let_e es13 h
          refine lv_aload_n hx hb dX11_readRow_74 rfl (lv_at hl 2 rfl) ?_
          refine gv_get (ref := "IceByEarModel") (C := RX11) (T := TX11) (N := 28) (ci := 11) (v := .ref (X.1 73)) C0 (fun _ h9 => List.mem_cons_of_mem _ (List.mem_append_right _ h9)) hP 63 (gw_o11 X s13 gk_63.1) rfl 15 (by decide) (by decide +kernel) rfl rfl dX11_readRow_75 ?_
          refine lv_bipush (v := 8) hx hb dX11_readRow_78 (by decide) ?_
          refine lv_iload_n hx hb dX11_readRow_80 rfl (lv_at hl 3 rfl) ?_
          refine lv_imul hx hb dX11_readRow_81 ?_
          refine lv_iload_n hx hb dX11_readRow_82 rfl (lv_at hl 4 rfl) ?_
          refine lv_iadd hx hb dX11_readRow_83 ?_
          refine lv_iconst (v := 5) hx hb dX11_readRow_84 (by decide) ?_
          refine lv_iload_n hx hb dX11_readRow_85 rfl (lv_at hl 1 rfl) ?_
          refine lv_imul hx hb dX11_readRow_86 ?_
          refine lv_iload hx hb dX11_readRow_87 (lv_at hl 0 rfl) ?_
          refine lv_iadd hx hb dX11_readRow_89 ?_
          obtain ⟨hin14, h⟩ := gv_in_e h
          refine gv_iast C0 hP hS 73 gk_73.1 gk_73.2 hin14 dX11_readRow_90 (fun s15 H locs es15 hP hS => ?_)
          have h := gv_let_e es15 h
          obtain ⟨v16, ev16⟩ : ∃ y : Int32, y = (v1 + (1 : Int32)) := ⟨_, rfl⟩
          have h := gv_let_e ev16 h
          refine lv_iinc (v := v16) (lv' := [(2, .int v16), (4, .int v11), (3, .int v7), (0, .ref (X.1 63)), (1, .int a1)]) hx hb dX11_readRow_91 hl (k := 4) rfl (by rw [ev16]; rfl) (by decide) rfl (fun ls hl => ?_)
          refine lv_goto (tgt := 2) hx hb dX11_readRow_94 (by decide) ?_
          exact Kc _ (gv_inj h) _ _ _ hP hS (lv_sub hl [3, 4, 0] rfl)
        refine lv_if_le (tgt := 69) hx hb dX11_readRow_62 (by decide) (fun hc => ?_) (fun hc => ?_)
        · have h := gv_pos hc h
          refine lv_iconst (v := 0) hx hb dX11_readRow_69 (by decide) ?_
          exact J70 (0 : Int32) _ _ _ h hP hS (lv_sub hl [0, 1, 2, 3, 4] rfl)
        · have h := gv_neg hc h
          refine lv_iconst (v := 1) hx hb dX11_readRow_65 (by decide) ?_
          refine lv_goto (tgt := 70) hx hb dX11_readRow_66 (by decide) ?_
          exact J70 (1 : Int32) _ _ _ h hP hS (lv_sub hl [0, 1, 2, 3, 4] rfl)
  · obtain ⟨v17, s18⟩ := q19
    have h := gv_let_e (x := v17) rfl h
    have h := gv_let_e (x := s18) rfl h
    intro H locs ls hP hS hl
    have hP : gw_P X s18 H := hP
    have hl : lv_has ls 5 [(0, .ref (X.1 63)), (2, .int v17)] := hl
    refine lv_aload_n hx hb dX11_readRow_97 rfl (lv_at hl 0 rfl) ?_
    refine lv_dup hx hb dX11_readRow_98 rfl ?_
    refine gv_get (ref := "IceByEarModel") (C := RX11) (T := TX11) (N := 28) (ci := 11) (v := .int (s18.1 63 14)) C0 (fun _ h9 => List.mem_cons_of_mem _ (List.mem_append_right _ h9)) hP 63 (gw_o11 X s18 gk_63.1) rfl 14 (by decide) (by decide +kernel) rfl rfl dX11_readRow_99 ?_
    refine lv_iload_n hx hb dX11_readRow_102 rfl (lv_at hl 1 rfl) ?_
    refine lv_iadd hx hb dX11_readRow_103 ?_
    refine gv_put (ref := "IceByEarModel") (C := RX11) (T := TX11) (N := 28) (ci := 11) (v := .int ((s18.1 63 14) + v17)) C0 (fun _ h9 => List.mem_cons_of_mem _ (List.mem_append_right _ h9)) tyX11 tyX11_ok nmX11 hP hS 63 (gw_o11 X s18 gk_63.1) rfl 14 (by decide) (by decide +kernel) rfl rfl (tyX11_ok 14 (by decide)) rfl rfl (Nat.le_of_ble_eq_true rfl) (gw_s11_14 gk_63.1 ((s18.1 63 14) + v17)) dX11_readRow_104 (fun s19 H locs es19 hP hS => ?_)
    have h := gv_let_e es19 h
    refine lv_iload_n hx hb dX11_readRow_107 rfl (lv_at hl 1 rfl) ?_
    refine lv_if_le (tgt := 115) hx hb dX11_readRow_108 (by decide) (fun hc => ?_) (fun hc => ?_)
    · have h := gv_pos hc h
      refine lv_iconst (v := 0) hx hb dX11_readRow_115 (by decide) ?_
      exact Kr _ _ _ _ _ _ (gv_inj h) (show narrow .boolean (.int (0 : Int32)) = .int (0 : Int32) by decide) hP hS dX11_readRow_116
    · have h := gv_neg hc h
      refine lv_iconst (v := 1) hx hb dX11_readRow_111 (by decide) ?_
      refine lv_goto (tgt := 116) hx hb dX11_readRow_112 (by decide) ?_
      exact Kr _ _ _ _ _ _ (gv_inj h) (show narrow .boolean (.int (1 : Int32)) = .int (1 : Int32) by decide) hP hS dX11_readRow_116
theorem mX11_readRow (l : Launch) (X : gw_X) (s0 : gs_S) (a1 : Int32) {r : Int32} {τ : gs_S} (h : pX11_readRow a1 s0 = some (r, τ)) : Met l yX11_readRow wsX11_readRow rX11_readRow (gm_Pc X s0 [.ref (X.1 63), .int a1]) (gm_Qi X τ r) 0 0 (gw_A X) :=
  gm_of RX11 (by decide) rfl rfl (Nat.le_of_ble_eq_true rfl) (fun p e s m below meth c ls C0 hP hl hS => tX11_readRow C0 a1 s0 h (fun H locs ls pc r τ hr hn hP hS hd => by cases hr; exact gm_retz hn C0 hP hS hd) hP hS hl)
def pX11_readIce_L12  (v3 : Int32) (s4 : gs_S) : Option ((Int32 × gs_S) ⊕ (Int32 × gs_S)) := if (64 : Int32) ≤ v3 then some (.inr (v3, s4)) else gv_in v3 64 (gv_let (gs_u s4 73 v3.toNatClampNeg (-1 : Int32)) (fun s6 => gv_let (v3 + (1 : Int32)) (fun v7 => some (.inl (v7, s6)))))
def pX11_readIce_L33  (v10 : Int32) (s11 : gs_S) : Option ((Int32 × gs_S) ⊕ ((Int32 × gs_S) ⊕ (Int32 × gs_S))) := if (8 : Int32) ≤ v10 then some (.inr (.inl (v10, s11))) else gv_bind2 (pX11_readRow v10 s11) (fun v12 s13 => if v12 = 0 then some (.inr (.inr ((0 : Int32), s13))) else gv_bind2 (pX11_nextByte s13) (fun v14 s15 => if 0 ≤ v14 then if v14 = (47 : Int32) then if v10 = (7 : Int32) then some (.inr (.inr ((0 : Int32), s15))) else gv_let (gs_u s15 63 13 ((s15.1 63 13) + (1 : Int32))) (fun s16 => gv_let (v10 + (1 : Int32)) (fun v17 => some (.inl (v17, s16)))) else some (.inr (.inr ((0 : Int32), s15))) else some (.inr (.inr ((1 : Int32), s15)))))
def pX11_readIce  (s0 : gs_S) : Option (Int32 × gs_S) := gv_let (gs_u s0 63 13 (0 : Int32)) (fun s1 => gv_let (gs_u s1 63 14 (0 : Int32)) (fun s2 => gv_bind (gv_loop (fun q => pX11_readIce_L12 q.1 q.2) gv_N ((0 : Int32), s2)) (fun q => gv_let q.1 (fun v8 => gv_let q.2 (fun s9 => gv_bret (gv_loop (fun q => pX11_readIce_L33 q.1 q.2) gv_N ((0 : Int32), s9)) (fun r => r) (fun q => gv_let q.1 (fun v18 => gv_let q.2 (fun s19 => some ((0 : Int32), s19)))))))))
def rX11_readIce : Room := { frames := 2, cells := 0, slots := 0, locals := 49 }
set_option maxHeartbeats 4000000 in
set_option maxRecDepth 100000 in
theorem tX11_readIce {p : Program} {l : Launch} {e : Env} {s : State} {m : MethodId} {args : Array Value} {below : List Frame} {meth : Method} {c : Code} {X : gw_X} {Q : State → Prop} (C0 : gm_At p s m args meth c X cX11_readIce 3 RX11 wsX11_readIce (some .boolean))  (s0 : gs_S) {z : Int32 × gs_S} (h : pX11_readIce s0 = some z) (Kr : ∀ (H : Heap) (locs : List Loc) (ls : Array Slot) (pc : Nat) (r : Int32) (τ : gs_S), z = (r, τ) → narrow .boolean (.int r) = .int r → gw_P X τ H → va_S (gw_A X) s.heap H locs → decode cX11_readIce pc = .ok (.ireturn, 1) → W p l e rX11_readIce s m args below meth c H locs 0 0 Q (F0 m pc ls [.int r])) {H : Heap} {locs : List Loc} {ls : Array Slot} (hP : gw_P X s0 H) (hS : va_S (gw_A X) s.heap H locs) (hl : lv_has ls 3 [(0, .ref (X.1 63))]) : W p l e rX11_readIce s m args below meth c H locs 0 0 Q (F0 m 0 ls []) := by
  obtain ⟨hx, hb, hml, hown, hts, hr, hlocks, hC⟩ := id C0
  unfold pX11_readIce at h
  refine lv_aload_n hx hb dX11_readIce_0 rfl (lv_at hl 0 rfl) ?_
  refine lv_iconst (v := 0) hx hb dX11_readIce_1 (by decide) ?_
  refine gv_put (ref := "IceByEarModel") (C := RX11) (T := TX11) (N := 28) (ci := 11) (v := .int (0 : Int32)) C0 (fun _ h9 => List.mem_cons_of_mem _ (List.mem_append_right _ h9)) tyX11 tyX11_ok nmX11 hP hS 63 (gw_o11 X s0 gk_63.1) rfl 13 (by decide) (by decide +kernel) rfl rfl (tyX11_ok 13 (by decide)) rfl rfl (Nat.le_of_ble_eq_true rfl) (gw_s11_13 gk_63.1 (0 : Int32)) dX11_readIce_2 (fun s1 H locs es1 hP hS => ?_)
  have h := gv_let_e es1 h
  refine lv_aload_n hx hb dX11_readIce_5 rfl (lv_at hl 0 rfl) ?_
  refine lv_iconst (v := 0) hx hb dX11_readIce_6 (by decide) ?_
  refine gv_put (ref := "IceByEarModel") (C := RX11) (T := TX11) (N := 28) (ci := 11) (v := .int (0 : Int32)) C0 (fun _ h9 => List.mem_cons_of_mem _ (List.mem_append_right _ h9)) tyX11 tyX11_ok nmX11 hP hS 63 (gw_o11 X s1 gk_63.1) rfl 14 (by decide) (by decide +kernel) rfl rfl (tyX11_ok 14 (by decide)) rfl rfl (Nat.le_of_ble_eq_true rfl) (gw_s11_14 gk_63.1 (0 : Int32)) dX11_readIce_7 (fun s2 H locs es2 hP hS => ?_)
  have h := gv_let_e es2 h
  refine lv_iconst (v := 0) hx hb dX11_readIce_10 (by decide) ?_
  refine lv_istore_n (lv' := [(1, .int (0 : Int32)), (0, .ref (X.1 63))]) hx hb dX11_readIce_11 rfl hl (by decide) rfl (fun ls hl => ?_)
  obtain ⟨q20, hq20, h⟩ := gv_bind_e h
  refine gv_loop_ind (Φ := fun q => ∀ (H : Heap) (locs : List Loc) (ls : Array Slot), gw_P X q.2 H → va_S (gw_A X) s.heap H locs → lv_has ls 3 [(0, .ref (X.1 63)), (1, .int q.1)] → W p l e rX11_readIce s m args below meth c H locs 0 0 Q (F0 m 12 ls [])) (Ψ := fun q => ∀ (H : Heap) (locs : List Loc) (ls : Array Slot), gw_P X q.2 H → va_S (gw_A X) s.heap H locs → lv_has ls 3 [(0, .ref (X.1 63))] → W p l e rX11_readIce s m args below meth c H locs 0 0 Q (F0 m 31 ls [])) ?_ gv_N ((0 : Int32), s2) q20 hq20 ?_ H locs ls hP hS (lv_sub hl [1, 0] rfl)
  · intro q x h Kc Ke H locs ls hP hS hl
    obtain ⟨v3, s4⟩ := q
    have h : pX11_readIce_L12 v3 s4 = some x := h
    have hP : gw_P X s4 H := hP
    have hl : lv_has ls 3 [(0, .ref (X.1 63)), (1, .int v3)] := hl
    unfold pX11_readIce_L12 at h
    refine lv_iload_n hx hb dX11_readIce_12 rfl (lv_at hl 1 rfl) ?_
    refine lv_bipush (v := 64) hx hb dX11_readIce_13 (by decide) ?_
    refine lv_icmp_ge (tgt := 31) hx hb dX11_readIce_15 (by decide) (fun hc => ?_) (fun hc => ?_)
    · have h := gv_pos hc h
      exact Ke _ (gv_inj h) _ _ _ hP hS (lv_sub hl [0] rfl)
    · have h := gv_neg hc h
      refine lv_aload_n hx hb dX11_readIce_18 rfl (lv_at hl 0 rfl) ?_
      refine gv_get (ref := "IceByEarModel") (C := RX11) (T := TX11) (N := 28) (ci := 11) (v := .ref (X.1 73)) C0 (fun _ h9 => List.mem_cons_of_mem _ (List.mem_append_right _ h9)) hP 63 (gw_o11 X s4 gk_63.1) rfl 15 (by decide) (by decide +kernel) rfl rfl dX11_readIce_19 ?_
      refine lv_iload_n hx hb dX11_readIce_22 rfl (lv_at hl 1 rfl) ?_
      refine lv_iconst (v := -1) hx hb dX11_readIce_23 (by decide) ?_
      obtain ⟨hin5, h⟩ := gv_in_e h
      refine gv_iast C0 hP hS 73 gk_73.1 gk_73.2 hin5 dX11_readIce_24 (fun s6 H locs es6 hP hS => ?_)
      have h := gv_let_e es6 h
      obtain ⟨v7, ev7⟩ : ∃ y : Int32, y = (v3 + (1 : Int32)) := ⟨_, rfl⟩
      have h := gv_let_e ev7 h
      refine lv_iinc (v := v7) (lv' := [(1, .int v7), (0, .ref (X.1 63))]) hx hb dX11_readIce_25 hl (k := 1) rfl (by rw [ev7]; rfl) (by decide) rfl (fun ls hl => ?_)
      refine lv_goto (tgt := 12) hx hb dX11_readIce_28 (by decide) ?_
      exact Kc _ (gv_inj h) _ _ _ hP hS (lv_sub hl [1, 0] rfl)
  · obtain ⟨v8, s9⟩ := q20
    have h := gv_let_e (x := v8) rfl h
    have h := gv_let_e (x := s9) rfl h
    intro H locs ls hP hS hl
    have hP : gw_P X s9 H := hP
    have hl : lv_has ls 3 [(0, .ref (X.1 63))] := hl
    refine lv_iconst (v := 0) hx hb dX11_readIce_31 (by decide) ?_
    refine lv_istore_n (lv' := [(1, .int (0 : Int32)), (0, .ref (X.1 63))]) hx hb dX11_readIce_32 rfl hl (by decide) rfl (fun ls hl => ?_)
    obtain ⟨q19, hq19, h1q19, h2q19⟩ := gv_bret_e h
    refine gv_loop_ind (Φ := fun q => ∀ (H : Heap) (locs : List Loc) (ls : Array Slot), gw_P X q.2 H → va_S (gw_A X) s.heap H locs → lv_has ls 3 [(0, .ref (X.1 63)), (1, .int q.1)] → W p l e rX11_readIce s m args below meth c H locs 0 0 Q (F0 m 33 ls [])) (Ψ := fun ex => (∀ q : Int32 × gs_S, ex = .inl q → ∀ (H : Heap) (locs : List Loc) (ls : Array Slot), gw_P X q.2 H → va_S (gw_A X) s.heap H locs → lv_has ls 3 [] → W p l e rX11_readIce s m args below meth c H locs 0 0 Q (F0 m 90 ls [])) ∧ (∀ r : Int32 × gs_S, ex = .inr r → ∀ (H : Heap) (locs : List Loc) (ls : Array Slot) (pc : Nat), narrow .boolean (.int r.1) = .int r.1 → gw_P X r.2 H → va_S (gw_A X) s.heap H locs → decode cX11_readIce pc = .ok (.ireturn, 1) → W p l e rX11_readIce s m args below meth c H locs 0 0 Q (F0 m pc ls [.int r.1]))) ?_ gv_N ((0 : Int32), s9) q19 hq19 ⟨?_, ?_⟩ H locs ls hP hS (lv_sub hl [1, 0] rfl)
    · intro q x h Kc Ke H locs ls hP hS hl
      obtain ⟨v10, s11⟩ := q
      have h : pX11_readIce_L33 v10 s11 = some x := h
      have hP : gw_P X s11 H := hP
      have hl : lv_has ls 3 [(0, .ref (X.1 63)), (1, .int v10)] := hl
      unfold pX11_readIce_L33 at h
      refine lv_iload_n hx hb dX11_readIce_33 rfl (lv_at hl 1 rfl) ?_
      refine lv_bipush (v := 8) hx hb dX11_readIce_34 (by decide) ?_
      refine lv_icmp_ge (tgt := 90) hx hb dX11_readIce_36 (by decide) (fun hc => ?_) (fun hc => ?_)
      · have h := gv_pos hc h
        exact (Ke _ (gv_inj h)).1 _ rfl _ _ _ hP hS (lv_sub hl [] rfl)
      · have h := gv_neg hc h
        refine lv_aload_n hx hb dX11_readIce_39 rfl (lv_at hl 0 rfl) ?_
        refine lv_iload_n hx hb dX11_readIce_40 rfl (lv_at hl 1 rfl) ?_
        obtain ⟨v12, s13, hv12, h⟩ := gv_bind2_e h
        refine gv_ri (gv_runV (n := 1) (rest := []) C0 (mX11_readRow l X s11 v10 hv12) gX11_readIce_X11_readRow rfl ⟨rfl, rfl⟩ (by decide +kernel) ⟨by decide, by decide⟩ gk_63.1 (by decide) rfl hP hS rfl hl.1 rfl (Nat.le_of_ble_eq_true rfl) dX11_readIce_41 ⟨Nat.zero_le _, Nat.zero_le _⟩) hS (fun H locs hP hS => ?_)
        refine lv_if_ne (tgt := 49) hx hb dX11_readIce_44 (by decide) (fun hc => ?_) (fun hc => ?_)
        · have h := gv_neg hc h
          refine lv_aload_n hx hb dX11_readIce_49 rfl (lv_at hl 0 rfl) ?_
          obtain ⟨v14, s15, hv14, h⟩ := gv_bind2_e h
          refine gv_ri (gv_runV (n := 0) (rest := []) C0 (mX11_nextByte l X s13  hv14) gX11_readIce_X11_nextByte rfl ⟨rfl, rfl⟩ (by decide +kernel) ⟨by decide, by decide⟩ gk_63.1 (by decide) rfl hP hS rfl hl.1 rfl (Nat.le_of_ble_eq_true rfl) dX11_readIce_50 ⟨Nat.zero_le _, Nat.zero_le _⟩) hS (fun H locs hP hS => ?_)
          refine lv_istore_n (lv' := [(2, .int v14), (0, .ref (X.1 63)), (1, .int v10)]) hx hb dX11_readIce_53 rfl hl (by decide) rfl (fun ls hl => ?_)
          refine lv_iload_n hx hb dX11_readIce_54 rfl (lv_at hl 0 rfl) ?_
          refine lv_if_ge (tgt := 60) hx hb dX11_readIce_55 (by decide) (fun hc => ?_) (fun hc => ?_)
          · have h := gv_pos hc h
            refine lv_iload_n hx hb dX11_readIce_60 rfl (lv_at hl 0 rfl) ?_
            refine lv_bipush (v := 47) hx hb dX11_readIce_61 (by decide) ?_
            refine lv_icmp_ne (tgt := 72) hx hb dX11_readIce_63 (by decide) (fun hc => ?_) (fun hc => ?_)
            · have h := gv_neg hc h
              refine lv_iconst (v := 0) hx hb dX11_readIce_72 (by decide) ?_
              exact (Ke _ (gv_inj h)).2 _ rfl _ _ _ _ (show narrow .boolean (.int (0 : Int32)) = .int (0 : Int32) by decide) hP hS dX11_readIce_73
            · have h := gv_pos hc h
              refine lv_iload_n hx hb dX11_readIce_66 rfl (lv_at hl 2 rfl) ?_
              refine lv_bipush (v := 7) hx hb dX11_readIce_67 (by decide) ?_
              refine lv_icmp_ne (tgt := 74) hx hb dX11_readIce_69 (by decide) (fun hc => ?_) (fun hc => ?_)
              · have h := gv_neg hc h
                refine lv_aload_n hx hb dX11_readIce_74 rfl (lv_at hl 1 rfl) ?_
                refine lv_dup hx hb dX11_readIce_75 rfl ?_
                refine gv_get (ref := "IceByEarModel") (C := RX11) (T := TX11) (N := 28) (ci := 11) (v := .int (s15.1 63 13)) C0 (fun _ h9 => List.mem_cons_of_mem _ (List.mem_append_right _ h9)) hP 63 (gw_o11 X s15 gk_63.1) rfl 13 (by decide) (by decide +kernel) rfl rfl dX11_readIce_76 ?_
                refine lv_iconst (v := 1) hx hb dX11_readIce_79 (by decide) ?_
                refine lv_iadd hx hb dX11_readIce_80 ?_
                refine gv_put (ref := "IceByEarModel") (C := RX11) (T := TX11) (N := 28) (ci := 11) (v := .int ((s15.1 63 13) + (1 : Int32))) C0 (fun _ h9 => List.mem_cons_of_mem _ (List.mem_append_right _ h9)) tyX11 tyX11_ok nmX11 hP hS 63 (gw_o11 X s15 gk_63.1) rfl 13 (by decide) (by decide +kernel) rfl rfl (tyX11_ok 13 (by decide)) rfl rfl (Nat.le_of_ble_eq_true rfl) (gw_s11_13 gk_63.1 ((s15.1 63 13) + (1 : Int32))) dX11_readIce_81 (fun s16 H locs es16 hP hS => ?_)
                have h := gv_let_e es16 h
                obtain ⟨v17, ev17⟩ : ∃ y : Int32, y = (v10 + (1 : Int32)) := ⟨_, rfl⟩
                have h := gv_let_e ev17 h
                refine lv_iinc (v := v17) (lv' := [(1, .int v17), (2, .int v14), (0, .ref (X.1 63))]) hx hb dX11_readIce_84 hl (k := 2) rfl (by rw [ev17]; rfl) (by decide) rfl (fun ls hl => ?_)
                refine lv_goto (tgt := 33) hx hb dX11_readIce_87 (by decide) ?_
                exact Kc _ (gv_inj h) _ _ _ hP hS (lv_sub hl [2, 0] rfl)
              · have h := gv_pos hc h
                refine lv_iconst (v := 0) hx hb dX11_readIce_72 (by decide) ?_
                exact (Ke _ (gv_inj h)).2 _ rfl _ _ _ _ (show narrow .boolean (.int (0 : Int32)) = .int (0 : Int32) by decide) hP hS dX11_readIce_73
          · have h := gv_neg hc h
            refine lv_iconst (v := 1) hx hb dX11_readIce_58 (by decide) ?_
            exact (Ke _ (gv_inj h)).2 _ rfl _ _ _ _ (show narrow .boolean (.int (1 : Int32)) = .int (1 : Int32) by decide) hP hS dX11_readIce_59
        · have h := gv_pos hc h
          refine lv_iconst (v := 0) hx hb dX11_readIce_47 (by decide) ?_
          exact (Ke _ (gv_inj h)).2 _ rfl _ _ _ _ (show narrow .boolean (.int (0 : Int32)) = .int (0 : Int32) by decide) hP hS dX11_readIce_48
    · intro q hex H locs ls hP hS hl
      have h := h1q19 q hex
      obtain ⟨v18, s19⟩ := q
      have h := gv_let_e (x := v18) rfl h
      have h := gv_let_e (x := s19) rfl h
      have hP : gw_P X s19 H := hP
      have hl : lv_has ls 3 [] := hl
      refine lv_iconst (v := 0) hx hb dX11_readIce_90 (by decide) ?_
      exact Kr _ _ _ _ _ _ (gv_inj h) (show narrow .boolean (.int (0 : Int32)) = .int (0 : Int32) by decide) hP hS dX11_readIce_91
    · intro r hex H locs ls pc hn hP hS hd
      exact Kr _ _ _ _ _ _ (h2q19 r hex).symm hn hP hS hd
theorem mX11_readIce (l : Launch) (X : gw_X) (s0 : gs_S)  {r : Int32} {τ : gs_S} (h : pX11_readIce s0 = some (r, τ)) : Met l yX11_readIce wsX11_readIce rX11_readIce (gm_Pc X s0 [.ref (X.1 63)]) (gm_Qi X τ r) 0 0 (gw_A X) :=
  gm_of RX11 (by decide) rfl rfl (Nat.le_of_ble_eq_true rfl) (fun p e s m below meth c ls C0 hP hl hS => tX11_readIce C0  s0 h (fun H locs ls pc r τ hr hn hP hS hd => by cases hr; exact gm_retz hn C0 hP hS hd) hP hS hl)
def pX11_ice_L24  (v4 : Int32) (s5 : gs_S) : Option ((Int32 × gs_S) ⊕ (Int32 × gs_S)) := if (64 : Int32) ≤ v4 then some (.inr (v4, s5)) else gv_in v4 64 (if (s5.1 73 v4.toNatClampNeg) < 0 then gv_let (v4 + (1 : Int32)) (fun v7 => some (.inl (v7, s5))) else gv_in v4 64 (gv_in v4 320 (gv_let (gs_u s5 64 v4.toNatClampNeg ((s5.1 73 v4.toNatClampNeg) / (5 : Int32))) (fun s10 => gv_in v4 64 (gv_in ((64 : Int32) + v4) 320 (gv_let (gs_u s10 64 ((64 : Int32) + v4).toNatClampNeg ((s10.1 73 v4.toNatClampNeg) - (((s10.1 73 v4.toNatClampNeg) / (5 : Int32)) * (5 : Int32)))) (fun s13 => gv_in ((128 : Int32) + v4) 320 (gv_let (gs_u s13 64 ((128 : Int32) + v4).toNatClampNeg (0 : Int32)) (fun s15 => gv_in ((192 : Int32) + v4) 320 (gv_let (gs_u s15 64 ((192 : Int32) + v4).toNatClampNeg (0 : Int32)) (fun s17 => gv_in ((256 : Int32) + v4) 320 (gv_let (gs_u s17 64 ((256 : Int32) + v4).toNatClampNeg (0 : Int32)) (fun s19 => gv_let (v4 + (1 : Int32)) (fun v20 => some (.inl (v20, s19))))))))))))))))
def pX11_ice  (s0 : gs_S) : Option (Int32 × gs_S) := gv_bind2 (pX11_readIce s0) (fun v1 s2 => gv_let (gs_u s2 63 12 (0 : Int32)) (fun s3 => if v1 = 0 then some (((-20 : Int32) - (s3.1 63 13)), s3) else gv_bind (gv_loop (fun q => pX11_ice_L24 q.1 q.2) gv_N ((0 : Int32), s3)) (fun q => gv_let q.1 (fun v21 => gv_let q.2 (fun s22 => some ((s22.1 63 14), s22))))))
def rX11_ice : Room := { frames := 3, cells := 0, slots := 0, locals := 71 }
set_option maxHeartbeats 4000000 in
set_option maxRecDepth 100000 in
theorem tX11_ice {p : Program} {l : Launch} {e : Env} {s : State} {m : MethodId} {args : Array Value} {below : List Frame} {meth : Method} {c : Code} {X : gw_X} {Q : State → Prop} (C0 : gm_At p s m args meth c X cX11_ice 3 RX11 wsX11_ice (some .int))  (s0 : gs_S) {z : Int32 × gs_S} (h : pX11_ice s0 = some z) (Kr : ∀ (H : Heap) (locs : List Loc) (ls : Array Slot) (pc : Nat) (r : Int32) (τ : gs_S), z = (r, τ) → gw_P X τ H → va_S (gw_A X) s.heap H locs → decode cX11_ice pc = .ok (.ireturn, 1) → W p l e rX11_ice s m args below meth c H locs 0 0 Q (F0 m pc ls [.int r])) {H : Heap} {locs : List Loc} {ls : Array Slot} (hP : gw_P X s0 H) (hS : va_S (gw_A X) s.heap H locs) (hl : lv_has ls 3 [(0, .ref (X.1 63))]) : W p l e rX11_ice s m args below meth c H locs 0 0 Q (F0 m 0 ls []) := by
  obtain ⟨hx, hb, hml, hown, hts, hr, hlocks, hC⟩ := id C0
  unfold pX11_ice at h
  refine lv_aload_n hx hb dX11_ice_0 rfl (lv_at hl 0 rfl) ?_
  obtain ⟨v1, s2, hv1, h⟩ := gv_bind2_e h
  refine gv_ri (gv_runV (n := 0) (rest := []) C0 (mX11_readIce l X s0  hv1) gX11_ice_X11_readIce rfl ⟨rfl, rfl⟩ (by decide +kernel) ⟨by decide, by decide⟩ gk_63.1 (by decide) rfl hP hS rfl hl.1 rfl (Nat.le_of_ble_eq_true rfl) dX11_ice_1 ⟨Nat.zero_le _, Nat.zero_le _⟩) hS (fun H locs hP hS => ?_)
  refine lv_istore_n (lv' := [(1, .int v1), (0, .ref (X.1 63))]) hx hb dX11_ice_4 rfl hl (by decide) rfl (fun ls hl => ?_)
  refine lv_aload_n hx hb dX11_ice_5 rfl (lv_at hl 1 rfl) ?_
  refine lv_iconst (v := 0) hx hb dX11_ice_6 (by decide) ?_
  refine gv_put (ref := "IceByEarModel") (C := RX11) (T := TX11) (N := 28) (ci := 11) (v := .int (0 : Int32)) C0 (fun _ h9 => List.mem_cons_of_mem _ (List.mem_append_right _ h9)) tyX11 tyX11_ok nmX11 hP hS 63 (gw_o11 X s2 gk_63.1) rfl 12 (by decide) (by decide +kernel) rfl rfl (tyX11_ok 12 (by decide)) rfl rfl (Nat.le_of_ble_eq_true rfl) (gw_s11_12 gk_63.1 (0 : Int32)) dX11_ice_7 (fun s3 H locs es3 hP hS => ?_)
  have h := gv_let_e es3 h
  refine lv_iload_n hx hb dX11_ice_10 rfl (lv_at hl 0 rfl) ?_
  refine lv_if_ne (tgt := 22) hx hb dX11_ice_11 (by decide) (fun hc => ?_) (fun hc => ?_)
  · have h := gv_neg hc h
    refine lv_iconst (v := 0) hx hb dX11_ice_22 (by decide) ?_
    refine lv_istore_n (lv' := [(2, .int (0 : Int32)), (1, .int v1), (0, .ref (X.1 63))]) hx hb dX11_ice_23 rfl hl (by decide) rfl (fun ls hl => ?_)
    obtain ⟨q22, hq22, h⟩ := gv_bind_e h
    refine gv_loop_ind (Φ := fun q => ∀ (H : Heap) (locs : List Loc) (ls : Array Slot), gw_P X q.2 H → va_S (gw_A X) s.heap H locs → lv_has ls 3 [(0, .ref (X.1 63)), (2, .int q.1)] → W p l e rX11_ice s m args below meth c H locs 0 0 Q (F0 m 24 ls [])) (Ψ := fun q => ∀ (H : Heap) (locs : List Loc) (ls : Array Slot), gw_P X q.2 H → va_S (gw_A X) s.heap H locs → lv_has ls 3 [(0, .ref (X.1 63))] → W p l e rX11_ice s m args below meth c H locs 0 0 Q (F0 m 109 ls [])) ?_ gv_N ((0 : Int32), s3) q22 hq22 ?_ H locs ls hP hS (lv_sub hl [2, 0] rfl)
    · intro q x h Kc Ke H locs ls hP hS hl
      obtain ⟨v4, s5⟩ := q
      have h : pX11_ice_L24 v4 s5 = some x := h
      have hP : gw_P X s5 H := hP
      have hl : lv_has ls 3 [(0, .ref (X.1 63)), (2, .int v4)] := hl
      unfold pX11_ice_L24 at h
      refine lv_iload_n hx hb dX11_ice_24 rfl (lv_at hl 1 rfl) ?_
      refine lv_bipush (v := 64) hx hb dX11_ice_25 (by decide) ?_
      refine lv_icmp_ge (tgt := 109) hx hb dX11_ice_27 (by decide) (fun hc => ?_) (fun hc => ?_)
      · have h := gv_pos hc h
        exact Ke _ (gv_inj h) _ _ _ hP hS (lv_sub hl [0] rfl)
      · have h := gv_neg hc h
        refine lv_aload_n hx hb dX11_ice_30 rfl (lv_at hl 0 rfl) ?_
        refine gv_get (ref := "IceByEarModel") (C := RX11) (T := TX11) (N := 28) (ci := 11) (v := .ref (X.1 73)) C0 (fun _ h9 => List.mem_cons_of_mem _ (List.mem_append_right _ h9)) hP 63 (gw_o11 X s5 gk_63.1) rfl 15 (by decide) (by decide +kernel) rfl rfl dX11_ice_31 ?_
        refine lv_iload_n hx hb dX11_ice_34 rfl (lv_at hl 1 rfl) ?_
        obtain ⟨hin6, h⟩ := gv_in_e h
        refine gv_iald C0 hP 73 gk_73.1 gk_73.2 hin6 dX11_ice_35 ?_
        refine lv_if_lt (tgt := 103) hx hb dX11_ice_36 (by decide) (fun hc => ?_) (fun hc => ?_)
        · have h := gv_pos hc h
          obtain ⟨v7, ev7⟩ : ∃ y : Int32, y = (v4 + (1 : Int32)) := ⟨_, rfl⟩
          have h := gv_let_e ev7 h
          refine lv_iinc (v := v7) (lv' := [(2, .int v7), (0, .ref (X.1 63))]) hx hb dX11_ice_103 hl (k := 1) rfl (by rw [ev7]; rfl) (by decide) rfl (fun ls hl => ?_)
          refine lv_goto (tgt := 24) hx hb dX11_ice_106 (by decide) ?_
          exact Kc _ (gv_inj h) _ _ _ hP hS (lv_sub hl [1, 0] rfl)
        · have h := gv_neg hc h
          refine lv_aload_n hx hb dX11_ice_39 rfl (lv_at hl 0 rfl) ?_
          refine gv_get (ref := "IceByEarModel") (C := RX11) (T := TX11) (N := 28) (ci := 11) (v := .ref (X.1 64)) C0 (fun _ h9 => List.mem_cons_of_mem _ (List.mem_append_right _ h9)) hP 63 (gw_o11 X s5 gk_63.1) rfl 0 (by decide) (by decide +kernel) rfl rfl dX11_ice_40 ?_
          refine lv_iload_n hx hb dX11_ice_43 rfl (lv_at hl 1 rfl) ?_
          refine lv_aload_n hx hb dX11_ice_44 rfl (lv_at hl 0 rfl) ?_
          refine gv_get (ref := "IceByEarModel") (C := RX11) (T := TX11) (N := 28) (ci := 11) (v := .ref (X.1 73)) C0 (fun _ h9 => List.mem_cons_of_mem _ (List.mem_append_right _ h9)) hP 63 (gw_o11 X s5 gk_63.1) rfl 15 (by decide) (by decide +kernel) rfl rfl dX11_ice_45 ?_
          refine lv_iload_n hx hb dX11_ice_48 rfl (lv_at hl 1 rfl) ?_
          obtain ⟨hin8, h⟩ := gv_in_e h
          refine gv_iald C0 hP 73 gk_73.1 gk_73.2 hin8 dX11_ice_49 ?_
          refine lv_iconst (v := 5) hx hb dX11_ice_50 (by decide) ?_
          refine lv_idiv hx hb dX11_ice_51 (by decide) ?_
          obtain ⟨hin9, h⟩ := gv_in_e h
          refine gv_iast C0 hP hS 64 gk_64.1 gk_64.2 hin9 dX11_ice_52 (fun s10 H locs es10 hP hS => ?_)
          have h := gv_let_e es10 h
          refine lv_aload_n hx hb dX11_ice_53 rfl (lv_at hl 0 rfl) ?_
          refine gv_get (ref := "IceByEarModel") (C := RX11) (T := TX11) (N := 28) (ci := 11) (v := .ref (X.1 64)) C0 (fun _ h9 => List.mem_cons_of_mem _ (List.mem_append_right _ h9)) hP 63 (gw_o11 X s10 gk_63.1) rfl 0 (by decide) (by decide +kernel) rfl rfl dX11_ice_54 ?_
          refine lv_bipush (v := 64) hx hb dX11_ice_57 (by decide) ?_
          refine lv_iload_n hx hb dX11_ice_59 rfl (lv_at hl 1 rfl) ?_
          refine lv_iadd hx hb dX11_ice_60 ?_
          refine lv_aload_n hx hb dX11_ice_61 rfl (lv_at hl 0 rfl) ?_
          refine gv_get (ref := "IceByEarModel") (C := RX11) (T := TX11) (N := 28) (ci := 11) (v := .ref (X.1 73)) C0 (fun _ h9 => List.mem_cons_of_mem _ (List.mem_append_right _ h9)) hP 63 (gw_o11 X s10 gk_63.1) rfl 15 (by decide) (by decide +kernel) rfl rfl dX11_ice_62 ?_
          refine lv_iload_n hx hb dX11_ice_65 rfl (lv_at hl 1 rfl) ?_
          obtain ⟨hin11, h⟩ := gv_in_e h
          refine gv_iald C0 hP 73 gk_73.1 gk_73.2 hin11 dX11_ice_66 ?_
          refine lv_iconst (v := 5) hx hb dX11_ice_67 (by decide) ?_
          refine lv_irem hx hb dX11_ice_68 (by decide) ?_
          obtain ⟨hin12, h⟩ := gv_in_e h
          refine gv_iast C0 hP hS 64 gk_64.1 gk_64.2 hin12 dX11_ice_69 (fun s13 H locs es13 hP hS => ?_)
          have h := gv_let_e es13 h
          refine lv_aload_n hx hb dX11_ice_70 rfl (lv_at hl 0 rfl) ?_
          refine gv_get (ref := "IceByEarModel") (C := RX11) (T := TX11) (N := 28) (ci := 11) (v := .ref (X.1 64)) C0 (fun _ h9 => List.mem_cons_of_mem _ (List.mem_append_right _ h9)) hP 63 (gw_o11 X s13 gk_63.1) rfl 0 (by decide) (by decide +kernel) rfl rfl dX11_ice_71 ?_
          refine lv_sipush (v := 128) hx hb dX11_ice_74 (by decide) ?_
          refine lv_iload_n hx hb dX11_ice_77 rfl (lv_at hl 1 rfl) ?_
          refine lv_iadd hx hb dX11_ice_78 ?_
          refine lv_iconst (v := 0) hx hb dX11_ice_79 (by decide) ?_
          obtain ⟨hin14, h⟩ := gv_in_e h
          refine gv_iast C0 hP hS 64 gk_64.1 gk_64.2 hin14 dX11_ice_80 (fun s15 H locs es15 hP hS => ?_)
          have h := gv_let_e es15 h
          refine lv_aload_n hx hb dX11_ice_81 rfl (lv_at hl 0 rfl) ?_
          refine gv_get (ref := "IceByEarModel") (C := RX11) (T := TX11) (N := 28) (ci := 11) (v := .ref (X.1 64)) C0 (fun _ h9 => List.mem_cons_of_mem _ (List.mem_append_right _ h9)) hP 63 (gw_o11 X s15 gk_63.1) rfl 0 (by decide) (by decide +kernel) rfl rfl dX11_ice_82 ?_
          refine lv_sipush (v := 192) hx hb dX11_ice_85 (by decide) ?_
          refine lv_iload_n hx hb dX11_ice_88 rfl (lv_at hl 1 rfl) ?_
          refine lv_iadd hx hb dX11_ice_89 ?_
          refine lv_iconst (v := 0) hx hb dX11_ice_90 (by decide) ?_
          obtain ⟨hin16, h⟩ := gv_in_e h
          refine gv_iast C0 hP hS 64 gk_64.1 gk_64.2 hin16 dX11_ice_91 (fun s17 H locs es17 hP hS => ?_)
          have h := gv_let_e es17 h
          refine lv_aload_n hx hb dX11_ice_92 rfl (lv_at hl 0 rfl) ?_
          refine gv_get (ref := "IceByEarModel") (C := RX11) (T := TX11) (N := 28) (ci := 11) (v := .ref (X.1 64)) C0 (fun _ h9 => List.mem_cons_of_mem _ (List.mem_append_right _ h9)) hP 63 (gw_o11 X s17 gk_63.1) rfl 0 (by decide) (by decide +kernel) rfl rfl dX11_ice_93 ?_
          refine lv_sipush (v := 256) hx hb dX11_ice_96 (by decide) ?_
          refine lv_iload_n hx hb dX11_ice_99 rfl (lv_at hl 1 rfl) ?_
          refine lv_iadd hx hb dX11_ice_100 ?_
          refine lv_iconst (v := 0) hx hb dX11_ice_101 (by decide) ?_
          obtain ⟨hin18, h⟩ := gv_in_e h
          refine gv_iast C0 hP hS 64 gk_64.1 gk_64.2 hin18 dX11_ice_102 (fun s19 H locs es19 hP hS => ?_)
          have h := gv_let_e es19 h
          obtain ⟨v20, ev20⟩ : ∃ y : Int32, y = (v4 + (1 : Int32)) := ⟨_, rfl⟩
          have h := gv_let_e ev20 h
          refine lv_iinc (v := v20) (lv' := [(2, .int v20), (0, .ref (X.1 63))]) hx hb dX11_ice_103 hl (k := 1) rfl (by rw [ev20]; rfl) (by decide) rfl (fun ls hl => ?_)
          refine lv_goto (tgt := 24) hx hb dX11_ice_106 (by decide) ?_
          exact Kc _ (gv_inj h) _ _ _ hP hS (lv_sub hl [1, 0] rfl)
    · obtain ⟨v21, s22⟩ := q22
      have h := gv_let_e (x := v21) rfl h
      have h := gv_let_e (x := s22) rfl h
      intro H locs ls hP hS hl
      have hP : gw_P X s22 H := hP
      have hl : lv_has ls 3 [(0, .ref (X.1 63))] := hl
      refine lv_aload_n hx hb dX11_ice_109 rfl (lv_at hl 0 rfl) ?_
      refine gv_get (ref := "IceByEarModel") (C := RX11) (T := TX11) (N := 28) (ci := 11) (v := .int (s22.1 63 14)) C0 (fun _ h9 => List.mem_cons_of_mem _ (List.mem_append_right _ h9)) hP 63 (gw_o11 X s22 gk_63.1) rfl 14 (by decide) (by decide +kernel) rfl rfl dX11_ice_110 ?_
      exact Kr _ _ _ _ _ _ (gv_inj h) hP hS dX11_ice_113
  · have h := gv_pos hc h
    refine lv_bipush (v := -20) hx hb dX11_ice_14 (by decide) ?_
    refine lv_aload_n hx hb dX11_ice_16 rfl (lv_at hl 1 rfl) ?_
    refine gv_get (ref := "IceByEarModel") (C := RX11) (T := TX11) (N := 28) (ci := 11) (v := .int (s3.1 63 13)) C0 (fun _ h9 => List.mem_cons_of_mem _ (List.mem_append_right _ h9)) hP 63 (gw_o11 X s3 gk_63.1) rfl 13 (by decide) (by decide +kernel) rfl rfl dX11_ice_17 ?_
    refine lv_isub hx hb dX11_ice_20 ?_
    exact Kr _ _ _ _ _ _ (gv_inj h) hP hS dX11_ice_21
theorem mX11_ice (l : Launch) (X : gw_X) (s0 : gs_S)  {r : Int32} {τ : gs_S} (h : pX11_ice s0 = some (r, τ)) : Met l yX11_ice wsX11_ice rX11_ice (gm_Pc X s0 [.ref (X.1 63)]) (gm_Qi X τ r) 0 0 (gw_A X) :=
  gm_of RX11 (by decide) rfl rfl (Nat.le_of_ble_eq_true rfl) (fun p e s m below meth c ls C0 hP hl hS => tX11_ice C0  s0 h (fun H locs ls pc r τ hr hP hS hd => by cases hr; exact gm_reti C0 hP hS hd) hP hS hl)
