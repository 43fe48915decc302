def pX6_find_L19 (a2 : Int32) (v3 : Int32) (s4 : gs_S) : Option ((Int32 × gs_S) ⊕ (Int32 × gs_S)) := if (s4.1 10 4) ≤ v3 then some (.inr (v3, s4)) else gv_in v3 16 (if ((a2 >>> ((s4.1 12 v3.toNatClampNeg) &&& 31)) &&& (1 : Int32)) = 0 then gv_let (v3 + (1 : Int32)) (fun v6 => some (.inl (v6, s4))) else gv_bind (pX6_fit v3 s4) (fun s7 => gv_let (v3 + (1 : Int32)) (fun v8 => some (.inl (v8, s7)))))
def pX6_find (a2 : Int32) (s0 : gs_S) : Option (Int32 × gs_S) := gv_bind (pJ7_fill_53178 44 (1 : Int32) s0) (fun s1 => gv_bind (pJ7_fill_53178 45 (99 : Int32) s1) (fun s2 => gv_bind (gv_loop (fun q => pX6_find_L19 a2 q.1 q.2) gv_N ((0 : Int32), s2)) (fun q => gv_let q.1 (fun v9 => gv_let q.2 (fun s10 => gv_bind (pX6_narrow (s10.1 1 5) s10) (fun s11 => gv_bind (pX6_areOpen s11) (fun v12 => gv_bo v12 (some (v12, s11)))))))))
def rX6_find : Room := { frames := 3, cells := 0, slots := 0, locals := 85 }
set_option maxHeartbeats 4000000 in
set_option maxRecDepth 100000 in
theorem tX6_find {p : Program} {l : Launch} {e : Env} {s : State} {m : MethodId} {args : Array Value} {below : List Frame} {meth : Method} {c : Code} {X : gw_X} {Q : State → Prop} (C0 : gm_At p s m args meth c X cX6_find 4 RX6 wsX6_find (some .boolean)) (a2 : Int32) (s0 : gs_S) {z : Int32 × gs_S} (h : pX6_find a2 s0 = some z) (Kr : ∀ (H : Heap) (locs : List Loc) (ls : Array Slot) (pc : Nat) (r : Int32) (τ : gs_S), z = (r, τ) → narrow .boolean (.int r) = .int r → gw_P X τ H → va_S (gw_A X) s.heap H locs → decode cX6_find pc = .ok (.ireturn, 1) → W p l e rX6_find s m args below meth c H locs 0 0 Q (F0 m pc ls [.int r])) {H : Heap} {locs : List Loc} {ls : Array Slot} (hP : gw_P X s0 H) (hS : va_S (gw_A X) s.heap H locs) (hl : lv_has ls 4 [(0, .ref (X.1 43)), (1, .ref (X.1 1)), (2, .int a2)]) : W p l e rX6_find s m args below meth c H locs 0 0 Q (F0 m 0 ls []) := by
  obtain ⟨hx, hb, hml, hown, hts, hr, hlocks, hC⟩ := id C0
  unfold pX6_find at h
  refine lv_aload_n hx hb dX6_find_0 rfl (lv_at hl 0 rfl) ?_
  refine gv_get (ref := "IceByEar$Spans") (C := RX6) (T := TX6) (N := 2) (ci := 6) (v := .ref (X.1 44)) C0 (fun _ h9 => List.mem_cons_of_mem _ (List.mem_append_left _ (List.mem_append_left _ (List.mem_append_left _ (List.mem_append_right _ h9))))) hP 43 (gw_o6 X s0 gk_43.1) rfl 0 (by decide) (by decide +kernel) rfl rfl dX6_find_1 ?_
  refine lv_iconst (v := 1) hx hb dX6_find_4 (by decide) ?_
  obtain ⟨s1, hs1, h⟩ := gv_bind_e h
  refine gv_rv (gv_runS (n := 2) (rest := []) C0 (mJ7_fill_53178 l X s0 44 gk_44.1 (1 : Int32) hs1) gX6_find_J7_fill_53178 rfl ⟨rfl, rfl⟩ (by decide +kernel) ⟨by decide, by decide⟩ hP hS rfl hl.1 rfl (Nat.le_of_ble_eq_true rfl) dX6_find_5 ⟨Nat.zero_le _, Nat.zero_le _⟩) hS (fun H locs hP hS => ?_)
  refine lv_aload_n hx hb dX6_find_8 rfl (lv_at hl 0 rfl) ?_
  refine gv_get (ref := "IceByEar$Spans") (C := RX6) (T := TX6) (N := 2) (ci := 6) (v := .ref (X.1 45)) C0 (fun _ h9 => List.mem_cons_of_mem _ (List.mem_append_left _ (List.mem_append_left _ (List.mem_append_left _ (List.mem_append_right _ h9))))) hP 43 (gw_o6 X s1 gk_43.1) rfl 1 (by decide) (by decide +kernel) rfl rfl dX6_find_9 ?_
  refine lv_bipush (v := 99) hx hb dX6_find_12 (by decide) ?_
  obtain ⟨s2, hs2, h⟩ := gv_bind_e h
  refine gv_rv (gv_runS (n := 2) (rest := []) C0 (mJ7_fill_53178 l X s1 45 gk_45.1 (99 : Int32) hs2) gX6_find_J7_fill_53178 rfl ⟨rfl, rfl⟩ (by decide +kernel) ⟨by decide, by decide⟩ hP hS rfl hl.1 rfl (Nat.le_of_ble_eq_true rfl) dX6_find_14 ⟨Nat.zero_le _, Nat.zero_le _⟩) hS (fun H locs hP hS => ?_)
  refine lv_iconst (v := 0) hx hb dX6_find_17 (by decide) ?_
  refine lv_istore_n (lv' := [(3, .int (0 : Int32)), (0, .ref (X.1 43)), (1, .ref (X.1 1)), (2, .int a2)]) hx hb dX6_find_18 rfl hl (by decide) rfl (fun ls hl => ?_)
  obtain ⟨q13, hq13, h⟩ := gv_bind_e h
  refine gv_loop_ind (Φ := fun q => ∀ (H : Heap) (locs : List Loc) (ls : Array Slot), gw_P X q.2 H → va_S (gw_A X) s.heap H locs → lv_has ls 4 [(0, .ref (X.1 43)), (1, .ref (X.1 1)), (2, .int a2), (3, .int q.1)] → W p l e rX6_find s m args below meth c H locs 0 0 Q (F0 m 19 ls [])) (Ψ := fun q => ∀ (H : Heap) (locs : List Loc) (ls : Array Slot), gw_P X q.2 H → va_S (gw_A X) s.heap H locs → lv_has ls 4 [(0, .ref (X.1 43)), (1, .ref (X.1 1))] → W p l e rX6_find s m args below meth c H locs 0 0 Q (F0 m 58 ls [])) ?_ gv_N ((0 : Int32), s2) q13 hq13 ?_ H locs ls hP hS (lv_sub hl [1, 2, 3, 0] rfl)
  · intro q x h Kc Ke H locs ls hP hS hl
    obtain ⟨v3, s4⟩ := q
    have h : pX6_find_L19 a2 v3 s4 = some x := h
    have hP : gw_P X s4 H := hP
    have hl : lv_has ls 4 [(0, .ref (X.1 43)), (1, .ref (X.1 1)), (2, .int a2), (3, .int v3)] := hl
    unfold pX6_find_L19 at h
    refine lv_iload_n hx hb dX6_find_19 rfl (lv_at hl 3 rfl) ?_
    refine lv_aload_n hx hb dX6_find_20 rfl (lv_at hl 1 rfl) ?_
    refine gv_get (ref := "IceByEar$Scene") (C := RX4) (T := TX4) (N := 6) (ci := 4) (v := .ref (X.1 10)) C0 (fun _ h9 => List.mem_cons_of_mem _ (List.mem_append_left _ (List.mem_append_left _ (List.mem_append_right _ h9)))) hP 1 (gw_o4 X s4 gk_1.1) rfl 3 (by decide) (by decide +kernel) rfl rfl dX6_find_21 ?_
    refine gv_get (ref := "IceByEar$Ears") (C := RX1) (T := TX1) (N := 5) (ci := 1) (v := .int (s4.1 10 4)) C0 (fun _ h9 => List.mem_cons_of_mem _ (List.mem_append_left _ (List.mem_append_right _ h9))) hP 10 (gw_o1 X s4 gk_10.1) rfl 4 (by decide) (by decide +kernel) rfl rfl dX6_find_24 ?_
    refine lv_icmp_ge (tgt := 58) hx hb dX6_find_27 (by decide) (fun hc => ?_) (fun hc => ?_)
    · have h := gv_pos hc h
      exact Ke _ (gv_inj h) _ _ _ hP hS (lv_sub hl [0, 1] rfl)
    · have h := gv_neg hc h
      refine lv_iload_n hx hb dX6_find_30 rfl (lv_at hl 2 rfl) ?_
      refine lv_aload_n hx hb dX6_find_31 rfl (lv_at hl 1 rfl) ?_
      refine gv_get (ref := "IceByEar$Scene") (C := RX4) (T := TX4) (N := 6) (ci := 4) (v := .ref (X.1 10)) C0 (fun _ h9 => List.mem_cons_of_mem _ (List.mem_append_left _ (List.mem_append_left _ (List.mem_append_right _ h9)))) hP 1 (gw_o4 X s4 gk_1.1) rfl 3 (by decide) (by decide +kernel) rfl rfl dX6_find_32 ?_
      refine gv_get (ref := "IceByEar$Ears") (C := RX1) (T := TX1) (N := 5) (ci := 1) (v := .ref (X.1 12)) C0 (fun _ h9 => List.mem_cons_of_mem _ (List.mem_append_left _ (List.mem_append_right _ h9))) hP 10 (gw_o1 X s4 gk_10.1) rfl 1 (by decide) (by decide +kernel) rfl rfl dX6_find_35 ?_
      refine lv_iload_n hx hb dX6_find_38 rfl (lv_at hl 3 rfl) ?_
      obtain ⟨hin5, h⟩ := gv_in_e h
      refine gv_iald C0 hP 12 gk_12.1 gk_12.2 hin5 dX6_find_39 ?_
      refine lv_ishr hx hb dX6_find_40 ?_
      refine lv_iconst (v := 1) hx hb dX6_find_41 (by decide) ?_
      refine lv_iand hx hb dX6_find_42 ?_
      refine lv_if_eq (tgt := 52) hx hb dX6_find_43 (by decide) (fun hc => ?_) (fun hc => ?_)
      · have h := gv_pos hc h
        obtain ⟨v6, ev6⟩ : ∃ y : Int32, y = (v3 + (1 : Int32)) := ⟨_, rfl⟩
        have h := gv_let_e ev6 h
        refine lv_iinc (v := v6) (lv' := [(3, .int v6), (0, .ref (X.1 43)), (1, .ref (X.1 1)), (2, .int a2)]) hx hb dX6_find_52 hl (k := 3) rfl (by rw [ev6]; rfl) (by decide) rfl (fun ls hl => ?_)
        refine lv_goto (tgt := 19) hx hb dX6_find_55 (by decide) ?_
        exact Kc _ (gv_inj h) _ _ _ hP hS (lv_sub hl [1, 2, 3, 0] rfl)
      · have h := gv_neg hc h
        refine lv_aload_n hx hb dX6_find_46 rfl (lv_at hl 0 rfl) ?_
        refine lv_aload_n hx hb dX6_find_47 rfl (lv_at hl 1 rfl) ?_
        refine lv_iload_n hx hb dX6_find_48 rfl (lv_at hl 3 rfl) ?_
        obtain ⟨s7, hs7, h⟩ := gv_bind_e h
        refine gv_rv (gv_runV (n := 2) (rest := []) C0 (mX6_fit l X s4 v3 hs7) gX6_find_X6_fit rfl ⟨rfl, rfl⟩ (by decide +kernel) ⟨by decide, by decide⟩ gk_43.1 (by decide) rfl hP hS rfl hl.1 rfl (Nat.le_of_ble_eq_true rfl) dX6_find_49 ⟨Nat.zero_le _, Nat.zero_le _⟩) hS (fun H locs hP hS => ?_)
        obtain ⟨v8, ev8⟩ : ∃ y : Int32, y = (v3 + (1 : Int32)) := ⟨_, rfl⟩
        have h := gv_let_e ev8 h
        refine lv_iinc (v := v8) (lv' := [(3, .int v8), (0, .ref (X.1 43)), (1, .ref (X.1 1)), (2, .int a2)]) hx hb dX6_find_52 hl (k := 3) rfl (by rw [ev8]; rfl) (by decide) rfl (fun ls hl => ?_)
        refine lv_goto (tgt := 19) hx hb dX6_find_55 (by decide) ?_
        exact Kc _ (gv_inj h) _ _ _ hP hS (lv_sub hl [1, 2, 3, 0] rfl)
  · obtain ⟨v9, s10⟩ := q13
    have h := gv_let_e (x := v9) rfl h
    have h := gv_let_e (x := s10) rfl h
    intro H locs ls hP hS hl
    have hP : gw_P X s10 H := hP
    have hl : lv_has ls 4 [(0, .ref (X.1 43)), (1, .ref (X.1 1))] := hl
    refine lv_aload_n hx hb dX6_find_58 rfl (lv_at hl 0 rfl) ?_
    refine lv_aload_n hx hb dX6_find_59 rfl (lv_at hl 1 rfl) ?_
    refine gv_get (ref := "IceByEar$Scene") (C := RX4) (T := TX4) (N := 6) (ci := 4) (v := .int (s10.1 1 5)) C0 (fun _ h9 => List.mem_cons_of_mem _ (List.mem_append_left _ (List.mem_append_left _ (List.mem_append_right _ h9)))) hP 1 (gw_o4 X s10 gk_1.1) rfl 5 (by decide) (by decide +kernel) rfl rfl dX6_find_60 ?_
    obtain ⟨s11, hs11, h⟩ := gv_bind_e h
    refine gv_rv (gv_runV (n := 1) (rest := []) C0 (mX6_narrow l X s10 (s10.1 1 5) hs11) gX6_find_X6_narrow rfl ⟨rfl, rfl⟩ (by decide +kernel) ⟨by decide, by decide⟩ gk_43.1 (by decide) rfl hP hS rfl hl.1 rfl (Nat.le_of_ble_eq_true rfl) dX6_find_63 ⟨Nat.zero_le _, Nat.zero_le _⟩) hS (fun H locs hP hS => ?_)
    refine lv_aload_n hx hb dX6_find_66 rfl (lv_at hl 0 rfl) ?_
    obtain ⟨v12, hv12, h⟩ := gv_bind_e h
    refine gv_ri (gv_runV (n := 0) (rest := []) C0 (mX6_areOpen l X s11  hv12) gX6_find_X6_areOpen rfl ⟨rfl, rfl⟩ (by decide +kernel) ⟨by decide, by decide⟩ gk_43.1 (by decide) rfl hP hS rfl hl.1 rfl (Nat.le_of_ble_eq_true rfl) dX6_find_67 ⟨Nat.zero_le _, Nat.zero_le _⟩) hS (fun H locs hP hS => ?_)
    obtain ⟨hbo13, h⟩ := gv_bo_e h
    exact Kr _ _ _ _ _ _ (gv_inj h) hbo13 hP hS dX6_find_70
theorem mX6_find (l : Launch) (X : gw_X) (s0 : gs_S) (a2 : Int32) {r : Int32} {τ : gs_S} (h : pX6_find a2 s0 = some (r, τ)) : Met l yX6_find wsX6_find rX6_find (gm_Pc X s0 [.ref (X.1 43), .ref (X.1 1), .int a2]) (gm_Qi X τ r) 0 0 (gw_A X) :=
  gm_of RX6 (by decide) rfl rfl (Nat.le_of_ble_eq_true rfl) (fun p e s m below meth c ls C0 hP hl hS => tX6_find C0 a2 s0 h (fun H locs ls pc r τ hr hn hP hS hd => by cases hr; exact gm_retz hn C0 hP hS hd) hP hS hl)
def pX10_span (a1 : Int32) (a2 : Int32) (a3 : Int32) (s0 : gs_S) : Option (Int32 × gs_S) := if (pX10_isWithin (a1.toInt64) (0 : Int32) (15 : Int32)) = 0 then some ((-1 : Int32), s0) else if (pX10_isSquare (a2.toInt64)) = 0 then some ((-1 : Int32), s0) else if (pX10_isWithin (a3.toInt64) (0 : Int32) (1 : Int32)) = 0 then some ((-1 : Int32), s0) else gv_bind2 (pX6_find a1 s0) (fun v1 s2 => if v1 = 0 then some ((-4 : Int32), s2) else if a3 = 0 then gv_in a2 64 (some ((s2.1 44 a2.toNatClampNeg), s2)) else gv_in a2 64 (some ((s2.1 45 a2.toNatClampNeg), s2)))
def rX10_span : Room := { frames := 4, cells := 0, slots := 0, locals := 108 }
set_option maxHeartbeats 4000000 in
set_option maxRecDepth 100000 in
theorem tX10_span {p : Program} {l : Launch} {e : Env} {s : State} {m : MethodId} {args : Array Value} {below : List Frame} {meth : Method} {c : Code} {X : gw_X} {Q : State → Prop} (C0 : gm_At p s m args meth c X cX10_span 4 RX10 wsX10_span (some .int)) (a1 : Int32) (a2 : Int32) (a3 : Int32) (s0 : gs_S) {z : Int32 × gs_S} (h : pX10_span a1 a2 a3 s0 = some z) (Kr : ∀ (H : Heap) (locs : List Loc) (ls : Array Slot) (pc : Nat) (r : Int32) (τ : gs_S), z = (r, τ) → gw_P X τ H → va_S (gw_A X) s.heap H locs → decode cX10_span pc = .ok (.ireturn, 1) → W p l e rX10_span s m args below meth c H locs 0 0 Q (F0 m pc ls [.int r])) {H : Heap} {locs : List Loc} {ls : Array Slot} (hP : gw_P X s0 H) (hS : va_S (gw_A X) s.heap H locs) (hl : lv_has ls 4 [(0, .ref (X.1 0)), (1, .int a1), (2, .int a2), (3, .int a3)]) : W p l e rX10_span s m args below meth c H locs 0 0 Q (F0 m 0 ls []) := by
  obtain ⟨hx, hb, hml, hown, hts, hr, hlocks, hC⟩ := id C0
  unfold pX10_span at h
  refine lv_iload_n hx hb dX10_span_0 rfl (lv_at hl 1 rfl) ?_
  refine lv_i2l hx hb dX10_span_1 rfl ?_
  refine lv_iconst (v := 0) hx hb dX10_span_2 (by decide) ?_
  refine lv_bipush (v := 15) hx hb dX10_span_3 (by decide) ?_
  refine gv_ri (gv_runS (n := 3) (rest := []) C0 (mX10_isWithin l X s0 (a1.toInt64) (0 : Int32) (15 : Int32)) gX10_span_X10_isWithin rfl ⟨rfl, rfl⟩ (by decide +kernel) ⟨by decide, by decide⟩ hP hS rfl hl.1 rfl (Nat.le_of_ble_eq_true rfl) dX10_span_5 ⟨Nat.zero_le _, Nat.zero_le _⟩) hS (fun H locs hP hS => ?_)
  refine lv_if_eq (tgt := 29) hx hb dX10_span_8 (by decide) (fun hc => ?_) (fun hc => ?_)
  · have h := gv_pos hc h
    refine lv_iconst (v := -1) hx hb dX10_span_29 (by decide) ?_
    exact Kr _ _ _ _ _ _ (gv_inj h) hP hS dX10_span_30
  · have h := gv_neg hc h
    refine lv_iload_n hx hb dX10_span_11 rfl (lv_at hl 2 rfl) ?_
    refine lv_i2l hx hb dX10_span_12 rfl ?_
    refine gv_ri (gv_runS (n := 1) (rest := []) C0 (mX10_isSquare l X s0 (a2.toInt64)) gX10_span_X10_isSquare rfl ⟨rfl, rfl⟩ (by decide +kernel) ⟨by decide, by decide⟩ hP hS rfl hl.1 rfl (Nat.le_of_ble_eq_true rfl) dX10_span_13 ⟨Nat.zero_le _, Nat.zero_le _⟩) hS (fun H locs hP hS => ?_)
    refine lv_if_eq (tgt := 29) hx hb dX10_span_16 (by decide) (fun hc => ?_) (fun hc => ?_)
    · have h := gv_pos hc h
      refine lv_iconst (v := -1) hx hb dX10_span_29 (by decide) ?_
      exact Kr _ _ _ _ _ _ (gv_inj h) hP hS dX10_span_30
    · have h := gv_neg hc h
      refine lv_iload_n hx hb dX10_span_19 rfl (lv_at hl 3 rfl) ?_
      refine lv_i2l hx hb dX10_span_20 rfl ?_
      refine lv_iconst (v := 0) hx hb dX10_span_21 (by decide) ?_
      refine lv_iconst (v := 1) hx hb dX10_span_22 (by decide) ?_
      refine gv_ri (gv_runS (n := 3) (rest := []) C0 (mX10_isWithin l X s0 (a3.toInt64) (0 : Int32) (1 : Int32)) gX10_span_X10_isWithin rfl ⟨rfl, rfl⟩ (by decide +kernel) ⟨by decide, by decide⟩ hP hS rfl hl.1 rfl (Nat.le_of_ble_eq_true rfl) dX10_span_23 ⟨Nat.zero_le _, Nat.zero_le _⟩) hS (fun H locs hP hS => ?_)
      refine lv_if_ne (tgt := 31) hx hb dX10_span_26 (by decide) (fun hc => ?_) (fun hc => ?_)
      · have h := gv_neg hc h
        refine lv_aload_n hx hb dX10_span_31 rfl (lv_at hl 0 rfl) ?_
        refine gv_get (ref := "IceByEar") (C := RX10) (T := TX10) (N := 8) (ci := 10) (v := .ref (X.1 43)) C0 (fun _ h9 => List.mem_cons_of_mem _ (List.mem_append_left _ (List.mem_append_left _ (List.mem_append_left _ (List.mem_append_left _ (List.mem_append_right _ h9)))))) hP 0 (gw_o10 X s0 gk_0.1) rfl 6 (by decide) (by decide +kernel) rfl rfl dX10_span_32 ?_
        refine lv_aload_n hx hb dX10_span_35 rfl (lv_at hl 0 rfl) ?_
        refine gv_get (ref := "IceByEar") (C := RX10) (T := TX10) (N := 8) (ci := 10) (v := .ref (X.1 1)) C0 (fun _ h9 => List.mem_cons_of_mem _ (List.mem_append_left _ (List.mem_append_left _ (List.mem_append_left _ (List.mem_append_left _ (List.mem_append_right _ h9)))))) hP 0 (gw_o10 X s0 gk_0.1) rfl 0 (by decide) (by decide +kernel) rfl rfl dX10_span_36 ?_
        refine lv_iload_n hx hb dX10_span_39 rfl (lv_at hl 1 rfl) ?_
        obtain ⟨v1, s2, hv1, h⟩ := gv_bind2_e h
        refine gv_ri (gv_runV (n := 2) (rest := []) C0 (mX6_find l X s0 a1 hv1) gX10_span_X6_find rfl ⟨rfl, rfl⟩ (by decide +kernel) ⟨by decide, by decide⟩ gk_43.1 (by decide) rfl hP hS rfl hl.1 rfl (Nat.le_of_ble_eq_true rfl) dX10_span_40 ⟨Nat.zero_le _, Nat.zero_le _⟩) hS (fun H locs hP hS => ?_)
        refine lv_if_ne (tgt := 49) hx hb dX10_span_43 (by decide) (fun hc => ?_) (fun hc => ?_)
        · have h := gv_neg hc h
          refine lv_iload_n hx hb dX10_span_49 rfl (lv_at hl 3 rfl) ?_
          refine lv_if_ne (tgt := 65) hx hb dX10_span_50 (by decide) (fun hc => ?_) (fun hc => ?_)
          · have h := gv_neg hc h
            refine lv_aload_n hx hb dX10_span_65 rfl (lv_at hl 0 rfl) ?_
            refine gv_get (ref := "IceByEar") (C := RX10) (T := TX10) (N := 8) (ci := 10) (v := .ref (X.1 43)) C0 (fun _ h9 => List.mem_cons_of_mem _ (List.mem_append_left _ (List.mem_append_left _ (List.mem_append_left _ (List.mem_append_left _ (List.mem_append_right _ h9)))))) hP 0 (gw_o10 X s2 gk_0.1) rfl 6 (by decide) (by decide +kernel) rfl rfl dX10_span_66 ?_
            refine gv_get (ref := "IceByEar$Spans") (C := RX6) (T := TX6) (N := 2) (ci := 6) (v := .ref (X.1 45)) C0 (fun _ h9 => List.mem_cons_of_mem _ (List.mem_append_left _ (List.mem_append_left _ (List.mem_append_left _ (List.mem_append_right _ h9))))) hP 43 (gw_o6 X s2 gk_43.1) rfl 1 (by decide) (by decide +kernel) rfl rfl dX10_span_69 ?_
            refine lv_iload_n hx hb dX10_span_72 rfl (lv_at hl 2 rfl) ?_
            obtain ⟨hin3, h⟩ := gv_in_e h
            refine gv_iald C0 hP 45 gk_45.1 gk_45.2 hin3 dX10_span_73 ?_
            exact Kr _ _ _ _ _ _ (gv_inj h) hP hS dX10_span_74
          · have h := gv_pos hc h
            refine lv_aload_n hx hb dX10_span_53 rfl (lv_at hl 0 rfl) ?_
            refine gv_get (ref := "IceByEar") (C := RX10) (T := TX10) (N := 8) (ci := 10) (v := .ref (X.1 43)) C0 (fun _ h9 => List.mem_cons_of_mem _ (List.mem_append_left _ (List.mem_append_left _ (List.mem_append_left _ (List.mem_append_left _ (List.mem_append_right _ h9)))))) hP 0 (gw_o10 X s2 gk_0.1) rfl 6 (by decide) (by decide +kernel) rfl rfl dX10_span_54 ?_
            refine gv_get (ref := "IceByEar$Spans") (C := RX6) (T := TX6) (N := 2) (ci := 6) (v := .ref (X.1 44)) C0 (fun _ h9 => List.mem_cons_of_mem _ (List.mem_append_left _ (List.mem_append_left _ (List.mem_append_left _ (List.mem_append_right _ h9))))) hP 43 (gw_o6 X s2 gk_43.1) rfl 0 (by decide) (by decide +kernel) rfl rfl dX10_span_57 ?_
            refine lv_iload_n hx hb dX10_span_60 rfl (lv_at hl 2 rfl) ?_
            obtain ⟨hin4, h⟩ := gv_in_e h
            refine gv_iald C0 hP 44 gk_44.1 gk_44.2 hin4 dX10_span_61 ?_
            refine lv_goto (tgt := 74) hx hb dX10_span_62 (by decide) ?_
            exact Kr _ _ _ _ _ _ (gv_inj h) hP hS dX10_span_74
        · have h := gv_pos hc h
          refine lv_bipush (v := -4) hx hb dX10_span_46 (by decide) ?_
          exact Kr _ _ _ _ _ _ (gv_inj h) hP hS dX10_span_48
      · have h := gv_pos hc h
        refine lv_iconst (v := -1) hx hb dX10_span_29 (by decide) ?_
        exact Kr _ _ _ _ _ _ (gv_inj h) hP hS dX10_span_30
theorem mX10_span (l : Launch) (X : gw_X) (s0 : gs_S) (a1 : Int32) (a2 : Int32) (a3 : Int32) {r : Int32} {τ : gs_S} (h : pX10_span a1 a2 a3 s0 = some (r, τ)) : Met l yX10_span wsX10_span rX10_span (gm_Pc X s0 [.ref (X.1 0), .int a1, .int a2, .int a3]) (gm_Qi X τ r) 0 0 (gw_A X) :=
  gm_of RX10 (by decide) rfl rfl (Nat.le_of_ble_eq_true rfl) (fun p e s m below meth c ls C0 hP hl hS => tX10_span C0 a1 a2 a3 s0 h (fun H locs ls pc r τ hr hP hS hd => by cases hr; exact gm_reti C0 hP hS hd) hP hS hl)
def pX3_weighAt_L2  (v1 : Int32) (s2 : gs_S) : Option ((Int32 × gs_S) ⊕ (Int32 × gs_S)) := if (64 : Int32) ≤ v1 then some (.inr (v1, s2)) else gv_in v1 64 (gv_bind (pX2_bearingAt v1 (s2.1 44 v1.toNatClampNeg) s2) (fun v4 => gv_in v1 64 (gv_let (gs_u s2 39 v1.toNatClampNeg v4) (fun s6 => gv_let (v1 + (1 : Int32)) (fun v7 => some (.inl (v7, s6)))))))
def pX3_weighAt  (s0 : gs_S) : Option (gs_S) := gv_bind (gv_loop (fun q => pX3_weighAt_L2 q.1 q.2) gv_N ((0 : Int32), s0)) (fun q => gv_let q.1 (fun v8 => gv_let q.2 (fun s9 => some s9)))
def rX3_weighAt : Room := { frames := 3, cells := 0, slots := 0, locals := 66 }
set_option maxHeartbeats 4000000 in
set_option maxRecDepth 100000 in
theorem tX3_weighAt {p : Program} {l : Launch} {e : Env} {s : State} {m : MethodId} {args : Array Value} {below : List Frame} {meth : Method} {c : Code} {X : gw_X} {Q : State → Prop} (C0 : gm_At p s m args meth c X cX3_weighAt 4 RX3 wsX3_weighAt none)  (s0 : gs_S) {z : gs_S} (h : pX3_weighAt s0 = some z) (Kr : ∀ (H : Heap) (locs : List Loc) (ls : Array Slot) (pc : Nat) (τ : gs_S), z = τ → gw_P X τ H → va_S (gw_A X) s.heap H locs → decode cX3_weighAt pc = .ok (.return_, 1) → W p l e rX3_weighAt s m args below meth c H locs 0 0 Q (F0 m pc ls [])) {H : Heap} {locs : List Loc} {ls : Array Slot} (hP : gw_P X s0 H) (hS : va_S (gw_A X) s.heap H locs) (hl : lv_has ls 4 [(0, .ref (X.1 38)), (1, .ref (X.1 2)), (2, .ref (X.1 44))]) : W p l e rX3_weighAt s m args below meth c H locs 0 0 Q (F0 m 0 ls []) := by
  obtain ⟨hx, hb, hml, hown, hts, hr, hlocks, hC⟩ := id C0
  unfold pX3_weighAt at h
  refine lv_iconst (v := 0) hx hb dX3_weighAt_0 (by decide) ?_
  refine lv_istore_n (lv' := [(3, .int (0 : Int32)), (0, .ref (X.1 38)), (1, .ref (X.1 2)), (2, .ref (X.1 44))]) hx hb dX3_weighAt_1 rfl hl (by decide) rfl (fun ls hl => ?_)
  obtain ⟨q9, hq9, h⟩ := gv_bind_e h
  refine gv_loop_ind (Φ := fun q => ∀ (H : Heap) (locs : List Loc) (ls : Array Slot), gw_P X q.2 H → va_S (gw_A X) s.heap H locs → lv_has ls 4 [(0, .ref (X.1 38)), (1, .ref (X.1 2)), (2, .ref (X.1 44)), (3, .int q.1)] → W p l e rX3_weighAt s m args below meth c H locs 0 0 Q (F0 m 2 ls [])) (Ψ := fun q => ∀ (H : Heap) (locs : List Loc) (ls : Array Slot), gw_P X q.2 H → va_S (gw_A X) s.heap H locs → lv_has ls 4 [] → W p l e rX3_weighAt s m args below meth c H locs 0 0 Q (F0 m 28 ls [])) ?_ gv_N ((0 : Int32), s0) q9 hq9 ?_ H locs ls hP hS (lv_sub hl [1, 2, 3, 0] rfl)
  · intro q x h Kc Ke H locs ls hP hS hl
    obtain ⟨v1, s2⟩ := q
    have h : pX3_weighAt_L2 v1 s2 = some x := h
    have hP : gw_P X s2 H := hP
    have hl : lv_has ls 4 [(0, .ref (X.1 38)), (1, .ref (X.1 2)), (2, .ref (X.1 44)), (3, .int v1)] := hl
    unfold pX3_weighAt_L2 at h
    refine lv_iload_n hx hb dX3_weighAt_2 rfl (lv_at hl 3 rfl) ?_
    refine lv_bipush (v := 64) hx hb dX3_weighAt_3 (by decide) ?_
    refine lv_icmp_ge (tgt := 28) hx hb dX3_weighAt_5 (by decide) (fun hc => ?_) (fun hc => ?_)
    · have h := gv_pos hc h
      exact Ke _ (gv_inj h) _ _ _ hP hS (lv_sub hl [] rfl)
    · have h := gv_neg hc h
      refine lv_aload_n hx hb dX3_weighAt_8 rfl (lv_at hl 0 rfl) ?_
      refine gv_get (ref := "IceByEar$Roads") (C := RX3) (T := TX3) (N := 4) (ci := 3) (v := .ref (X.1 39)) C0 (fun _ h9 => List.mem_cons_of_mem _ (List.mem_append_left _ (List.mem_append_right _ h9))) hP 38 (gw_o3 X s2 gk_38.1) rfl 0 (by decide) (by decide +kernel) rfl rfl dX3_weighAt_9 ?_
      refine lv_iload_n hx hb dX3_weighAt_12 rfl (lv_at hl 3 rfl) ?_
      refine lv_aload_n hx hb dX3_weighAt_13 rfl (lv_at hl 1 rfl) ?_
      refine lv_iload_n hx hb dX3_weighAt_14 rfl (lv_at hl 3 rfl) ?_
      refine lv_aload_n hx hb dX3_weighAt_15 rfl (lv_at hl 2 rfl) ?_
      refine lv_iload_n hx hb dX3_weighAt_16 rfl (lv_at hl 3 rfl) ?_
      obtain ⟨hin3, h⟩ := gv_in_e h
      refine gv_iald C0 hP 44 gk_44.1 gk_44.2 hin3 dX3_weighAt_17 ?_
      obtain ⟨v4, hv4, h⟩ := gv_bind_e h
      refine gv_ri (gv_runV (n := 2) (rest := [.int v1, .ref (X.1 39)]) C0 (mX2_bearingAt l X s2 v1 (s2.1 44 v1.toNatClampNeg) hv4) gX3_weighAt_X2_bearingAt rfl ⟨rfl, rfl⟩ (by decide +kernel) ⟨by decide, by decide⟩ gk_2.1 (by decide) rfl hP hS rfl hl.1 rfl (Nat.le_of_ble_eq_true rfl) dX3_weighAt_18 ⟨Nat.zero_le _, Nat.zero_le _⟩) hS (fun H locs hP hS => ?_)
      obtain ⟨hin5, h⟩ := gv_in_e h
      refine gv_iast C0 hP hS 39 gk_39.1 gk_39.2 hin5 dX3_weighAt_21 (fun s6 H locs es6 hP hS => ?_)
      have h := gv_let_e es6 h
      obtain ⟨v7, ev7⟩ : ∃ y : Int32, y = (v1 + (1 : Int32)) := ⟨_, rfl⟩
      have h := gv_let_e ev7 h
      refine lv_iinc (v := v7) (lv' := [(3, .int v7), (0, .ref (X.1 38)), (1, .ref (X.1 2)), (2, .ref (X.1 44))]) hx hb dX3_weighAt_22 hl (k := 3) rfl (by rw [ev7]; rfl) (by decide) rfl (fun ls hl => ?_)
      refine lv_goto (tgt := 2) hx hb dX3_weighAt_25 (by decide) ?_
      exact Kc _ (gv_inj h) _ _ _ hP hS (lv_sub hl [1, 2, 3, 0] rfl)
  · obtain ⟨v8, s9⟩ := q9
    have h := gv_let_e (x := v8) rfl h
    have h := gv_let_e (x := s9) rfl h
    intro H locs ls hP hS hl
    have hP : gw_P X s9 H := hP
    have hl : lv_has ls 4 [] := hl
    exact Kr _ _ _ _ _ (gv_inj h) hP hS dX3_weighAt_28
theorem mX3_weighAt (l : Launch) (X : gw_X) (s0 : gs_S)  {τ : gs_S} (h : pX3_weighAt s0 = some τ) : Met l yX3_weighAt wsX3_weighAt rX3_weighAt (gm_Pc X s0 [.ref (X.1 38), .ref (X.1 2), .ref (X.1 44)]) (gm_Qv X τ) 0 0 (gw_A X) :=
  gm_of RX3 (by decide) rfl rfl (Nat.le_of_ble_eq_true rfl) (fun p e s m below meth c ls C0 hP hl hS => tX3_weighAt C0  s0 h (fun H locs ls pc τ hr hP hS hd => by subst hr; exact gm_retv C0 hP hS hd) hP hS hl)
def pX10_safe (a1 : Int32) (a2 : Int32) (a3 : Int32) (a4 : Int32) (s0 : gs_S) : Option (Int32 × gs_S) := if (pX10_isRoadAsked a1 a2 a3 a4) = 0 then some ((-1 : Int32), s0) else gv_bind2 (pX6_find (15 : Int32) s0) (fun v1 s2 => if v1 = 0 then some ((-2 : Int32), s2) else gv_bind (pX3_weighAt s2) (fun s3 => gv_bind2 (pX3_length a1 a2 (pX10_weightAlone a3 a4) s3) (fun v4 s5 => some (v4, s5))))
def rX10_safe : Room := { frames := 4, cells := 0, slots := 0, locals := 108 }
set_option maxHeartbeats 4000000 in
set_option maxRecDepth 100000 in
theorem tX10_safe {p : Program} {l : Launch} {e : Env} {s : State} {m : MethodId} {args : Array Value} {below : List Frame} {meth : Method} {c : Code} {X : gw_X} {Q : State → Prop} (C0 : gm_At p s m args meth c X cX10_safe 5 RX10 wsX10_safe (some .int)) (a1 : Int32) (a2 : Int32) (a3 : Int32) (a4 : Int32) (s0 : gs_S) {z : Int32 × gs_S} (h : pX10_safe a1 a2 a3 a4 s0 = some z) (Kr : ∀ (H : Heap) (locs : List Loc) (ls : Array Slot) (pc : Nat) (r : Int32) (τ : gs_S), z = (r, τ) → gw_P X τ H → va_S (gw_A X) s.heap H locs → decode cX10_safe pc = .ok (.ireturn, 1) → W p l e rX10_safe s m args below meth c H locs 0 0 Q (F0 m pc ls [.int r])) {H : Heap} {locs : List Loc} {ls : Array Slot} (hP : gw_P X s0 H) (hS : va_S (gw_A X) s.heap H locs) (hl : lv_has ls 5 [(0, .ref (X.1 0)), (1, .int a1), (2, .int a2), (3, .int a3), (4, .int a4)]) : W p l e rX10_safe s m args below meth c H locs 0 0 Q (F0 m 0 ls []) := by
  obtain ⟨hx, hb, hml, hown, hts, hr, hlocks, hC⟩ := id C0
  unfold pX10_safe at h
  refine lv_iload_n hx hb dX10_safe_0 rfl (lv_at hl 1 rfl) ?_
  refine lv_iload_n hx hb dX10_safe_1 rfl (lv_at hl 2 rfl) ?_
  refine lv_iload_n hx hb dX10_safe_2 rfl (lv_at hl 3 rfl) ?_
  refine lv_iload hx hb dX10_safe_3 (lv_at hl 4 rfl) ?_
  refine gv_ri (gv_runS (n := 4) (rest := []) C0 (mX10_isRoadAsked l X s0 a1 a2 a3 a4) gX10_safe_X10_isRoadAsked rfl ⟨rfl, rfl⟩ (by decide +kernel) ⟨by decide, by decide⟩ hP hS rfl hl.1 rfl (Nat.le_of_ble_eq_true rfl) dX10_safe_5 ⟨Nat.zero_le _, Nat.zero_le _⟩) hS (fun H locs hP hS => ?_)
  refine lv_if_ne (tgt := 13) hx hb dX10_safe_8 (by decide) (fun hc => ?_) (fun hc => ?_)
  · have h := gv_neg hc h
    refine lv_aload_n hx hb dX10_safe_13 rfl (lv_at hl 0 rfl) ?_
    refine gv_get (ref := "IceByEar") (C := RX10) (T := TX10) (N := 8) (ci := 10) (v := .ref (X.1 43)) C0 (fun _ h9 => List.mem_cons_of_mem _ (List.mem_append_left _ (List.mem_append_left _ (List.mem_append_left _ (List.mem_append_left _ (List.mem_append_left _ (List.mem_append_right _ h9))))))) hP 0 (gw_o10 X s0 gk_0.1) rfl 6 (by decide) (by decide +kernel) rfl rfl dX10_safe_14 ?_
    refine lv_aload_n hx hb dX10_safe_17 rfl (lv_at hl 0 rfl) ?_
    refine gv_get (ref := "IceByEar") (C := RX10) (T := TX10) (N := 8) (ci := 10) (v := .ref (X.1 1)) C0 (fun _ h9 => List.mem_cons_of_mem _ (List.mem_append_left _ (List.mem_append_left _ (List.mem_append_left _ (List.mem_append_left _ (List.mem_append_left _ (List.mem_append_right _ h9))))))) hP 0 (gw_o10 X s0 gk_0.1) rfl 0 (by decide) (by decide +kernel) rfl rfl dX10_safe_18 ?_
    refine lv_bipush (v := 15) hx hb dX10_safe_21 (by decide) ?_
    obtain ⟨v1, s2, hv1, h⟩ := gv_bind2_e h
    refine gv_ri (gv_runV (n := 2) (rest := []) C0 (mX6_find l X s0 (15 : Int32) hv1) gX10_safe_X6_find rfl ⟨rfl, rfl⟩ (by decide +kernel) ⟨by decide, by decide⟩ gk_43.1 (by decide) rfl hP hS rfl hl.1 rfl (Nat.le_of_ble_eq_true rfl) dX10_safe_23 ⟨Nat.zero_le _, Nat.zero_le _⟩) hS (fun H locs hP hS => ?_)
    refine lv_if_ne (tgt := 32) hx hb dX10_safe_26 (by decide) (fun hc => ?_) (fun hc => ?_)
    · have h := gv_neg hc h
      refine lv_aload_n hx hb dX10_safe_32 rfl (lv_at hl 0 rfl) ?_
      refine gv_get (ref := "IceByEar") (C := RX10) (T := TX10) (N := 8) (ci := 10) (v := .ref (X.1 38)) C0 (fun _ h9 => List.mem_cons_of_mem _ (List.mem_append_left _ (List.mem_append_left _ (List.mem_append_left _ (List.mem_append_left _ (List.mem_append_left _ (List.mem_append_right _ h9))))))) hP 0 (gw_o10 X s2 gk_0.1) rfl 5 (by decide) (by decide +kernel) rfl rfl dX10_safe_33 ?_
      refine lv_aload_n hx hb dX10_safe_36 rfl (lv_at hl 0 rfl) ?_
      refine gv_get (ref := "IceByEar") (C := RX10) (T := TX10) (N := 8) (ci := 10) (v := .ref (X.1 1)) C0 (fun _ h9 => List.mem_cons_of_mem _ (List.mem_append_left _ (List.mem_append_left _ (List.mem_append_left _ (List.mem_append_left _ (List.mem_append_left _ (List.mem_append_right _ h9))))))) hP 0 (gw_o10 X s2 gk_0.1) rfl 0 (by decide) (by decide +kernel) rfl rfl dX10_safe_37 ?_
      refine gv_get (ref := "IceByEar$Scene") (C := RX4) (T := TX4) (N := 6) (ci := 4) (v := .ref (X.1 2)) C0 (fun _ h9 => List.mem_cons_of_mem _ (List.mem_append_left _ (List.mem_append_left _ (List.mem_append_left _ (List.mem_append_left _ (List.mem_append_right _ h9)))))) hP 1 (gw_o4 X s2 gk_1.1) rfl 0 (by decide) (by decide +kernel) rfl rfl dX10_safe_40 ?_
      refine lv_aload_n hx hb dX10_safe_43 rfl (lv_at hl 0 rfl) ?_
      refine gv_get (ref := "IceByEar") (C := RX10) (T := TX10) (N := 8) (ci := 10) (v := .ref (X.1 43)) C0 (fun _ h9 => List.mem_cons_of_mem _ (List.mem_append_left _ (List.mem_append_left _ (List.mem_append_left _ (List.mem_append_left _ (List.mem_append_left _ (List.mem_append_right _ h9))))))) hP 0 (gw_o10 X s2 gk_0.1) rfl 6 (by decide) (by decide +kernel) rfl rfl dX10_safe_44 ?_
      refine gv_get (ref := "IceByEar$Spans") (C := RX6) (T := TX6) (N := 2) (ci := 6) (v := .ref (X.1 44)) C0 (fun _ h9 => List.mem_cons_of_mem _ (List.mem_append_left _ (List.mem_append_left _ (List.mem_append_left _ (List.mem_append_right _ h9))))) hP 43 (gw_o6 X s2 gk_43.1) rfl 0 (by decide) (by decide +kernel) rfl rfl dX10_safe_47 ?_
      obtain ⟨s3, hs3, h⟩ := gv_bind_e h
      refine gv_rv (gv_runV (n := 2) (rest := []) C0 (mX3_weighAt l X s2  hs3) gX10_safe_X3_weighAt rfl ⟨rfl, rfl⟩ (by decide +kernel) ⟨by decide, by decide⟩ gk_38.1 (by decide) rfl hP hS rfl hl.1 rfl (Nat.le_of_ble_eq_true rfl) dX10_safe_50 ⟨Nat.zero_le _, Nat.zero_le _⟩) hS (fun H locs hP hS => ?_)
      refine lv_aload_n hx hb dX10_safe_53 rfl (lv_at hl 0 rfl) ?_
      refine gv_get (ref := "IceByEar") (C := RX10) (T := TX10) (N := 8) (ci := 10) (v := .ref (X.1 38)) C0 (fun _ h9 => List.mem_cons_of_mem _ (List.mem_append_left _ (List.mem_append_left _ (List.mem_append_left _ (List.mem_append_left _ (List.mem_append_left _ (List.mem_append_right _ h9))))))) hP 0 (gw_o10 X s3 gk_0.1) rfl 5 (by decide) (by decide +kernel) rfl rfl dX10_safe_54 ?_
      refine lv_iload_n hx hb dX10_safe_57 rfl (lv_at hl 1 rfl) ?_
      refine lv_iload_n hx hb dX10_safe_58 rfl (lv_at hl 2 rfl) ?_
      refine lv_iload_n hx hb dX10_safe_59 rfl (lv_at hl 3 rfl) ?_
      refine lv_iload hx hb dX10_safe_60 (lv_at hl 4 rfl) ?_
      refine gv_ri (gv_runS (n := 2) (rest := [.int a2, .int a1, .ref (X.1 38)]) C0 (mX10_weightAlone l X s3 a3 a4) gX10_safe_X10_weightAlone rfl ⟨rfl, rfl⟩ (by decide +kernel) ⟨by decide, by decide⟩ hP hS rfl hl.1 rfl (Nat.le_of_ble_eq_true rfl) dX10_safe_62 ⟨Nat.zero_le _, Nat.zero_le _⟩) hS (fun H locs hP hS => ?_)
      obtain ⟨v4, s5, hv4, h⟩ := gv_bind2_e h
      refine gv_ri (gv_runV (n := 3) (rest := []) C0 (mX3_length l X s3 a1 a2 (pX10_weightAlone a3 a4) hv4) gX10_safe_X3_length rfl ⟨rfl, rfl⟩ (by decide +kernel) ⟨by decide, by decide⟩ gk_38.1 (by decide) rfl hP hS rfl hl.1 rfl (Nat.le_of_ble_eq_true rfl) dX10_safe_65 ⟨Nat.zero_le _, Nat.zero_le _⟩) hS (fun H locs hP hS => ?_)
      exact Kr _ _ _ _ _ _ (gv_inj h) hP hS dX10_safe_68
    · have h := gv_pos hc h
      refine lv_bipush (v := -2) hx hb dX10_safe_29 (by decide) ?_
      exact Kr _ _ _ _ _ _ (gv_inj h) hP hS dX10_safe_31
  · have h := gv_pos hc h
    refine lv_iconst (v := -1) hx hb dX10_safe_11 (by decide) ?_
    exact Kr _ _ _ _ _ _ (gv_inj h) hP hS dX10_safe_12
theorem mX10_safe (l : Launch) (X : gw_X) (s0 : gs_S) (a1 : Int32) (a2 : Int32) (a3 : Int32) (a4 : Int32) {r : Int32} {τ : gs_S} (h : pX10_safe a1 a2 a3 a4 s0 = some (r, τ)) : Met l yX10_safe wsX10_safe rX10_safe (gm_Pc X s0 [.ref (X.1 0), .int a1, .int a2, .int a3, .int a4]) (gm_Qi X τ r) 0 0 (gw_A X) :=
  gm_of RX10 (by decide) rfl rfl (Nat.le_of_ble_eq_true rfl) (fun p e s m below meth c ls C0 hP hl hS => tX10_safe C0 a1 a2 a3 a4 s0 h (fun H locs ls pc r τ hr hP hS hd => by cases hr; exact gm_reti C0 hP hS hd) hP hS hl)
def pX6_widest_L4 (s0 : gs_S) (v1 : Int32) (v2 : Int32) : Option ((Int32 × Int32) ⊕ (Int32 × Int32)) := if (64 : Int32) ≤ v2 then some (.inr (v1, v2)) else gv_in v2 64 (gv_in v2 64 (gv_in v1 64 (gv_in v1 64 (if ((s0.1 45 v2.toNatClampNeg) - (s0.1 44 v2.toNatClampNeg)) ≤ ((s0.1 45 v1.toNatClampNeg) - (s0.1 44 v1.toNatClampNeg)) then gv_let (v2 + (1 : Int32)) (fun v7 => some (.inl (v1, v7))) else gv_let (v2 + (1 : Int32)) (fun v8 => some (.inl (v2, v8)))))))
def pX6_widest  (s0 : gs_S) : Option (Int32) := gv_bind (gv_loop (fun q => pX6_widest_L4 s0 q.1 q.2) gv_N ((0 : Int32), (1 : Int32))) (fun q => gv_let q.1 (fun v9 => gv_let q.2 (fun v10 => some v9)))
def rX6_widest : Room := { frames := 0, cells := 0, slots := 0, locals := 0 }
set_option maxHeartbeats 4000000 in
set_option maxRecDepth 100000 in
theorem tX6_widest {p : Program} {l : Launch} {e : Env} {s : State} {m : MethodId} {args : Array Value} {below : List Frame} {meth : Method} {c : Code} {X : gw_X} {Q : State → Prop} (C0 : gm_At p s m args meth c X cX6_widest 3 RX6 wsX6_widest (some .int))  (s0 : gs_S) {z : Int32} (h : pX6_widest s0 = some z) (Kr : ∀ (H : Heap) (locs : List Loc) (ls : Array Slot) (pc : Nat) (r : Int32), z = r → gw_P X s0 H → va_S (gw_A X) s.heap H locs → decode cX6_widest pc = .ok (.ireturn, 1) → W p l e rX6_widest s m args below meth c H locs 0 0 Q (F0 m pc ls [.int r])) {H : Heap} {locs : List Loc} {ls : Array Slot} (hP : gw_P X s0 H) (hS : va_S (gw_A X) s.heap H locs) (hl : lv_has ls 3 [(0, .ref (X.1 43))]) : W p l e rX6_widest s m args below meth c H locs 0 0 Q (F0 m 0 ls []) := by
  obtain ⟨hx, hb, hml, hown, hts, hr, hlocks, hC⟩ := id C0
  unfold pX6_widest at h
  refine lv_iconst (v := 0) hx hb dX6_widest_0 (by decide) ?_
  refine lv_istore_n (lv' := [(1, .int (0 : Int32)), (0, .ref (X.1 43))]) hx hb dX6_widest_1 rfl hl (by decide) rfl (fun ls hl => ?_)
  refine lv_iconst (v := 1) hx hb dX6_widest_2 (by decide) ?_
  refine lv_istore_n (lv' := [(2, .int (1 : Int32)), (1, .int (0 : Int32)), (0, .ref (X.1 43))]) hx hb dX6_widest_3 rfl hl (by decide) rfl (fun ls hl => ?_)
  obtain ⟨q10, hq10, h⟩ := gv_bind_e h
  refine gv_loop_ind (Φ := fun q => ∀ (H : Heap) (locs : List Loc) (ls : Array Slot), gw_P X s0 H → va_S (gw_A X) s.heap H locs → lv_has ls 3 [(0, .ref (X.1 43)), (1, .int q.1), (2, .int q.2)] → W p l e rX6_widest s m args below meth c H locs 0 0 Q (F0 m 4 ls [])) (Ψ := fun q => ∀ (H : Heap) (locs : List Loc) (ls : Array Slot), gw_P X s0 H → va_S (gw_A X) s.heap H locs → lv_has ls 3 [(1, .int q.1)] → W p l e rX6_widest s m args below meth c H locs 0 0 Q (F0 m 47 ls [])) ?_ gv_N ((0 : Int32), (1 : Int32)) q10 hq10 ?_ H locs ls hP hS (lv_sub hl [2, 1, 0] rfl)
  · intro q x h Kc Ke H locs ls hP hS hl
    obtain ⟨v1, v2⟩ := q
    have h : pX6_widest_L4 s0 v1 v2 = some x := h
    have hP : gw_P X s0 H := hP
    have hl : lv_has ls 3 [(0, .ref (X.1 43)), (1, .int v1), (2, .int v2)] := hl
    unfold pX6_widest_L4 at h
    refine lv_iload_n hx hb dX6_widest_4 rfl (lv_at hl 2 rfl) ?_
    refine lv_bipush (v := 64) hx hb dX6_widest_5 (by decide) ?_
    refine lv_icmp_ge (tgt := 47) hx hb dX6_widest_7 (by decide) (fun hc => ?_) (fun hc => ?_)
    · have h := gv_pos hc h
      exact Ke _ (gv_inj h) _ _ _ hP hS (lv_sub hl [1] rfl)
    · have h := gv_neg hc h
      refine lv_aload_n hx hb dX6_widest_10 rfl (lv_at hl 0 rfl) ?_
      refine gv_get (ref := "IceByEar$Spans") (C := RX6) (T := TX6) (N := 2) (ci := 6) (v := .ref (X.1 45)) C0 (fun _ h9 => List.mem_cons_of_mem _ (List.mem_append_right _ h9)) hP 43 (gw_o6 X s0 gk_43.1) rfl 1 (by decide) (by decide +kernel) rfl rfl dX6_widest_11 ?_
      refine lv_iload_n hx hb dX6_widest_14 rfl (lv_at hl 2 rfl) ?_
      obtain ⟨hin3, h⟩ := gv_in_e h
      refine gv_iald C0 hP 45 gk_45.1 gk_45.2 hin3 dX6_widest_15 ?_
      refine lv_aload_n hx hb dX6_widest_16 rfl (lv_at hl 0 rfl) ?_
      refine gv_get (ref := "IceByEar$Spans") (C := RX6) (T := TX6) (N := 2) (ci := 6) (v := .ref (X.1 44)) C0 (fun _ h9 => List.mem_cons_of_mem _ (List.mem_append_right _ h9)) hP 43 (gw_o6 X s0 gk_43.1) rfl 0 (by decide) (by decide +kernel) rfl rfl dX6_widest_17 ?_
      refine lv_iload_n hx hb dX6_widest_20 rfl (lv_at hl 2 rfl) ?_
      obtain ⟨hin4, h⟩ := gv_in_e h
      refine gv_iald C0 hP 44 gk_44.1 gk_44.2 hin4 dX6_widest_21 ?_
      refine lv_isub hx hb dX6_widest_22 ?_
      refine lv_aload_n hx hb dX6_widest_23 rfl (lv_at hl 0 rfl) ?_
      refine gv_get (ref := "IceByEar$Spans") (C := RX6) (T := TX6) (N := 2) (ci := 6) (v := .ref (X.1 45)) C0 (fun _ h9 => List.mem_cons_of_mem _ (List.mem_append_right _ h9)) hP 43 (gw_o6 X s0 gk_43.1) rfl 1 (by decide) (by decide +kernel) rfl rfl dX6_widest_24 ?_
      refine lv_iload_n hx hb dX6_widest_27 rfl (lv_at hl 1 rfl) ?_
      obtain ⟨hin5, h⟩ := gv_in_e h
      refine gv_iald C0 hP 45 gk_45.1 gk_45.2 hin5 dX6_widest_28 ?_
      refine lv_aload_n hx hb dX6_widest_29 rfl (lv_at hl 0 rfl) ?_
      refine gv_get (ref := "IceByEar$Spans") (C := RX6) (T := TX6) (N := 2) (ci := 6) (v := .ref (X.1 44)) C0 (fun _ h9 => List.mem_cons_of_mem _ (List.mem_append_right _ h9)) hP 43 (gw_o6 X s0 gk_43.1) rfl 0 (by decide) (by decide +kernel) rfl rfl dX6_widest_30 ?_
      refine lv_iload_n hx hb dX6_widest_33 rfl (lv_at hl 1 rfl) ?_
      obtain ⟨hin6, h⟩ := gv_in_e h
      refine gv_iald C0 hP 44 gk_44.1 gk_44.2 hin6 dX6_widest_34 ?_
      refine lv_isub hx hb dX6_widest_35 ?_
      refine lv_icmp_le (tgt := 41) hx hb dX6_widest_36 (by decide) (fun hc => ?_) (fun hc => ?_)
      · have h := gv_pos hc h
        obtain ⟨v7, ev7⟩ : ∃ y : Int32, y = (v2 + (1 : Int32)) := ⟨_, rfl⟩
        have h := gv_let_e ev7 h
        refine lv_iinc (v := v7) (lv' := [(2, .int v7), (0, .ref (X.1 43)), (1, .int v1)]) hx hb dX6_widest_41 hl (k := 2) rfl (by rw [ev7]; rfl) (by decide) rfl (fun ls hl => ?_)
        refine lv_goto (tgt := 4) hx hb dX6_widest_44 (by decide) ?_
        exact Kc _ (gv_inj h) _ _ _ hP hS (lv_sub hl [1, 2, 0] rfl)
      · have h := gv_neg hc h
        refine lv_iload_n hx hb dX6_widest_39 rfl (lv_at hl 2 rfl) ?_
        refine lv_istore_n (lv' := [(1, .int v2), (0, .ref (X.1 43)), (2, .int v2)]) hx hb dX6_widest_40 rfl hl (by decide) rfl (fun ls hl => ?_)
        obtain ⟨v8, ev8⟩ : ∃ y : Int32, y = (v2 + (1 : Int32)) := ⟨_, rfl⟩
        have h := gv_let_e ev8 h
        refine lv_iinc (v := v8) (lv' := [(2, .int v8), (1, .int v2), (0, .ref (X.1 43))]) hx hb dX6_widest_41 hl (k := 2) rfl (by rw [ev8]; rfl) (by decide) rfl (fun ls hl => ?_)
        refine lv_goto (tgt := 4) hx hb dX6_widest_44 (by decide) ?_
        exact Kc _ (gv_inj h) _ _ _ hP hS (lv_sub hl [2, 1, 0] rfl)
  · obtain ⟨v9, v10⟩ := q10
    have h := gv_let_e (x := v9) rfl h
    have h := gv_let_e (x := v10) rfl h
    intro H locs ls hP hS hl
    have hP : gw_P X s0 H := hP
    have hl : lv_has ls 3 [(1, .int v9)] := hl
    refine lv_iload_n hx hb dX6_widest_47 rfl (lv_at hl 0 rfl) ?_
    exact Kr _ _ _ _ _ (gv_inj h) hP hS dX6_widest_48
theorem mX6_widest (l : Launch) (X : gw_X) (s0 : gs_S)  {r : Int32} (h : pX6_widest s0 = some r) : Met l yX6_widest wsX6_widest rX6_widest (gm_Pc X s0 [.ref (X.1 43)]) (gm_Qi X s0 r) 0 0 (gw_A X) :=
  gm_of RX6 (by decide) rfl rfl (Nat.le_of_ble_eq_true rfl) (fun p e s m below meth c ls C0 hP hl hS => tX6_widest C0  s0 h (fun H locs ls pc r hr hP hS hd => by subst hr; exact gm_reti C0 hP hS hd) hP hS hl)
def pX10_drum  (s0 : gs_S) : Option (Int32 × gs_S) := gv_bind2 (pX6_find (15 : Int32) s0) (fun v1 s2 => if v1 = 0 then some ((-4 : Int32), s2) else gv_bind (pX6_widest s2) (fun v3 => some (v3, s2)))
def rX10_drum : Room := { frames := 4, cells := 0, slots := 0, locals := 108 }
set_option maxHeartbeats 4000000 in
set_option maxRecDepth 100000 in
theorem tX10_drum {p : Program} {l : Launch} {e : Env} {s : State} {m : MethodId} {args : Array Value} {below : List Frame} {meth : Method} {c : Code} {X : gw_X} {Q : State → Prop} (C0 : gm_At p s m args meth c X cX10_drum 1 RX10 wsX10_drum (some .int))  (s0 : gs_S) {z : Int32 × gs_S} (h : pX10_drum s0 = some z) (Kr : ∀ (H : Heap) (locs : List Loc) (ls : Array Slot) (pc : Nat) (r : Int32) (τ : gs_S), z = (r, τ) → gw_P X τ H → va_S (gw_A X) s.heap H locs → decode cX10_drum pc = .ok (.ireturn, 1) → W p l e rX10_drum s m args below meth c H locs 0 0 Q (F0 m pc ls [.int r])) {H : Heap} {locs : List Loc} {ls : Array Slot} (hP : gw_P X s0 H) (hS : va_S (gw_A X) s.heap H locs) (hl : lv_has ls 1 [(0, .ref (X.1 0))]) : W p l e rX10_drum s m args below meth c H locs 0 0 Q (F0 m 0 ls []) := by
  obtain ⟨hx, hb, hml, hown, hts, hr, hlocks, hC⟩ := id C0
  unfold pX10_drum at h
  refine lv_aload_n hx hb dX10_drum_0 rfl (lv_at hl 0 rfl) ?_
  refine gv_get (ref := "IceByEar") (C := RX10) (T := TX10) (N := 8) (ci := 10) (v := .ref (X.1 43)) C0 (fun _ h9 => List.mem_cons_of_mem _ (List.mem_append_left _ (List.mem_append_left _ (List.mem_append_left _ (List.mem_append_left _ (List.mem_append_right _ h9)))))) hP 0 (gw_o10 X s0 gk_0.1) rfl 6 (by decide) (by decide +kernel) rfl rfl dX10_drum_1 ?_
  refine lv_aload_n hx hb dX10_drum_4 rfl (lv_at hl 0 rfl) ?_
  refine gv_get (ref := "IceByEar") (C := RX10) (T := TX10) (N := 8) (ci := 10) (v := .ref (X.1 1)) C0 (fun _ h9 => List.mem_cons_of_mem _ (List.mem_append_left _ (List.mem_append_left _ (List.mem_append_left _ (List.mem_append_left _ (List.mem_append_right _ h9)))))) hP 0 (gw_o10 X s0 gk_0.1) rfl 0 (by decide) (by decide +kernel) rfl rfl dX10_drum_5 ?_
  refine lv_bipush (v := 15) hx hb dX10_drum_8 (by decide) ?_
  obtain ⟨v1, s2, hv1, h⟩ := gv_bind2_e h
  refine gv_ri (gv_runV (n := 2) (rest := []) C0 (mX6_find l X s0 (15 : Int32) hv1) gX10_drum_X6_find rfl ⟨rfl, rfl⟩ (by decide +kernel) ⟨by decide, by decide⟩ gk_43.1 (by decide) rfl hP hS rfl hl.1 rfl (Nat.le_of_ble_eq_true rfl) dX10_drum_10 ⟨Nat.zero_le _, Nat.zero_le _⟩) hS (fun H locs hP hS => ?_)
  refine lv_if_eq (tgt := 26) hx hb dX10_drum_13 (by decide) (fun hc => ?_) (fun hc => ?_)
  · have h := gv_pos hc h
    refine lv_bipush (v := -4) hx hb dX10_drum_26 (by decide) ?_
    exact Kr _ _ _ _ _ _ (gv_inj h) hP hS dX10_drum_28
  · have h := gv_neg hc h
    refine lv_aload_n hx hb dX10_drum_16 rfl (lv_at hl 0 rfl) ?_
    refine gv_get (ref := "IceByEar") (C := RX10) (T := TX10) (N := 8) (ci := 10) (v := .ref (X.1 43)) C0 (fun _ h9 => List.mem_cons_of_mem _ (List.mem_append_left _ (List.mem_append_left _ (List.mem_append_left _ (List.mem_append_left _ (List.mem_append_right _ h9)))))) hP 0 (gw_o10 X s2 gk_0.1) rfl 6 (by decide) (by decide +kernel) rfl rfl dX10_drum_17 ?_
    obtain ⟨v3, hv3, h⟩ := gv_bind_e h
    refine gv_ri (gv_runV (n := 0) (rest := []) C0 (mX6_widest l X s2  hv3) gX10_drum_X6_widest rfl ⟨rfl, rfl⟩ (by decide +kernel) ⟨by decide, by decide⟩ gk_43.1 (by decide) rfl hP hS rfl hl.1 rfl (Nat.le_of_ble_eq_true rfl) dX10_drum_20 ⟨Nat.zero_le _, Nat.zero_le _⟩) hS (fun H locs hP hS => ?_)
    refine lv_goto (tgt := 28) hx hb dX10_drum_23 (by decide) ?_
    exact Kr _ _ _ _ _ _ (gv_inj h) hP hS dX10_drum_28
theorem mX10_drum (l : Launch) (X : gw_X) (s0 : gs_S)  {r : Int32} {τ : gs_S} (h : pX10_drum s0 = some (r, τ)) : Met l yX10_drum wsX10_drum rX10_drum (gm_Pc X s0 [.ref (X.1 0)]) (gm_Qi X τ r) 0 0 (gw_A X) :=
  gm_of RX10 (by decide) rfl rfl (Nat.le_of_ble_eq_true rfl) (fun p e s m below meth c ls C0 hP hl hS => tX10_drum C0  s0 h (fun H locs ls pc r τ hr hP hS hd => by cases hr; exact gm_reti C0 hP hS hd) hP hS hl)
def pJ6_bitCount_0f7a4 (a0 : Int32) : Int32 := gv_let (a0 - (((a0.toUInt32 >>> ((1 : Int32).toUInt32 &&& Int32.toUInt32 31)).toInt32) &&& (1431655765 : Int32))) (fun v1 => gv_let ((v1 &&& (858993459 : Int32)) + (((v1.toUInt32 >>> ((2 : Int32).toUInt32 &&& Int32.toUInt32 31)).toInt32) &&& (858993459 : Int32))) (fun v2 => gv_let ((v2 + ((v2.toUInt32 >>> ((4 : Int32).toUInt32 &&& Int32.toUInt32 31)).toInt32)) &&& (252645135 : Int32)) (fun v3 => gv_let (v3 + ((v3.toUInt32 >>> ((8 : Int32).toUInt32 &&& Int32.toUInt32 31)).toInt32)) (fun v4 => gv_let (v4 + ((v4.toUInt32 >>> ((16 : Int32).toUInt32 &&& Int32.toUInt32 31)).toInt32)) (fun v5 => (v5 &&& (63 : Int32)))))))
def rJ6_bitCount_0f7a4 : Room := { frames := 0, cells := 0, slots := 0, locals := 0 }
set_option maxHeartbeats 4000000 in
set_option maxRecDepth 100000 in
theorem tJ6_bitCount_0f7a4 {p : Program} {l : Launch} {e : Env} {s : State} {m : MethodId} {args : Array Value} {below : List Frame} {meth : Method} {c : Code} {X : gw_X} {Q : State → Prop} (C0 : gm_At p s m args meth c X cJ6_bitCount_0f7a4 1 RJ6 wsJ6_bitCount_0f7a4 (some .int)) (a0 : Int32) (s0 : gs_S) {z : Int32} (h : pJ6_bitCount_0f7a4 a0 = z) (Kr : ∀ (H : Heap) (locs : List Loc) (ls : Array Slot) (pc : Nat) (r : Int32), z = r → gw_P X s0 H → va_S (gw_A X) s.heap H locs → decode cJ6_bitCount_0f7a4 pc = .ok (.ireturn, 1) → W p l e rJ6_bitCount_0f7a4 s m args below meth c H locs 0 0 Q (F0 m pc ls [.int r])) {H : Heap} {locs : List Loc} {ls : Array Slot} (hP : gw_P X s0 H) (hS : va_S (gw_A X) s.heap H locs) (hl : lv_has ls 1 [(0, .int a0)]) : W p l e rJ6_bitCount_0f7a4 s m args below meth c H locs 0 0 Q (F0 m 0 ls []) := by
  obtain ⟨hx, hb, hml, hown, hts, hr, hlocks, hC⟩ := id C0
  unfold pJ6_bitCount_0f7a4 at h
  refine lv_iload_n hx hb dJ6_bitCount_0f7a4_0 rfl (lv_at hl 0 rfl) ?_
  refine lv_iload_n hx hb dJ6_bitCount_0f7a4_1 rfl (lv_at hl 0 rfl) ?_
  refine lv_iconst (v := 1) hx hb dJ6_bitCount_0f7a4_2 (by decide) ?_
  refine lv_iushr hx hb dJ6_bitCount_0f7a4_3 rfl ?_
  refine lv_ldcw (v := 1431655765) hx hb hown (hts (.constant RJ6 265 (1431655765)) (by decide +kernel)) dJ6_bitCount_0f7a4_4 ?_
  refine lv_iand hx hb dJ6_bitCount_0f7a4_7 ?_
  refine lv_isub hx hb dJ6_bitCount_0f7a4_8 ?_
  refine lv_topi (fun v1 ev1 => ?_)
  have h := gv_let_e ev1 h
  refine lv_istore_n (lv' := [(0, .int v1)]) hx hb dJ6_bitCount_0f7a4_9 rfl hl (by decide) rfl (fun ls hl => ?_)
  refine lv_iload_n hx hb dJ6_bitCount_0f7a4_10 rfl (lv_at hl 0 rfl) ?_
  refine lv_ldcw (v := 858993459) hx hb hown (hts (.constant RJ6 266 (858993459)) (by decide +kernel)) dJ6_bitCount_0f7a4_11 ?_
  refine lv_iand hx hb dJ6_bitCount_0f7a4_14 ?_
  refine lv_iload_n hx hb dJ6_bitCount_0f7a4_15 rfl (lv_at hl 0 rfl) ?_
  refine lv_iconst (v := 2) hx hb dJ6_bitCount_0f7a4_16 (by decide) ?_
  refine lv_iushr hx hb dJ6_bitCount_0f7a4_17 rfl ?_
  refine lv_ldcw (v := 858993459) hx hb hown (hts (.constant RJ6 266 (858993459)) (by decide +kernel)) dJ6_bitCount_0f7a4_18 ?_
  refine lv_iand hx hb dJ6_bitCount_0f7a4_21 ?_
  refine lv_iadd hx hb dJ6_bitCount_0f7a4_22 ?_
  refine lv_topi (fun v2 ev2 => ?_)
  have h := gv_let_e ev2 h
  refine lv_istore_n (lv' := [(0, .int v2)]) hx hb dJ6_bitCount_0f7a4_23 rfl hl (by decide) rfl (fun ls hl => ?_)
  refine lv_iload_n hx hb dJ6_bitCount_0f7a4_24 rfl (lv_at hl 0 rfl) ?_
  refine lv_iload_n hx hb dJ6_bitCount_0f7a4_25 rfl (lv_at hl 0 rfl) ?_
  refine lv_iconst (v := 4) hx hb dJ6_bitCount_0f7a4_26 (by decide) ?_
  refine lv_iushr hx hb dJ6_bitCount_0f7a4_27 rfl ?_
  refine lv_iadd hx hb dJ6_bitCount_0f7a4_28 ?_
  refine lv_ldcw (v := 252645135) hx hb hown (hts (.constant RJ6 267 (252645135)) (by decide +kernel)) dJ6_bitCount_0f7a4_29 ?_
  refine lv_iand hx hb dJ6_bitCount_0f7a4_32 ?_
  refine lv_topi (fun v3 ev3 => ?_)
  have h := gv_let_e ev3 h
  refine lv_istore_n (lv' := [(0, .int v3)]) hx hb dJ6_bitCount_0f7a4_33 rfl hl (by decide) rfl (fun ls hl => ?_)
  refine lv_iload_n hx hb dJ6_bitCount_0f7a4_34 rfl (lv_at hl 0 rfl) ?_
  refine lv_iload_n hx hb dJ6_bitCount_0f7a4_35 rfl (lv_at hl 0 rfl) ?_
  refine lv_bipush (v := 8) hx hb dJ6_bitCount_0f7a4_36 (by decide) ?_
  refine lv_iushr hx hb dJ6_bitCount_0f7a4_38 rfl ?_
  refine lv_iadd hx hb dJ6_bitCount_0f7a4_39 ?_
  refine lv_topi (fun v4 ev4 => ?_)
  have h := gv_let_e ev4 h
  refine lv_istore_n (lv' := [(0, .int v4)]) hx hb dJ6_bitCount_0f7a4_40 rfl hl (by decide) rfl (fun ls hl => ?_)
  refine lv_iload_n hx hb dJ6_bitCount_0f7a4_41 rfl (lv_at hl 0 rfl) ?_
  refine lv_iload_n hx hb dJ6_bitCount_0f7a4_42 rfl (lv_at hl 0 rfl) ?_
  refine lv_bipush (v := 16) hx hb dJ6_bitCount_0f7a4_43 (by decide) ?_
  refine lv_iushr hx hb dJ6_bitCount_0f7a4_45 rfl ?_
  refine lv_iadd hx hb dJ6_bitCount_0f7a4_46 ?_
  refine lv_topi (fun v5 ev5 => ?_)
  have h := gv_let_e ev5 h
  refine lv_istore_n (lv' := [(0, .int v5)]) hx hb dJ6_bitCount_0f7a4_47 rfl hl (by decide) rfl (fun ls hl => ?_)
  refine lv_iload_n hx hb dJ6_bitCount_0f7a4_48 rfl (lv_at hl 0 rfl) ?_
  refine lv_bipush (v := 63) hx hb dJ6_bitCount_0f7a4_49 (by decide) ?_
  refine lv_iand hx hb dJ6_bitCount_0f7a4_51 ?_
  exact Kr _ _ _ _ _ h.symm hP hS dJ6_bitCount_0f7a4_52
theorem mJ6_bitCount_0f7a4 (l : Launch) (X : gw_X) (s0 : gs_S) (a0 : Int32) : Met l yJ6_bitCount_0f7a4 wsJ6_bitCount_0f7a4 rJ6_bitCount_0f7a4 (gm_Pc X s0 [.int a0]) (gm_Qi X s0 (pJ6_bitCount_0f7a4 a0)) 0 0 (gw_A X) :=
  gm_of RJ6 (by decide) rfl rfl (Nat.le_of_ble_eq_true rfl) (fun p e s m below meth c ls C0 hP hl hS => tJ6_bitCount_0f7a4 C0 a0 s0 rfl (fun H locs ls pc r hr hP hS hd => by subst hr; exact gm_reti C0 hP hS hd) hP hS hl)
def pX10_liars_L14 (v1 : Int32) (v3 : Int32) (v4 : Int32) (v5 : Int32) (s6 : gs_S) : Option ((Int32 × Int32 × Int32 × gs_S) ⊕ (Int32 × Int32 × Int32 × gs_S)) := if (15 : Int32) < v5 then some (.inr (v3, v4, v5, s6)) else if (pJ6_bitCount_0f7a4 v5) = v1 then gv_bind2 (pX6_find ((15 : Int32) &&& (v5 ^^^ (-1 : Int32))) s6) (fun v8 s9 => if v8 = 0 then gv_let (v5 + (1 : Int32)) (fun v10 => some (.inl (v3, v4, v10, s9))) else gv_let (v3 + (1 : Int32)) (fun v11 => gv_let (v5 + (1 : Int32)) (fun v12 => some (.inl (v11, v5, v12, s9))))) else gv_let (v5 + (1 : Int32)) (fun v7 => some (.inl (v3, v4, v7, s6)))
def pX10_liars_L2  (v1 : Int32) (s2 : gs_S) : Option ((Int32 × gs_S) ⊕ ((Int32 × gs_S) ⊕ (Int32 × gs_S))) := if (4 : Int32) < v1 then some (.inr (.inl (v1, s2))) else gv_bind (gv_loop (fun q => pX10_liars_L14 v1 q.1 q.2.1 q.2.2.1 q.2.2.2) gv_N ((0 : Int32), (0 : Int32), (0 : Int32), s2)) (fun q => gv_let q.1 (fun v13 => gv_let q.2.1 (fun v14 => gv_let q.2.2.1 (fun v15 => gv_let q.2.2.2 (fun s16 => if v13 ≤ 0 then gv_let (v1 + (1 : Int32)) (fun v17 => some (.inl (v17, s16))) else if v13 = (1 : Int32) then some (.inr (.inr (v14, s16))) else some (.inr (.inr ((-4 : Int32), s16))))))))
def pX10_liars  (s0 : gs_S) : Option (Int32 × gs_S) := gv_bret (gv_loop (fun q => pX10_liars_L2 q.1 q.2) gv_N ((0 : Int32), s0)) (fun r => r) (fun q => gv_let q.1 (fun v19 => gv_let q.2 (fun s20 => some ((-4 : Int32), s20))))
def rX10_liars : Room := { frames := 4, cells := 0, slots := 0, locals := 108 }
set_option maxHeartbeats 4000000 in
set_option maxRecDepth 100000 in
theorem tX10_liars {p : Program} {l : Launch} {e : Env} {s : State} {m : MethodId} {args : Array Value} {below : List Frame} {meth : Method} {c : Code} {X : gw_X} {Q : State → Prop} (C0 : gm_At p s m args meth c X cX10_liars 5 RX10 wsX10_liars (some .int))  (s0 : gs_S) {z : Int32 × gs_S} (h : pX10_liars s0 = some z) (Kr : ∀ (H : Heap) (locs : List Loc) (ls : Array Slot) (pc : Nat) (r : Int32) (τ : gs_S), z = (r, τ) → gw_P X τ H → va_S (gw_A X) s.heap H locs → decode cX10_liars pc = .ok (.ireturn, 1) → W p l e rX10_liars s m args below meth c H locs 0 0 Q (F0 m pc ls [.int r])) {H : Heap} {locs : List Loc} {ls : Array Slot} (hP : gw_P X s0 H) (hS : va_S (gw_A X) s.heap H locs) (hl : lv_has ls 5 [(0, .ref (X.1 0))]) : W p l e rX10_liars s m args below meth c H locs 0 0 Q (F0 m 0 ls []) := by
  obtain ⟨hx, hb, hml, hown, hts, hr, hlocks, hC⟩ := id C0
  unfold pX10_liars at h
  refine lv_iconst (v := 0) hx hb dX10_liars_0 (by decide) ?_
  refine lv_istore_n (lv' := [(1, .int (0 : Int32)), (0, .ref (X.1 0))]) hx hb dX10_liars_1 rfl hl (by decide) rfl (fun ls hl => ?_)
  obtain ⟨q20, hq20, h1q20, h2q20⟩ := gv_bret_e h
  refine gv_loop_ind (Φ := fun q => ∀ (H : Heap) (locs : List Loc) (ls : Array Slot), gw_P X q.2 H → va_S (gw_A X) s.heap H locs → lv_has ls 5 [(0, .ref (X.1 0)), (1, .int q.1)] → W p l e rX10_liars s m args below meth c H locs 0 0 Q (F0 m 2 ls [])) (Ψ := fun ex => (∀ q : Int32 × gs_S, ex = .inl q → ∀ (H : Heap) (locs : List Loc) (ls : Array Slot), gw_P X q.2 H → va_S (gw_A X) s.heap H locs → lv_has ls 5 [] → W p l e rX10_liars s m args below meth c H locs 0 0 Q (F0 m 85 ls [])) ∧ (∀ r : Int32 × gs_S, ex = .inr r → ∀ (H : Heap) (locs : List Loc) (ls : Array Slot) (pc : Nat), gw_P X r.2 H → va_S (gw_A X) s.heap H locs → decode cX10_liars pc = .ok (.ireturn, 1) → W p l e rX10_liars s m args below meth c H locs 0 0 Q (F0 m pc ls [.int r.1]))) ?_ gv_N ((0 : Int32), s0) q20 hq20 ⟨?_, ?_⟩ H locs ls hP hS (lv_sub hl [1, 0] rfl)
  · intro q x h Kc Ke H locs ls hP hS hl
    obtain ⟨v1, s2⟩ := q
    have h : pX10_liars_L2 v1 s2 = some x := h
    have hP : gw_P X s2 H := hP
    have hl : lv_has ls 5 [(0, .ref (X.1 0)), (1, .int v1)] := hl
    unfold pX10_liars_L2 at h
    refine lv_iload_n hx hb dX10_liars_2 rfl (lv_at hl 1 rfl) ?_
    refine lv_iconst (v := 4) hx hb dX10_liars_3 (by decide) ?_
    refine lv_icmp_gt (tgt := 85) hx hb dX10_liars_4 (by decide) (fun hc => ?_) (fun hc => ?_)
    · have h := gv_pos hc h
      exact (Ke _ (gv_inj h)).1 _ rfl _ _ _ hP hS (lv_sub hl [] rfl)
    · have h := gv_neg hc h
      refine lv_iconst (v := 0) hx hb dX10_liars_7 (by decide) ?_
      refine lv_istore_n (lv' := [(2, .int (0 : Int32)), (0, .ref (X.1 0)), (1, .int v1)]) hx hb dX10_liars_8 rfl hl (by decide) rfl (fun ls hl => ?_)
      refine lv_iconst (v := 0) hx hb dX10_liars_9 (by decide) ?_
      refine lv_istore_n (lv' := [(3, .int (0 : Int32)), (2, .int (0 : Int32)), (0, .ref (X.1 0)), (1, .int v1)]) hx hb dX10_liars_10 rfl hl (by decide) rfl (fun ls hl => ?_)
      refine lv_iconst (v := 0) hx hb dX10_liars_11 (by decide) ?_
      refine lv_istore (lv' := [(4, .int (0 : Int32)), (3, .int (0 : Int32)), (2, .int (0 : Int32)), (0, .ref (X.1 0)), (1, .int v1)]) hx hb dX10_liars_12 hl (by decide) rfl (fun ls hl => ?_)
      obtain ⟨q17, hq17, h⟩ := gv_bind_e h
      refine gv_loop_ind (Φ := fun q => ∀ (H : Heap) (locs : List Loc) (ls : Array Slot), gw_P X q.2.2.2 H → va_S (gw_A X) s.heap H locs → lv_has ls 5 [(0, .ref (X.1 0)), (1, .int v1), (2, .int q.1), (3, .int q.2.1), (4, .int q.2.2.1)] → W p l e rX10_liars s m args below meth c H locs 0 0 Q (F0 m 14 ls [])) (Ψ := fun q => ∀ (H : Heap) (locs : List Loc) (ls : Array Slot), gw_P X q.2.2.2 H → va_S (gw_A X) s.heap H locs → lv_has ls 5 [(0, .ref (X.1 0)), (1, .int v1), (2, .int q.1), (3, .int q.2.1)] → W p l e rX10_liars s m args below meth c H locs 0 0 Q (F0 m 63 ls [])) ?_ gv_N ((0 : Int32), (0 : Int32), (0 : Int32), s2) q17 hq17 ?_ H locs ls hP hS (lv_sub hl [3, 4, 2, 1, 0] rfl)
      · intro q x h Kc Ke H locs ls hP hS hl
        obtain ⟨v3, v4, v5, s6⟩ := q
        have h : pX10_liars_L14 v1 v3 v4 v5 s6 = some x := h
        have hP : gw_P X s6 H := hP
        have hl : lv_has ls 5 [(0, .ref (X.1 0)), (1, .int v1), (2, .int v3), (3, .int v4), (4, .int v5)] := hl
        unfold pX10_liars_L14 at h
        refine lv_iload hx hb dX10_liars_14 (lv_at hl 4 rfl) ?_
        refine lv_bipush (v := 15) hx hb dX10_liars_16 (by decide) ?_
        refine lv_icmp_gt (tgt := 63) hx hb dX10_liars_18 (by decide) (fun hc => ?_) (fun hc => ?_)
        · have h := gv_pos hc h
          exact Ke _ (gv_inj h) _ _ _ hP hS (lv_sub hl [0, 1, 2, 3] rfl)
        · have h := gv_neg hc h
          refine lv_iload hx hb dX10_liars_21 (lv_at hl 4 rfl) ?_
          refine gv_ri (gv_runS (n := 1) (rest := []) C0 (mJ6_bitCount_0f7a4 l X s6 v5) gX10_liars_J6_bitCount_0f7a4 rfl ⟨rfl, rfl⟩ (by decide +kernel) ⟨by decide, by decide⟩ hP hS rfl hl.1 rfl (Nat.le_of_ble_eq_true rfl) dX10_liars_23 ⟨Nat.zero_le _, Nat.zero_le _⟩) hS (fun H locs hP hS => ?_)
          refine lv_iload_n hx hb dX10_liars_26 rfl (lv_at hl 1 rfl) ?_
          refine lv_icmp_ne (tgt := 57) hx hb dX10_liars_27 (by decide) (fun hc => ?_) (fun hc => ?_)
          · have h := gv_neg hc h
            obtain ⟨v7, ev7⟩ : ∃ y : Int32, y = (v5 + (1 : Int32)) := ⟨_, rfl⟩
            have h := gv_let_e ev7 h
            refine lv_iinc (v := v7) (lv' := [(4, .int v7), (0, .ref (X.1 0)), (1, .int v1), (2, .int v3), (3, .int v4)]) hx hb dX10_liars_57 hl (k := 4) rfl (by rw [ev7]; rfl) (by decide) rfl (fun ls hl => ?_)
            refine lv_goto (tgt := 14) hx hb dX10_liars_60 (by decide) ?_
            exact Kc _ (gv_inj h) _ _ _ hP hS (lv_sub hl [1, 2, 3, 4, 0] rfl)
          · have h := gv_pos hc h
            refine lv_aload_n hx hb dX10_liars_30 rfl (lv_at hl 0 rfl) ?_
            refine gv_get (ref := "IceByEar") (C := RX10) (T := TX10) (N := 8) (ci := 10) (v := .ref (X.1 43)) C0 (fun _ h9 => List.mem_cons_of_mem _ (List.mem_append_left _ (List.mem_append_left _ (List.mem_append_left _ (List.mem_append_left _ (List.mem_append_right _ h9)))))) hP 0 (gw_o10 X s6 gk_0.1) rfl 6 (by decide) (by decide +kernel) rfl rfl dX10_liars_31 ?_
            refine lv_aload_n hx hb dX10_liars_34 rfl (lv_at hl 0 rfl) ?_
            refine gv_get (ref := "IceByEar") (C := RX10) (T := TX10) (N := 8) (ci := 10) (v := .ref (X.1 1)) C0 (fun _ h9 => List.mem_cons_of_mem _ (List.mem_append_left _ (List.mem_append_left _ (List.mem_append_left _ (List.mem_append_left _ (List.mem_append_right _ h9)))))) hP 0 (gw_o10 X s6 gk_0.1) rfl 0 (by decide) (by decide +kernel) rfl rfl dX10_liars_35 ?_
            refine lv_bipush (v := 15) hx hb dX10_liars_38 (by decide) ?_
            refine lv_iload hx hb dX10_liars_40 (lv_at hl 4 rfl) ?_
            refine lv_iconst (v := -1) hx hb dX10_liars_42 (by decide) ?_
            refine lv_ixor hx hb dX10_liars_43 ?_
            refine lv_iand hx hb dX10_liars_44 ?_
            obtain ⟨v8, s9, hv8, h⟩ := gv_bind2_e h
            refine gv_ri (gv_runV (n := 2) (rest := []) C0 (mX6_find l X s6 ((15 : Int32) &&& (v5 ^^^ (-1 : Int32))) hv8) gX10_liars_X6_find rfl ⟨rfl, rfl⟩ (by decide +kernel) ⟨by decide, by decide⟩ gk_43.1 (by decide) rfl hP hS rfl hl.1 rfl (Nat.le_of_ble_eq_true rfl) dX10_liars_45 ⟨Nat.zero_le _, Nat.zero_le _⟩) hS (fun H locs hP hS => ?_)
            refine lv_if_eq (tgt := 57) hx hb dX10_liars_48 (by decide) (fun hc => ?_) (fun hc => ?_)
            · have h := gv_pos hc h
              obtain ⟨v10, ev10⟩ : ∃ y : Int32, y = (v5 + (1 : Int32)) := ⟨_, rfl⟩
              have h := gv_let_e ev10 h
              refine lv_iinc (v := v10) (lv' := [(4, .int v10), (0, .ref (X.1 0)), (1, .int v1), (2, .int v3), (3, .int v4)]) hx hb dX10_liars_57 hl (k := 4) rfl (by rw [ev10]; rfl) (by decide) rfl (fun ls hl => ?_)
              refine lv_goto (tgt := 14) hx hb dX10_liars_60 (by decide) ?_
              exact Kc _ (gv_inj h) _ _ _ hP hS (lv_sub hl [1, 2, 3, 4, 0] rfl)
            · have h := gv_neg hc h
              obtain ⟨v11, ev11⟩ : ∃ y : Int32, y = (v3 + (1 : Int32)) := ⟨_, rfl⟩
              have h := gv_let_e ev11 h
              refine lv_iinc (v := v11) (lv' := [(2, .int v11), (0, .ref (X.1 0)), (1, .int v1), (3, .int v4), (4, .int v5)]) hx hb dX10_liars_51 hl (k := 2) rfl (by rw [ev11]; rfl) (by decide) rfl (fun ls hl => ?_)
              refine lv_iload hx hb dX10_liars_54 (lv_at hl 4 rfl) ?_
              refine lv_istore_n (lv' := [(3, .int v5), (2, .int v11), (0, .ref (X.1 0)), (1, .int v1), (4, .int v5)]) hx hb dX10_liars_56 rfl hl (by decide) rfl (fun ls hl => ?_)
              obtain ⟨v12, ev12⟩ : ∃ y : Int32, y = (v5 + (1 : Int32)) := ⟨_, rfl⟩
              have h := gv_let_e ev12 h
              refine lv_iinc (v := v12) (lv' := [(4, .int v12), (3, .int v5), (2, .int v11), (0, .ref (X.1 0)), (1, .int v1)]) hx hb dX10_liars_57 hl (k := 4) rfl (by rw [ev12]; rfl) (by decide) rfl (fun ls hl => ?_)
              refine lv_goto (tgt := 14) hx hb dX10_liars_60 (by decide) ?_
              exact Kc _ (gv_inj h) _ _ _ hP hS (lv_sub hl [3, 4, 2, 1, 0] rfl)
      · obtain ⟨v13, v14, v15, s16⟩ := q17
        have h := gv_let_e (x := v13) rfl h
        have h := gv_let_e (x := v14) rfl h
        have h := gv_let_e (x := v15) rfl h
        have h := gv_let_e (x := s16) rfl h
        intro H locs ls hP hS hl
        have hP : gw_P X s16 H := hP
        have hl : lv_has ls 5 [(0, .ref (X.1 0)), (1, .int v1), (2, .int v13), (3, .int v14)] := hl
        refine lv_iload_n hx hb dX10_liars_63 rfl (lv_at hl 2 rfl) ?_
        refine lv_if_le (tgt := 79) hx hb dX10_liars_64 (by decide) (fun hc => ?_) (fun hc => ?_)
        · have h := gv_pos hc h
          obtain ⟨v17, ev17⟩ : ∃ y : Int32, y = (v1 + (1 : Int32)) := ⟨_, rfl⟩
          have h := gv_let_e ev17 h
          refine lv_iinc (v := v17) (lv' := [(1, .int v17), (0, .ref (X.1 0)), (2, .int v13), (3, .int v14)]) hx hb dX10_liars_79 hl (k := 1) rfl (by rw [ev17]; rfl) (by decide) rfl (fun ls hl => ?_)
          refine lv_goto (tgt := 2) hx hb dX10_liars_82 (by decide) ?_
          exact Kc _ (gv_inj h) _ _ _ hP hS (lv_sub hl [1, 0] rfl)
        · have h := gv_neg hc h
          refine lv_iload_n hx hb dX10_liars_67 rfl (lv_at hl 2 rfl) ?_
          refine lv_iconst (v := 1) hx hb dX10_liars_68 (by decide) ?_
          refine lv_icmp_ne (tgt := 76) hx hb dX10_liars_69 (by decide) (fun hc => ?_) (fun hc => ?_)
          · have h := gv_neg hc h
            refine lv_bipush (v := -4) hx hb dX10_liars_76 (by decide) ?_
            exact (Ke _ (gv_inj h)).2 _ rfl _ _ _ _ hP hS dX10_liars_78
          · have h := gv_pos hc h
            refine lv_iload_n hx hb dX10_liars_72 rfl (lv_at hl 3 rfl) ?_
            refine lv_goto (tgt := 78) hx hb dX10_liars_73 (by decide) ?_
            exact (Ke _ (gv_inj h)).2 _ rfl _ _ _ _ hP hS dX10_liars_78
  · intro q hex H locs ls hP hS hl
    have h := h1q20 q hex
    obtain ⟨v19, s20⟩ := q
    have h := gv_let_e (x := v19) rfl h
    have h := gv_let_e (x := s20) rfl h
    have hP : gw_P X s20 H := hP
    have hl : lv_has ls 5 [] := hl
    refine lv_bipush (v := -4) hx hb dX10_liars_85 (by decide) ?_
    exact Kr _ _ _ _ _ _ (gv_inj h) hP hS dX10_liars_87
  · intro r hex H locs ls pc hP hS hd
    exact Kr _ _ _ _ _ _ (h2q20 r hex).symm hP hS hd
theorem mX10_liars (l : Launch) (X : gw_X) (s0 : gs_S)  {r : Int32} {τ : gs_S} (h : pX10_liars s0 = some (r, τ)) : Met l yX10_liars wsX10_liars rX10_liars (gm_Pc X s0 [.ref (X.1 0)]) (gm_Qi X τ r) 0 0 (gw_A X) :=
  gm_of RX10 (by decide) rfl rfl (Nat.le_of_ble_eq_true rfl) (fun p e s m below meth c ls C0 hP hl hS => tX10_liars C0  s0 h (fun H locs ls pc r τ hr hP hS hd => by cases hr; exact gm_reti C0 hP hS hd) hP hS hl)
def pX2_copy (t0 : Nat) (t1 : Nat) (s0 : gs_S) : Option (gs_S) := gv_cp (0 : Int32) (0 : Int32) (320 : Int32) 320 320 (gv_let (gs_w s0 (t0 + 1) (va_cpy (s0.1 (t1 + 1)) (s0.1 (t0 + 1)) (0 : Int32).toNatClampNeg (0 : Int32).toNatClampNeg (320 : Int32).toNatClampNeg)) (fun s2 => some s2))
def rX2_copy : Room := { frames := 1, cells := 0, slots := 0, locals := 40 }
set_option maxHeartbeats 4000000 in
set_option maxRecDepth 100000 in
theorem tX2_copy {p : Program} {l : Launch} {e : Env} {s : State} {m : MethodId} {args : Array Value} {below : List Frame} {meth : Method} {c : Code} {X : gw_X} {Q : State → Prop} (C0 : gm_At p s m args meth c X cX2_copy 2 RX2 wsX2_copy none) (t0 : Nat) (ht0 : gk t0 = 2) (t1 : Nat) (ht1 : gk t1 = 2) (s0 : gs_S) {z : gs_S} (h : pX2_copy t0 t1 s0 = some z) (Kr : ∀ (H : Heap) (locs : List Loc) (ls : Array Slot) (pc : Nat) (τ : gs_S), z = τ → gw_P X τ H → va_S (gw_A X) s.heap H locs → decode cX2_copy pc = .ok (.return_, 1) → W p l e rX2_copy s m args below meth c H locs 0 0 Q (F0 m pc ls [])) {H : Heap} {locs : List Loc} {ls : Array Slot} (hP : gw_P X s0 H) (hS : va_S (gw_A X) s.heap H locs) (hl : lv_has ls 2 [(0, .ref (X.1 t0)), (1, .ref (X.1 t1))]) : W p l e rX2_copy s m args below meth c H locs 0 0 Q (F0 m 0 ls []) := by
  obtain ⟨hx, hb, hml, hown, hts, hr, hlocks, hC⟩ := id C0
  unfold pX2_copy at h
  refine lv_aload_n hx hb dX2_copy_0 rfl (lv_at hl 1 rfl) ?_
  refine gv_get (ref := "IceByEar$Ice") (C := RX2) (T := TX2) (N := 1) (ci := 2) (v := .ref (X.1 (t1 + 1))) C0 (fun _ h9 => List.mem_cons_of_mem _ (List.mem_append_right _ h9)) hP t1 (gw_o2 X s0 ht1) rfl 0 (by decide) (by decide +kernel) rfl rfl dX2_copy_1 ?_
  refine lv_iconst (v := 0) hx hb dX2_copy_4 (by decide) ?_
  refine lv_aload_n hx hb dX2_copy_5 rfl (lv_at hl 0 rfl) ?_
  refine gv_get (ref := "IceByEar$Ice") (C := RX2) (T := TX2) (N := 1) (ci := 2) (v := .ref (X.1 (t0 + 1))) C0 (fun _ h9 => List.mem_cons_of_mem _ (List.mem_append_right _ h9)) hP t0 (gw_o2 X s0 ht0) rfl 0 (by decide) (by decide +kernel) rfl rfl dX2_copy_6 ?_
  refine lv_iconst (v := 0) hx hb dX2_copy_9 (by decide) ?_
  refine lv_aload_n hx hb dX2_copy_10 rfl (lv_at hl 0 rfl) ?_
  refine gv_get (ref := "IceByEar$Ice") (C := RX2) (T := TX2) (N := 1) (ci := 2) (v := .ref (X.1 (t0 + 1))) C0 (fun _ h9 => List.mem_cons_of_mem _ (List.mem_append_right _ h9)) hP t0 (gw_o2 X s0 ht0) rfl 0 (by decide) (by decide +kernel) rfl rfl dX2_copy_11 ?_
  refine gv_alen (v := (320 : Int32)) C0 hP (t0 + 1) (gk_o2_0 ht0).1 (gk_o2_0 ht0).2 rfl dX2_copy_14 ?_
  obtain ⟨hcp1, h⟩ := gv_cp_e h
  refine gv_copy C0 hl.1 (by decide +kernel) hP hS (t1 + 1) (t0 + 1) (gk_o2_0 ht1).1 (gk_o2_0 ht1).2 (gk_o2_0 ht0).1 (gk_o2_0 ht0).2 hcp1 (by decide) (by decide +kernel) dX2_copy_15 (fun s2 H locs es2 hP hS => ?_)
  have h := gv_let_e es2 h
  exact Kr _ _ _ _ _ (gv_inj h) hP hS dX2_copy_18
theorem mX2_copy (l : Launch) (X : gw_X) (s0 : gs_S) (t0 : Nat) (ht0 : gk t0 = 2) (t1 : Nat) (ht1 : gk t1 = 2) {τ : gs_S} (h : pX2_copy t0 t1 s0 = some τ) : Met l yX2_copy wsX2_copy rX2_copy (gm_Pc X s0 [.ref (X.1 t0), .ref (X.1 t1)]) (gm_Qv X τ) 0 0 (gw_A X) :=
  gm_of RX2 (by decide) rfl rfl (Nat.le_of_ble_eq_true rfl) (fun p e s m below meth c ls C0 hP hl hS => tX2_copy C0 t0 ht0 t1 ht1 s0 h (fun H locs ls pc τ hr hP hS hd => by subst hr; exact gm_retv C0 hP hS hd) hP hS hl)
def pX9_copy (t0 : Nat) (t1 : Nat) (s0 : gs_S) : Option (gs_S) := gv_cp (0 : Int32) (0 : Int32) (24 : Int32) 24 24 (gv_let (gs_w s0 (t0 + 1) (va_cpy (s0.1 (t1 + 1)) (s0.1 (t0 + 1)) (0 : Int32).toNatClampNeg (0 : Int32).toNatClampNeg (24 : Int32).toNatClampNeg)) (fun s2 => gv_let (gs_u s2 t0 1 (s2.1 t1 1)) (fun s3 => some s3)))
def rX9_copy : Room := { frames := 1, cells := 0, slots := 0, locals := 40 }
set_option maxHeartbeats 4000000 in
set_option maxRecDepth 100000 in
theorem tX9_copy {p : Program} {l : Launch} {e : Env} {s : State} {m : MethodId} {args : Array Value} {below : List Frame} {meth : Method} {c : Code} {X : gw_X} {Q : State → Prop} (C0 : gm_At p s m args meth c X cX9_copy 2 RX9 wsX9_copy none) (t0 : Nat) (ht0 : gk t0 = 9) (t1 : Nat) (ht1 : gk t1 = 9) (s0 : gs_S) {z : gs_S} (h : pX9_copy t0 t1 s0 = some z) (Kr : ∀ (H : Heap) (locs : List Loc) (ls : Array Slot) (pc : Nat) (τ : gs_S), z = τ → gw_P X τ H → va_S (gw_A X) s.heap H locs → decode cX9_copy pc = .ok (.return_, 1) → W p l e rX9_copy s m args below meth c H locs 0 0 Q (F0 m pc ls [])) {H : Heap} {locs : List Loc} {ls : Array Slot} (hP : gw_P X s0 H) (hS : va_S (gw_A X) s.heap H locs) (hl : lv_has ls 2 [(0, .ref (X.1 t0)), (1, .ref (X.1 t1))]) : W p l e rX9_copy s m args below meth c H locs 0 0 Q (F0 m 0 ls []) := by
  obtain ⟨hx, hb, hml, hown, hts, hr, hlocks, hC⟩ := id C0
  unfold pX9_copy at h
  refine lv_aload_n hx hb dX9_copy_0 rfl (lv_at hl 1 rfl) ?_
  refine gv_get (ref := "IceByEar$Way") (C := RX9) (T := TX9) (N := 2) (ci := 9) (v := .ref (X.1 (t1 + 1))) C0 (fun _ h9 => List.mem_cons_of_mem _ (List.mem_append_right _ h9)) hP t1 (gw_o9 X s0 ht1) rfl 0 (by decide) (by decide +kernel) rfl rfl dX9_copy_1 ?_
  refine lv_iconst (v := 0) hx hb dX9_copy_4 (by decide) ?_
  refine lv_aload_n hx hb dX9_copy_5 rfl (lv_at hl 0 rfl) ?_
  refine gv_get (ref := "IceByEar$Way") (C := RX9) (T := TX9) (N := 2) (ci := 9) (v := .ref (X.1 (t0 + 1))) C0 (fun _ h9 => List.mem_cons_of_mem _ (List.mem_append_right _ h9)) hP t0 (gw_o9 X s0 ht0) rfl 0 (by decide) (by decide +kernel) rfl rfl dX9_copy_6 ?_
  refine lv_iconst (v := 0) hx hb dX9_copy_9 (by decide) ?_
  refine lv_bipush (v := 24) hx hb dX9_copy_10 (by decide) ?_
  obtain ⟨hcp1, h⟩ := gv_cp_e h
  refine gv_copy C0 hl.1 (by decide +kernel) hP hS (t1 + 1) (t0 + 1) (gk_o9_0 ht1).1 (gk_o9_0 ht1).2 (gk_o9_0 ht0).1 (gk_o9_0 ht0).2 hcp1 (by decide) (by decide +kernel) dX9_copy_12 (fun s2 H locs es2 hP hS => ?_)
  have h := gv_let_e es2 h
  refine lv_aload_n hx hb dX9_copy_15 rfl (lv_at hl 0 rfl) ?_
  refine lv_aload_n hx hb dX9_copy_16 rfl (lv_at hl 1 rfl) ?_
  refine gv_get (ref := "IceByEar$Way") (C := RX9) (T := TX9) (N := 2) (ci := 9) (v := .int (s2.1 t1 1)) C0 (fun _ h9 => List.mem_cons_of_mem _ (List.mem_append_right _ h9)) hP t1 (gw_o9 X s2 ht1) rfl 1 (by decide) (by decide +kernel) rfl rfl dX9_copy_17 ?_
  refine gv_put (ref := "IceByEar$Way") (C := RX9) (T := TX9) (N := 2) (ci := 9) (v := .int (s2.1 t1 1)) C0 (fun _ h9 => List.mem_cons_of_mem _ (List.mem_append_right _ h9)) tyX9 tyX9_ok nmX9 hP hS t0 (gw_o9 X s2 ht0) rfl 1 (by decide) (by decide +kernel) rfl rfl (tyX9_ok 1 (by decide)) rfl rfl (Nat.le_of_ble_eq_true rfl) (gw_s9_1 ht0 (s2.1 t1 1)) dX9_copy_20 (fun s3 H locs es3 hP hS => ?_)
  have h := gv_let_e es3 h
  exact Kr _ _ _ _ _ (gv_inj h) hP hS dX9_copy_23
theorem mX9_copy (l : Launch) (X : gw_X) (s0 : gs_S) (t0 : Nat) (ht0 : gk t0 = 9) (t1 : Nat) (ht1 : gk t1 = 9) {τ : gs_S} (h : pX9_copy t0 t1 s0 = some τ) : Met l yX9_copy wsX9_copy rX9_copy (gm_Pc X s0 [.ref (X.1 t0), .ref (X.1 t1)]) (gm_Qv X τ) 0 0 (gw_A X) :=
  gm_of RX9 (by decide) rfl rfl (Nat.le_of_ble_eq_true rfl) (fun p e s m below meth c ls C0 hP hl hS => tX9_copy C0 t0 ht0 t1 ht1 s0 h (fun H locs ls pc τ hr hP hS hd => by subst hr; exact gm_retv C0 hP hS hd) hP hS hl)
def pX1_copy (t0 : Nat) (t1 : Nat) (s0 : gs_S) : Option (gs_S) := gv_cp (0 : Int32) (0 : Int32) (4 : Int32) 4 4 (gv_let (gs_w s0 (t0 + 1) (va_cpy (s0.1 (t1 + 1)) (s0.1 (t0 + 1)) (0 : Int32).toNatClampNeg (0 : Int32).toNatClampNeg (4 : Int32).toNatClampNeg)) (fun s2 => gv_cp (0 : Int32) (0 : Int32) (16 : Int32) 16 16 (gv_let (gs_w s2 (t0 + 2) (va_cpy (s2.1 (t1 + 2)) (s2.1 (t0 + 2)) (0 : Int32).toNatClampNeg (0 : Int32).toNatClampNeg (16 : Int32).toNatClampNeg)) (fun s4 => gv_cp (0 : Int32) (0 : Int32) (16 : Int32) 16 16 (gv_let (gs_w s4 (t0 + 3) (va_cpy (s4.1 (t1 + 3)) (s4.1 (t0 + 3)) (0 : Int32).toNatClampNeg (0 : Int32).toNatClampNeg (16 : Int32).toNatClampNeg)) (fun s6 => gv_cp (0 : Int32) (0 : Int32) (16 : Int32) 16 16 (gv_let (gs_w s6 (t0 + 4) (va_cpy (s6.1 (t1 + 4)) (s6.1 (t0 + 4)) (0 : Int32).toNatClampNeg (0 : Int32).toNatClampNeg (16 : Int32).toNatClampNeg)) (fun s8 => gv_let (gs_u s8 t0 4 (s8.1 t1 4)) (fun s9 => some s9)))))))))
def rX1_copy : Room := { frames := 1, cells := 0, slots := 0, locals := 40 }
set_option maxHeartbeats 4000000 in
set_option maxRecDepth 100000 in
theorem tX1_copy {p : Program} {l : Launch} {e : Env} {s : State} {m : MethodId} {args : Array Value} {below : List Frame} {meth : Method} {c : Code} {X : gw_X} {Q : State → Prop} (C0 : gm_At p s m args meth c X cX1_copy 2 RX1 wsX1_copy none) (t0 : Nat) (ht0 : gk t0 = 1) (t1 : Nat) (ht1 : gk t1 = 1) (s0 : gs_S) {z : gs_S} (h : pX1_copy t0 t1 s0 = some z) (Kr : ∀ (H : Heap) (locs : List Loc) (ls : Array Slot) (pc : Nat) (τ : gs_S), z = τ → gw_P X τ H → va_S (gw_A X) s.heap H locs → decode cX1_copy pc = .ok (.return_, 1) → W p l e rX1_copy s m args below meth c H locs 0 0 Q (F0 m pc ls [])) {H : Heap} {locs : List Loc} {ls : Array Slot} (hP : gw_P X s0 H) (hS : va_S (gw_A X) s.heap H locs) (hl : lv_has ls 2 [(0, .ref (X.1 t0)), (1, .ref (X.1 t1))]) : W p l e rX1_copy s m args below meth c H locs 0 0 Q (F0 m 0 ls []) := by
  obtain ⟨hx, hb, hml, hown, hts, hr, hlocks, hC⟩ := id C0
  unfold pX1_copy at h
  refine lv_aload_n hx hb dX1_copy_0 rfl (lv_at hl 1 rfl) ?_
  refine gv_get (ref := "IceByEar$Ears") (C := RX1) (T := TX1) (N := 5) (ci := 1) (v := .ref (X.1 (t1 + 1))) C0 (fun _ h9 => List.mem_cons_of_mem _ (List.mem_append_right _ h9)) hP t1 (gw_o1 X s0 ht1) rfl 0 (by decide) (by decide +kernel) rfl rfl dX1_copy_1 ?_
  refine lv_iconst (v := 0) hx hb dX1_copy_4 (by decide) ?_
  refine lv_aload_n hx hb dX1_copy_5 rfl (lv_at hl 0 rfl) ?_
  refine gv_get (ref := "IceByEar$Ears") (C := RX1) (T := TX1) (N := 5) (ci := 1) (v := .ref (X.1 (t0 + 1))) C0 (fun _ h9 => List.mem_cons_of_mem _ (List.mem_append_right _ h9)) hP t0 (gw_o1 X s0 ht0) rfl 0 (by decide) (by decide +kernel) rfl rfl dX1_copy_6 ?_
  refine lv_iconst (v := 0) hx hb dX1_copy_9 (by decide) ?_
  refine lv_iconst (v := 4) hx hb dX1_copy_10 (by decide) ?_
  obtain ⟨hcp1, h⟩ := gv_cp_e h
  refine gv_copy C0 hl.1 (by decide +kernel) hP hS (t1 + 1) (t0 + 1) (gk_o1_0 ht1).1 (gk_o1_0 ht1).2 (gk_o1_0 ht0).1 (gk_o1_0 ht0).2 hcp1 (by decide) (by decide +kernel) dX1_copy_11 (fun s2 H locs es2 hP hS => ?_)
  have h := gv_let_e es2 h
  refine lv_aload_n hx hb dX1_copy_14 rfl (lv_at hl 1 rfl) ?_
  refine gv_get (ref := "IceByEar$Ears") (C := RX1) (T := TX1) (N := 5) (ci := 1) (v := .ref (X.1 (t1 + 2))) C0 (fun _ h9 => List.mem_cons_of_mem _ (List.mem_append_right _ h9)) hP t1 (gw_o1 X s2 ht1) rfl 1 (by decide) (by decide +kernel) rfl rfl dX1_copy_15 ?_
  refine lv_iconst (v := 0) hx hb dX1_copy_18 (by decide) ?_
  refine lv_aload_n hx hb dX1_copy_19 rfl (lv_at hl 0 rfl) ?_
  refine gv_get (ref := "IceByEar$Ears") (C := RX1) (T := TX1) (N := 5) (ci := 1) (v := .ref (X.1 (t0 + 2))) C0 (fun _ h9 => List.mem_cons_of_mem _ (List.mem_append_right _ h9)) hP t0 (gw_o1 X s2 ht0) rfl 1 (by decide) (by decide +kernel) rfl rfl dX1_copy_20 ?_
  refine lv_iconst (v := 0) hx hb dX1_copy_23 (by decide) ?_
  refine lv_bipush (v := 16) hx hb dX1_copy_24 (by decide) ?_
  obtain ⟨hcp3, h⟩ := gv_cp_e h
  refine gv_copy C0 hl.1 (by decide +kernel) hP hS (t1 + 2) (t0 + 2) (gk_o1_1 ht1).1 (gk_o1_1 ht1).2 (gk_o1_1 ht0).1 (gk_o1_1 ht0).2 hcp3 (by decide) (by decide +kernel) dX1_copy_26 (fun s4 H locs es4 hP hS => ?_)
  have h := gv_let_e es4 h
  refine lv_aload_n hx hb dX1_copy_29 rfl (lv_at hl 1 rfl) ?_
  refine gv_get (ref := "IceByEar$Ears") (C := RX1) (T := TX1) (N := 5) (ci := 1) (v := .ref (X.1 (t1 + 3))) C0 (fun _ h9 => List.mem_cons_of_mem _ (List.mem_append_right _ h9)) hP t1 (gw_o1 X s4 ht1) rfl 2 (by decide) (by decide +kernel) rfl rfl dX1_copy_30 ?_
  refine lv_iconst (v := 0) hx hb dX1_copy_33 (by decide) ?_
  refine lv_aload_n hx hb dX1_copy_34 rfl (lv_at hl 0 rfl) ?_
  refine gv_get (ref := "IceByEar$Ears") (C := RX1) (T := TX1) (N := 5) (ci := 1) (v := .ref (X.1 (t0 + 3))) C0 (fun _ h9 => List.mem_cons_of_mem _ (List.mem_append_right _ h9)) hP t0 (gw_o1 X s4 ht0) rfl 2 (by decide) (by decide +kernel) rfl rfl dX1_copy_35 ?_
  refine lv_iconst (v := 0) hx hb dX1_copy_38 (by decide) ?_
  refine lv_bipush (v := 16) hx hb dX1_copy_39 (by decide) ?_
  obtain ⟨hcp5, h⟩ := gv_cp_e h
  refine gv_copy C0 hl.1 (by decide +kernel) hP hS (t1 + 3) (t0 + 3) (gk_o1_2 ht1).1 (gk_o1_2 ht1).2 (gk_o1_2 ht0).1 (gk_o1_2 ht0).2 hcp5 (by decide) (by decide +kernel) dX1_copy_41 (fun s6 H locs es6 hP hS => ?_)
  have h := gv_let_e es6 h
  refine lv_aload_n hx hb dX1_copy_44 rfl (lv_at hl 1 rfl) ?_
  refine gv_get (ref := "IceByEar$Ears") (C := RX1) (T := TX1) (N := 5) (ci := 1) (v := .ref (X.1 (t1 + 4))) C0 (fun _ h9 => List.mem_cons_of_mem _ (List.mem_append_right _ h9)) hP t1 (gw_o1 X s6 ht1) rfl 3 (by decide) (by decide +kernel) rfl rfl dX1_copy_45 ?_
  refine lv_iconst (v := 0) hx hb dX1_copy_48 (by decide) ?_
  refine lv_aload_n hx hb dX1_copy_49 rfl (lv_at hl 0 rfl) ?_
  refine gv_get (ref := "IceByEar$Ears") (C := RX1) (T := TX1) (N := 5) (ci := 1) (v := .ref (X.1 (t0 + 4))) C0 (fun _ h9 => List.mem_cons_of_mem _ (List.mem_append_right _ h9)) hP t0 (gw_o1 X s6 ht0) rfl 3 (by decide) (by decide +kernel) rfl rfl dX1_copy_50 ?_
  refine lv_iconst (v := 0) hx hb dX1_copy_53 (by decide) ?_
  refine lv_bipush (v := 16) hx hb dX1_copy_54 (by decide) ?_
  obtain ⟨hcp7, h⟩ := gv_cp_e h
  refine gv_copy C0 hl.1 (by decide +kernel) hP hS (t1 + 4) (t0 + 4) (gk_o1_3 ht1).1 (gk_o1_3 ht1).2 (gk_o1_3 ht0).1 (gk_o1_3 ht0).2 hcp7 (by decide) (by decide +kernel) dX1_copy_56 (fun s8 H locs es8 hP hS => ?_)
  have h := gv_let_e es8 h
  refine lv_aload_n hx hb dX1_copy_59 rfl (lv_at hl 0 rfl) ?_
  refine lv_aload_n hx hb dX1_copy_60 rfl (lv_at hl 1 rfl) ?_
  refine gv_get (ref := "IceByEar$Ears") (C := RX1) (T := TX1) (N := 5) (ci := 1) (v := .int (s8.1 t1 4)) C0 (fun _ h9 => List.mem_cons_of_mem _ (List.mem_append_right _ h9)) hP t1 (gw_o1 X s8 ht1) rfl 4 (by decide) (by decide +kernel) rfl rfl dX1_copy_61 ?_
  refine gv_put (ref := "IceByEar$Ears") (C := RX1) (T := TX1) (N := 5) (ci := 1) (v := .int (s8.1 t1 4)) C0 (fun _ h9 => List.mem_cons_of_mem _ (List.mem_append_right _ h9)) tyX1 tyX1_ok nmX1 hP hS t0 (gw_o1 X s8 ht0) rfl 4 (by decide) (by decide +kernel) rfl rfl (tyX1_ok 4 (by decide)) rfl rfl (Nat.le_of_ble_eq_true rfl) (gw_s1_4 ht0 (s8.1 t1 4)) dX1_copy_64 (fun s9 H locs es9 hP hS => ?_)
  have h := gv_let_e es9 h
  exact Kr _ _ _ _ _ (gv_inj h) hP hS dX1_copy_67
theorem mX1_copy (l : Launch) (X : gw_X) (s0 : gs_S) (t0 : Nat) (ht0 : gk t0 = 1) (t1 : Nat) (ht1 : gk t1 = 1) {τ : gs_S} (h : pX1_copy t0 t1 s0 = some τ) : Met l yX1_copy wsX1_copy rX1_copy (gm_Pc X s0 [.ref (X.1 t0), .ref (X.1 t1)]) (gm_Qv X τ) 0 0 (gw_A X) :=
  gm_of RX1 (by decide) rfl rfl (Nat.le_of_ble_eq_true rfl) (fun p e s m below meth c ls C0 hP hl hS => tX1_copy C0 t0 ht0 t1 ht1 s0 h (fun H locs ls pc τ hr hP hS hd => by subst hr; exact gm_retv C0 hP hS hd) hP hS hl)
def pX4_copy (t0 : Nat) (t1 : Nat) (s0 : gs_S) : Option (gs_S) := gv_bind (pX2_copy (t0 + 1) (t1 + 1) s0) (fun s1 => gv_bind (pX8_copy (t0 + 3) (t1 + 3) s1) (fun s2 => gv_bind (pX9_copy (t0 + 7) (t1 + 7) s2) (fun s3 => gv_bind (pX1_copy (t0 + 9) (t1 + 9) s3) (fun s4 => gv_let (gs_u s4 t0 4 (s4.1 t1 4)) (fun s5 => gv_let (gs_u s5 t0 5 (s5.1 t1 5)) (fun s6 => some s6))))))
def rX4_copy : Room := { frames := 2, cells := 0, slots := 0, locals := 61 }
set_option maxHeartbeats 4000000 in
set_option maxRecDepth 100000 in
theorem tX4_copy {p : Program} {l : Launch} {e : Env} {s : State} {m : MethodId} {args : Array Value} {below : List Frame} {meth : Method} {c : Code} {X : gw_X} {Q : State → Prop} (C0 : gm_At p s m args meth c X cX4_copy 2 RX4 wsX4_copy none) (t0 : Nat) (ht0 : gk t0 = 4) (t1 : Nat) (ht1 : gk t1 = 4) (s0 : gs_S) {z : gs_S} (h : pX4_copy t0 t1 s0 = some z) (Kr : ∀ (H : Heap) (locs : List Loc) (ls : Array Slot) (pc : Nat) (τ : gs_S), z = τ → gw_P X τ H → va_S (gw_A X) s.heap H locs → decode cX4_copy pc = .ok (.return_, 1) → W p l e rX4_copy s m args below meth c H locs 0 0 Q (F0 m pc ls [])) {H : Heap} {locs : List Loc} {ls : Array Slot} (hP : gw_P X s0 H) (hS : va_S (gw_A X) s.heap H locs) (hl : lv_has ls 2 [(0, .ref (X.1 t0)), (1, .ref (X.1 t1))]) : W p l e rX4_copy s m args below meth c H locs 0 0 Q (F0 m 0 ls []) := by
  obtain ⟨hx, hb, hml, hown, hts, hr, hlocks, hC⟩ := id C0
  unfold pX4_copy at h
  refine lv_aload_n hx hb dX4_copy_0 rfl (lv_at hl 0 rfl) ?_
  refine gv_get (ref := "IceByEar$Scene") (C := RX4) (T := TX4) (N := 6) (ci := 4) (v := .ref (X.1 (t0 + 1))) C0 (fun _ h9 => List.mem_cons_of_mem _ (List.mem_append_left _ (List.mem_append_left _ (List.mem_append_left _ (List.mem_append_left _ (List.mem_append_right _ h9)))))) hP t0 (gw_o4 X s0 ht0) rfl 0 (by decide) (by decide +kernel) rfl rfl dX4_copy_1 ?_
  refine lv_aload_n hx hb dX4_copy_4 rfl (lv_at hl 1 rfl) ?_
  refine gv_get (ref := "IceByEar$Scene") (C := RX4) (T := TX4) (N := 6) (ci := 4) (v := .ref (X.1 (t1 + 1))) C0 (fun _ h9 => List.mem_cons_of_mem _ (List.mem_append_left _ (List.mem_append_left _ (List.mem_append_left _ (List.mem_append_left _ (List.mem_append_right _ h9)))))) hP t1 (gw_o4 X s0 ht1) rfl 0 (by decide) (by decide +kernel) rfl rfl dX4_copy_5 ?_
  obtain ⟨s1, hs1, h⟩ := gv_bind_e h
  refine gv_rv (gv_runV (n := 1) (rest := []) C0 (mX2_copy l X s0 (t0 + 1) (gk_o4_0 ht0).1 (t1 + 1) (gk_o4_0 ht1).1 hs1) gX4_copy_X2_copy rfl ⟨rfl, rfl⟩ (by decide +kernel) ⟨by decide, by decide⟩ (gk_o4_0 ht0).1 (by decide) rfl hP hS rfl hl.1 rfl (Nat.le_of_ble_eq_true rfl) dX4_copy_8 ⟨Nat.zero_le _, Nat.zero_le _⟩) hS (fun H locs hP hS => ?_)
  refine lv_aload_n hx hb dX4_copy_11 rfl (lv_at hl 0 rfl) ?_
  refine gv_get (ref := "IceByEar$Scene") (C := RX4) (T := TX4) (N := 6) (ci := 4) (v := .ref (X.1 (t0 + 3))) C0 (fun _ h9 => List.mem_cons_of_mem _ (List.mem_append_left _ (List.mem_append_left _ (List.mem_append_left _ (List.mem_append_left _ (List.mem_append_right _ h9)))))) hP t0 (gw_o4 X s1 ht0) rfl 1 (by decide) (by decide +kernel) rfl rfl dX4_copy_12 ?_
  refine lv_aload_n hx hb dX4_copy_15 rfl (lv_at hl 1 rfl) ?_
  refine gv_get (ref := "IceByEar$Scene") (C := RX4) (T := TX4) (N := 6) (ci := 4) (v := .ref (X.1 (t1 + 3))) C0 (fun _ h9 => List.mem_cons_of_mem _ (List.mem_append_left _ (List.mem_append_left _ (List.mem_append_left _ (List.mem_append_left _ (List.mem_append_right _ h9)))))) hP t1 (gw_o4 X s1 ht1) rfl 1 (by decide) (by decide +kernel) rfl rfl dX4_copy_16 ?_
  obtain ⟨s2, hs2, h⟩ := gv_bind_e h
  refine gv_rv (gv_runV (n := 1) (rest := []) C0 (mX8_copy l X s1 (t0 + 3) (gk_o4_1 ht0).1 (t1 + 3) (gk_o4_1 ht1).1 hs2) gX4_copy_X8_copy rfl ⟨rfl, rfl⟩ (by decide +kernel) ⟨by decide, by decide⟩ (gk_o4_1 ht0).1 (by decide) rfl hP hS rfl hl.1 rfl (Nat.le_of_ble_eq_true rfl) dX4_copy_19 ⟨Nat.zero_le _, Nat.zero_le _⟩) hS (fun H locs hP hS => ?_)
  refine lv_aload_n hx hb dX4_copy_22 rfl (lv_at hl 0 rfl) ?_
  refine gv_get (ref := "IceByEar$Scene") (C := RX4) (T := TX4) (N := 6) (ci := 4) (v := .ref (X.1 (t0 + 7))) C0 (fun _ h9 => List.mem_cons_of_mem _ (List.mem_append_left _ (List.mem_append_left _ (List.mem_append_left _ (List.mem_append_left _ (List.mem_append_right _ h9)))))) hP t0 (gw_o4 X s2 ht0) rfl 2 (by decide) (by decide +kernel) rfl rfl dX4_copy_23 ?_
  refine lv_aload_n hx hb dX4_copy_26 rfl (lv_at hl 1 rfl) ?_
  refine gv_get (ref := "IceByEar$Scene") (C := RX4) (T := TX4) (N := 6) (ci := 4) (v := .ref (X.1 (t1 + 7))) C0 (fun _ h9 => List.mem_cons_of_mem _ (List.mem_append_left _ (List.mem_append_left _ (List.mem_append_left _ (List.mem_append_left _ (List.mem_append_right _ h9)))))) hP t1 (gw_o4 X s2 ht1) rfl 2 (by decide) (by decide +kernel) rfl rfl dX4_copy_27 ?_
  obtain ⟨s3, hs3, h⟩ := gv_bind_e h
  refine gv_rv (gv_runV (n := 1) (rest := []) C0 (mX9_copy l X s2 (t0 + 7) (gk_o4_2 ht0).1 (t1 + 7) (gk_o4_2 ht1).1 hs3) gX4_copy_X9_copy rfl ⟨rfl, rfl⟩ (by decide +kernel) ⟨by decide, by decide⟩ (gk_o4_2 ht0).1 (by decide) rfl hP hS rfl hl.1 rfl (Nat.le_of_ble_eq_true rfl) dX4_copy_30 ⟨Nat.zero_le _, Nat.zero_le _⟩) hS (fun H locs hP hS => ?_)
  refine lv_aload_n hx hb dX4_copy_33 rfl (lv_at hl 0 rfl) ?_
  refine gv_get (ref := "IceByEar$Scene") (C := RX4) (T := TX4) (N := 6) (ci := 4) (v := .ref (X.1 (t0 + 9))) C0 (fun _ h9 => List.mem_cons_of_mem _ (List.mem_append_left _ (List.mem_append_left _ (List.mem_append_left _ (List.mem_append_left _ (List.mem_append_right _ h9)))))) hP t0 (gw_o4 X s3 ht0) rfl 3 (by decide) (by decide +kernel) rfl rfl dX4_copy_34 ?_
  refine lv_aload_n hx hb dX4_copy_37 rfl (lv_at hl 1 rfl) ?_
  refine gv_get (ref := "IceByEar$Scene") (C := RX4) (T := TX4) (N := 6) (ci := 4) (v := .ref (X.1 (t1 + 9))) C0 (fun _ h9 => List.mem_cons_of_mem _ (List.mem_append_left _ (List.mem_append_left _ (List.mem_append_left _ (List.mem_append_left _ (List.mem_append_right _ h9)))))) hP t1 (gw_o4 X s3 ht1) rfl 3 (by decide) (by decide +kernel) rfl rfl dX4_copy_38 ?_
  obtain ⟨s4, hs4, h⟩ := gv_bind_e h
  refine gv_rv (gv_runV (n := 1) (rest := []) C0 (mX1_copy l X s3 (t0 + 9) (gk_o4_3 ht0).1 (t1 + 9) (gk_o4_3 ht1).1 hs4) gX4_copy_X1_copy rfl ⟨rfl, rfl⟩ (by decide +kernel) ⟨by decide, by decide⟩ (gk_o4_3 ht0).1 (by decide) rfl hP hS rfl hl.1 rfl (Nat.le_of_ble_eq_true rfl) dX4_copy_41 ⟨Nat.zero_le _, Nat.zero_le _⟩) hS (fun H locs hP hS => ?_)
  refine lv_aload_n hx hb dX4_copy_44 rfl (lv_at hl 0 rfl) ?_
  refine lv_aload_n hx hb dX4_copy_45 rfl (lv_at hl 1 rfl) ?_
  refine gv_get (ref := "IceByEar$Scene") (C := RX4) (T := TX4) (N := 6) (ci := 4) (v := .int (s4.1 t1 4)) C0 (fun _ h9 => List.mem_cons_of_mem _ (List.mem_append_left _ (List.mem_append_left _ (List.mem_append_left _ (List.mem_append_left _ (List.mem_append_right _ h9)))))) hP t1 (gw_o4 X s4 ht1) rfl 4 (by decide) (by decide +kernel) rfl rfl dX4_copy_46 ?_
  refine gv_put (ref := "IceByEar$Scene") (C := RX4) (T := TX4) (N := 6) (ci := 4) (v := .int (s4.1 t1 4)) C0 (fun _ h9 => List.mem_cons_of_mem _ (List.mem_append_left _ (List.mem_append_left _ (List.mem_append_left _ (List.mem_append_left _ (List.mem_append_right _ h9)))))) tyX4 tyX4_ok nmX4 hP hS t0 (gw_o4 X s4 ht0) rfl 4 (by decide) (by decide +kernel) rfl rfl (tyX4_ok 4 (by decide)) rfl rfl (Nat.le_of_ble_eq_true rfl) (gw_s4_4 ht0 (s4.1 t1 4)) dX4_copy_49 (fun s5 H locs es5 hP hS => ?_)
  have h := gv_let_e es5 h
  refine lv_aload_n hx hb dX4_copy_52 rfl (lv_at hl 0 rfl) ?_
  refine lv_aload_n hx hb dX4_copy_53 rfl (lv_at hl 1 rfl) ?_
  refine gv_get (ref := "IceByEar$Scene") (C := RX4) (T := TX4) (N := 6) (ci := 4) (v := .int (s5.1 t1 5)) C0 (fun _ h9 => List.mem_cons_of_mem _ (List.mem_append_left _ (List.mem_append_left _ (List.mem_append_left _ (List.mem_append_left _ (List.mem_append_right _ h9)))))) hP t1 (gw_o4 X s5 ht1) rfl 5 (by decide) (by decide +kernel) rfl rfl dX4_copy_54 ?_
  refine gv_put (ref := "IceByEar$Scene") (C := RX4) (T := TX4) (N := 6) (ci := 4) (v := .int (s5.1 t1 5)) C0 (fun _ h9 => List.mem_cons_of_mem _ (List.mem_append_left _ (List.mem_append_left _ (List.mem_append_left _ (List.mem_append_left _ (List.mem_append_right _ h9)))))) tyX4 tyX4_ok nmX4 hP hS t0 (gw_o4 X s5 ht0) rfl 5 (by decide) (by decide +kernel) rfl rfl (tyX4_ok 5 (by decide)) rfl rfl (Nat.le_of_ble_eq_true rfl) (gw_s4_5 ht0 (s5.1 t1 5)) dX4_copy_57 (fun s6 H locs es6 hP hS => ?_)
  have h := gv_let_e es6 h
  exact Kr _ _ _ _ _ (gv_inj h) hP hS dX4_copy_60
theorem mX4_copy (l : Launch) (X : gw_X) (s0 : gs_S) (t0 : Nat) (ht0 : gk t0 = 4) (t1 : Nat) (ht1 : gk t1 = 4) {τ : gs_S} (h : pX4_copy t0 t1 s0 = some τ) : Met l yX4_copy wsX4_copy rX4_copy (gm_Pc X s0 [.ref (X.1 t0), .ref (X.1 t1)]) (gm_Qv X τ) 0 0 (gw_A X) :=
  gm_of RX4 (by decide) rfl rfl (Nat.le_of_ble_eq_true rfl) (fun p e s m below meth c ls C0 hP hl hS => tX4_copy C0 t0 ht0 t1 ht1 s0 h (fun H locs ls pc τ hr hP hS hd => by subst hr; exact gm_retv C0 hP hS hd) hP hS hl)
def pX10_image  (s0 : gs_S) : Option (Int32 × gs_S) := gv_bind (pX4_copy 15 1 s0) (fun s1 => gv_let (gs_u s1 0 2 (1 : Int32)) (fun s2 => some ((1 : Int32), s2)))
def rX10_image : Room := { frames := 3, cells := 0, slots := 0, locals := 82 }
set_option maxHeartbeats 4000000 in
set_option maxRecDepth 100000 in
theorem tX10_image {p : Program} {l : Launch} {e : Env} {s : State} {m : MethodId} {args : Array Value} {below : List Frame} {meth : Method} {c : Code} {X : gw_X} {Q : State → Prop} (C0 : gm_At p s m args meth c X cX10_image 1 RX10 wsX10_image (some .int))  (s0 : gs_S) {z : Int32 × gs_S} (h : pX10_image s0 = some z) (Kr : ∀ (H : Heap) (locs : List Loc) (ls : Array Slot) (pc : Nat) (r : Int32) (τ : gs_S), z = (r, τ) → gw_P X τ H → va_S (gw_A X) s.heap H locs → decode cX10_image pc = .ok (.ireturn, 1) → W p l e rX10_image s m args below meth c H locs 0 0 Q (F0 m pc ls [.int r])) {H : Heap} {locs : List Loc} {ls : Array Slot} (hP : gw_P X s0 H) (hS : va_S (gw_A X) s.heap H locs) (hl : lv_has ls 1 [(0, .ref (X.1 0))]) : W p l e rX10_image s m args below meth c H locs 0 0 Q (F0 m 0 ls []) := by
  obtain ⟨hx, hb, hml, hown, hts, hr, hlocks, hC⟩ := id C0
  unfold pX10_image at h
  refine lv_aload_n hx hb dX10_image_0 rfl (lv_at hl 0 rfl) ?_
  refine gv_get (ref := "IceByEar") (C := RX10) (T := TX10) (N := 8) (ci := 10) (v := .ref (X.1 15)) C0 (fun _ h9 => List.mem_cons_of_mem _ (List.mem_append_left _ (List.mem_append_left _ (List.mem_append_left _ (List.mem_append_left _ (List.mem_append_left _ (List.mem_append_right _ h9))))))) hP 0 (gw_o10 X s0 gk_0.1) rfl 1 (by decide) (by decide +kernel) rfl rfl dX10_image_1 ?_
  refine lv_aload_n hx hb dX10_image_4 rfl (lv_at hl 0 rfl) ?_
  refine gv_get (ref := "IceByEar") (C := RX10) (T := TX10) (N := 8) (ci := 10) (v := .ref (X.1 1)) C0 (fun _ h9 => List.mem_cons_of_mem _ (List.mem_append_left _ (List.mem_append_left _ (List.mem_append_left _ (List.mem_append_left _ (List.mem_append_left _ (List.mem_append_right _ h9))))))) hP 0 (gw_o10 X s0 gk_0.1) rfl 0 (by decide) (by decide +kernel) rfl rfl dX10_image_5 ?_
  obtain ⟨s1, hs1, h⟩ := gv_bind_e h
  refine gv_rv (gv_runV (n := 1) (rest := []) C0 (mX4_copy l X s0 15 gk_15.1 1 gk_1.1 hs1) gX10_image_X4_copy rfl ⟨rfl, rfl⟩ (by decide +kernel) ⟨by decide, by decide⟩ gk_15.1 (by decide) rfl hP hS rfl hl.1 rfl (Nat.le_of_ble_eq_true rfl) dX10_image_8 ⟨Nat.zero_le _, Nat.zero_le _⟩) hS (fun H locs hP hS => ?_)
  refine lv_aload_n hx hb dX10_image_11 rfl (lv_at hl 0 rfl) ?_
  refine lv_iconst (v := 1) hx hb dX10_image_12 (by decide) ?_
  refine gv_put (ref := "IceByEar") (C := RX10) (T := TX10) (N := 8) (ci := 10) (v := .int (1 : Int32)) C0 (fun _ h9 => List.mem_cons_of_mem _ (List.mem_append_left _ (List.mem_append_left _ (List.mem_append_left _ (List.mem_append_left _ (List.mem_append_left _ (List.mem_append_right _ h9))))))) tyX10 tyX10_ok nmX10 hP hS 0 (gw_o10 X s1 gk_0.1) rfl 2 (by decide) (by decide +kernel) rfl rfl (tyX10_ok 2 (by decide)) rfl rfl (Nat.le_of_ble_eq_true rfl) (gw_s10_2 gk_0.1 (1 : Int32)) dX10_image_13 (fun s2 H locs es2 hP hS => ?_)
  have h := gv_let_e es2 h
  refine lv_iconst (v := 1) hx hb dX10_image_16 (by decide) ?_
  exact Kr _ _ _ _ _ _ (gv_inj h) hP hS dX10_image_17
theorem mX10_image (l : Launch) (X : gw_X) (s0 : gs_S)  {r : Int32} {τ : gs_S} (h : pX10_image s0 = some (r, τ)) : Met l yX10_image wsX10_image rX10_image (gm_Pc X s0 [.ref (X.1 0)]) (gm_Qi X τ r) 0 0 (gw_A X) :=
  gm_of RX10 (by decide) rfl rfl (Nat.le_of_ble_eq_true rfl) (fun p e s m below meth c ls C0 hP hl hS => tX10_image C0  s0 h (fun H locs ls pc r τ hr hP hS hd => by cases hr; exact gm_reti C0 hP hS hd) hP hS hl)
def pX10_restore  (s0 : gs_S) : Option (Int32 × gs_S) := if (s0.1 0 2) = 0 then some ((-4 : Int32), s0) else gv_bind (pX4_copy 1 15 s0) (fun s1 => some ((1 : Int32), s1))
def rX10_restore : Room := { frames := 3, cells := 0, slots := 0, locals := 82 }
set_option maxHeartbeats 4000000 in
set_option maxRecDepth 100000 in
theorem tX10_restore {p : Program} {l : Launch} {e : Env} {s : State} {m : MethodId} {args : Array Value} {below : List Frame} {meth : Method} {c : Code} {X : gw_X} {Q : State → Prop} (C0 : gm_At p s m args meth c X cX10_restore 1 RX10 wsX10_restore (some .int))  (s0 : gs_S) {z : Int32 × gs_S} (h : pX10_restore s0 = some z) (Kr : ∀ (H : Heap) (locs : List Loc) (ls : Array Slot) (pc : Nat) (r : Int32) (τ : gs_S), z = (r, τ) → gw_P X τ H → va_S (gw_A X) s.heap H locs → decode cX10_restore pc = .ok (.ireturn, 1) → W p l e rX10_restore s m args below meth c H locs 0 0 Q (F0 m pc ls [.int r])) {H : Heap} {locs : List Loc} {ls : Array Slot} (hP : gw_P X s0 H) (hS : va_S (gw_A X) s.heap H locs) (hl : lv_has ls 1 [(0, .ref (X.1 0))]) : W p l e rX10_restore s m args below meth c H locs 0 0 Q (F0 m 0 ls []) := by
  obtain ⟨hx, hb, hml, hown, hts, hr, hlocks, hC⟩ := id C0
  unfold pX10_restore at h
  refine lv_aload_n hx hb dX10_restore_0 rfl (lv_at hl 0 rfl) ?_
  refine gv_get (ref := "IceByEar") (C := RX10) (T := TX10) (N := 8) (ci := 10) (v := .int (s0.1 0 2)) C0 (fun _ h9 => List.mem_cons_of_mem _ (List.mem_append_left _ (List.mem_append_left _ (List.mem_append_left _ (List.mem_append_left _ (List.mem_append_left _ (List.mem_append_right _ h9))))))) hP 0 (gw_o10 X s0 gk_0.1) rfl 2 (by decide) (by decide +kernel) rfl rfl dX10_restore_1 ?_
  refine lv_if_ne (tgt := 10) hx hb dX10_restore_4 (by decide) (fun hc => ?_) (fun hc => ?_)
  · have h := gv_neg hc h
    refine lv_aload_n hx hb dX10_restore_10 rfl (lv_at hl 0 rfl) ?_
    refine gv_get (ref := "IceByEar") (C := RX10) (T := TX10) (N := 8) (ci := 10) (v := .ref (X.1 1)) C0 (fun _ h9 => List.mem_cons_of_mem _ (List.mem_append_left _ (List.mem_append_left _ (List.mem_append_left _ (List.mem_append_left _ (List.mem_append_left _ (List.mem_append_right _ h9))))))) hP 0 (gw_o10 X s0 gk_0.1) rfl 0 (by decide) (by decide +kernel) rfl rfl dX10_restore_11 ?_
    refine lv_aload_n hx hb dX10_restore_14 rfl (lv_at hl 0 rfl) ?_
    refine gv_get (ref := "IceByEar") (C := RX10) (T := TX10) (N := 8) (ci := 10) (v := .ref (X.1 15)) C0 (fun _ h9 => List.mem_cons_of_mem _ (List.mem_append_left _ (List.mem_append_left _ (List.mem_append_left _ (List.mem_append_left _ (List.mem_append_left _ (List.mem_append_right _ h9))))))) hP 0 (gw_o10 X s0 gk_0.1) rfl 1 (by decide) (by decide +kernel) rfl rfl dX10_restore_15 ?_
    obtain ⟨s1, hs1, h⟩ := gv_bind_e h
    refine gv_rv (gv_runV (n := 1) (rest := []) C0 (mX4_copy l X s0 1 gk_1.1 15 gk_15.1 hs1) gX10_restore_X4_copy rfl ⟨rfl, rfl⟩ (by decide +kernel) ⟨by decide, by decide⟩ gk_1.1 (by decide) rfl hP hS rfl hl.1 rfl (Nat.le_of_ble_eq_true rfl) dX10_restore_18 ⟨Nat.zero_le _, Nat.zero_le _⟩) hS (fun H locs hP hS => ?_)
    refine lv_iconst (v := 1) hx hb dX10_restore_21 (by decide) ?_
    exact Kr _ _ _ _ _ _ (gv_inj h) hP hS dX10_restore_22
  · have h := gv_pos hc h
    refine lv_bipush (v := -4) hx hb dX10_restore_7 (by decide) ?_
    exact Kr _ _ _ _ _ _ (gv_inj h) hP hS dX10_restore_9
theorem mX10_restore (l : Launch) (X : gw_X) (s0 : gs_S)  {r : Int32} {τ : gs_S} (h : pX10_restore s0 = some (r, τ)) : Met l yX10_restore wsX10_restore rX10_restore (gm_Pc X s0 [.ref (X.1 0)]) (gm_Qi X τ r) 0 0 (gw_A X) :=
  gm_of RX10 (by decide) rfl rfl (Nat.le_of_ble_eq_true rfl) (fun p e s m below meth c ls C0 hP hl hS => tX10_restore C0  s0 h (fun H locs ls pc r τ hr hP hS hd => by cases hr; exact gm_reti C0 hP hS hd) hP hS hl)
def pX10_isSheet (a0 : Int32) : Int32 := (pX10_isWithin (a0.toInt64) (0 : Int32) (3 : Int32))
def rX10_isSheet : Room := { frames := 1, cells := 0, slots := 0, locals := 23 }
set_option maxHeartbeats 4000000 in
set_option maxRecDepth 100000 in
theorem tX10_isSheet {p : Program} {l : Launch} {e : Env} {s : State} {m : MethodId} {args : Array Value} {below : List Frame} {meth : Method} {c : Code} {X : gw_X} {Q : State → Prop} (C0 : gm_At p s m args meth c X cX10_isSheet 1 RX10 wsX10_isSheet (some .boolean)) (a0 : Int32) (s0 : gs_S) {z : Int32} (h : pX10_isSheet a0 = z) (Kr : ∀ (H : Heap) (locs : List Loc) (ls : Array Slot) (pc : Nat) (r : Int32), z = r → narrow .boolean (.int r) = .int r → gw_P X s0 H → va_S (gw_A X) s.heap H locs → decode cX10_isSheet pc = .ok (.ireturn, 1) → W p l e rX10_isSheet s m args below meth c H locs 0 0 Q (F0 m pc ls [.int r])) {H : Heap} {locs : List Loc} {ls : Array Slot} (hP : gw_P X s0 H) (hS : va_S (gw_A X) s.heap H locs) (hl : lv_has ls 1 [(0, .int a0)]) : W p l e rX10_isSheet s m args below meth c H locs 0 0 Q (F0 m 0 ls []) := by
  obtain ⟨hx, hb, hml, hown, hts, hr, hlocks, hC⟩ := id C0
  unfold pX10_isSheet at h
  refine lv_iload_n hx hb dX10_isSheet_0 rfl (lv_at hl 0 rfl) ?_
  refine lv_i2l hx hb dX10_isSheet_1 rfl ?_
  refine lv_iconst (v := 0) hx hb dX10_isSheet_2 (by decide) ?_
  refine lv_iconst (v := 3) hx hb dX10_isSheet_3 (by decide) ?_
  refine gv_ri (gv_runS (n := 3) (rest := []) C0 (mX10_isWithin l X s0 (a0.toInt64) (0 : Int32) (3 : Int32)) gX10_isSheet_X10_isWithin rfl ⟨rfl, rfl⟩ (by decide +kernel) ⟨by decide, by decide⟩ hP hS rfl hl.1 rfl (Nat.le_of_ble_eq_true rfl) dX10_isSheet_4 ⟨Nat.zero_le _, Nat.zero_le _⟩) hS (fun H locs hP hS => ?_)
  exact Kr _ _ _ _ _ h.symm (bX10_isWithin (a0.toInt64) (0 : Int32) (3 : Int32)) hP hS dX10_isSheet_7
theorem mX10_isSheet (l : Launch) (X : gw_X) (s0 : gs_S) (a0 : Int32) : Met l yX10_isSheet wsX10_isSheet rX10_isSheet (gm_Pc X s0 [.int a0]) (gm_Qi X s0 (pX10_isSheet a0)) 0 0 (gw_A X) :=
  gm_of RX10 (by decide) rfl rfl (Nat.le_of_ble_eq_true rfl) (fun p e s m below meth c ls C0 hP hl hS => tX10_isSheet C0 a0 s0 rfl (fun H locs ls pc r hr hn hP hS hd => by subst hr; exact gm_retz hn C0 hP hS hd) hP hS hl)
theorem bX10_isSheet (a0 : Int32) : narrow .boolean (.int (pX10_isSheet a0)) = .int (pX10_isSheet a0) := by
  unfold pX10_isSheet
  repeat' split
  all_goals first | rfl | exact bX10_isWithin _ _ _
def pX5_refusal (t0 : Nat) (a1 : Int32) (a2 : Int32) (a3 : Int32) (s0 : gs_S) : Int32 := if (s0.1 t0 3) = (-1 : Int32) then (-11 : Int32) else if (s0.1 t0 3) = a1 then if a2 < 0 then (-13 : Int32) else if a2 ≤ ((s0.1 t0 4) - a3) then (0 : Int32) else (-13 : Int32) else (-12 : Int32)
def rX5_refusal : Room := { frames := 0, cells := 0, slots := 0, locals := 0 }
set_option maxHeartbeats 4000000 in
set_option maxRecDepth 100000 in
theorem tX5_refusal {p : Program} {l : Launch} {e : Env} {s : State} {m : MethodId} {args : Array Value} {below : List Frame} {meth : Method} {c : Code} {X : gw_X} {Q : State → Prop} (C0 : gm_At p s m args meth c X cX5_refusal 4 RX5 wsX5_refusal (some .int)) (t0 : Nat) (ht0 : gk t0 = 5) (a1 : Int32) (a2 : Int32) (a3 : Int32) (s0 : gs_S) {z : Int32} (h : pX5_refusal t0 a1 a2 a3 s0 = z) (Kr : ∀ (H : Heap) (locs : List Loc) (ls : Array Slot) (pc : Nat) (r : Int32), z = r → gw_P X s0 H → va_S (gw_A X) s.heap H locs → decode cX5_refusal pc = .ok (.ireturn, 1) → W p l e rX5_refusal s m args below meth c H locs 0 0 Q (F0 m pc ls [.int r])) {H : Heap} {locs : List Loc} {ls : Array Slot} (hP : gw_P X s0 H) (hS : va_S (gw_A X) s.heap H locs) (hl : lv_has ls 4 [(0, .ref (X.1 t0)), (1, .int a1), (2, .int a2), (3, .int a3)]) : W p l e rX5_refusal s m args below meth c H locs 0 0 Q (F0 m 0 ls []) := by
  obtain ⟨hx, hb, hml, hown, hts, hr, hlocks, hC⟩ := id C0
  unfold pX5_refusal at h
  refine lv_aload_n hx hb dX5_refusal_0 rfl (lv_at hl 0 rfl) ?_
  refine gv_get (ref := "IceByEar$Sheet") (C := RX5) (T := TX5) (N := 5) (ci := 5) (v := .int (s0.1 t0 3)) C0 (fun _ h9 => List.mem_cons_of_mem _ (List.mem_append_right _ h9)) hP t0 (gw_o5 X s0 ht0) rfl 3 (by decide) (by decide +kernel) rfl rfl dX5_refusal_1 ?_
  refine lv_iconst (v := -1) hx hb dX5_refusal_4 (by decide) ?_
  refine lv_icmp_ne (tgt := 11) hx hb dX5_refusal_5 (by decide) (fun hc => ?_) (fun hc => ?_)
  · have h := gv_neg hc h
    refine lv_aload_n hx hb dX5_refusal_11 rfl (lv_at hl 0 rfl) ?_
    refine gv_get (ref := "IceByEar$Sheet") (C := RX5) (T := TX5) (N := 5) (ci := 5) (v := .int (s0.1 t0 3)) C0 (fun _ h9 => List.mem_cons_of_mem _ (List.mem_append_right _ h9)) hP t0 (gw_o5 X s0 ht0) rfl 3 (by decide) (by decide +kernel) rfl rfl dX5_refusal_12 ?_
    refine lv_iload_n hx hb dX5_refusal_15 rfl (lv_at hl 1 rfl) ?_
    refine lv_icmp_eq (tgt := 22) hx hb dX5_refusal_16 (by decide) (fun hc => ?_) (fun hc => ?_)
    · have h := gv_pos hc h
      refine lv_iload_n hx hb dX5_refusal_22 rfl (lv_at hl 2 rfl) ?_
      refine lv_if_lt (tgt := 36) hx hb dX5_refusal_23 (by decide) (fun hc => ?_) (fun hc => ?_)
      · have h := gv_pos hc h
        refine lv_bipush (v := -13) hx hb dX5_refusal_36 (by decide) ?_
        refine lv_goto (tgt := 42) hx hb dX5_refusal_38 (by decide) ?_
        exact Kr _ _ _ _ _ h.symm hP hS dX5_refusal_42
      · have h := gv_neg hc h
        refine lv_iload_n hx hb dX5_refusal_26 rfl (lv_at hl 2 rfl) ?_
        refine lv_aload_n hx hb dX5_refusal_27 rfl (lv_at hl 0 rfl) ?_
        refine gv_get (ref := "IceByEar$Sheet") (C := RX5) (T := TX5) (N := 5) (ci := 5) (v := .int (s0.1 t0 4)) C0 (fun _ h9 => List.mem_cons_of_mem _ (List.mem_append_right _ h9)) hP t0 (gw_o5 X s0 ht0) rfl 4 (by decide) (by decide +kernel) rfl rfl dX5_refusal_28 ?_
        refine lv_iload_n hx hb dX5_refusal_31 rfl (lv_at hl 3 rfl) ?_
        refine lv_isub hx hb dX5_refusal_32 ?_
        refine lv_icmp_le (tgt := 41) hx hb dX5_refusal_33 (by decide) (fun hc => ?_) (fun hc => ?_)
        · have h := gv_pos hc h
          refine lv_iconst (v := 0) hx hb dX5_refusal_41 (by decide) ?_
          exact Kr _ _ _ _ _ h.symm hP hS dX5_refusal_42
        · have h := gv_neg hc h
          refine lv_bipush (v := -13) hx hb dX5_refusal_36 (by decide) ?_
          refine lv_goto (tgt := 42) hx hb dX5_refusal_38 (by decide) ?_
          exact Kr _ _ _ _ _ h.symm hP hS dX5_refusal_42
    · have h := gv_neg hc h
      refine lv_bipush (v := -12) hx hb dX5_refusal_19 (by decide) ?_
      exact Kr _ _ _ _ _ h.symm hP hS dX5_refusal_21
  · have h := gv_pos hc h
    refine lv_bipush (v := -11) hx hb dX5_refusal_8 (by decide) ?_
    exact Kr _ _ _ _ _ h.symm hP hS dX5_refusal_10
theorem mX5_refusal (l : Launch) (X : gw_X) (s0 : gs_S) (t0 : Nat) (ht0 : gk t0 = 5) (a1 : Int32) (a2 : Int32) (a3 : Int32) : Met l yX5_refusal wsX5_refusal rX5_refusal (gm_Pc X s0 [.ref (X.1 t0), .int a1, .int a2, .int a3]) (gm_Qi X s0 (pX5_refusal t0 a1 a2 a3 s0)) 0 0 (gw_A X) :=
  gm_of RX5 (by decide) rfl rfl (Nat.le_of_ble_eq_true rfl) (fun p e s m below meth c ls C0 hP hl hS => tX5_refusal C0 t0 ht0 a1 a2 a3 s0 rfl (fun H locs ls pc r hr hP hS hd => by subst hr; exact gm_reti C0 hP hS hd) hP hS hl)
def pX5_value (t0 : Nat) (a1 : Int32) (s0 : gs_S) : Option (Int64) := if (s0.1 t0 3) = (1 : Int32) then gv_in a1 24 (some ((s0.1 (t0 + 2) a1.toNatClampNeg).toInt64)) else gv_in a1 24 (some (s0.2 (t0 + 3) a1.toNatClampNeg))
def rX5_value : Room := { frames := 0, cells := 0, slots := 0, locals := 0 }
set_option maxHeartbeats 4000000 in
set_option maxRecDepth 100000 in
theorem tX5_value {p : Program} {l : Launch} {e : Env} {s : State} {m : MethodId} {args : Array Value} {below : List Frame} {meth : Method} {c : Code} {X : gw_X} {Q : State → Prop} (C0 : gm_At p s m args meth c X cX5_value 2 RX5 wsX5_value (some .long)) (t0 : Nat) (ht0 : gk t0 = 5) (a1 : Int32) (s0 : gs_S) {z : Int64} (h : pX5_value t0 a1 s0 = some z) (Kr : ∀ (H : Heap) (locs : List Loc) (ls : Array Slot) (pc : Nat) (r : Int64), z = r → gw_P X s0 H → va_S (gw_A X) s.heap H locs → decode cX5_value pc = .ok (.lreturn, 1) → W p l e rX5_value s m args below meth c H locs 0 0 Q (F0 m pc ls [.long r])) {H : Heap} {locs : List Loc} {ls : Array Slot} (hP : gw_P X s0 H) (hS : va_S (gw_A X) s.heap H locs) (hl : lv_has ls 2 [(0, .ref (X.1 t0)), (1, .int a1)]) : W p l e rX5_value s m args below meth c H locs 0 0 Q (F0 m 0 ls []) := by
  obtain ⟨hx, hb, hml, hown, hts, hr, hlocks, hC⟩ := id C0
  unfold pX5_value at h
  refine lv_aload_n hx hb dX5_value_0 rfl (lv_at hl 0 rfl) ?_
  refine gv_get (ref := "IceByEar$Sheet") (C := RX5) (T := TX5) (N := 5) (ci := 5) (v := .int (s0.1 t0 3)) C0 (fun _ h9 => List.mem_cons_of_mem _ (List.mem_append_right _ h9)) hP t0 (gw_o5 X s0 ht0) rfl 3 (by decide) (by decide +kernel) rfl rfl dX5_value_1 ?_
  refine lv_iconst (v := 1) hx hb dX5_value_4 (by decide) ?_
  refine lv_icmp_ne (tgt := 18) hx hb dX5_value_5 (by decide) (fun hc => ?_) (fun hc => ?_)
  · have h := gv_neg hc h
    refine lv_aload_n hx hb dX5_value_18 rfl (lv_at hl 0 rfl) ?_
    refine gv_get (ref := "IceByEar$Sheet") (C := RX5) (T := TX5) (N := 5) (ci := 5) (v := .ref (X.1 (t0 + 3))) C0 (fun _ h9 => List.mem_cons_of_mem _ (List.mem_append_right _ h9)) hP t0 (gw_o5 X s0 ht0) rfl 2 (by decide) (by decide +kernel) rfl rfl dX5_value_19 ?_
    refine lv_iload_n hx hb dX5_value_22 rfl (lv_at hl 1 rfl) ?_
    obtain ⟨hin1, h⟩ := gv_in_e h
    refine gv_lald C0 hP (t0 + 3) (gk_o5_2 ht0).1 (gk_o5_2 ht0).2 hin1 dX5_value_23 ?_
    exact Kr _ _ _ _ _ (gv_inj h) hP hS dX5_value_24
  · have h := gv_pos hc h
    refine lv_aload_n hx hb dX5_value_8 rfl (lv_at hl 0 rfl) ?_
    refine gv_get (ref := "IceByEar$Sheet") (C := RX5) (T := TX5) (N := 5) (ci := 5) (v := .ref (X.1 (t0 + 2))) C0 (fun _ h9 => List.mem_cons_of_mem _ (List.mem_append_right _ h9)) hP t0 (gw_o5 X s0 ht0) rfl 1 (by decide) (by decide +kernel) rfl rfl dX5_value_9 ?_
    refine lv_iload_n hx hb dX5_value_12 rfl (lv_at hl 1 rfl) ?_
    obtain ⟨hin2, h⟩ := gv_in_e h
    refine gv_bald C0 hP (t0 + 2) (gk_o5_1 ht0).1 (gk_o5_1 ht0).2 hin2 dX5_value_13 ?_
    refine lv_i2l hx hb dX5_value_14 rfl ?_
    refine lv_goto (tgt := 24) hx hb dX5_value_15 (by decide) ?_
    exact Kr _ _ _ _ _ (gv_inj h) hP hS dX5_value_24
theorem mX5_value (l : Launch) (X : gw_X) (s0 : gs_S) (t0 : Nat) (ht0 : gk t0 = 5) (a1 : Int32) {r : Int64} (h : pX5_value t0 a1 s0 = some r) : Met l yX5_value wsX5_value rX5_value (gm_Pc X s0 [.ref (X.1 t0), .int a1]) (gm_Ql X s0 r) 0 0 (gw_A X) :=
  gm_of RX5 (by decide) rfl rfl (Nat.le_of_ble_eq_true rfl) (fun p e s m below meth c ls C0 hP hl hS => tX5_value C0 t0 ht0 a1 s0 h (fun H locs ls pc r hr hP hS hd => by subst hr; exact gm_retl C0 hP hS hd) hP hS hl)
def pX5_isWay_L2 (a1 : Int32) (a2 : Int32) (t0 : Nat) (s0 : gs_S) (v1 : Int32) : Option ((Int32) ⊕ ((Int32) ⊕ (Int32))) := if (a1 + a2) ≤ v1 then some (.inr (.inl v1)) else gv_bind (pX5_value t0 v1 s0) (fun v2 => if (pX10_isSquare v2) = 0 then some (.inr (.inr (0 : Int32))) else if v1 ≤ a1 then gv_let (v1 + (1 : Int32)) (fun v3 => some (.inl v3)) else gv_bind (pX5_value t0 (v1 - (1 : Int32)) s0) (fun v4 => gv_bind (pX5_value t0 v1 s0) (fun v5 => if (pX10_areNext (v4.toInt32) (v5.toInt32)) = 0 then some (.inr (.inr (0 : Int32))) else gv_let (v1 + (1 : Int32)) (fun v6 => some (.inl v6)))))
def pX5_isWay (t0 : Nat) (a1 : Int32) (a2 : Int32) (s0 : gs_S) : Option (Int32) := gv_bret (gv_loop (fun q => pX5_isWay_L2 a1 a2 t0 s0 q) gv_N a1) (fun r => r) (fun q => gv_let q (fun v7 => some (1 : Int32)))
def rX5_isWay : Room := { frames := 2, cells := 0, slots := 0, locals := 44 }
set_option maxHeartbeats 4000000 in
set_option maxRecDepth 100000 in
theorem tX5_isWay {p : Program} {l : Launch} {e : Env} {s : State} {m : MethodId} {args : Array Value} {below : List Frame} {meth : Method} {c : Code} {X : gw_X} {Q : State → Prop} (C0 : gm_At p s m args meth c X cX5_isWay 4 RX5 wsX5_isWay (some .boolean)) (t0 : Nat) (ht0 : gk t0 = 5) (a1 : Int32) (a2 : Int32) (s0 : gs_S) {z : Int32} (h : pX5_isWay t0 a1 a2 s0 = some z) (Kr : ∀ (H : Heap) (locs : List Loc) (ls : Array Slot) (pc : Nat) (r : Int32), z = r → narrow .boolean (.int r) = .int r → gw_P X s0 H → va_S (gw_A X) s.heap H locs → decode cX5_isWay pc = .ok (.ireturn, 1) → W p l e rX5_isWay s m args below meth c H locs 0 0 Q (F0 m pc ls [.int r])) {H : Heap} {locs : List Loc} {ls : Array Slot} (hP : gw_P X s0 H) (hS : va_S (gw_A X) s.heap H locs) (hl : lv_has ls 4 [(0, .ref (X.1 t0)), (1, .int a1), (2, .int a2)]) : W p l e rX5_isWay s m args below meth c H locs 0 0 Q (F0 m 0 ls []) := by
  obtain ⟨hx, hb, hml, hown, hts, hr, hlocks, hC⟩ := id C0
  unfold pX5_isWay at h
  refine lv_iload_n hx hb dX5_isWay_0 rfl (lv_at hl 1 rfl) ?_
  refine lv_istore_n (lv' := [(3, .int a1), (0, .ref (X.1 t0)), (1, .int a1), (2, .int a2)]) hx hb dX5_isWay_1 rfl hl (by decide) rfl (fun ls hl => ?_)
  obtain ⟨q7, hq7, h1q7, h2q7⟩ := gv_bret_e h
  refine gv_loop_ind (Φ := fun q => ∀ (H : Heap) (locs : List Loc) (ls : Array Slot), gw_P X s0 H → va_S (gw_A X) s.heap H locs → lv_has ls 4 [(0, .ref (X.1 t0)), (1, .int a1), (2, .int a2), (3, .int q)] → W p l e rX5_isWay s m args below meth c H locs 0 0 Q (F0 m 2 ls [])) (Ψ := fun ex => (∀ q : Int32, ex = .inl q → ∀ (H : Heap) (locs : List Loc) (ls : Array Slot), gw_P X s0 H → va_S (gw_A X) s.heap H locs → lv_has ls 4 [] → W p l e rX5_isWay s m args below meth c H locs 0 0 Q (F0 m 53 ls [])) ∧ (∀ r : Int32, ex = .inr r → ∀ (H : Heap) (locs : List Loc) (ls : Array Slot) (pc : Nat), narrow .boolean (.int r) = .int r → gw_P X s0 H → va_S (gw_A X) s.heap H locs → decode cX5_isWay pc = .ok (.ireturn, 1) → W p l e rX5_isWay s m args below meth c H locs 0 0 Q (F0 m pc ls [.int r]))) ?_ gv_N a1 q7 hq7 ⟨?_, ?_⟩ H locs ls hP hS (lv_sub hl [1, 2, 3, 0] rfl)
  · intro q x h Kc Ke H locs ls hP hS hl
    obtain ⟨v1, eq_q⟩ : ∃ y, y = q := ⟨_, rfl⟩
    subst eq_q
    have h : pX5_isWay_L2 a1 a2 t0 s0 v1 = some x := h
    have hP : gw_P X s0 H := hP
    have hl : lv_has ls 4 [(0, .ref (X.1 t0)), (1, .int a1), (2, .int a2), (3, .int v1)] := hl
    unfold pX5_isWay_L2 at h
    refine lv_iload_n hx hb dX5_isWay_2 rfl (lv_at hl 3 rfl) ?_
    refine lv_iload_n hx hb dX5_isWay_3 rfl (lv_at hl 1 rfl) ?_
    refine lv_iload_n hx hb dX5_isWay_4 rfl (lv_at hl 2 rfl) ?_
    refine lv_iadd hx hb dX5_isWay_5 ?_
    refine lv_icmp_ge (tgt := 53) hx hb dX5_isWay_6 (by decide) (fun hc => ?_) (fun hc => ?_)
    · have h := gv_pos hc h
      exact (Ke _ (gv_inj h)).1 _ rfl _ _ _ hP hS (lv_sub hl [] rfl)
    · have h := gv_neg hc h
      refine lv_aload_n hx hb dX5_isWay_9 rfl (lv_at hl 0 rfl) ?_
      refine lv_iload_n hx hb dX5_isWay_10 rfl (lv_at hl 3 rfl) ?_
      obtain ⟨v2, hv2, h⟩ := gv_bind_e h
      refine gv_rl (gv_runV (n := 1) (rest := []) C0 (mX5_value l X s0 t0 ht0 v1 hv2) gX5_isWay_X5_value rfl ⟨rfl, rfl⟩ (by decide +kernel) ⟨by decide, by decide⟩ ht0 (by decide) rfl hP hS rfl hl.1 rfl (Nat.le_of_ble_eq_true rfl) dX5_isWay_11 ⟨Nat.zero_le _, Nat.zero_le _⟩) hS (fun H locs hP hS => ?_)
      refine gv_ri (gv_runN (n := 1) (rest := []) (host := "IceByEar") C0 (mX10_isSquare l X s0 v2) gX5_isWay_X10_isSquare_n38 rfl ⟨rfl, rfl⟩ (by decide +kernel) ⟨by decide +kernel, by decide +kernel⟩ (by decide +kernel) ⟨by decide, by decide⟩ hP hS rfl hl.1 rfl (Nat.le_of_ble_eq_true rfl) dX5_isWay_14 ⟨Nat.zero_le _, Nat.zero_le _⟩) hS (fun H locs hP hS => ?_)
      refine lv_if_eq (tgt := 45) hx hb dX5_isWay_17 (by decide) (fun hc => ?_) (fun hc => ?_)
      · have h := gv_pos hc h
        refine lv_iconst (v := 0) hx hb dX5_isWay_45 (by decide) ?_
        exact (Ke _ (gv_inj h)).2 _ rfl _ _ _ _ (show narrow .boolean (.int (0 : Int32)) = .int (0 : Int32) by decide) hP hS dX5_isWay_46
      · have h := gv_neg hc h
        refine lv_iload_n hx hb dX5_isWay_20 rfl (lv_at hl 3 rfl) ?_
        refine lv_iload_n hx hb dX5_isWay_21 rfl (lv_at hl 1 rfl) ?_
        refine lv_icmp_le (tgt := 47) hx hb dX5_isWay_22 (by decide) (fun hc => ?_) (fun hc => ?_)
        · have h := gv_pos hc h
          obtain ⟨v3, ev3⟩ : ∃ y : Int32, y = (v1 + (1 : Int32)) := ⟨_, rfl⟩
          have h := gv_let_e ev3 h
          refine lv_iinc (v := v3) (lv' := [(3, .int v3), (0, .ref (X.1 t0)), (1, .int a1), (2, .int a2)]) hx hb dX5_isWay_47 hl (k := 3) rfl (by rw [ev3]; rfl) (by decide) rfl (fun ls hl => ?_)
          refine lv_goto (tgt := 2) hx hb dX5_isWay_50 (by decide) ?_
          exact Kc _ (gv_inj h) _ _ _ hP hS (lv_sub hl [1, 2, 3, 0] rfl)
        · have h := gv_neg hc h
          refine lv_aload_n hx hb dX5_isWay_25 rfl (lv_at hl 0 rfl) ?_
          refine lv_iload_n hx hb dX5_isWay_26 rfl (lv_at hl 3 rfl) ?_
          refine lv_iconst (v := 1) hx hb dX5_isWay_27 (by decide) ?_
          refine lv_isub hx hb dX5_isWay_28 ?_
          obtain ⟨v4, hv4, h⟩ := gv_bind_e h
          refine gv_rl (gv_runV (n := 1) (rest := []) C0 (mX5_value l X s0 t0 ht0 (v1 - (1 : Int32)) hv4) gX5_isWay_X5_value rfl ⟨rfl, rfl⟩ (by decide +kernel) ⟨by decide, by decide⟩ ht0 (by decide) rfl hP hS rfl hl.1 rfl (Nat.le_of_ble_eq_true rfl) dX5_isWay_29 ⟨Nat.zero_le _, Nat.zero_le _⟩) hS (fun H locs hP hS => ?_)
          refine lv_l2i hx hb dX5_isWay_32 rfl ?_
          refine lv_aload_n hx hb dX5_isWay_33 rfl (lv_at hl 0 rfl) ?_
          refine lv_iload_n hx hb dX5_isWay_34 rfl (lv_at hl 3 rfl) ?_
          obtain ⟨v5, hv5, h⟩ := gv_bind_e h
          refine gv_rl (gv_runV (n := 1) (rest := [.int (v4.toInt32)]) C0 (mX5_value l X s0 t0 ht0 v1 hv5) gX5_isWay_X5_value rfl ⟨rfl, rfl⟩ (by decide +kernel) ⟨by decide, by decide⟩ ht0 (by decide) rfl hP hS rfl hl.1 rfl (Nat.le_of_ble_eq_true rfl) dX5_isWay_35 ⟨Nat.zero_le _, Nat.zero_le _⟩) hS (fun H locs hP hS => ?_)
          refine lv_l2i hx hb dX5_isWay_38 rfl ?_
          refine gv_ri (gv_runN (n := 2) (rest := []) (host := "IceByEar") C0 (mX10_areNext l X s0 (v4.toInt32) (v5.toInt32)) gX5_isWay_X10_areNext_n42 rfl ⟨rfl, rfl⟩ (by decide +kernel) ⟨by decide +kernel, by decide +kernel⟩ (by decide +kernel) ⟨by decide, by decide⟩ hP hS rfl hl.1 rfl (Nat.le_of_ble_eq_true rfl) dX5_isWay_39 ⟨Nat.zero_le _, Nat.zero_le _⟩) hS (fun H locs hP hS => ?_)
          refine lv_if_ne (tgt := 47) hx hb dX5_isWay_42 (by decide) (fun hc => ?_) (fun hc => ?_)
          · have h := gv_neg hc h
            obtain ⟨v6, ev6⟩ : ∃ y : Int32, y = (v1 + (1 : Int32)) := ⟨_, rfl⟩
            have h := gv_let_e ev6 h
            refine lv_iinc (v := v6) (lv' := [(3, .int v6), (0, .ref (X.1 t0)), (1, .int a1), (2, .int a2)]) hx hb dX5_isWay_47 hl (k := 3) rfl (by rw [ev6]; rfl) (by decide) rfl (fun ls hl => ?_)
            refine lv_goto (tgt := 2) hx hb dX5_isWay_50 (by decide) ?_
            exact Kc _ (gv_inj h) _ _ _ hP hS (lv_sub hl [1, 2, 3, 0] rfl)
          · have h := gv_pos hc h
            refine lv_iconst (v := 0) hx hb dX5_isWay_45 (by decide) ?_
            exact (Ke _ (gv_inj h)).2 _ rfl _ _ _ _ (show narrow .boolean (.int (0 : Int32)) = .int (0 : Int32) by decide) hP hS dX5_isWay_46
  · intro q hex H locs ls hP hS hl
    have h := h1q7 q hex
    obtain ⟨v7, eq_q⟩ : ∃ y, y = q := ⟨_, rfl⟩
    subst eq_q
    have h := gv_let_e (x := v7) rfl h
    have hP : gw_P X s0 H := hP
    have hl : lv_has ls 4 [] := hl
    refine lv_iconst (v := 1) hx hb dX5_isWay_53 (by decide) ?_
    exact Kr _ _ _ _ _ (gv_inj h) (show narrow .boolean (.int (1 : Int32)) = .int (1 : Int32) by decide) hP hS dX5_isWay_54
  · intro r hex H locs ls pc hn hP hS hd
    exact Kr _ _ _ _ _ (h2q7 r hex).symm hn hP hS hd
theorem mX5_isWay (l : Launch) (X : gw_X) (s0 : gs_S) (t0 : Nat) (ht0 : gk t0 = 5) (a1 : Int32) (a2 : Int32) {r : Int32} (h : pX5_isWay t0 a1 a2 s0 = some r) : Met l yX5_isWay wsX5_isWay rX5_isWay (gm_Pc X s0 [.ref (X.1 t0), .int a1, .int a2]) (gm_Qi X s0 r) 0 0 (gw_A X) :=
  gm_of RX5 (by decide) rfl rfl (Nat.le_of_ble_eq_true rfl) (fun p e s m below meth c ls C0 hP hl hS => tX5_isWay C0 t0 ht0 a1 a2 s0 h (fun H locs ls pc r hr hn hP hS hd => by subst hr; exact gm_retz hn C0 hP hS hd) hP hS hl)
def pX10_go_L86 (a4 : Int32) (a1 : Int32) (a3 : Int32) (v5 : Int32) (s6 : gs_S) : Option ((Int32 × gs_S) ⊕ (Int32 × gs_S)) := if a4 ≤ v5 then some (.inr (v5, s6)) else gv_bind (pX5_value (46 + 1 + 4 * a1.toNatClampNeg) (a3 + v5) s6) (fun v7 => gv_bind (pX9_add (v7.toInt32) s6) (fun s8 => gv_let (v5 + (1 : Int32)) (fun v9 => some (.inl (v9, s8)))))
def pX10_go (a1 : Int32) (a2 : Int32) (a3 : Int32) (a4 : Int32) (s0 : gs_S) : Option (Int32 × gs_S) := if (pX10_isSheet a1) = 0 then some ((-1 : Int32), s0) else if (pX10_isWithin (a2.toInt64) (1 : Int32) (2 : Int32)) = 0 then some ((-1 : Int32), s0) else if (pX10_isWithin (a4.toInt64) (1 : Int32) (24 : Int32)) = 0 then some ((-1 : Int32), s0) else gv_in a1 4 (gv_let (pX5_refusal (46 + 1 + 4 * a1.toNatClampNeg) a2 a3 a4 s0) (fun v2 => if v2 = 0 then gv_bind (pX5_isWay (46 + 1 + 4 * a1.toNatClampNeg) a3 a4 s0) (fun v3 => if v3 = 0 then some ((-2 : Int32), s0) else gv_let (gs_u s0 8 1 (0 : Int32)) (fun s4 => gv_bind (gv_loop (fun q => pX10_go_L86 a4 a1 a3 q.1 q.2) gv_N ((0 : Int32), s4)) (fun q => gv_let q.1 (fun v10 => gv_let q.2 (fun s11 => some (a4, s11)))))) else some (v2, s0)))
def rX10_go : Room := { frames := 3, cells := 0, slots := 0, locals := 67 }
set_option maxHeartbeats 4000000 in
set_option maxRecDepth 100000 in
theorem tX10_go {p : Program} {l : Launch} {e : Env} {s : State} {m : MethodId} {args : Array Value} {below : List Frame} {meth : Method} {c : Code} {X : gw_X} {Q : State → Prop} (C0 : gm_At p s m args meth c X cX10_go 8 RX10 wsX10_go (some .int)) (a1 : Int32) (a2 : Int32) (a3 : Int32) (a4 : Int32) (s0 : gs_S) {z : Int32 × gs_S} (h : pX10_go a1 a2 a3 a4 s0 = some z) (Kr : ∀ (H : Heap) (locs : List Loc) (ls : Array Slot) (pc : Nat) (r : Int32) (τ : gs_S), z = (r, τ) → gw_P X τ H → va_S (gw_A X) s.heap H locs → decode cX10_go pc = .ok (.ireturn, 1) → W p l e rX10_go s m args below meth c H locs 0 0 Q (F0 m pc ls [.int r])) {H : Heap} {locs : List Loc} {ls : Array Slot} (hP : gw_P X s0 H) (hS : va_S (gw_A X) s.heap H locs) (hl : lv_has ls 8 [(0, .ref (X.1 0)), (1, .int a1), (2, .int a2), (3, .int a3), (4, .int a4)]) : W p l e rX10_go s m args below meth c H locs 0 0 Q (F0 m 0 ls []) := by
  obtain ⟨hx, hb, hml, hown, hts, hr, hlocks, hC⟩ := id C0
  unfold pX10_go at h
  refine lv_iload_n hx hb dX10_go_0 rfl (lv_at hl 1 rfl) ?_
  refine gv_ri (gv_runS (n := 1) (rest := []) C0 (mX10_isSheet l X s0 a1) gX10_go_X10_isSheet rfl ⟨rfl, rfl⟩ (by decide +kernel) ⟨by decide, by decide⟩ hP hS rfl hl.1 rfl (Nat.le_of_ble_eq_true rfl) dX10_go_1 ⟨Nat.zero_le _, Nat.zero_le _⟩) hS (fun H locs hP hS => ?_)
  refine lv_if_eq (tgt := 29) hx hb dX10_go_4 (by decide) (fun hc => ?_) (fun hc => ?_)
  · have h := gv_pos hc h
    refine lv_iconst (v := -1) hx hb dX10_go_29 (by decide) ?_
    exact Kr _ _ _ _ _ _ (gv_inj h) hP hS dX10_go_30
  · have h := gv_neg hc h
    refine lv_iload_n hx hb dX10_go_7 rfl (lv_at hl 2 rfl) ?_
    refine lv_i2l hx hb dX10_go_8 rfl ?_
    refine lv_iconst (v := 1) hx hb dX10_go_9 (by decide) ?_
    refine lv_iconst (v := 2) hx hb dX10_go_10 (by decide) ?_
    refine gv_ri (gv_runS (n := 3) (rest := []) C0 (mX10_isWithin l X s0 (a2.toInt64) (1 : Int32) (2 : Int32)) gX10_go_X10_isWithin rfl ⟨rfl, rfl⟩ (by decide +kernel) ⟨by decide, by decide⟩ hP hS rfl hl.1 rfl (Nat.le_of_ble_eq_true rfl) dX10_go_11 ⟨Nat.zero_le _, Nat.zero_le _⟩) hS (fun H locs hP hS => ?_)
    refine lv_if_eq (tgt := 29) hx hb dX10_go_14 (by decide) (fun hc => ?_) (fun hc => ?_)
    · have h := gv_pos hc h
      refine lv_iconst (v := -1) hx hb dX10_go_29 (by decide) ?_
      exact Kr _ _ _ _ _ _ (gv_inj h) hP hS dX10_go_30
    · have h := gv_neg hc h
      refine lv_iload hx hb dX10_go_17 (lv_at hl 4 rfl) ?_
      refine lv_i2l hx hb dX10_go_19 rfl ?_
      refine lv_iconst (v := 1) hx hb dX10_go_20 (by decide) ?_
      refine lv_bipush (v := 24) hx hb dX10_go_21 (by decide) ?_
      refine gv_ri (gv_runS (n := 3) (rest := []) C0 (mX10_isWithin l X s0 (a4.toInt64) (1 : Int32) (24 : Int32)) gX10_go_X10_isWithin rfl ⟨rfl, rfl⟩ (by decide +kernel) ⟨by decide, by decide⟩ hP hS rfl hl.1 rfl (Nat.le_of_ble_eq_true rfl) dX10_go_23 ⟨Nat.zero_le _, Nat.zero_le _⟩) hS (fun H locs hP hS => ?_)
      refine lv_if_ne (tgt := 31) hx hb dX10_go_26 (by decide) (fun hc => ?_) (fun hc => ?_)
      · have h := gv_neg hc h
        refine lv_aload_n hx hb dX10_go_31 rfl (lv_at hl 0 rfl) ?_
        refine gv_get (ref := "IceByEar") (C := RX10) (T := TX10) (N := 8) (ci := 10) (v := .ref (X.1 46)) C0 (fun _ h9 => List.mem_cons_of_mem _ (List.mem_append_left _ (List.mem_append_left _ (List.mem_append_left _ (List.mem_append_right _ h9))))) hP 0 (gw_o10 X s0 gk_0.1) rfl 7 (by decide) (by decide +kernel) rfl rfl dX10_go_32 ?_
        refine lv_iload_n hx hb dX10_go_35 rfl (lv_at hl 1 rfl) ?_
        obtain ⟨hin1, h⟩ := gv_in_e h
        refine gv_aald C0 hP 46 gk_46.1 gk_46.2 hin1 dX10_go_36 ?_
        refine lv_astore (lv' := [(5, .ref (X.1 (46 + 1 + 4 * a1.toNatClampNeg))), (0, .ref (X.1 0)), (1, .int a1), (2, .int a2), (3, .int a3), (4, .int a4)]) hx hb dX10_go_37 hl (by decide) rfl (fun ls hl => ?_)
        refine lv_aload hx hb dX10_go_39 (lv_at hl 0 rfl) ?_
        refine lv_iload_n hx hb dX10_go_41 rfl (lv_at hl 3 rfl) ?_
        refine lv_iload_n hx hb dX10_go_42 rfl (lv_at hl 4 rfl) ?_
        refine lv_iload hx hb dX10_go_43 (lv_at hl 5 rfl) ?_
        refine gv_ri (gv_runV (n := 3) (rest := []) C0 (mX5_refusal l X s0 (46 + 1 + 4 * a1.toNatClampNeg) (gk_sh hin1) a2 a3 a4) gX10_go_X5_refusal rfl ⟨rfl, rfl⟩ (by decide +kernel) ⟨by decide, by decide⟩ (gk_sh hin1) (by decide) rfl hP hS rfl hl.1 rfl (Nat.le_of_ble_eq_true rfl) dX10_go_45 ⟨Nat.zero_le _, Nat.zero_le _⟩) hS (fun H locs hP hS => ?_)
        refine lv_topi (fun v2 ev2 => ?_)
        have h := gv_let_e ev2 h
        refine lv_istore (lv' := [(6, .int v2), (5, .ref (X.1 (46 + 1 + 4 * a1.toNatClampNeg))), (0, .ref (X.1 0)), (1, .int a1), (2, .int a2), (3, .int a3), (4, .int a4)]) hx hb dX10_go_48 hl (by decide) rfl (fun ls hl => ?_)
        refine lv_iload hx hb dX10_go_50 (lv_at hl 0 rfl) ?_
        refine lv_if_eq (tgt := 58) hx hb dX10_go_52 (by decide) (fun hc => ?_) (fun hc => ?_)
        · have h := gv_pos hc h
          refine lv_aload hx hb dX10_go_58 (lv_at hl 1 rfl) ?_
          refine lv_iload_n hx hb dX10_go_60 rfl (lv_at hl 5 rfl) ?_
          refine lv_iload hx hb dX10_go_61 (lv_at hl 6 rfl) ?_
          obtain ⟨v3, hv3, h⟩ := gv_bind_e h
          refine gv_ri (gv_runV (n := 2) (rest := []) C0 (mX5_isWay l X s0 (46 + 1 + 4 * a1.toNatClampNeg) (gk_sh hin1) a3 a4 hv3) gX10_go_X5_isWay rfl ⟨rfl, rfl⟩ (by decide +kernel) ⟨by decide, by decide⟩ (gk_sh hin1) (by decide) rfl hP hS rfl hl.1 rfl (Nat.le_of_ble_eq_true rfl) dX10_go_63 ⟨Nat.zero_le _, Nat.zero_le _⟩) hS (fun H locs hP hS => ?_)
          refine lv_if_ne (tgt := 72) hx hb dX10_go_66 (by decide) (fun hc => ?_) (fun hc => ?_)
          · have h := gv_neg hc h
            refine lv_aload_n hx hb dX10_go_72 rfl (lv_at hl 2 rfl) ?_
            refine gv_get (ref := "IceByEar") (C := RX10) (T := TX10) (N := 8) (ci := 10) (v := .ref (X.1 1)) C0 (fun _ h9 => List.mem_cons_of_mem _ (List.mem_append_left _ (List.mem_append_left _ (List.mem_append_left _ (List.mem_append_right _ h9))))) hP 0 (gw_o10 X s0 gk_0.1) rfl 0 (by decide) (by decide +kernel) rfl rfl dX10_go_73 ?_
            refine gv_get (ref := "IceByEar$Scene") (C := RX4) (T := TX4) (N := 6) (ci := 4) (v := .ref (X.1 8)) C0 (fun _ h9 => List.mem_cons_of_mem _ (List.mem_append_left _ (List.mem_append_left _ (List.mem_append_right _ h9)))) hP 1 (gw_o4 X s0 gk_1.1) rfl 2 (by decide) (by decide +kernel) rfl rfl dX10_go_76 ?_
            refine lv_iconst (v := 0) hx hb dX10_go_79 (by decide) ?_
            refine gv_put (ref := "IceByEar$Way") (C := RX9) (T := TX9) (N := 2) (ci := 9) (v := .int (0 : Int32)) C0 (fun _ h9 => List.mem_cons_of_mem _ (List.mem_append_left _ (List.mem_append_right _ h9))) tyX9 tyX9_ok nmX9 hP hS 8 (gw_o9 X s0 gk_8.1) rfl 1 (by decide) (by decide +kernel) rfl rfl (tyX9_ok 1 (by decide)) rfl rfl (Nat.le_of_ble_eq_true rfl) (gw_s9_1 gk_8.1 (0 : Int32)) dX10_go_80 (fun s4 H locs es4 hP hS => ?_)
            have h := gv_let_e es4 h
            refine lv_iconst (v := 0) hx hb dX10_go_83 (by decide) ?_
            refine lv_istore (lv' := [(7, .int (0 : Int32)), (6, .int v2), (5, .ref (X.1 (46 + 1 + 4 * a1.toNatClampNeg))), (0, .ref (X.1 0)), (1, .int a1), (2, .int a2), (3, .int a3), (4, .int a4)]) hx hb dX10_go_84 hl (by decide) rfl (fun ls hl => ?_)
            obtain ⟨q11, hq11, h⟩ := gv_bind_e h
            refine gv_loop_ind (Φ := fun q => ∀ (H : Heap) (locs : List Loc) (ls : Array Slot), gw_P X q.2 H → va_S (gw_A X) s.heap H locs → lv_has ls 8 [(5, .ref (X.1 (46 + 1 + 4 * a1.toNatClampNeg))), (0, .ref (X.1 0)), (3, .int a3), (4, .int a4), (7, .int q.1)] → W p l e rX10_go s m args below meth c H locs 0 0 Q (F0 m 86 ls [])) (Ψ := fun q => ∀ (H : Heap) (locs : List Loc) (ls : Array Slot), gw_P X q.2 H → va_S (gw_A X) s.heap H locs → lv_has ls 8 [(4, .int a4)] → W p l e rX10_go s m args below meth c H locs 0 0 Q (F0 m 119 ls [])) ?_ gv_N ((0 : Int32), s4) q11 hq11 ?_ H locs ls hP hS (lv_sub hl [2, 3, 6, 7, 0] rfl)
            · intro q x h Kc Ke H locs ls hP hS hl
              obtain ⟨v5, s6⟩ := q
              have h : pX10_go_L86 a4 a1 a3 v5 s6 = some x := h
              have hP : gw_P X s6 H := hP
              have hl : lv_has ls 8 [(5, .ref (X.1 (46 + 1 + 4 * a1.toNatClampNeg))), (0, .ref (X.1 0)), (3, .int a3), (4, .int a4), (7, .int v5)] := hl
              unfold pX10_go_L86 at h
              refine lv_iload hx hb dX10_go_86 (lv_at hl 4 rfl) ?_
              refine lv_iload hx hb dX10_go_88 (lv_at hl 3 rfl) ?_
              refine lv_icmp_ge (tgt := 119) hx hb dX10_go_90 (by decide) (fun hc => ?_) (fun hc => ?_)
              · have h := gv_pos hc h
                exact Ke _ (gv_inj h) _ _ _ hP hS (lv_sub hl [3] rfl)
              · have h := gv_neg hc h
                refine lv_aload_n hx hb dX10_go_93 rfl (lv_at hl 1 rfl) ?_
                refine gv_get (ref := "IceByEar") (C := RX10) (T := TX10) (N := 8) (ci := 10) (v := .ref (X.1 1)) C0 (fun _ h9 => List.mem_cons_of_mem _ (List.mem_append_left _ (List.mem_append_left _ (List.mem_append_left _ (List.mem_append_right _ h9))))) hP 0 (gw_o10 X s6 gk_0.1) rfl 0 (by decide) (by decide +kernel) rfl rfl dX10_go_94 ?_
                refine gv_get (ref := "IceByEar$Scene") (C := RX4) (T := TX4) (N := 6) (ci := 4) (v := .ref (X.1 8)) C0 (fun _ h9 => List.mem_cons_of_mem _ (List.mem_append_left _ (List.mem_append_left _ (List.mem_append_right _ h9)))) hP 1 (gw_o4 X s6 gk_1.1) rfl 2 (by decide) (by decide +kernel) rfl rfl dX10_go_97 ?_
                refine lv_aload hx hb dX10_go_100 (lv_at hl 0 rfl) ?_
                refine lv_iload_n hx hb dX10_go_102 rfl (lv_at hl 2 rfl) ?_
                refine lv_iload hx hb dX10_go_103 (lv_at hl 4 rfl) ?_
                refine lv_iadd hx hb dX10_go_105 ?_
                obtain ⟨v7, hv7, h⟩ := gv_bind_e h
                refine gv_rl (gv_runV (n := 1) (rest := [.ref (X.1 8)]) C0 (mX5_value l X s6 (46 + 1 + 4 * a1.toNatClampNeg) (gk_sh hin1) (a3 + v5) hv7) gX10_go_X5_value rfl ⟨rfl, rfl⟩ (by decide +kernel) ⟨by decide, by decide⟩ (gk_sh hin1) (by decide) rfl hP hS rfl hl.1 rfl (Nat.le_of_ble_eq_true rfl) dX10_go_106 ⟨Nat.zero_le _, Nat.zero_le _⟩) hS (fun H locs hP hS => ?_)
                refine lv_l2i hx hb dX10_go_109 rfl ?_
                obtain ⟨s8, hs8, h⟩ := gv_bind_e h
                refine gv_rv (gv_runV (n := 1) (rest := []) C0 (mX9_add l X s6 (v7.toInt32) hs8) gX10_go_X9_add rfl ⟨rfl, rfl⟩ (by decide +kernel) ⟨by decide, by decide⟩ gk_8.1 (by decide) rfl hP hS rfl hl.1 rfl (Nat.le_of_ble_eq_true rfl) dX10_go_110 ⟨Nat.zero_le _, Nat.zero_le _⟩) hS (fun H locs hP hS => ?_)
                obtain ⟨v9, ev9⟩ : ∃ y : Int32, y = (v5 + (1 : Int32)) := ⟨_, rfl⟩
                have h := gv_let_e ev9 h
                refine lv_iinc (v := v9) (lv' := [(7, .int v9), (5, .ref (X.1 (46 + 1 + 4 * a1.toNatClampNeg))), (0, .ref (X.1 0)), (3, .int a3), (4, .int a4)]) hx hb dX10_go_113 hl (k := 4) rfl (by rw [ev9]; rfl) (by decide) rfl (fun ls hl => ?_)
                refine lv_goto (tgt := 86) hx hb dX10_go_116 (by decide) ?_
                exact Kc _ (gv_inj h) _ _ _ hP hS (lv_sub hl [1, 2, 3, 4, 0] rfl)
            · obtain ⟨v10, s11⟩ := q11
              have h := gv_let_e (x := v10) rfl h
              have h := gv_let_e (x := s11) rfl h
              intro H locs ls hP hS hl
              have hP : gw_P X s11 H := hP
              have hl : lv_has ls 8 [(4, .int a4)] := hl
              refine lv_iload hx hb dX10_go_119 (lv_at hl 0 rfl) ?_
              exact Kr _ _ _ _ _ _ (gv_inj h) hP hS dX10_go_121
          · have h := gv_pos hc h
            refine lv_bipush (v := -2) hx hb dX10_go_69 (by decide) ?_
            exact Kr _ _ _ _ _ _ (gv_inj h) hP hS dX10_go_71
        · have h := gv_neg hc h
          refine lv_iload hx hb dX10_go_55 (lv_at hl 0 rfl) ?_
          exact Kr _ _ _ _ _ _ (gv_inj h) hP hS dX10_go_57
      · have h := gv_pos hc h
        refine lv_iconst (v := -1) hx hb dX10_go_29 (by decide) ?_
        exact Kr _ _ _ _ _ _ (gv_inj h) hP hS dX10_go_30
theorem mX10_go (l : Launch) (X : gw_X) (s0 : gs_S) (a1 : Int32) (a2 : Int32) (a3 : Int32) (a4 : Int32) {r : Int32} {τ : gs_S} (h : pX10_go a1 a2 a3 a4 s0 = some (r, τ)) : Met l yX10_go wsX10_go rX10_go (gm_Pc X s0 [.ref (X.1 0), .int a1, .int a2, .int a3, .int a4]) (gm_Qi X τ r) 0 0 (gw_A X) :=
  gm_of RX10 (by decide) rfl rfl (Nat.le_of_ble_eq_true rfl) (fun p e s m below meth c ls C0 hP hl hS => tX10_go C0 a1 a2 a3 a4 s0 h (fun H locs ls pc r τ hr hP hS hd => by cases hr; exact gm_reti C0 hP hS hd) hP hS hl)
def pX5_put (t0 : Nat) (a1 : Int32) (a2 : Int64) (s0 : gs_S) : Option (gs_S) := if (s0.1 t0 3) = 0 then if (lg_cmp a2 (0 : Int64)) = 0 then gv_in a1 24 (gv_let (gs_u s0 (t0 + 1) a1.toNatClampNeg (vp_nar .boolean (0 : Int32))) (fun s6 => some s6)) else gv_in a1 24 (gv_let (gs_u s0 (t0 + 1) a1.toNatClampNeg (vp_nar .boolean (1 : Int32))) (fun s8 => some s8)) else if (s0.1 t0 3) = (1 : Int32) then gv_in a1 24 (gv_let (gs_u s0 (t0 + 2) a1.toNatClampNeg (vp_nar .byte ((a2.toInt32).toInt8.toInt32))) (fun s4 => some s4)) else gv_in a1 24 (gv_let (gs_ul s0 (t0 + 3) a1.toNatClampNeg a2) (fun s2 => some s2))
def rX5_put : Room := { frames := 0, cells := 0, slots := 0, locals := 0 }
set_option maxHeartbeats 4000000 in
set_option maxRecDepth 100000 in
theorem tX5_put {p : Program} {l : Launch} {e : Env} {s : State} {m : MethodId} {args : Array Value} {below : List Frame} {meth : Method} {c : Code} {X : gw_X} {Q : State → Prop} (C0 : gm_At p s m args meth c X cX5_put 4 RX5 wsX5_put none) (t0 : Nat) (ht0 : gk t0 = 5) (a1 : Int32) (a2 : Int64) (s0 : gs_S) {z : gs_S} (h : pX5_put t0 a1 a2 s0 = some z) (Kr : ∀ (H : Heap) (locs : List Loc) (ls : Array Slot) (pc : Nat) (τ : gs_S), z = τ → gw_P X τ H → va_S (gw_A X) s.heap H locs → decode cX5_put pc = .ok (.return_, 1) → W p l e rX5_put s m args below meth c H locs 0 0 Q (F0 m pc ls [])) {H : Heap} {locs : List Loc} {ls : Array Slot} (hP : gw_P X s0 H) (hS : va_S (gw_A X) s.heap H locs) (hl : lv_has ls 4 [(0, .ref (X.1 t0)), (1, .int a1), (2, .long a2)]) : W p l e rX5_put s m args below meth c H locs 0 0 Q (F0 m 0 ls []) := by
  obtain ⟨hx, hb, hml, hown, hts, hr, hlocks, hC⟩ := id C0
  unfold pX5_put at h
  refine lv_aload_n hx hb dX5_put_0 rfl (lv_at hl 0 rfl) ?_
  refine gv_get (ref := "IceByEar$Sheet") (C := RX5) (T := TX5) (N := 5) (ci := 5) (v := .int (s0.1 t0 3)) C0 (fun _ h9 => List.mem_cons_of_mem _ (List.mem_append_right _ h9)) hP t0 (gw_o5 X s0 ht0) rfl 3 (by decide) (by decide +kernel) rfl rfl dX5_put_1 ?_
  refine lv_if_ne (tgt := 27) hx hb dX5_put_4 (by decide) (fun hc => ?_) (fun hc => ?_)
  · have h := gv_neg hc h
    refine lv_aload_n hx hb dX5_put_27 rfl (lv_at hl 0 rfl) ?_
    refine gv_get (ref := "IceByEar$Sheet") (C := RX5) (T := TX5) (N := 5) (ci := 5) (v := .int (s0.1 t0 3)) C0 (fun _ h9 => List.mem_cons_of_mem _ (List.mem_append_right _ h9)) hP t0 (gw_o5 X s0 ht0) rfl 3 (by decide) (by decide +kernel) rfl rfl dX5_put_28 ?_
    refine lv_iconst (v := 1) hx hb dX5_put_31 (by decide) ?_
    refine lv_icmp_ne (tgt := 47) hx hb dX5_put_32 (by decide) (fun hc => ?_) (fun hc => ?_)
    · have h := gv_neg hc h
      refine lv_aload_n hx hb dX5_put_47 rfl (lv_at hl 0 rfl) ?_
      refine gv_get (ref := "IceByEar$Sheet") (C := RX5) (T := TX5) (N := 5) (ci := 5) (v := .ref (X.1 (t0 + 3))) C0 (fun _ h9 => List.mem_cons_of_mem _ (List.mem_append_right _ h9)) hP t0 (gw_o5 X s0 ht0) rfl 2 (by decide) (by decide +kernel) rfl rfl dX5_put_48 ?_
      refine lv_iload_n hx hb dX5_put_51 rfl (lv_at hl 1 rfl) ?_
      refine lv_lload_n hx hb dX5_put_52 rfl (lv_at hl 2 rfl) ?_
      obtain ⟨hin1, h⟩ := gv_in_e h
      refine gv_last C0 hP hS (t0 + 3) (gk_o5_2 ht0).1 (gk_o5_2 ht0).2 hin1 dX5_put_53 (fun s2 H locs es2 hP hS => ?_)
      have h := gv_let_e es2 h
      exact Kr _ _ _ _ _ (gv_inj h) hP hS dX5_put_54
    · have h := gv_pos hc h
      refine lv_aload_n hx hb dX5_put_35 rfl (lv_at hl 0 rfl) ?_
      refine gv_get (ref := "IceByEar$Sheet") (C := RX5) (T := TX5) (N := 5) (ci := 5) (v := .ref (X.1 (t0 + 2))) C0 (fun _ h9 => List.mem_cons_of_mem _ (List.mem_append_right _ h9)) hP t0 (gw_o5 X s0 ht0) rfl 1 (by decide) (by decide +kernel) rfl rfl dX5_put_36 ?_
      refine lv_iload_n hx hb dX5_put_39 rfl (lv_at hl 1 rfl) ?_
      refine lv_lload_n hx hb dX5_put_40 rfl (lv_at hl 2 rfl) ?_
      refine lv_l2i hx hb dX5_put_41 rfl ?_
      refine lv_i2b hx hb dX5_put_42 rfl ?_
      obtain ⟨hin3, h⟩ := gv_in_e h
      refine gv_bast C0 hP hS (t0 + 2) (gk_o5_1 ht0).1 (gk_o5_1 ht0).2 hin3 dX5_put_43 (fun s4 H locs es4 hP hS => ?_)
      have h := gv_let_e es4 h
      refine lv_goto (tgt := 54) hx hb dX5_put_44 (by decide) ?_
      exact Kr _ _ _ _ _ (gv_inj h) hP hS dX5_put_54
  · have h := gv_pos hc h
    refine lv_aload_n hx hb dX5_put_7 rfl (lv_at hl 0 rfl) ?_
    refine gv_get (ref := "IceByEar$Sheet") (C := RX5) (T := TX5) (N := 5) (ci := 5) (v := .ref (X.1 (t0 + 1))) C0 (fun _ h9 => List.mem_cons_of_mem _ (List.mem_append_right _ h9)) hP t0 (gw_o5 X s0 ht0) rfl 0 (by decide) (by decide +kernel) rfl rfl dX5_put_8 ?_
    refine lv_iload_n hx hb dX5_put_11 rfl (lv_at hl 1 rfl) ?_
    refine lv_lload_n hx hb dX5_put_12 rfl (lv_at hl 2 rfl) ?_
    refine lv_lconst (v := 0) hx hb dX5_put_13 (by decide) ?_
    refine W.lcmp hx hb dX5_put_14 ?_
    refine lv_if_eq (tgt := 22) hx hb dX5_put_15 (by decide) (fun hc => ?_) (fun hc => ?_)
    · have h := gv_pos hc h
      refine lv_iconst (v := 0) hx hb dX5_put_22 (by decide) ?_
      obtain ⟨hin5, h⟩ := gv_in_e h
      refine gv_zast C0 hP hS (t0 + 1) (gk_o5_0 ht0).1 (gk_o5_0 ht0).2 hin5 dX5_put_23 (fun s6 H locs es6 hP hS => ?_)
      have h := gv_let_e es6 h
      refine lv_goto (tgt := 54) hx hb dX5_put_24 (by decide) ?_
      exact Kr _ _ _ _ _ (gv_inj h) hP hS dX5_put_54
    · have h := gv_neg hc h
      refine lv_iconst (v := 1) hx hb dX5_put_18 (by decide) ?_
      refine lv_goto (tgt := 23) hx hb dX5_put_19 (by decide) ?_
      obtain ⟨hin7, h⟩ := gv_in_e h
      refine gv_zast C0 hP hS (t0 + 1) (gk_o5_0 ht0).1 (gk_o5_0 ht0).2 hin7 dX5_put_23 (fun s8 H locs es8 hP hS => ?_)
      have h := gv_let_e es8 h
      refine lv_goto (tgt := 54) hx hb dX5_put_24 (by decide) ?_
      exact Kr _ _ _ _ _ (gv_inj h) hP hS dX5_put_54
theorem mX5_put (l : Launch) (X : gw_X) (s0 : gs_S) (t0 : Nat) (ht0 : gk t0 = 5) (a1 : Int32) (a2 : Int64) {τ : gs_S} (h : pX5_put t0 a1 a2 s0 = some τ) : Met l yX5_put wsX5_put rX5_put (gm_Pc X s0 [.ref (X.1 t0), .int a1, .long a2]) (gm_Qv X τ) 0 0 (gw_A X) :=
  gm_of RX5 (by decide) rfl rfl (Nat.le_of_ble_eq_true rfl) (fun p e s m below meth c ls C0 hP hl hS => tX5_put C0 t0 ht0 a1 a2 s0 h (fun H locs ls pc τ hr hP hS hd => by subst hr; exact gm_retv C0 hP hS hd) hP hS hl)
def pX10_film_L49 (a1 : Int32) (a2 : Int32) (a3 : Int32) (v3 : Int32) (v4 : Int32) (s5 : gs_S) : Option ((Int32 × Int32 × gs_S) ⊕ (Int32 × Int32 × gs_S)) := if (8 : Int32) ≤ v4 then some (.inr (v3, v4, s5)) else gv_bind (pX2_trait ((a1 * (8 : Int32)) + v4) (0 : Int32) s5) (fun v6 => gv_in a2 4 (gv_bind (pX5_put (46 + 1 + 4 * a2.toNatClampNeg) (a3 + v4) (v6.toInt64) s5) (fun s8 => if v6 ≤ 0 then gv_let (v3 + (0 : Int32)) (fun v9 => gv_let (v4 + (1 : Int32)) (fun v10 => some (.inl (v9, v10, s8)))) else gv_let (v3 + (1 : Int32)) (fun v11 => gv_let (v4 + (1 : Int32)) (fun v12 => some (.inl (v11, v12, s8)))))))
def pX10_film (a1 : Int32) (a2 : Int32) (a3 : Int32) (s0 : gs_S) : Option (Int32 × gs_S) := if (pX10_isWithin (a1.toInt64) (0 : Int32) (7 : Int32)) = 0 then some ((-1 : Int32), s0) else if (pX10_isSheet a2) = 0 then some ((-1 : Int32), s0) else gv_in a2 4 (gv_let (pX5_refusal (46 + 1 + 4 * a2.toNatClampNeg) (0 : Int32) a3 (8 : Int32) s0) (fun v2 => if v2 = 0 then gv_bind (gv_loop (fun q => pX10_film_L49 a1 a2 a3 q.1 q.2.1 q.2.2) gv_N ((0 : Int32), (0 : Int32), s0)) (fun q => gv_let q.1 (fun v13 => gv_let q.2.1 (fun v14 => gv_let q.2.2 (fun s15 => some (v13, s15))))) else some (v2, s0)))
def rX10_film : Room := { frames := 2, cells := 0, slots := 0, locals := 43 }
set_option maxHeartbeats 4000000 in
set_option maxRecDepth 100000 in
theorem tX10_film {p : Program} {l : Launch} {e : Env} {s : State} {m : MethodId} {args : Array Value} {below : List Frame} {meth : Method} {c : Code} {X : gw_X} {Q : State → Prop} (C0 : gm_At p s m args meth c X cX10_film 8 RX10 wsX10_film (some .int)) (a1 : Int32) (a2 : Int32) (a3 : Int32) (s0 : gs_S) {z : Int32 × gs_S} (h : pX10_film a1 a2 a3 s0 = some z) (Kr : ∀ (H : Heap) (locs : List Loc) (ls : Array Slot) (pc : Nat) (r : Int32) (τ : gs_S), z = (r, τ) → gw_P X τ H → va_S (gw_A X) s.heap H locs → decode cX10_film pc = .ok (.ireturn, 1) → W p l e rX10_film s m args below meth c H locs 0 0 Q (F0 m pc ls [.int r])) {H : Heap} {locs : List Loc} {ls : Array Slot} (hP : gw_P X s0 H) (hS : va_S (gw_A X) s.heap H locs) (hl : lv_has ls 8 [(0, .ref (X.1 0)), (1, .int a1), (2, .int a2), (3, .int a3)]) : W p l e rX10_film s m args below meth c H locs 0 0 Q (F0 m 0 ls []) := by
  obtain ⟨hx, hb, hml, hown, hts, hr, hlocks, hC⟩ := id C0
  unfold pX10_film at h
  refine lv_iload_n hx hb dX10_film_0 rfl (lv_at hl 1 rfl) ?_
  refine lv_i2l hx hb dX10_film_1 rfl ?_
  refine lv_iconst (v := 0) hx hb dX10_film_2 (by decide) ?_
  refine lv_bipush (v := 7) hx hb dX10_film_3 (by decide) ?_
  refine gv_ri (gv_runS (n := 3) (rest := []) C0 (mX10_isWithin l X s0 (a1.toInt64) (0 : Int32) (7 : Int32)) gX10_film_X10_isWithin rfl ⟨rfl, rfl⟩ (by decide +kernel) ⟨by decide, by decide⟩ hP hS rfl hl.1 rfl (Nat.le_of_ble_eq_true rfl) dX10_film_5 ⟨Nat.zero_le _, Nat.zero_le _⟩) hS (fun H locs hP hS => ?_)
  refine lv_if_eq (tgt := 18) hx hb dX10_film_8 (by decide) (fun hc => ?_) (fun hc => ?_)
  · have h := gv_pos hc h
    refine lv_iconst (v := -1) hx hb dX10_film_18 (by decide) ?_
    exact Kr _ _ _ _ _ _ (gv_inj h) hP hS dX10_film_19
  · have h := gv_neg hc h
    refine lv_iload_n hx hb dX10_film_11 rfl (lv_at hl 2 rfl) ?_
    refine gv_ri (gv_runS (n := 1) (rest := []) C0 (mX10_isSheet l X s0 a2) gX10_film_X10_isSheet rfl ⟨rfl, rfl⟩ (by decide +kernel) ⟨by decide, by decide⟩ hP hS rfl hl.1 rfl (Nat.le_of_ble_eq_true rfl) dX10_film_12 ⟨Nat.zero_le _, Nat.zero_le _⟩) hS (fun H locs hP hS => ?_)
    refine lv_if_ne (tgt := 20) hx hb dX10_film_15 (by decide) (fun hc => ?_) (fun hc => ?_)
    · have h := gv_neg hc h
      refine lv_aload_n hx hb dX10_film_20 rfl (lv_at hl 0 rfl) ?_
      refine gv_get (ref := "IceByEar") (C := RX10) (T := TX10) (N := 8) (ci := 10) (v := .ref (X.1 46)) C0 (fun _ h9 => List.mem_cons_of_mem _ (List.mem_append_left _ (List.mem_append_left _ (List.mem_append_left _ (List.mem_append_right _ h9))))) hP 0 (gw_o10 X s0 gk_0.1) rfl 7 (by decide) (by decide +kernel) rfl rfl dX10_film_21 ?_
      refine lv_iload_n hx hb dX10_film_24 rfl (lv_at hl 2 rfl) ?_
      obtain ⟨hin1, h⟩ := gv_in_e h
      refine gv_aald C0 hP 46 gk_46.1 gk_46.2 hin1 dX10_film_25 ?_
      refine lv_iconst (v := 0) hx hb dX10_film_26 (by decide) ?_
      refine lv_iload_n hx hb dX10_film_27 rfl (lv_at hl 3 rfl) ?_
      refine lv_bipush (v := 8) hx hb dX10_film_28 (by decide) ?_
      refine gv_ri (gv_runV (n := 3) (rest := []) C0 (mX5_refusal l X s0 (46 + 1 + 4 * a2.toNatClampNeg) (gk_sh hin1) (0 : Int32) a3 (8 : Int32)) gX10_film_X5_refusal rfl ⟨rfl, rfl⟩ (by decide +kernel) ⟨by decide, by decide⟩ (gk_sh hin1) (by decide) rfl hP hS rfl hl.1 rfl (Nat.le_of_ble_eq_true rfl) dX10_film_30 ⟨Nat.zero_le _, Nat.zero_le _⟩) hS (fun H locs hP hS => ?_)
      refine lv_topi (fun v2 ev2 => ?_)
      have h := gv_let_e ev2 h
      refine lv_istore (lv' := [(4, .int v2), (0, .ref (X.1 0)), (1, .int a1), (2, .int a2), (3, .int a3)]) hx hb dX10_film_33 hl (by decide) rfl (fun ls hl => ?_)
      refine lv_iload hx hb dX10_film_35 (lv_at hl 0 rfl) ?_
      refine lv_if_eq (tgt := 43) hx hb dX10_film_37 (by decide) (fun hc => ?_) (fun hc => ?_)
      · have h := gv_pos hc h
        refine lv_iconst (v := 0) hx hb dX10_film_43 (by decide) ?_
        refine lv_istore (lv' := [(5, .int (0 : Int32)), (4, .int v2), (0, .ref (X.1 0)), (1, .int a1), (2, .int a2), (3, .int a3)]) hx hb dX10_film_44 hl (by decide) rfl (fun ls hl => ?_)
        refine lv_iconst (v := 0) hx hb dX10_film_46 (by decide) ?_
        refine lv_istore (lv' := [(6, .int (0 : Int32)), (5, .int (0 : Int32)), (4, .int v2), (0, .ref (X.1 0)), (1, .int a1), (2, .int a2), (3, .int a3)]) hx hb dX10_film_47 hl (by decide) rfl (fun ls hl => ?_)
        obtain ⟨q15, hq15, h⟩ := gv_bind_e h
        refine gv_loop_ind (Φ := fun q => ∀ (H : Heap) (locs : List Loc) (ls : Array Slot), gw_P X q.2.2 H → va_S (gw_A X) s.heap H locs → lv_has ls 8 [(0, .ref (X.1 0)), (1, .int a1), (2, .int a2), (3, .int a3), (5, .int q.1), (6, .int q.2.1)] → W p l e rX10_film s m args below meth c H locs 0 0 Q (F0 m 49 ls [])) (Ψ := fun q => ∀ (H : Heap) (locs : List Loc) (ls : Array Slot), gw_P X q.2.2 H → va_S (gw_A X) s.heap H locs → lv_has ls 8 [(5, .int q.1)] → W p l e rX10_film s m args below meth c H locs 0 0 Q (F0 m 113 ls [])) ?_ gv_N ((0 : Int32), (0 : Int32), s0) q15 hq15 ?_ H locs ls hP hS (lv_sub hl [3, 4, 5, 6, 1, 0] rfl)
        · intro q x h Kc Ke H locs ls hP hS hl
          obtain ⟨v3, v4, s5⟩ := q
          have h : pX10_film_L49 a1 a2 a3 v3 v4 s5 = some x := h
          have hP : gw_P X s5 H := hP
          have hl : lv_has ls 8 [(0, .ref (X.1 0)), (1, .int a1), (2, .int a2), (3, .int a3), (5, .int v3), (6, .int v4)] := hl
          unfold pX10_film_L49 at h
          refine lv_iload hx hb dX10_film_49 (lv_at hl 5 rfl) ?_
          refine lv_bipush (v := 8) hx hb dX10_film_51 (by decide) ?_
          refine lv_icmp_ge (tgt := 113) hx hb dX10_film_53 (by decide) (fun hc => ?_) (fun hc => ?_)
          · have h := gv_pos hc h
            exact Ke _ (gv_inj h) _ _ _ hP hS (lv_sub hl [4] rfl)
          · have h := gv_neg hc h
            refine lv_aload_n hx hb dX10_film_56 rfl (lv_at hl 0 rfl) ?_
            refine gv_get (ref := "IceByEar") (C := RX10) (T := TX10) (N := 8) (ci := 10) (v := .ref (X.1 1)) C0 (fun _ h9 => List.mem_cons_of_mem _ (List.mem_append_left _ (List.mem_append_left _ (List.mem_append_left _ (List.mem_append_right _ h9))))) hP 0 (gw_o10 X s5 gk_0.1) rfl 0 (by decide) (by decide +kernel) rfl rfl dX10_film_57 ?_
            refine gv_get (ref := "IceByEar$Scene") (C := RX4) (T := TX4) (N := 6) (ci := 4) (v := .ref (X.1 2)) C0 (fun _ h9 => List.mem_cons_of_mem _ (List.mem_append_left _ (List.mem_append_left _ (List.mem_append_right _ h9)))) hP 1 (gw_o4 X s5 gk_1.1) rfl 0 (by decide) (by decide +kernel) rfl rfl dX10_film_60 ?_
            refine lv_iload_n hx hb dX10_film_63 rfl (lv_at hl 1 rfl) ?_
            refine lv_bipush (v := 8) hx hb dX10_film_64 (by decide) ?_
            refine lv_imul hx hb dX10_film_66 ?_
            refine lv_iload hx hb dX10_film_67 (lv_at hl 5 rfl) ?_
            refine lv_iadd hx hb dX10_film_69 ?_
            refine lv_iconst (v := 0) hx hb dX10_film_70 (by decide) ?_
            obtain ⟨v6, hv6, h⟩ := gv_bind_e h
            refine gv_ri (gv_runV (n := 2) (rest := []) C0 (mX2_trait l X s5 ((a1 * (8 : Int32)) + v4) (0 : Int32) hv6) gX10_film_X2_trait rfl ⟨rfl, rfl⟩ (by decide +kernel) ⟨by decide, by decide⟩ gk_2.1 (by decide) rfl hP hS rfl hl.1 rfl (Nat.le_of_ble_eq_true rfl) dX10_film_71 ⟨Nat.zero_le _, Nat.zero_le _⟩) hS (fun H locs hP hS => ?_)
            refine lv_istore (lv' := [(7, .int v6), (0, .ref (X.1 0)), (1, .int a1), (2, .int a2), (3, .int a3), (5, .int v3), (6, .int v4)]) hx hb dX10_film_74 hl (by decide) rfl (fun ls hl => ?_)
            refine lv_aload_n hx hb dX10_film_76 rfl (lv_at hl 1 rfl) ?_
            refine gv_get (ref := "IceByEar") (C := RX10) (T := TX10) (N := 8) (ci := 10) (v := .ref (X.1 46)) C0 (fun _ h9 => List.mem_cons_of_mem _ (List.mem_append_left _ (List.mem_append_left _ (List.mem_append_left _ (List.mem_append_right _ h9))))) hP 0 (gw_o10 X s5 gk_0.1) rfl 7 (by decide) (by decide +kernel) rfl rfl dX10_film_77 ?_
            refine lv_iload_n hx hb dX10_film_80 rfl (lv_at hl 3 rfl) ?_
            obtain ⟨hin7, h⟩ := gv_in_e h
            refine gv_aald C0 hP 46 gk_46.1 gk_46.2 hin7 dX10_film_81 ?_
            refine lv_iload_n hx hb dX10_film_82 rfl (lv_at hl 4 rfl) ?_
            refine lv_iload hx hb dX10_film_83 (lv_at hl 6 rfl) ?_
            refine lv_iadd hx hb dX10_film_85 ?_
            refine lv_iload hx hb dX10_film_86 (lv_at hl 0 rfl) ?_
            refine lv_i2l hx hb dX10_film_88 rfl ?_
            obtain ⟨s8, hs8, h⟩ := gv_bind_e h
            refine gv_rv (gv_runV (n := 2) (rest := []) C0 (mX5_put l X s5 (46 + 1 + 4 * a2.toNatClampNeg) (gk_sh hin7) (a3 + v4) (v6.toInt64) hs8) gX10_film_X5_put rfl ⟨rfl, rfl⟩ (by decide +kernel) ⟨by decide, by decide⟩ (gk_sh hin7) (by decide) rfl hP hS rfl hl.1 rfl (Nat.le_of_ble_eq_true rfl) dX10_film_89 ⟨Nat.zero_le _, Nat.zero_le _⟩) hS (fun H locs hP hS => ?_)
            refine lv_iload hx hb dX10_film_92 (lv_at hl 5 rfl) ?_
            refine lv_iload hx hb dX10_film_94 (lv_at hl 0 rfl) ?_
            refine lv_if_le (tgt := 103) hx hb dX10_film_96 (by decide) (fun hc => ?_) (fun hc => ?_)
            · have h := gv_pos hc h
              refine lv_iconst (v := 0) hx hb dX10_film_103 (by decide) ?_
              refine lv_iadd hx hb dX10_film_104 ?_
              refine lv_topi (fun v9 ev9 => ?_)
              have h := gv_let_e ev9 h
              refine lv_istore (lv' := [(5, .int v9), (7, .int v6), (0, .ref (X.1 0)), (1, .int a1), (2, .int a2), (3, .int a3), (6, .int v4)]) hx hb dX10_film_105 hl (by decide) rfl (fun ls hl => ?_)
              obtain ⟨v10, ev10⟩ : ∃ y : Int32, y = (v4 + (1 : Int32)) := ⟨_, rfl⟩
              have h := gv_let_e ev10 h
              refine lv_iinc (v := v10) (lv' := [(6, .int v10), (5, .int v9), (7, .int v6), (0, .ref (X.1 0)), (1, .int a1), (2, .int a2), (3, .int a3)]) hx hb dX10_film_107 hl (k := 6) rfl (by rw [ev10]; rfl) (by decide) rfl (fun ls hl => ?_)
              refine lv_goto (tgt := 49) hx hb dX10_film_110 (by decide) ?_
              exact Kc _ (gv_inj h) _ _ _ hP hS (lv_sub hl [3, 4, 5, 6, 1, 0] rfl)
            · have h := gv_neg hc h
              refine lv_iconst (v := 1) hx hb dX10_film_99 (by decide) ?_
              refine lv_goto (tgt := 104) hx hb dX10_film_100 (by decide) ?_
              refine lv_iadd hx hb dX10_film_104 ?_
              refine lv_topi (fun v11 ev11 => ?_)
              have h := gv_let_e ev11 h
              refine lv_istore (lv' := [(5, .int v11), (7, .int v6), (0, .ref (X.1 0)), (1, .int a1), (2, .int a2), (3, .int a3), (6, .int v4)]) hx hb dX10_film_105 hl (by decide) rfl (fun ls hl => ?_)
              obtain ⟨v12, ev12⟩ : ∃ y : Int32, y = (v4 + (1 : Int32)) := ⟨_, rfl⟩
              have h := gv_let_e ev12 h
              refine lv_iinc (v := v12) (lv' := [(6, .int v12), (5, .int v11), (7, .int v6), (0, .ref (X.1 0)), (1, .int a1), (2, .int a2), (3, .int a3)]) hx hb dX10_film_107 hl (k := 6) rfl (by rw [ev12]; rfl) (by decide) rfl (fun ls hl => ?_)
              refine lv_goto (tgt := 49) hx hb dX10_film_110 (by decide) ?_
              exact Kc _ (gv_inj h) _ _ _ hP hS (lv_sub hl [3, 4, 5, 6, 1, 0] rfl)
        · obtain ⟨v13, v14, s15⟩ := q15
          have h := gv_let_e (x := v13) rfl h
          have h := gv_let_e (x := v14) rfl h
          have h := gv_let_e (x := s15) rfl h
          intro H locs ls hP hS hl
          have hP : gw_P X s15 H := hP
          have hl : lv_has ls 8 [(5, .int v13)] := hl
          refine lv_iload hx hb dX10_film_113 (lv_at hl 0 rfl) ?_
          exact Kr _ _ _ _ _ _ (gv_inj h) hP hS dX10_film_115
      · have h := gv_neg hc h
        refine lv_iload hx hb dX10_film_40 (lv_at hl 0 rfl) ?_
        exact Kr _ _ _ _ _ _ (gv_inj h) hP hS dX10_film_42
    · have h := gv_pos hc h
      refine lv_iconst (v := -1) hx hb dX10_film_18 (by decide) ?_
      exact Kr _ _ _ _ _ _ (gv_inj h) hP hS dX10_film_19
theorem mX10_film (l : Launch) (X : gw_X) (s0 : gs_S) (a1 : Int32) (a2 : Int32) (a3 : Int32) {r : Int32} {τ : gs_S} (h : pX10_film a1 a2 a3 s0 = some (r, τ)) : Met l yX10_film wsX10_film rX10_film (gm_Pc X s0 [.ref (X.1 0), .int a1, .int a2, .int a3]) (gm_Qi X τ r) 0 0 (gw_A X) :=
  gm_of RX10 (by decide) rfl rfl (Nat.le_of_ble_eq_true rfl) (fun p e s m below meth c ls C0 hP hl hS => tX10_film C0 a1 a2 a3 s0 h (fun H locs ls pc r τ hr hP hS hd => by cases hr; exact gm_reti C0 hP hS hd) hP hS hl)
def pX5_renew_L12 (a2 : Int32) (t0 : Nat) (v3 : Int32) (s4 : gs_S) : Option ((Int32 × gs_S) ⊕ (Int32 × gs_S)) := if a2 ≤ v3 then some (.inr (v3, s4)) else gv_bind (pX5_put t0 v3 (0 : Int64) s4) (fun s5 => gv_let (v3 + (1 : Int32)) (fun v6 => some (.inl (v6, s5))))
def pX5_renew (t0 : Nat) (a1 : Int32) (a2 : Int32) (s0 : gs_S) : Option (gs_S) := gv_let (gs_u s0 t0 3 a1) (fun s1 => gv_let (gs_u s1 t0 4 a2) (fun s2 => gv_bind (gv_loop (fun q => pX5_renew_L12 a2 t0 q.1 q.2) gv_N ((0 : Int32), s2)) (fun q => gv_let q.1 (fun v7 => gv_let q.2 (fun s8 => some s8)))))
def rX5_renew : Room := { frames := 1, cells := 0, slots := 0, locals := 23 }
set_option maxHeartbeats 4000000 in
set_option maxRecDepth 100000 in
theorem tX5_renew {p : Program} {l : Launch} {e : Env} {s : State} {m : MethodId} {args : Array Value} {below : List Frame} {meth : Method} {c : Code} {X : gw_X} {Q : State → Prop} (C0 : gm_At p s m args meth c X cX5_renew 4 RX5 wsX5_renew none) (t0 : Nat) (ht0 : gk t0 = 5) (a1 : Int32) (a2 : Int32) (s0 : gs_S) {z : gs_S} (h : pX5_renew t0 a1 a2 s0 = some z) (Kr : ∀ (H : Heap) (locs : List Loc) (ls : Array Slot) (pc : Nat) (τ : gs_S), z = τ → gw_P X τ H → va_S (gw_A X) s.heap H locs → decode cX5_renew pc = .ok (.return_, 1) → W p l e rX5_renew s m args below meth c H locs 0 0 Q (F0 m pc ls [])) {H : Heap} {locs : List Loc} {ls : Array Slot} (hP : gw_P X s0 H) (hS : va_S (gw_A X) s.heap H locs) (hl : lv_has ls 4 [(0, .ref (X.1 t0)), (1, .int a1), (2, .int a2)]) : W p l e rX5_renew s m args below meth c H locs 0 0 Q (F0 m 0 ls []) := by
  obtain ⟨hx, hb, hml, hown, hts, hr, hlocks, hC⟩ := id C0
  unfold pX5_renew at h
  refine lv_aload_n hx hb dX5_renew_0 rfl (lv_at hl 0 rfl) ?_
  refine lv_iload_n hx hb dX5_renew_1 rfl (lv_at hl 1 rfl) ?_
  refine gv_put (ref := "IceByEar$Sheet") (C := RX5) (T := TX5) (N := 5) (ci := 5) (v := .int a1) C0 (fun _ h9 => List.mem_cons_of_mem _ (List.mem_append_right _ h9)) tyX5 tyX5_ok nmX5 hP hS t0 (gw_o5 X s0 ht0) rfl 3 (by decide) (by decide +kernel) rfl rfl (tyX5_ok 3 (by decide)) rfl rfl (Nat.le_of_ble_eq_true rfl) (gw_s5_3 ht0 a1) dX5_renew_2 (fun s1 H locs es1 hP hS => ?_)
  have h := gv_let_e es1 h
  refine lv_aload_n hx hb dX5_renew_5 rfl (lv_at hl 0 rfl) ?_
  refine lv_iload_n hx hb dX5_renew_6 rfl (lv_at hl 2 rfl) ?_
  refine gv_put (ref := "IceByEar$Sheet") (C := RX5) (T := TX5) (N := 5) (ci := 5) (v := .int a2) C0 (fun _ h9 => List.mem_cons_of_mem _ (List.mem_append_right _ h9)) tyX5 tyX5_ok nmX5 hP hS t0 (gw_o5 X s1 ht0) rfl 4 (by decide) (by decide +kernel) rfl rfl (tyX5_ok 4 (by decide)) rfl rfl (Nat.le_of_ble_eq_true rfl) (gw_s5_4 ht0 a2) dX5_renew_7 (fun s2 H locs es2 hP hS => ?_)
  have h := gv_let_e es2 h
  refine lv_iconst (v := 0) hx hb dX5_renew_10 (by decide) ?_
  refine lv_istore_n (lv' := [(3, .int (0 : Int32)), (0, .ref (X.1 t0)), (1, .int a1), (2, .int a2)]) hx hb dX5_renew_11 rfl hl (by decide) rfl (fun ls hl => ?_)
  obtain ⟨q8, hq8, h⟩ := gv_bind_e h
  refine gv_loop_ind (Φ := fun q => ∀ (H : Heap) (locs : List Loc) (ls : Array Slot), gw_P X q.2 H → va_S (gw_A X) s.heap H locs → lv_has ls 4 [(0, .ref (X.1 t0)), (2, .int a2), (3, .int q.1)] → W p l e rX5_renew s m args below meth c H locs 0 0 Q (F0 m 12 ls [])) (Ψ := fun q => ∀ (H : Heap) (locs : List Loc) (ls : Array Slot), gw_P X q.2 H → va_S (gw_A X) s.heap H locs → lv_has ls 4 [] → W p l e rX5_renew s m args below meth c H locs 0 0 Q (F0 m 29 ls [])) ?_ gv_N ((0 : Int32), s2) q8 hq8 ?_ H locs ls hP hS (lv_sub hl [1, 3, 0] rfl)
  · intro q x h Kc Ke H locs ls hP hS hl
    obtain ⟨v3, s4⟩ := q
    have h : pX5_renew_L12 a2 t0 v3 s4 = some x := h
    have hP : gw_P X s4 H := hP
    have hl : lv_has ls 4 [(0, .ref (X.1 t0)), (2, .int a2), (3, .int v3)] := hl
    unfold pX5_renew_L12 at h
    refine lv_iload_n hx hb dX5_renew_12 rfl (lv_at hl 2 rfl) ?_
    refine lv_iload_n hx hb dX5_renew_13 rfl (lv_at hl 1 rfl) ?_
    refine lv_icmp_ge (tgt := 29) hx hb dX5_renew_14 (by decide) (fun hc => ?_) (fun hc => ?_)
    · have h := gv_pos hc h
      exact Ke _ (gv_inj h) _ _ _ hP hS (lv_sub hl [] rfl)
    · have h := gv_neg hc h
      refine lv_aload_n hx hb dX5_renew_17 rfl (lv_at hl 0 rfl) ?_
      refine lv_iload_n hx hb dX5_renew_18 rfl (lv_at hl 2 rfl) ?_
      refine lv_lconst (v := 0) hx hb dX5_renew_19 (by decide) ?_
      obtain ⟨s5, hs5, h⟩ := gv_bind_e h
      refine gv_rv (gv_runV (n := 2) (rest := []) C0 (mX5_put l X s4 t0 ht0 v3 (0 : Int64) hs5) gX5_renew_X5_put rfl ⟨rfl, rfl⟩ (by decide +kernel) ⟨by decide, by decide⟩ ht0 (by decide) rfl hP hS rfl hl.1 rfl (Nat.le_of_ble_eq_true rfl) dX5_renew_20 ⟨Nat.zero_le _, Nat.zero_le _⟩) hS (fun H locs hP hS => ?_)
      obtain ⟨v6, ev6⟩ : ∃ y : Int32, y = (v3 + (1 : Int32)) := ⟨_, rfl⟩
      have h := gv_let_e ev6 h
      refine lv_iinc (v := v6) (lv' := [(3, .int v6), (0, .ref (X.1 t0)), (2, .int a2)]) hx hb dX5_renew_23 hl (k := 2) rfl (by rw [ev6]; rfl) (by decide) rfl (fun ls hl => ?_)
      refine lv_goto (tgt := 12) hx hb dX5_renew_26 (by decide) ?_
      exact Kc _ (gv_inj h) _ _ _ hP hS (lv_sub hl [1, 2, 0] rfl)
  · obtain ⟨v7, s8⟩ := q8
    have h := gv_let_e (x := v7) rfl h
    have h := gv_let_e (x := s8) rfl h
    intro H locs ls hP hS hl
    have hP : gw_P X s8 H := hP
    have hl : lv_has ls 4 [] := hl
    exact Kr _ _ _ _ _ (gv_inj h) hP hS dX5_renew_29
theorem mX5_renew (l : Launch) (X : gw_X) (s0 : gs_S) (t0 : Nat) (ht0 : gk t0 = 5) (a1 : Int32) (a2 : Int32) {τ : gs_S} (h : pX5_renew t0 a1 a2 s0 = some τ) : Met l yX5_renew wsX5_renew rX5_renew (gm_Pc X s0 [.ref (X.1 t0), .int a1, .int a2]) (gm_Qv X τ) 0 0 (gw_A X) :=
  gm_of RX5 (by decide) rfl rfl (Nat.le_of_ble_eq_true rfl) (fun p e s m below meth c ls C0 hP hl hS => tX5_renew C0 t0 ht0 a1 a2 s0 h (fun H locs ls pc τ hr hP hS hd => by subst hr; exact gm_retv C0 hP hS hd) hP hS hl)
def pX10_sheet (a1 : Int32) (a2 : Int32) (a3 : Int32) (s0 : gs_S) : Option (Int32 × gs_S) := if (pX10_isSheet a1) = 0 then some ((-1 : Int32), s0) else if (pX10_isWithin (a2.toInt64) (0 : Int32) (2 : Int32)) = 0 then some ((-1 : Int32), s0) else if a3 ≤ (24 : Int32) then if 0 ≤ a3 then gv_in a1 4 (gv_bind (pX5_renew (46 + 1 + 4 * a1.toNatClampNeg) a2 a3 s0) (fun s2 => some (a3, s2))) else some ((-14 : Int32), s0) else some ((-1 : Int32), s0)
def rX10_sheet : Room := { frames := 2, cells := 0, slots := 0, locals := 46 }
set_option maxHeartbeats 4000000 in
set_option maxRecDepth 100000 in
theorem tX10_sheet {p : Program} {l : Launch} {e : Env} {s : State} {m : MethodId} {args : Array Value} {below : List Frame} {meth : Method} {c : Code} {X : gw_X} {Q : State → Prop} (C0 : gm_At p s m args meth c X cX10_sheet 4 RX10 wsX10_sheet (some .int)) (a1 : Int32) (a2 : Int32) (a3 : Int32) (s0 : gs_S) {z : Int32 × gs_S} (h : pX10_sheet a1 a2 a3 s0 = some z) (Kr : ∀ (H : Heap) (locs : List Loc) (ls : Array Slot) (pc : Nat) (r : Int32) (τ : gs_S), z = (r, τ) → gw_P X τ H → va_S (gw_A X) s.heap H locs → decode cX10_sheet pc = .ok (.ireturn, 1) → W p l e rX10_sheet s m args below meth c H locs 0 0 Q (F0 m pc ls [.int r])) {H : Heap} {locs : List Loc} {ls : Array Slot} (hP : gw_P X s0 H) (hS : va_S (gw_A X) s.heap H locs) (hl : lv_has ls 4 [(0, .ref (X.1 0)), (1, .int a1), (2, .int a2), (3, .int a3)]) : W p l e rX10_sheet s m args below meth c H locs 0 0 Q (F0 m 0 ls []) := by
  obtain ⟨hx, hb, hml, hown, hts, hr, hlocks, hC⟩ := id C0
  unfold pX10_sheet at h
  refine lv_iload_n hx hb dX10_sheet_0 rfl (lv_at hl 1 rfl) ?_
  refine gv_ri (gv_runS (n := 1) (rest := []) C0 (mX10_isSheet l X s0 a1) gX10_sheet_X10_isSheet rfl ⟨rfl, rfl⟩ (by decide +kernel) ⟨by decide, by decide⟩ hP hS rfl hl.1 rfl (Nat.le_of_ble_eq_true rfl) dX10_sheet_1 ⟨Nat.zero_le _, Nat.zero_le _⟩) hS (fun H locs hP hS => ?_)
  refine lv_if_eq (tgt := 23) hx hb dX10_sheet_4 (by decide) (fun hc => ?_) (fun hc => ?_)
  · have h := gv_pos hc h
    refine lv_iconst (v := -1) hx hb dX10_sheet_23 (by decide) ?_
    exact Kr _ _ _ _ _ _ (gv_inj h) hP hS dX10_sheet_24
  · have h := gv_neg hc h
    refine lv_iload_n hx hb dX10_sheet_7 rfl (lv_at hl 2 rfl) ?_
    refine lv_i2l hx hb dX10_sheet_8 rfl ?_
    refine lv_iconst (v := 0) hx hb dX10_sheet_9 (by decide) ?_
    refine lv_iconst (v := 2) hx hb dX10_sheet_10 (by decide) ?_
    refine gv_ri (gv_runS (n := 3) (rest := []) C0 (mX10_isWithin l X s0 (a2.toInt64) (0 : Int32) (2 : Int32)) gX10_sheet_X10_isWithin rfl ⟨rfl, rfl⟩ (by decide +kernel) ⟨by decide, by decide⟩ hP hS rfl hl.1 rfl (Nat.le_of_ble_eq_true rfl) dX10_sheet_11 ⟨Nat.zero_le _, Nat.zero_le _⟩) hS (fun H locs hP hS => ?_)
    refine lv_if_eq (tgt := 23) hx hb dX10_sheet_14 (by decide) (fun hc => ?_) (fun hc => ?_)
    · have h := gv_pos hc h
      refine lv_iconst (v := -1) hx hb dX10_sheet_23 (by decide) ?_
      exact Kr _ _ _ _ _ _ (gv_inj h) hP hS dX10_sheet_24
    · have h := gv_neg hc h
      refine lv_iload_n hx hb dX10_sheet_17 rfl (lv_at hl 3 rfl) ?_
      refine lv_bipush (v := 24) hx hb dX10_sheet_18 (by decide) ?_
      refine lv_icmp_le (tgt := 25) hx hb dX10_sheet_20 (by decide) (fun hc => ?_) (fun hc => ?_)
      · have h := gv_pos hc h
        refine lv_iload_n hx hb dX10_sheet_25 rfl (lv_at hl 3 rfl) ?_
        refine lv_if_ge (tgt := 32) hx hb dX10_sheet_26 (by decide) (fun hc => ?_) (fun hc => ?_)
        · have h := gv_pos hc h
          refine lv_aload_n hx hb dX10_sheet_32 rfl (lv_at hl 0 rfl) ?_
          refine gv_get (ref := "IceByEar") (C := RX10) (T := TX10) (N := 8) (ci := 10) (v := .ref (X.1 46)) C0 (fun _ h9 => List.mem_cons_of_mem _ (List.mem_append_left _ (List.mem_append_right _ h9))) hP 0 (gw_o10 X s0 gk_0.1) rfl 7 (by decide) (by decide +kernel) rfl rfl dX10_sheet_33 ?_
          refine lv_iload_n hx hb dX10_sheet_36 rfl (lv_at hl 1 rfl) ?_
          obtain ⟨hin1, h⟩ := gv_in_e h
          refine gv_aald C0 hP 46 gk_46.1 gk_46.2 hin1 dX10_sheet_37 ?_
          refine lv_iload_n hx hb dX10_sheet_38 rfl (lv_at hl 2 rfl) ?_
          refine lv_iload_n hx hb dX10_sheet_39 rfl (lv_at hl 3 rfl) ?_
          obtain ⟨s2, hs2, h⟩ := gv_bind_e h
          refine gv_rv (gv_runV (n := 2) (rest := []) C0 (mX5_renew l X s0 (46 + 1 + 4 * a1.toNatClampNeg) (gk_sh hin1) a2 a3 hs2) gX10_sheet_X5_renew rfl ⟨rfl, rfl⟩ (by decide +kernel) ⟨by decide, by decide⟩ (gk_sh hin1) (by decide) rfl hP hS rfl hl.1 rfl (Nat.le_of_ble_eq_true rfl) dX10_sheet_40 ⟨Nat.zero_le _, Nat.zero_le _⟩) hS (fun H locs hP hS => ?_)
          refine lv_iload_n hx hb dX10_sheet_43 rfl (lv_at hl 3 rfl) ?_
          exact Kr _ _ _ _ _ _ (gv_inj h) hP hS dX10_sheet_44
        · have h := gv_neg hc h
          refine lv_bipush (v := -14) hx hb dX10_sheet_29 (by decide) ?_
          exact Kr _ _ _ _ _ _ (gv_inj h) hP hS dX10_sheet_31
      · have h := gv_neg hc h
        refine lv_iconst (v := -1) hx hb dX10_sheet_23 (by decide) ?_
        exact Kr _ _ _ _ _ _ (gv_inj h) hP hS dX10_sheet_24
theorem mX10_sheet (l : Launch) (X : gw_X) (s0 : gs_S) (a1 : Int32) (a2 : Int32) (a3 : Int32) {r : Int32} {τ : gs_S} (h : pX10_sheet a1 a2 a3 s0 = some (r, τ)) : Met l yX10_sheet wsX10_sheet rX10_sheet (gm_Pc X s0 [.ref (X.1 0), .int a1, .int a2, .int a3]) (gm_Qi X τ r) 0 0 (gw_A X) :=
  gm_of RX10 (by decide) rfl rfl (Nat.le_of_ble_eq_true rfl) (fun p e s m below meth c ls C0 hP hl hS => tX10_sheet C0 a1 a2 a3 s0 h (fun H locs ls pc r τ hr hP hS hd => by cases hr; exact gm_reti C0 hP hS hd) hP hS hl)
def pX10_drop (a1 : Int32) (s0 : gs_S) : Option (Int32 × gs_S) := if (pX10_isSheet a1) = 0 then some ((-1 : Int32), s0) else gv_in a1 4 (if (s0.1 (46 + 1 + 4 * a1.toNatClampNeg) 3) = (-1 : Int32) then some ((-11 : Int32), s0) else gv_in a1 4 (gv_let (gs_u s0 (46 + 1 + 4 * a1.toNatClampNeg) 3 (-1 : Int32)) (fun s3 => gv_in a1 4 (some ((s3.1 (46 + 1 + 4 * a1.toNatClampNeg) 4), s3)))))
def rX10_drop : Room := { frames := 2, cells := 0, slots := 0, locals := 43 }
set_option maxHeartbeats 4000000 in
set_option maxRecDepth 100000 in
theorem tX10_drop {p : Program} {l : Launch} {e : Env} {s : State} {m : MethodId} {args : Array Value} {below : List Frame} {meth : Method} {c : Code} {X : gw_X} {Q : State → Prop} (C0 : gm_At p s m args meth c X cX10_drop 2 RX10 wsX10_drop (some .int)) (a1 : Int32) (s0 : gs_S) {z : Int32 × gs_S} (h : pX10_drop a1 s0 = some z) (Kr : ∀ (H : Heap) (locs : List Loc) (ls : Array Slot) (pc : Nat) (r : Int32) (τ : gs_S), z = (r, τ) → gw_P X τ H → va_S (gw_A X) s.heap H locs → decode cX10_drop pc = .ok (.ireturn, 1) → W p l e rX10_drop s m args below meth c H locs 0 0 Q (F0 m pc ls [.int r])) {H : Heap} {locs : List Loc} {ls : Array Slot} (hP : gw_P X s0 H) (hS : va_S (gw_A X) s.heap H locs) (hl : lv_has ls 2 [(0, .ref (X.1 0)), (1, .int a1)]) : W p l e rX10_drop s m args below meth c H locs 0 0 Q (F0 m 0 ls []) := by
  obtain ⟨hx, hb, hml, hown, hts, hr, hlocks, hC⟩ := id C0
  unfold pX10_drop at h
  refine lv_iload_n hx hb dX10_drop_0 rfl (lv_at hl 1 rfl) ?_
  refine gv_ri (gv_runS (n := 1) (rest := []) C0 (mX10_isSheet l X s0 a1) gX10_drop_X10_isSheet rfl ⟨rfl, rfl⟩ (by decide +kernel) ⟨by decide, by decide⟩ hP hS rfl hl.1 rfl (Nat.le_of_ble_eq_true rfl) dX10_drop_1 ⟨Nat.zero_le _, Nat.zero_le _⟩) hS (fun H locs hP hS => ?_)
  refine lv_if_ne (tgt := 9) hx hb dX10_drop_4 (by decide) (fun hc => ?_) (fun hc => ?_)
  · have h := gv_neg hc h
    refine lv_aload_n hx hb dX10_drop_9 rfl (lv_at hl 0 rfl) ?_
    refine gv_get (ref := "IceByEar") (C := RX10) (T := TX10) (N := 8) (ci := 10) (v := .ref (X.1 46)) C0 (fun _ h9 => List.mem_cons_of_mem _ (List.mem_append_left _ (List.mem_append_right _ h9))) hP 0 (gw_o10 X s0 gk_0.1) rfl 7 (by decide) (by decide +kernel) rfl rfl dX10_drop_10 ?_
    refine lv_iload_n hx hb dX10_drop_13 rfl (lv_at hl 1 rfl) ?_
    obtain ⟨hin1, h⟩ := gv_in_e h
    refine gv_aald C0 hP 46 gk_46.1 gk_46.2 hin1 dX10_drop_14 ?_
    refine gv_get (ref := "IceByEar$Sheet") (C := RX5) (T := TX5) (N := 5) (ci := 5) (v := .int (s0.1 (46 + 1 + 4 * a1.toNatClampNeg) 3)) C0 (fun _ h9 => List.mem_cons_of_mem _ (List.mem_append_right _ h9)) hP (46 + 1 + 4 * a1.toNatClampNeg) (gw_o5 X s0 (gk_sh hin1)) rfl 3 (by decide) (by decide +kernel) rfl rfl dX10_drop_15 ?_
    refine lv_iconst (v := -1) hx hb dX10_drop_18 (by decide) ?_
    refine lv_icmp_ne (tgt := 25) hx hb dX10_drop_19 (by decide) (fun hc => ?_) (fun hc => ?_)
    · have h := gv_neg hc h
      refine lv_aload_n hx hb dX10_drop_25 rfl (lv_at hl 0 rfl) ?_
      refine gv_get (ref := "IceByEar") (C := RX10) (T := TX10) (N := 8) (ci := 10) (v := .ref (X.1 46)) C0 (fun _ h9 => List.mem_cons_of_mem _ (List.mem_append_left _ (List.mem_append_right _ h9))) hP 0 (gw_o10 X s0 gk_0.1) rfl 7 (by decide) (by decide +kernel) rfl rfl dX10_drop_26 ?_
      refine lv_iload_n hx hb dX10_drop_29 rfl (lv_at hl 1 rfl) ?_
      obtain ⟨hin2, h⟩ := gv_in_e h
      refine gv_aald C0 hP 46 gk_46.1 gk_46.2 hin2 dX10_drop_30 ?_
      refine lv_iconst (v := -1) hx hb dX10_drop_31 (by decide) ?_
      refine gv_put (ref := "IceByEar$Sheet") (C := RX5) (T := TX5) (N := 5) (ci := 5) (v := .int (-1 : Int32)) C0 (fun _ h9 => List.mem_cons_of_mem _ (List.mem_append_right _ h9)) tyX5 tyX5_ok nmX5 hP hS (46 + 1 + 4 * a1.toNatClampNeg) (gw_o5 X s0 (gk_sh hin2)) rfl 3 (by decide) (by decide +kernel) rfl rfl (tyX5_ok 3 (by decide)) rfl rfl (Nat.le_of_ble_eq_true rfl) (gw_s5_3 (gk_sh hin2) (-1 : Int32)) dX10_drop_32 (fun s3 H locs es3 hP hS => ?_)
      have h := gv_let_e es3 h
      refine lv_aload_n hx hb dX10_drop_35 rfl (lv_at hl 0 rfl) ?_
      refine gv_get (ref := "IceByEar") (C := RX10) (T := TX10) (N := 8) (ci := 10) (v := .ref (X.1 46)) C0 (fun _ h9 => List.mem_cons_of_mem _ (List.mem_append_left _ (List.mem_append_right _ h9))) hP 0 (gw_o10 X s3 gk_0.1) rfl 7 (by decide) (by decide +kernel) rfl rfl dX10_drop_36 ?_
      refine lv_iload_n hx hb dX10_drop_39 rfl (lv_at hl 1 rfl) ?_
      obtain ⟨hin4, h⟩ := gv_in_e h
      refine gv_aald C0 hP 46 gk_46.1 gk_46.2 hin4 dX10_drop_40 ?_
      refine gv_get (ref := "IceByEar$Sheet") (C := RX5) (T := TX5) (N := 5) (ci := 5) (v := .int (s3.1 (46 + 1 + 4 * a1.toNatClampNeg) 4)) C0 (fun _ h9 => List.mem_cons_of_mem _ (List.mem_append_right _ h9)) hP (46 + 1 + 4 * a1.toNatClampNeg) (gw_o5 X s3 (gk_sh hin4)) rfl 4 (by decide) (by decide +kernel) rfl rfl dX10_drop_41 ?_
      exact Kr _ _ _ _ _ _ (gv_inj h) hP hS dX10_drop_44
    · have h := gv_pos hc h
      refine lv_bipush (v := -11) hx hb dX10_drop_22 (by decide) ?_
      exact Kr _ _ _ _ _ _ (gv_inj h) hP hS dX10_drop_24
  · have h := gv_pos hc h
    refine lv_iconst (v := -1) hx hb dX10_drop_7 (by decide) ?_
    exact Kr _ _ _ _ _ _ (gv_inj h) hP hS dX10_drop_8
theorem mX10_drop (l : Launch) (X : gw_X) (s0 : gs_S) (a1 : Int32) {r : Int32} {τ : gs_S} (h : pX10_drop a1 s0 = some (r, τ)) : Met l yX10_drop wsX10_drop rX10_drop (gm_Pc X s0 [.ref (X.1 0), .int a1]) (gm_Qi X τ r) 0 0 (gw_A X) :=
  gm_of RX10 (by decide) rfl rfl (Nat.le_of_ble_eq_true rfl) (fun p e s m below meth c ls C0 hP hl hS => tX10_drop C0 a1 s0 h (fun H locs ls pc r τ hr hP hS hd => by cases hr; exact gm_reti C0 hP hS hd) hP hS hl)
def pX10_item (a1 : Int32) (a2 : Int32) (a3 : Int32) (a4 : Int64) (s0 : gs_S) : Option (Int32 × gs_S) := if (pX10_isSheet a1) = 0 then some ((-1 : Int32), s0) else if (pX10_isWithin (a2.toInt64) (0 : Int32) (2 : Int32)) = 0 then some ((-1 : Int32), s0) else gv_in a1 4 (gv_let (pX5_refusal (46 + 1 + 4 * a1.toNatClampNeg) a2 a3 (1 : Int32) s0) (fun v2 => if v2 = 0 then gv_in a1 4 (gv_bind (pX5_put (46 + 1 + 4 * a1.toNatClampNeg) a3 a4 s0) (fun s4 => some ((1 : Int32), s4))) else some (v2, s0)))
def rX10_item : Room := { frames := 2, cells := 0, slots := 0, locals := 43 }
set_option maxHeartbeats 4000000 in
set_option maxRecDepth 100000 in
theorem tX10_item {p : Program} {l : Launch} {e : Env} {s : State} {m : MethodId} {args : Array Value} {below : List Frame} {meth : Method} {c : Code} {X : gw_X} {Q : State → Prop} (C0 : gm_At p s m args meth c X cX10_item 7 RX10 wsX10_item (some .int)) (a1 : Int32) (a2 : Int32) (a3 : Int32) (a4 : Int64) (s0 : gs_S) {z : Int32 × gs_S} (h : pX10_item a1 a2 a3 a4 s0 = some z) (Kr : ∀ (H : Heap) (locs : List Loc) (ls : Array Slot) (pc : Nat) (r : Int32) (τ : gs_S), z = (r, τ) → gw_P X τ H → va_S (gw_A X) s.heap H locs → decode cX10_item pc = .ok (.ireturn, 1) → W p l e rX10_item s m args below meth c H locs 0 0 Q (F0 m pc ls [.int r])) {H : Heap} {locs : List Loc} {ls : Array Slot} (hP : gw_P X s0 H) (hS : va_S (gw_A X) s.heap H locs) (hl : lv_has ls 7 [(0, .ref (X.1 0)), (1, .int a1), (2, .int a2), (3, .int a3), (4, .long a4)]) : W p l e rX10_item s m args below meth c H locs 0 0 Q (F0 m 0 ls []) := by
  obtain ⟨hx, hb, hml, hown, hts, hr, hlocks, hC⟩ := id C0
  unfold pX10_item at h
  refine lv_iload_n hx hb dX10_item_0 rfl (lv_at hl 1 rfl) ?_
  refine gv_ri (gv_runS (n := 1) (rest := []) C0 (mX10_isSheet l X s0 a1) gX10_item_X10_isSheet rfl ⟨rfl, rfl⟩ (by decide +kernel) ⟨by decide, by decide⟩ hP hS rfl hl.1 rfl (Nat.le_of_ble_eq_true rfl) dX10_item_1 ⟨Nat.zero_le _, Nat.zero_le _⟩) hS (fun H locs hP hS => ?_)
  refine lv_if_eq (tgt := 17) hx hb dX10_item_4 (by decide) (fun hc => ?_) (fun hc => ?_)
  · have h := gv_pos hc h
    refine lv_iconst (v := -1) hx hb dX10_item_17 (by decide) ?_
    exact Kr _ _ _ _ _ _ (gv_inj h) hP hS dX10_item_18
  · have h := gv_neg hc h
    refine lv_iload_n hx hb dX10_item_7 rfl (lv_at hl 2 rfl) ?_
    refine lv_i2l hx hb dX10_item_8 rfl ?_
    refine lv_iconst (v := 0) hx hb dX10_item_9 (by decide) ?_
    refine lv_iconst (v := 2) hx hb dX10_item_10 (by decide) ?_
    refine gv_ri (gv_runS (n := 3) (rest := []) C0 (mX10_isWithin l X s0 (a2.toInt64) (0 : Int32) (2 : Int32)) gX10_item_X10_isWithin rfl ⟨rfl, rfl⟩ (by decide +kernel) ⟨by decide, by decide⟩ hP hS rfl hl.1 rfl (Nat.le_of_ble_eq_true rfl) dX10_item_11 ⟨Nat.zero_le _, Nat.zero_le _⟩) hS (fun H locs hP hS => ?_)
    refine lv_if_ne (tgt := 19) hx hb dX10_item_14 (by decide) (fun hc => ?_) (fun hc => ?_)
    · have h := gv_neg hc h
      refine lv_aload_n hx hb dX10_item_19 rfl (lv_at hl 0 rfl) ?_
      refine gv_get (ref := "IceByEar") (C := RX10) (T := TX10) (N := 8) (ci := 10) (v := .ref (X.1 46)) C0 (fun _ h9 => List.mem_cons_of_mem _ (List.mem_append_left _ (List.mem_append_right _ h9))) hP 0 (gw_o10 X s0 gk_0.1) rfl 7 (by decide) (by decide +kernel) rfl rfl dX10_item_20 ?_
      refine lv_iload_n hx hb dX10_item_23 rfl (lv_at hl 1 rfl) ?_
      obtain ⟨hin1, h⟩ := gv_in_e h
      refine gv_aald C0 hP 46 gk_46.1 gk_46.2 hin1 dX10_item_24 ?_
      refine lv_iload_n hx hb dX10_item_25 rfl (lv_at hl 2 rfl) ?_
      refine lv_iload_n hx hb dX10_item_26 rfl (lv_at hl 3 rfl) ?_
      refine lv_iconst (v := 1) hx hb dX10_item_27 (by decide) ?_
      refine gv_ri (gv_runV (n := 3) (rest := []) C0 (mX5_refusal l X s0 (46 + 1 + 4 * a1.toNatClampNeg) (gk_sh hin1) a2 a3 (1 : Int32)) gX10_item_X5_refusal rfl ⟨rfl, rfl⟩ (by decide +kernel) ⟨by decide, by decide⟩ (gk_sh hin1) (by decide) rfl hP hS rfl hl.1 rfl (Nat.le_of_ble_eq_true rfl) dX10_item_28 ⟨Nat.zero_le _, Nat.zero_le _⟩) hS (fun H locs hP hS => ?_)
      refine lv_topi (fun v2 ev2 => ?_)
      have h := gv_let_e ev2 h
      refine lv_istore (lv' := [(6, .int v2), (0, .ref (X.1 0)), (1, .int a1), (2, .int a2), (3, .int a3), (4, .long a4)]) hx hb dX10_item_31 hl (by decide) rfl (fun ls hl => ?_)
      refine lv_iload hx hb dX10_item_33 (lv_at hl 0 rfl) ?_
      refine lv_if_eq (tgt := 41) hx hb dX10_item_35 (by decide) (fun hc => ?_) (fun hc => ?_)
      · have h := gv_pos hc h
        refine lv_aload_n hx hb dX10_item_41 rfl (lv_at hl 1 rfl) ?_
        refine gv_get (ref := "IceByEar") (C := RX10) (T := TX10) (N := 8) (ci := 10) (v := .ref (X.1 46)) C0 (fun _ h9 => List.mem_cons_of_mem _ (List.mem_append_left _ (List.mem_append_right _ h9))) hP 0 (gw_o10 X s0 gk_0.1) rfl 7 (by decide) (by decide +kernel) rfl rfl dX10_item_42 ?_
        refine lv_iload_n hx hb dX10_item_45 rfl (lv_at hl 2 rfl) ?_
        obtain ⟨hin3, h⟩ := gv_in_e h
        refine gv_aald C0 hP 46 gk_46.1 gk_46.2 hin3 dX10_item_46 ?_
        refine lv_iload_n hx hb dX10_item_47 rfl (lv_at hl 4 rfl) ?_
        refine lv_lload hx hb dX10_item_48 (lv_at hl 5 rfl) ?_
        obtain ⟨s4, hs4, h⟩ := gv_bind_e h
        refine gv_rv (gv_runV (n := 2) (rest := []) C0 (mX5_put l X s0 (46 + 1 + 4 * a1.toNatClampNeg) (gk_sh hin3) a3 a4 hs4) gX10_item_X5_put rfl ⟨rfl, rfl⟩ (by decide +kernel) ⟨by decide, by decide⟩ (gk_sh hin3) (by decide) rfl hP hS rfl hl.1 rfl (Nat.le_of_ble_eq_true rfl) dX10_item_50 ⟨Nat.zero_le _, Nat.zero_le _⟩) hS (fun H locs hP hS => ?_)
        refine lv_iconst (v := 1) hx hb dX10_item_53 (by decide) ?_
        exact Kr _ _ _ _ _ _ (gv_inj h) hP hS dX10_item_54
      · have h := gv_neg hc h
        refine lv_iload hx hb dX10_item_38 (lv_at hl 0 rfl) ?_
        exact Kr _ _ _ _ _ _ (gv_inj h) hP hS dX10_item_40
    · have h := gv_pos hc h
      refine lv_iconst (v := -1) hx hb dX10_item_17 (by decide) ?_
      exact Kr _ _ _ _ _ _ (gv_inj h) hP hS dX10_item_18
theorem mX10_item (l : Launch) (X : gw_X) (s0 : gs_S) (a1 : Int32) (a2 : Int32) (a3 : Int32) (a4 : Int64) {r : Int32} {τ : gs_S} (h : pX10_item a1 a2 a3 a4 s0 = some (r, τ)) : Met l yX10_item wsX10_item rX10_item (gm_Pc X s0 [.ref (X.1 0), .int a1, .int a2, .int a3, .long a4]) (gm_Qi X τ r) 0 0 (gw_A X) :=
  gm_of RX10 (by decide) rfl rfl (Nat.le_of_ble_eq_true rfl) (fun p e s m below meth c ls C0 hP hl hS => tX10_item C0 a1 a2 a3 a4 s0 h (fun H locs ls pc r τ hr hP hS hd => by cases hr; exact gm_reti C0 hP hS hd) hP hS hl)
