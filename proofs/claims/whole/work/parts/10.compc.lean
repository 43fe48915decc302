def pX10_crack (a1 : Int32) (s0 : gs_S) : Option (Int32 × gs_S) := if (pX10_isSquare (a1.toInt64)) = 0 then some ((-1 : Int32), s0) else gv_bind (pX4_crackedFrom a1 s0) (fun v1 => gv_bind (pX2_melt v1 s0) (fun s2 => some ((pJ13_bitCount_95d88 v1), s2)))
def rX10_crack : Room := { frames := 3, cells := 0, slots := 0, locals := 74 }
set_option maxHeartbeats 4000000 in
set_option maxRecDepth 100000 in
theorem tX10_crack {p : Program} {l : Launch} {e : Env} {s : State} {m : MethodId} {args : Array Value} {below : List Frame} {meth : Method} {c : Code} {X : gw_X} {Q : State → Prop} (C0 : gm_At p s m args meth c X cX10_crack 4 RX10 wsX10_crack (some .int)) (a1 : Int32) (s0 : gs_S) {z : Int32 × gs_S} (h : pX10_crack a1 s0 = some z) (Kr : ∀ (H : Heap) (locs : List Loc) (ls : Array Slot) (pc : Nat) (r : Int32) (τ : gs_S), z = (r, τ) → gw_P X τ H → va_S (gw_A X) s.heap H locs → decode cX10_crack pc = .ok (.ireturn, 1) → W p l e rX10_crack s m args below meth c H locs 0 0 Q (F0 m pc ls [.int r])) {H : Heap} {locs : List Loc} {ls : Array Slot} (hP : gw_P X s0 H) (hS : va_S (gw_A X) s.heap H locs) (hl : lv_has ls 4 [(0, .ref (X.1 0)), (1, .int a1)]) : W p l e rX10_crack s m args below meth c H locs 0 0 Q (F0 m 0 ls []) := by
  obtain ⟨hx, hb, hml, hown, hts, hr, hlocks, hC⟩ := id C0
  unfold pX10_crack at h
  refine lv_iload_n hx hb dX10_crack_0 rfl (lv_at hl 1 rfl) ?_
  refine lv_i2l hx hb dX10_crack_1 rfl ?_
  refine gv_ri (gv_runS (n := 1) (rest := []) C0 (mX10_isSquare l X s0 (a1.toInt64)) gX10_crack_X10_isSquare rfl ⟨rfl, rfl⟩ (by decide +kernel) ⟨by decide, by decide⟩ hP hS rfl hl.1 rfl (Nat.le_of_ble_eq_true rfl) dX10_crack_2 ⟨Nat.zero_le _, Nat.zero_le _⟩) hS (fun H locs hP hS => ?_)
  refine lv_if_ne (tgt := 10) hx hb dX10_crack_5 (by decide) (fun hc => ?_) (fun hc => ?_)
  · have h := gv_neg hc h
    refine lv_aload_n hx hb dX10_crack_10 rfl (lv_at hl 0 rfl) ?_
    refine gv_get (ref := "IceByEar") (C := RX10) (T := TX10) (N := 8) (ci := 10) (v := .ref (X.1 1)) C0 (fun _ h9 => List.mem_cons_of_mem _ (List.mem_append_left _ (List.mem_append_left _ (List.mem_append_right _ h9)))) hP 0 (gw_o10 X s0 gk_0.1) rfl 0 (by decide) (by decide +kernel) rfl rfl dX10_crack_11 ?_
    refine lv_iload_n hx hb dX10_crack_14 rfl (lv_at hl 1 rfl) ?_
    obtain ⟨v1, hv1, h⟩ := gv_bind_e h
    refine gv_rl (gv_runV (n := 1) (rest := []) C0 (mX4_crackedFrom l X s0 a1 hv1) gX10_crack_X4_crackedFrom rfl ⟨rfl, rfl⟩ (by decide +kernel) ⟨by decide, by decide⟩ gk_1.1 (by decide) rfl hP hS rfl hl.1 rfl (Nat.le_of_ble_eq_true rfl) dX10_crack_15 ⟨Nat.zero_le _, Nat.zero_le _⟩) hS (fun H locs hP hS => ?_)
    refine lv_lstore_n (lv' := [(2, .long v1), (0, .ref (X.1 0)), (1, .int a1)]) hx hb dX10_crack_18 rfl hl (by decide) rfl (fun ls hl => ?_)
    refine lv_aload_n hx hb dX10_crack_19 rfl (lv_at hl 1 rfl) ?_
    refine gv_get (ref := "IceByEar") (C := RX10) (T := TX10) (N := 8) (ci := 10) (v := .ref (X.1 1)) C0 (fun _ h9 => List.mem_cons_of_mem _ (List.mem_append_left _ (List.mem_append_left _ (List.mem_append_right _ h9)))) hP 0 (gw_o10 X s0 gk_0.1) rfl 0 (by decide) (by decide +kernel) rfl rfl dX10_crack_20 ?_
    refine gv_get (ref := "IceByEar$Scene") (C := RX4) (T := TX4) (N := 6) (ci := 4) (v := .ref (X.1 2)) C0 (fun _ h9 => List.mem_cons_of_mem _ (List.mem_append_left _ (List.mem_append_right _ h9))) hP 1 (gw_o4 X s0 gk_1.1) rfl 0 (by decide) (by decide +kernel) rfl rfl dX10_crack_23 ?_
    refine lv_lload_n hx hb dX10_crack_26 rfl (lv_at hl 0 rfl) ?_
    obtain ⟨s2, hs2, h⟩ := gv_bind_e h
    refine gv_rv (gv_runV (n := 1) (rest := []) C0 (mX2_melt l X s0 v1 hs2) gX10_crack_X2_melt rfl ⟨rfl, rfl⟩ (by decide +kernel) ⟨by decide, by decide⟩ gk_2.1 (by decide) rfl hP hS rfl hl.1 rfl (Nat.le_of_ble_eq_true rfl) dX10_crack_27 ⟨Nat.zero_le _, Nat.zero_le _⟩) hS (fun H locs hP hS => ?_)
    refine lv_lload_n hx hb dX10_crack_30 rfl (lv_at hl 0 rfl) ?_
    refine gv_ri (gv_runS (n := 1) (rest := []) C0 (mJ13_bitCount_95d88 l X s2 v1) gX10_crack_J13_bitCount_95d88 rfl ⟨rfl, rfl⟩ (by decide +kernel) ⟨by decide, by decide⟩ hP hS rfl hl.1 rfl (Nat.le_of_ble_eq_true rfl) dX10_crack_31 ⟨Nat.zero_le _, Nat.zero_le _⟩) hS (fun H locs hP hS => ?_)
    exact Kr _ _ _ _ _ _ (gv_inj h) hP hS dX10_crack_34
  · have h := gv_pos hc h
    refine lv_iconst (v := -1) hx hb dX10_crack_8 (by decide) ?_
    exact Kr _ _ _ _ _ _ (gv_inj h) hP hS dX10_crack_9
theorem mX10_crack (l : Launch) (X : gw_X) (s0 : gs_S) (a1 : Int32) {r : Int32} {τ : gs_S} (h : pX10_crack a1 s0 = some (r, τ)) : Met l yX10_crack wsX10_crack rX10_crack (gm_Pc X s0 [.ref (X.1 0), .int a1]) (gm_Qi X τ r) 0 0 (gw_A X) :=
  gm_of RX10 (by decide) rfl rfl (Nat.le_of_ble_eq_true rfl) (fun p e s m below meth c ls C0 hP hl hS => tX10_crack C0 a1 s0 h (fun H locs ls pc r τ hr hP hS hd => by cases hr; exact gm_reti C0 hP hS hd) hP hS hl)
def pX10_isRoadAsked (a0 : Int32) (a1 : Int32) (a2 : Int32) (a3 : Int32) : Int32 := if (pX10_isSquare (a0.toInt64)) = 0 then (0 : Int32) else if (pX10_isSquare (a1.toInt64)) = 0 then (0 : Int32) else if (pX10_isLoad a2) = 0 then (0 : Int32) else if (pX10_isPace a3) = 0 then (0 : Int32) else (1 : Int32)
def rX10_isRoadAsked : Room := { frames := 2, cells := 0, slots := 0, locals := 44 }
set_option maxHeartbeats 4000000 in
set_option maxRecDepth 100000 in
theorem tX10_isRoadAsked {p : Program} {l : Launch} {e : Env} {s : State} {m : MethodId} {args : Array Value} {below : List Frame} {meth : Method} {c : Code} {X : gw_X} {Q : State → Prop} (C0 : gm_At p s m args meth c X cX10_isRoadAsked 4 RX10 wsX10_isRoadAsked (some .boolean)) (a0 : Int32) (a1 : Int32) (a2 : Int32) (a3 : Int32) (s0 : gs_S) {z : Int32} (h : pX10_isRoadAsked a0 a1 a2 a3 = z) (Kr : ∀ (H : Heap) (locs : List Loc) (ls : Array Slot) (pc : Nat) (r : Int32), z = r → narrow .boolean (.int r) = .int r → gw_P X s0 H → va_S (gw_A X) s.heap H locs → decode cX10_isRoadAsked pc = .ok (.ireturn, 1) → W p l e rX10_isRoadAsked s m args below meth c H locs 0 0 Q (F0 m pc ls [.int r])) {H : Heap} {locs : List Loc} {ls : Array Slot} (hP : gw_P X s0 H) (hS : va_S (gw_A X) s.heap H locs) (hl : lv_has ls 4 [(0, .int a0), (1, .int a1), (2, .int a2), (3, .int a3)]) : W p l e rX10_isRoadAsked s m args below meth c H locs 0 0 Q (F0 m 0 ls []) := by
  obtain ⟨hx, hb, hml, hown, hts, hr, hlocks, hC⟩ := id C0
  unfold pX10_isRoadAsked at h
  refine lv_iload_n hx hb dX10_isRoadAsked_0 rfl (lv_at hl 0 rfl) ?_
  refine lv_i2l hx hb dX10_isRoadAsked_1 rfl ?_
  refine gv_ri (gv_runS (n := 1) (rest := []) C0 (mX10_isSquare l X s0 (a0.toInt64)) gX10_isRoadAsked_X10_isSquare rfl ⟨rfl, rfl⟩ (by decide +kernel) ⟨by decide, by decide⟩ hP hS rfl hl.1 rfl (Nat.le_of_ble_eq_true rfl) dX10_isRoadAsked_2 ⟨Nat.zero_le _, Nat.zero_le _⟩) hS (fun H locs hP hS => ?_)
  refine lv_if_eq (tgt := 34) hx hb dX10_isRoadAsked_5 (by decide) (fun hc => ?_) (fun hc => ?_)
  · have h := gv_pos hc h
    refine lv_iconst (v := 0) hx hb dX10_isRoadAsked_34 (by decide) ?_
    exact Kr _ _ _ _ _ h.symm (show narrow .boolean (.int (0 : Int32)) = .int (0 : Int32) by decide) hP hS dX10_isRoadAsked_35
  · have h := gv_neg hc h
    refine lv_iload_n hx hb dX10_isRoadAsked_8 rfl (lv_at hl 1 rfl) ?_
    refine lv_i2l hx hb dX10_isRoadAsked_9 rfl ?_
    refine gv_ri (gv_runS (n := 1) (rest := []) C0 (mX10_isSquare l X s0 (a1.toInt64)) gX10_isRoadAsked_X10_isSquare rfl ⟨rfl, rfl⟩ (by decide +kernel) ⟨by decide, by decide⟩ hP hS rfl hl.1 rfl (Nat.le_of_ble_eq_true rfl) dX10_isRoadAsked_10 ⟨Nat.zero_le _, Nat.zero_le _⟩) hS (fun H locs hP hS => ?_)
    refine lv_if_eq (tgt := 34) hx hb dX10_isRoadAsked_13 (by decide) (fun hc => ?_) (fun hc => ?_)
    · have h := gv_pos hc h
      refine lv_iconst (v := 0) hx hb dX10_isRoadAsked_34 (by decide) ?_
      exact Kr _ _ _ _ _ h.symm (show narrow .boolean (.int (0 : Int32)) = .int (0 : Int32) by decide) hP hS dX10_isRoadAsked_35
    · have h := gv_neg hc h
      refine lv_iload_n hx hb dX10_isRoadAsked_16 rfl (lv_at hl 2 rfl) ?_
      refine gv_ri (gv_runS (n := 1) (rest := []) C0 (mX10_isLoad l X s0 a2) gX10_isRoadAsked_X10_isLoad rfl ⟨rfl, rfl⟩ (by decide +kernel) ⟨by decide, by decide⟩ hP hS rfl hl.1 rfl (Nat.le_of_ble_eq_true rfl) dX10_isRoadAsked_17 ⟨Nat.zero_le _, Nat.zero_le _⟩) hS (fun H locs hP hS => ?_)
      refine lv_if_eq (tgt := 34) hx hb dX10_isRoadAsked_20 (by decide) (fun hc => ?_) (fun hc => ?_)
      · have h := gv_pos hc h
        refine lv_iconst (v := 0) hx hb dX10_isRoadAsked_34 (by decide) ?_
        exact Kr _ _ _ _ _ h.symm (show narrow .boolean (.int (0 : Int32)) = .int (0 : Int32) by decide) hP hS dX10_isRoadAsked_35
      · have h := gv_neg hc h
        refine lv_iload_n hx hb dX10_isRoadAsked_23 rfl (lv_at hl 3 rfl) ?_
        refine gv_ri (gv_runS (n := 1) (rest := []) C0 (mX10_isPace l X s0 a3) gX10_isRoadAsked_X10_isPace rfl ⟨rfl, rfl⟩ (by decide +kernel) ⟨by decide, by decide⟩ hP hS rfl hl.1 rfl (Nat.le_of_ble_eq_true rfl) dX10_isRoadAsked_24 ⟨Nat.zero_le _, Nat.zero_le _⟩) hS (fun H locs hP hS => ?_)
        refine lv_if_eq (tgt := 34) hx hb dX10_isRoadAsked_27 (by decide) (fun hc => ?_) (fun hc => ?_)
        · have h := gv_pos hc h
          refine lv_iconst (v := 0) hx hb dX10_isRoadAsked_34 (by decide) ?_
          exact Kr _ _ _ _ _ h.symm (show narrow .boolean (.int (0 : Int32)) = .int (0 : Int32) by decide) hP hS dX10_isRoadAsked_35
        · have h := gv_neg hc h
          refine lv_iconst (v := 1) hx hb dX10_isRoadAsked_30 (by decide) ?_
          refine lv_goto (tgt := 35) hx hb dX10_isRoadAsked_31 (by decide) ?_
          exact Kr _ _ _ _ _ h.symm (show narrow .boolean (.int (1 : Int32)) = .int (1 : Int32) by decide) hP hS dX10_isRoadAsked_35
theorem mX10_isRoadAsked (l : Launch) (X : gw_X) (s0 : gs_S) (a0 : Int32) (a1 : Int32) (a2 : Int32) (a3 : Int32) : Met l yX10_isRoadAsked wsX10_isRoadAsked rX10_isRoadAsked (gm_Pc X s0 [.int a0, .int a1, .int a2, .int a3]) (gm_Qi X s0 (pX10_isRoadAsked a0 a1 a2 a3)) 0 0 (gw_A X) :=
  gm_of RX10 (by decide) rfl rfl (Nat.le_of_ble_eq_true rfl) (fun p e s m below meth c ls C0 hP hl hS => tX10_isRoadAsked C0 a0 a1 a2 a3 s0 rfl (fun H locs ls pc r hr hn hP hS hd => by subst hr; exact gm_retz hn C0 hP hS hd) hP hS hl)
theorem bX10_isRoadAsked (a0 : Int32) (a1 : Int32) (a2 : Int32) (a3 : Int32) : narrow .boolean (.int (pX10_isRoadAsked a0 a1 a2 a3)) = .int (pX10_isRoadAsked a0 a1 a2 a3) := by
  unfold pX10_isRoadAsked
  repeat' split
  all_goals first | rfl | exact bX10_isLoad _ | exact bX10_isPace _ | exact bX10_isSquare _
def pX3_weigh_L2  (v1 : Int32) (s2 : gs_S) : Option ((Int32 × gs_S) ⊕ (Int32 × gs_S)) := if (64 : Int32) ≤ v1 then some (.inr (v1, s2)) else gv_bind (pX2_bearing v1 s2) (fun v3 => gv_in v1 64 (gv_let (gs_u s2 39 v1.toNatClampNeg v3) (fun s5 => gv_let (v1 + (1 : Int32)) (fun v6 => some (.inl (v6, s5))))))
def pX3_weigh  (s0 : gs_S) : Option (gs_S) := gv_bind (gv_loop (fun q => pX3_weigh_L2 q.1 q.2) gv_N ((0 : Int32), s0)) (fun q => gv_let q.1 (fun v7 => gv_let q.2 (fun s8 => some s8)))
def rX3_weigh : Room := { frames := 4, cells := 0, slots := 0, locals := 87 }
set_option maxHeartbeats 4000000 in
set_option maxRecDepth 100000 in
theorem tX3_weigh {p : Program} {l : Launch} {e : Env} {s : State} {m : MethodId} {args : Array Value} {below : List Frame} {meth : Method} {c : Code} {X : gw_X} {Q : State → Prop} (C0 : gm_At p s m args meth c X cX3_weigh 3 RX3 wsX3_weigh none)  (s0 : gs_S) {z : gs_S} (h : pX3_weigh s0 = some z) (Kr : ∀ (H : Heap) (locs : List Loc) (ls : Array Slot) (pc : Nat) (τ : gs_S), z = τ → gw_P X τ H → va_S (gw_A X) s.heap H locs → decode cX3_weigh pc = .ok (.return_, 1) → W p l e rX3_weigh s m args below meth c H locs 0 0 Q (F0 m pc ls [])) {H : Heap} {locs : List Loc} {ls : Array Slot} (hP : gw_P X s0 H) (hS : va_S (gw_A X) s.heap H locs) (hl : lv_has ls 3 [(0, .ref (X.1 38)), (1, .ref (X.1 2))]) : W p l e rX3_weigh s m args below meth c H locs 0 0 Q (F0 m 0 ls []) := by
  obtain ⟨hx, hb, hml, hown, hts, hr, hlocks, hC⟩ := id C0
  unfold pX3_weigh at h
  refine lv_iconst (v := 0) hx hb dX3_weigh_0 (by decide) ?_
  refine lv_istore_n (lv' := [(2, .int (0 : Int32)), (0, .ref (X.1 38)), (1, .ref (X.1 2))]) hx hb dX3_weigh_1 rfl hl (by decide) rfl (fun ls hl => ?_)
  obtain ⟨q8, hq8, h⟩ := gv_bind_e h
  refine gv_loop_ind (Φ := fun q => ∀ (H : Heap) (locs : List Loc) (ls : Array Slot), gw_P X q.2 H → va_S (gw_A X) s.heap H locs → lv_has ls 3 [(0, .ref (X.1 38)), (1, .ref (X.1 2)), (2, .int q.1)] → W p l e rX3_weigh s m args below meth c H locs 0 0 Q (F0 m 2 ls [])) (Ψ := fun q => ∀ (H : Heap) (locs : List Loc) (ls : Array Slot), gw_P X q.2 H → va_S (gw_A X) s.heap H locs → lv_has ls 3 [] → W p l e rX3_weigh s m args below meth c H locs 0 0 Q (F0 m 25 ls [])) ?_ gv_N ((0 : Int32), s0) q8 hq8 ?_ H locs ls hP hS (lv_sub hl [1, 2, 0] rfl)
  · intro q x h Kc Ke H locs ls hP hS hl
    obtain ⟨v1, s2⟩ := q
    have h : pX3_weigh_L2 v1 s2 = some x := h
    have hP : gw_P X s2 H := hP
    have hl : lv_has ls 3 [(0, .ref (X.1 38)), (1, .ref (X.1 2)), (2, .int v1)] := hl
    unfold pX3_weigh_L2 at h
    refine lv_iload_n hx hb dX3_weigh_2 rfl (lv_at hl 2 rfl) ?_
    refine lv_bipush (v := 64) hx hb dX3_weigh_3 (by decide) ?_
    refine lv_icmp_ge (tgt := 25) hx hb dX3_weigh_5 (by decide) (fun hc => ?_) (fun hc => ?_)
    · have h := gv_pos hc h
      exact Ke _ (gv_inj h) _ _ _ hP hS (lv_sub hl [] rfl)
    · have h := gv_neg hc h
      refine lv_aload_n hx hb dX3_weigh_8 rfl (lv_at hl 0 rfl) ?_
      refine gv_get (ref := "IceByEar$Roads") (C := RX3) (T := TX3) (N := 4) (ci := 3) (v := .ref (X.1 39)) C0 (fun _ h9 => List.mem_cons_of_mem _ (List.mem_append_left _ (List.mem_append_right _ h9))) hP 38 (gw_o3 X s2 gk_38.1) rfl 0 (by decide) (by decide +kernel) rfl rfl dX3_weigh_9 ?_
      refine lv_iload_n hx hb dX3_weigh_12 rfl (lv_at hl 2 rfl) ?_
      refine lv_aload_n hx hb dX3_weigh_13 rfl (lv_at hl 1 rfl) ?_
      refine lv_iload_n hx hb dX3_weigh_14 rfl (lv_at hl 2 rfl) ?_
      obtain ⟨v3, hv3, h⟩ := gv_bind_e h
      refine gv_ri (gv_runV (n := 1) (rest := [.int v1, .ref (X.1 39)]) C0 (mX2_bearing l X s2 v1 hv3) gX3_weigh_X2_bearing rfl ⟨rfl, rfl⟩ (by decide +kernel) ⟨by decide, by decide⟩ gk_2.1 (by decide) rfl hP hS rfl hl.1 rfl (Nat.le_of_ble_eq_true rfl) dX3_weigh_15 ⟨Nat.zero_le _, Nat.zero_le _⟩) hS (fun H locs hP hS => ?_)
      obtain ⟨hin4, h⟩ := gv_in_e h
      refine gv_iast C0 hP hS 39 gk_39.1 gk_39.2 hin4 dX3_weigh_18 (fun s5 H locs es5 hP hS => ?_)
      have h := gv_let_e es5 h
      obtain ⟨v6, ev6⟩ : ∃ y : Int32, y = (v1 + (1 : Int32)) := ⟨_, rfl⟩
      have h := gv_let_e ev6 h
      refine lv_iinc (v := v6) (lv' := [(2, .int v6), (0, .ref (X.1 38)), (1, .ref (X.1 2))]) hx hb dX3_weigh_19 hl (k := 2) rfl (by rw [ev6]; rfl) (by decide) rfl (fun ls hl => ?_)
      refine lv_goto (tgt := 2) hx hb dX3_weigh_22 (by decide) ?_
      exact Kc _ (gv_inj h) _ _ _ hP hS (lv_sub hl [1, 2, 0] rfl)
  · obtain ⟨v7, s8⟩ := q8
    have h := gv_let_e (x := v7) rfl h
    have h := gv_let_e (x := s8) rfl h
    intro H locs ls hP hS hl
    have hP : gw_P X s8 H := hP
    have hl : lv_has ls 3 [] := hl
    exact Kr _ _ _ _ _ (gv_inj h) hP hS dX3_weigh_25
theorem mX3_weigh (l : Launch) (X : gw_X) (s0 : gs_S)  {τ : gs_S} (h : pX3_weigh s0 = some τ) : Met l yX3_weigh wsX3_weigh rX3_weigh (gm_Pc X s0 [.ref (X.1 38), .ref (X.1 2)]) (gm_Qv X τ) 0 0 (gw_A X) :=
  gm_of RX3 (by decide) rfl rfl (Nat.le_of_ble_eq_true rfl) (fun p e s m below meth c ls C0 hP hl hS => tX3_weigh C0  s0 h (fun H locs ls pc τ hr hP hS hd => by subst hr; exact gm_retv C0 hP hS hd) hP hS hl)
def pX10_beside (a0 : Int32) (a1 : Int32) : Int32 := if a1 = (0 : Int32) then if a0 < (8 : Int32) then (-1 : Int32) else (a0 - (8 : Int32)) else if a1 = (1 : Int32) then if (a0 - ((a0 / (8 : Int32)) * (8 : Int32))) ≤ 0 then (-1 : Int32) else (a0 - (1 : Int32)) else if a1 = (2 : Int32) then if (7 : Int32) ≤ (a0 - ((a0 / (8 : Int32)) * (8 : Int32))) then (-1 : Int32) else (a0 + (1 : Int32)) else if a1 = (3 : Int32) then if (56 : Int32) ≤ a0 then (-1 : Int32) else (a0 + (8 : Int32)) else (-1 : Int32)
def rX10_beside : Room := { frames := 0, cells := 0, slots := 0, locals := 0 }
set_option maxHeartbeats 4000000 in
set_option maxRecDepth 100000 in
theorem tX10_beside {p : Program} {l : Launch} {e : Env} {s : State} {m : MethodId} {args : Array Value} {below : List Frame} {meth : Method} {c : Code} {X : gw_X} {Q : State → Prop} (C0 : gm_At p s m args meth c X cX10_beside 2 RX10 wsX10_beside (some .int)) (a0 : Int32) (a1 : Int32) (s0 : gs_S) {z : Int32} (h : pX10_beside a0 a1 = z) (Kr : ∀ (H : Heap) (locs : List Loc) (ls : Array Slot) (pc : Nat) (r : Int32), z = r → gw_P X s0 H → va_S (gw_A X) s.heap H locs → decode cX10_beside pc = .ok (.ireturn, 1) → W p l e rX10_beside s m args below meth c H locs 0 0 Q (F0 m pc ls [.int r])) {H : Heap} {locs : List Loc} {ls : Array Slot} (hP : gw_P X s0 H) (hS : va_S (gw_A X) s.heap H locs) (hl : lv_has ls 2 [(0, .int a0), (1, .int a1)]) : W p l e rX10_beside s m args below meth c H locs 0 0 Q (F0 m 0 ls []) := by
  obtain ⟨hx, hb, hml, hown, hts, hr, hlocks, hC⟩ := id C0
  unfold pX10_beside at h
  refine lv_iload_n hx hb dX10_beside_0 rfl (lv_at hl 1 rfl) ?_
  by_cases hc : a1 = (0 : Int32)
  · have h := gv_pos hc h
    refine gv_tin (k := 0) (tgt := 32) hx hb dX10_beside_1 hc (by decide) (by decide) rfl (by decide) ?_
    refine lv_iload_n hx hb dX10_beside_32 rfl (lv_at hl 0 rfl) ?_
    refine lv_bipush (v := 8) hx hb dX10_beside_33 (by decide) ?_
    refine lv_icmp_lt (tgt := 45) hx hb dX10_beside_35 (by decide) (fun hc => ?_) (fun hc => ?_)
    · have h := gv_pos hc h
      refine lv_iconst (v := -1) hx hb dX10_beside_45 (by decide) ?_
      exact Kr _ _ _ _ _ h.symm hP hS dX10_beside_46
    · have h := gv_neg hc h
      refine lv_iload_n hx hb dX10_beside_38 rfl (lv_at hl 0 rfl) ?_
      refine lv_bipush (v := 8) hx hb dX10_beside_39 (by decide) ?_
      refine lv_isub hx hb dX10_beside_41 ?_
      refine lv_goto (tgt := 46) hx hb dX10_beside_42 (by decide) ?_
      exact Kr _ _ _ _ _ h.symm hP hS dX10_beside_46
  · have h := gv_neg hc h
    have hd0 := hc
    by_cases hc : a1 = (1 : Int32)
    · have h := gv_pos hc h
      refine gv_tin (k := 1) (tgt := 47) hx hb dX10_beside_1 hc (by decide) (by decide) rfl (by decide) ?_
      refine lv_iload_n hx hb dX10_beside_47 rfl (lv_at hl 0 rfl) ?_
      refine lv_bipush (v := 8) hx hb dX10_beside_48 (by decide) ?_
      refine lv_irem hx hb dX10_beside_50 (by decide) ?_
      refine lv_if_le (tgt := 60) hx hb dX10_beside_51 (by decide) (fun hc => ?_) (fun hc => ?_)
      · have h := gv_pos hc h
        refine lv_iconst (v := -1) hx hb dX10_beside_60 (by decide) ?_
        exact Kr _ _ _ _ _ h.symm hP hS dX10_beside_61
      · have h := gv_neg hc h
        refine lv_iload_n hx hb dX10_beside_54 rfl (lv_at hl 0 rfl) ?_
        refine lv_iconst (v := 1) hx hb dX10_beside_55 (by decide) ?_
        refine lv_isub hx hb dX10_beside_56 ?_
        refine lv_goto (tgt := 61) hx hb dX10_beside_57 (by decide) ?_
        exact Kr _ _ _ _ _ h.symm hP hS dX10_beside_61
    · have h := gv_neg hc h
      have hd1 := hc
      by_cases hc : a1 = (2 : Int32)
      · have h := gv_pos hc h
        refine gv_tin (k := 2) (tgt := 62) hx hb dX10_beside_1 hc (by decide) (by decide) rfl (by decide) ?_
        refine lv_iload_n hx hb dX10_beside_62 rfl (lv_at hl 0 rfl) ?_
        refine lv_bipush (v := 8) hx hb dX10_beside_63 (by decide) ?_
        refine lv_irem hx hb dX10_beside_65 (by decide) ?_
        refine lv_bipush (v := 7) hx hb dX10_beside_66 (by decide) ?_
        refine lv_icmp_ge (tgt := 77) hx hb dX10_beside_68 (by decide) (fun hc => ?_) (fun hc => ?_)
        · have h := gv_pos hc h
          refine lv_iconst (v := -1) hx hb dX10_beside_77 (by decide) ?_
          exact Kr _ _ _ _ _ h.symm hP hS dX10_beside_78
        · have h := gv_neg hc h
          refine lv_iload_n hx hb dX10_beside_71 rfl (lv_at hl 0 rfl) ?_
          refine lv_iconst (v := 1) hx hb dX10_beside_72 (by decide) ?_
          refine lv_iadd hx hb dX10_beside_73 ?_
          refine lv_goto (tgt := 78) hx hb dX10_beside_74 (by decide) ?_
          exact Kr _ _ _ _ _ h.symm hP hS dX10_beside_78
      · have h := gv_neg hc h
        have hd2 := hc
        by_cases hc : a1 = (3 : Int32)
        · have h := gv_pos hc h
          refine gv_tin (k := 3) (tgt := 79) hx hb dX10_beside_1 hc (by decide) (by decide) rfl (by decide) ?_
          refine lv_iload_n hx hb dX10_beside_79 rfl (lv_at hl 0 rfl) ?_
          refine lv_bipush (v := 56) hx hb dX10_beside_80 (by decide) ?_
          refine lv_icmp_ge (tgt := 92) hx hb dX10_beside_82 (by decide) (fun hc => ?_) (fun hc => ?_)
          · have h := gv_pos hc h
            refine lv_iconst (v := -1) hx hb dX10_beside_92 (by decide) ?_
            exact Kr _ _ _ _ _ h.symm hP hS dX10_beside_93
          · have h := gv_neg hc h
            refine lv_iload_n hx hb dX10_beside_85 rfl (lv_at hl 0 rfl) ?_
            refine lv_bipush (v := 8) hx hb dX10_beside_86 (by decide) ?_
            refine lv_iadd hx hb dX10_beside_88 ?_
            refine lv_goto (tgt := 93) hx hb dX10_beside_89 (by decide) ?_
            exact Kr _ _ _ _ _ h.symm hP hS dX10_beside_93
        · have h := gv_neg hc h
          have hd3 := hc
          refine lv_tableOut (tgt := 94) hx hb dX10_beside_1 (by have n0 := lv_neT hd0 (show ((0 : Int32)).toInt = 0 by decide); have n1 := lv_neT hd1 (show ((1 : Int32)).toInt = 1 by decide); have n2 := lv_neT hd2 (show ((2 : Int32)).toInt = 2 by decide); have n3 := lv_neT hd3 (show ((3 : Int32)).toInt = 3 by decide); omega) (by decide) ?_
          refine lv_iconst (v := -1) hx hb dX10_beside_94 (by decide) ?_
          exact Kr _ _ _ _ _ h.symm hP hS dX10_beside_95
theorem mX10_beside (l : Launch) (X : gw_X) (s0 : gs_S) (a0 : Int32) (a1 : Int32) : Met l yX10_beside wsX10_beside rX10_beside (gm_Pc X s0 [.int a0, .int a1]) (gm_Qi X s0 (pX10_beside a0 a1)) 0 0 (gw_A X) :=
  gm_of RX10 (by decide) rfl rfl (Nat.le_of_ble_eq_true rfl) (fun p e s m below meth c ls C0 hP hl hS => tX10_beside C0 a0 a1 s0 rfl (fun H locs ls pc r hr hP hS hd => by subst hr; exact gm_reti C0 hP hS hd) hP hS hl)
def pX3_spread_L73 (v13 : Int32) (v15 : Int32) (v16 : Int32) (v17 : Int32) (s18 : gs_S) : Option ((Int32 × Int32 × Int32 × gs_S) ⊕ (Int32 × Int32 × Int32 × gs_S)) := if (4 : Int32) ≤ v17 then some (.inr (v15, v16, v17, s18)) else gv_let (pX10_beside v13 v17) (fun v19 => if v19 = (-1 : Int32) then gv_let (v17 + (1 : Int32)) (fun v20 => some (.inl (v15, v16, v20, s18))) else gv_in v19 64 (if (s18.1 40 v19.toNatClampNeg) = (-1 : Int32) then gv_let (v17 + (1 : Int32)) (fun v22 => some (.inl (v15, v16, v22, s18))) else gv_in v19 64 (if (s18.1 41 v19.toNatClampNeg) = (-1 : Int32) then gv_in v13 64 (gv_in v19 64 (gv_in v19 64 (gv_let (gs_u s18 41 v19.toNatClampNeg ((s18.1 41 v13.toNatClampNeg) + (s18.1 40 v19.toNatClampNeg))) (fun s27 => gv_in v19 64 (if (s27.1 40 v19.toNatClampNeg) = 0 then gv_let (v15 + (-1 : Int32)) (fun v33 => gv_in v33 128 (gv_let (gs_u s27 42 v33.toNatClampNeg v19) (fun s35 => gv_let (v17 + (1 : Int32)) (fun v36 => some (.inl (v33, v16, v36, s35)))))) else gv_in v16 128 (gv_let (gs_u s27 42 v16.toNatClampNeg v19) (fun s30 => gv_let (v16 + (1 : Int32)) (fun v31 => gv_let (v17 + (1 : Int32)) (fun v32 => some (.inl (v15, v31, v32, s30))))))))))) else gv_let (v17 + (1 : Int32)) (fun v37 => some (.inl (v15, v16, v37, s18))))))
def pX3_spread_L47  (v8 : Int32) (v9 : Int32) (v10 : Int32) (s11 : gs_S) : Option ((Int32 × Int32 × Int32 × gs_S) ⊕ (Int32 × Int32 × Int32 × gs_S)) := if (64 : Int32) ≤ v10 then some (.inr (v8, v9, v10, s11)) else if v9 ≤ v8 then some (.inr (v8, v9, v10, s11)) else gv_in v8 128 (gv_let (s11.1 42 v8.toNatClampNeg) (fun v13 => gv_let (v8 + (1 : Int32)) (fun v14 => gv_bind (gv_loop (fun q => pX3_spread_L73 v13 q.1 q.2.1 q.2.2.1 q.2.2.2) gv_N (v14, v9, (0 : Int32), s11)) (fun q => gv_let q.1 (fun v38 => gv_let q.2.1 (fun v39 => gv_let q.2.2.1 (fun v40 => gv_let q.2.2.2 (fun s41 => gv_let (v10 + (1 : Int32)) (fun v42 => some (.inl (v38, v39, v42, s41)))))))))))
def pX3_spread (a1 : Int32) (s0 : gs_S) : Option (gs_S) := gv_bind (pJ7_fill_53178 41 (-1 : Int32) s0) (fun s1 => gv_in a1 64 (if (s1.1 40 a1.toNatClampNeg) = (-1 : Int32) then some s1 else gv_let (gs_u s1 42 (64 : Int32).toNatClampNeg a1) (fun s4 => gv_in a1 64 (gv_in a1 64 (gv_let (gs_u s4 41 a1.toNatClampNeg (s4.1 40 a1.toNatClampNeg)) (fun s7 => gv_bind (gv_loop (fun q => pX3_spread_L47 q.1 q.2.1 q.2.2.1 q.2.2.2) gv_N ((64 : Int32), (65 : Int32), (0 : Int32), s7)) (fun q => gv_let q.1 (fun v44 => gv_let q.2.1 (fun v45 => gv_let q.2.2.1 (fun v46 => gv_let q.2.2.2 (fun s47 => some s47)))))))))))
def rX3_spread : Room := { frames := 1, cells := 0, slots := 0, locals := 23 }
set_option maxHeartbeats 4000000 in
set_option maxRecDepth 100000 in
theorem tX3_spread {p : Program} {l : Launch} {e : Env} {s : State} {m : MethodId} {args : Array Value} {below : List Frame} {meth : Method} {c : Code} {X : gw_X} {Q : State → Prop} (C0 : gm_At p s m args meth c X cX3_spread 8 RX3 wsX3_spread none) (a1 : Int32) (s0 : gs_S) {z : gs_S} (h : pX3_spread a1 s0 = some z) (Kr : ∀ (H : Heap) (locs : List Loc) (ls : Array Slot) (pc : Nat) (τ : gs_S), z = τ → gw_P X τ H → va_S (gw_A X) s.heap H locs → decode cX3_spread pc = .ok (.return_, 1) → W p l e rX3_spread s m args below meth c H locs 0 0 Q (F0 m pc ls [])) {H : Heap} {locs : List Loc} {ls : Array Slot} (hP : gw_P X s0 H) (hS : va_S (gw_A X) s.heap H locs) (hl : lv_has ls 8 [(0, .ref (X.1 38)), (1, .int a1)]) : W p l e rX3_spread s m args below meth c H locs 0 0 Q (F0 m 0 ls []) := by
  obtain ⟨hx, hb, hml, hown, hts, hr, hlocks, hC⟩ := id C0
  unfold pX3_spread at h
  refine lv_aload_n hx hb dX3_spread_0 rfl (lv_at hl 0 rfl) ?_
  refine gv_get (ref := "IceByEar$Roads") (C := RX3) (T := TX3) (N := 4) (ci := 3) (v := .ref (X.1 41)) C0 (fun _ h9 => List.mem_cons_of_mem _ (List.mem_append_right _ h9)) hP 38 (gw_o3 X s0 gk_38.1) rfl 2 (by decide) (by decide +kernel) rfl rfl dX3_spread_1 ?_
  refine lv_iconst (v := -1) hx hb dX3_spread_4 (by decide) ?_
  obtain ⟨s1, hs1, h⟩ := gv_bind_e h
  refine gv_rv (gv_runS (n := 2) (rest := []) C0 (mJ7_fill_53178 l X s0 41 gk_41.1 (-1 : Int32) hs1) gX3_spread_J7_fill_53178 rfl ⟨rfl, rfl⟩ (by decide +kernel) ⟨by decide, by decide⟩ hP hS rfl hl.1 rfl (Nat.le_of_ble_eq_true rfl) dX3_spread_5 ⟨Nat.zero_le _, Nat.zero_le _⟩) hS (fun H locs hP hS => ?_)
  refine lv_aload_n hx hb dX3_spread_8 rfl (lv_at hl 0 rfl) ?_
  refine gv_get (ref := "IceByEar$Roads") (C := RX3) (T := TX3) (N := 4) (ci := 3) (v := .ref (X.1 40)) C0 (fun _ h9 => List.mem_cons_of_mem _ (List.mem_append_right _ h9)) hP 38 (gw_o3 X s1 gk_38.1) rfl 1 (by decide) (by decide +kernel) rfl rfl dX3_spread_9 ?_
  refine lv_iload_n hx hb dX3_spread_12 rfl (lv_at hl 1 rfl) ?_
  obtain ⟨hin2, h⟩ := gv_in_e h
  refine gv_iald C0 hP 40 gk_40.1 gk_40.2 hin2 dX3_spread_13 ?_
  refine lv_iconst (v := -1) hx hb dX3_spread_14 (by decide) ?_
  refine lv_icmp_ne (tgt := 19) hx hb dX3_spread_15 (by decide) (fun hc => ?_) (fun hc => ?_)
  · have h := gv_neg hc h
    refine lv_bipush (v := 64) hx hb dX3_spread_19 (by decide) ?_
    refine lv_istore_n (lv' := [(2, .int (64 : Int32)), (0, .ref (X.1 38)), (1, .int a1)]) hx hb dX3_spread_21 rfl hl (by decide) rfl (fun ls hl => ?_)
    refine lv_bipush (v := 65) hx hb dX3_spread_22 (by decide) ?_
    refine lv_istore_n (lv' := [(3, .int (65 : Int32)), (2, .int (64 : Int32)), (0, .ref (X.1 38)), (1, .int a1)]) hx hb dX3_spread_24 rfl hl (by decide) rfl (fun ls hl => ?_)
    refine lv_aload_n hx hb dX3_spread_25 rfl (lv_at hl 2 rfl) ?_
    refine gv_get (ref := "IceByEar$Roads") (C := RX3) (T := TX3) (N := 4) (ci := 3) (v := .ref (X.1 42)) C0 (fun _ h9 => List.mem_cons_of_mem _ (List.mem_append_right _ h9)) hP 38 (gw_o3 X s1 gk_38.1) rfl 3 (by decide) (by decide +kernel) rfl rfl dX3_spread_26 ?_
    refine lv_iload_n hx hb dX3_spread_29 rfl (lv_at hl 1 rfl) ?_
    refine lv_iload_n hx hb dX3_spread_30 rfl (lv_at hl 3 rfl) ?_
    refine gv_iast C0 hP hS 42 gk_42.1 gk_42.2 (show ¬ ((64 : Int32) < 0 ∨ 128 ≤ (64 : Int32).toNatClampNeg) by decide) dX3_spread_31 (fun s4 H locs es4 hP hS => ?_)
    have h := gv_let_e es4 h
    refine lv_aload_n hx hb dX3_spread_32 rfl (lv_at hl 2 rfl) ?_
    refine gv_get (ref := "IceByEar$Roads") (C := RX3) (T := TX3) (N := 4) (ci := 3) (v := .ref (X.1 41)) C0 (fun _ h9 => List.mem_cons_of_mem _ (List.mem_append_right _ h9)) hP 38 (gw_o3 X s4 gk_38.1) rfl 2 (by decide) (by decide +kernel) rfl rfl dX3_spread_33 ?_
    refine lv_iload_n hx hb dX3_spread_36 rfl (lv_at hl 3 rfl) ?_
    refine lv_aload_n hx hb dX3_spread_37 rfl (lv_at hl 2 rfl) ?_
    refine gv_get (ref := "IceByEar$Roads") (C := RX3) (T := TX3) (N := 4) (ci := 3) (v := .ref (X.1 40)) C0 (fun _ h9 => List.mem_cons_of_mem _ (List.mem_append_right _ h9)) hP 38 (gw_o3 X s4 gk_38.1) rfl 1 (by decide) (by decide +kernel) rfl rfl dX3_spread_38 ?_
    refine lv_iload_n hx hb dX3_spread_41 rfl (lv_at hl 3 rfl) ?_
    obtain ⟨hin5, h⟩ := gv_in_e h
    refine gv_iald C0 hP 40 gk_40.1 gk_40.2 hin5 dX3_spread_42 ?_
    obtain ⟨hin6, h⟩ := gv_in_e h
    refine gv_iast C0 hP hS 41 gk_41.1 gk_41.2 hin6 dX3_spread_43 (fun s7 H locs es7 hP hS => ?_)
    have h := gv_let_e es7 h
    refine lv_iconst (v := 0) hx hb dX3_spread_44 (by decide) ?_
    refine lv_istore (lv' := [(4, .int (0 : Int32)), (3, .int (65 : Int32)), (2, .int (64 : Int32)), (0, .ref (X.1 38)), (1, .int a1)]) hx hb dX3_spread_45 hl (by decide) rfl (fun ls hl => ?_)
    obtain ⟨q47, hq47, h⟩ := gv_bind_e h
    refine gv_loop_ind (Φ := fun q => ∀ (H : Heap) (locs : List Loc) (ls : Array Slot), gw_P X q.2.2.2 H → va_S (gw_A X) s.heap H locs → lv_has ls 8 [(0, .ref (X.1 38)), (2, .int q.1), (3, .int q.2.1), (4, .int q.2.2.1)] → W p l e rX3_spread s m args below meth c H locs 0 0 Q (F0 m 47 ls [])) (Ψ := fun q => ∀ (H : Heap) (locs : List Loc) (ls : Array Slot), gw_P X q.2.2.2 H → va_S (gw_A X) s.heap H locs → lv_has ls 8 [] → W p l e rX3_spread s m args below meth c H locs 0 0 Q (F0 m 188 ls [])) ?_ gv_N ((64 : Int32), (65 : Int32), (0 : Int32), s7) q47 hq47 ?_ H locs ls hP hS (lv_sub hl [3, 2, 1, 0] rfl)
    · intro q x h Kc Ke H locs ls hP hS hl
      obtain ⟨v8, v9, v10, s11⟩ := q
      have h : pX3_spread_L47 v8 v9 v10 s11 = some x := h
      have hP : gw_P X s11 H := hP
      have hl : lv_has ls 8 [(0, .ref (X.1 38)), (2, .int v8), (3, .int v9), (4, .int v10)] := hl
      unfold pX3_spread_L47 at h
      refine lv_iload hx hb dX3_spread_47 (lv_at hl 3 rfl) ?_
      refine lv_bipush (v := 64) hx hb dX3_spread_49 (by decide) ?_
      refine lv_icmp_ge (tgt := 188) hx hb dX3_spread_51 (by decide) (fun hc => ?_) (fun hc => ?_)
      · have h := gv_pos hc h
        exact Ke _ (gv_inj h) _ _ _ hP hS (lv_sub hl [] rfl)
      · have h := gv_neg hc h
        refine lv_iload_n hx hb dX3_spread_54 rfl (lv_at hl 1 rfl) ?_
        refine lv_iload_n hx hb dX3_spread_55 rfl (lv_at hl 2 rfl) ?_
        refine lv_icmp_ge (tgt := 188) hx hb dX3_spread_56 (by decide) (fun hc => ?_) (fun hc => ?_)
        · have h := gv_pos hc h
          exact Ke _ (gv_inj h) _ _ _ hP hS (lv_sub hl [] rfl)
        · have h := gv_neg hc h
          refine lv_aload_n hx hb dX3_spread_59 rfl (lv_at hl 0 rfl) ?_
          refine gv_get (ref := "IceByEar$Roads") (C := RX3) (T := TX3) (N := 4) (ci := 3) (v := .ref (X.1 42)) C0 (fun _ h9 => List.mem_cons_of_mem _ (List.mem_append_right _ h9)) hP 38 (gw_o3 X s11 gk_38.1) rfl 3 (by decide) (by decide +kernel) rfl rfl dX3_spread_60 ?_
          refine lv_iload_n hx hb dX3_spread_63 rfl (lv_at hl 1 rfl) ?_
          obtain ⟨hin12, h⟩ := gv_in_e h
          refine gv_iald C0 hP 42 gk_42.1 gk_42.2 hin12 dX3_spread_64 ?_
          refine lv_topi (fun v13 ev13 => ?_)
          have h := gv_let_e ev13 h
          refine lv_istore (lv' := [(5, .int v13), (0, .ref (X.1 38)), (2, .int v8), (3, .int v9), (4, .int v10)]) hx hb dX3_spread_65 hl (by decide) rfl (fun ls hl => ?_)
          obtain ⟨v14, ev14⟩ : ∃ y : Int32, y = (v8 + (1 : Int32)) := ⟨_, rfl⟩
          have h := gv_let_e ev14 h
          refine lv_iinc (v := v14) (lv' := [(2, .int v14), (5, .int v13), (0, .ref (X.1 38)), (3, .int v9), (4, .int v10)]) hx hb dX3_spread_67 hl (k := 2) rfl (by rw [ev14]; rfl) (by decide) rfl (fun ls hl => ?_)
          refine lv_iconst (v := 0) hx hb dX3_spread_70 (by decide) ?_
          refine lv_istore (lv' := [(6, .int (0 : Int32)), (2, .int v14), (5, .int v13), (0, .ref (X.1 38)), (3, .int v9), (4, .int v10)]) hx hb dX3_spread_71 hl (by decide) rfl (fun ls hl => ?_)
          obtain ⟨q42, hq42, h⟩ := gv_bind_e h
          refine gv_loop_ind (Φ := fun q => ∀ (H : Heap) (locs : List Loc) (ls : Array Slot), gw_P X q.2.2.2 H → va_S (gw_A X) s.heap H locs → lv_has ls 8 [(5, .int v13), (0, .ref (X.1 38)), (4, .int v10), (2, .int q.1), (3, .int q.2.1), (6, .int q.2.2.1)] → W p l e rX3_spread s m args below meth c H locs 0 0 Q (F0 m 73 ls [])) (Ψ := fun q => ∀ (H : Heap) (locs : List Loc) (ls : Array Slot), gw_P X q.2.2.2 H → va_S (gw_A X) s.heap H locs → lv_has ls 8 [(0, .ref (X.1 38)), (4, .int v10), (2, .int q.1), (3, .int q.2.1)] → W p l e rX3_spread s m args below meth c H locs 0 0 Q (F0 m 182 ls [])) ?_ gv_N (v14, v9, (0 : Int32), s11) q42 hq42 ?_ H locs ls hP hS (lv_sub hl [2, 3, 5, 1, 4, 0] rfl)
          · intro q x h Kc Ke H locs ls hP hS hl
            obtain ⟨v15, v16, v17, s18⟩ := q
            have h : pX3_spread_L73 v13 v15 v16 v17 s18 = some x := h
            have hP : gw_P X s18 H := hP
            have hl : lv_has ls 8 [(5, .int v13), (0, .ref (X.1 38)), (4, .int v10), (2, .int v15), (3, .int v16), (6, .int v17)] := hl
            unfold pX3_spread_L73 at h
            refine lv_iload hx hb dX3_spread_73 (lv_at hl 5 rfl) ?_
            refine lv_iconst (v := 4) hx hb dX3_spread_75 (by decide) ?_
            refine lv_icmp_ge (tgt := 182) hx hb dX3_spread_76 (by decide) (fun hc => ?_) (fun hc => ?_)
            · have h := gv_pos hc h
              exact Ke _ (gv_inj h) _ _ _ hP hS (lv_sub hl [1, 2, 3, 4] rfl)
            · have h := gv_neg hc h
              refine lv_iload hx hb dX3_spread_79 (lv_at hl 0 rfl) ?_
              refine lv_iload hx hb dX3_spread_81 (lv_at hl 5 rfl) ?_
              refine gv_ri (gv_runN (n := 2) (rest := []) (host := "IceByEar") C0 (mX10_beside l X s18 v13 v17) gX3_spread_X10_beside_n50 rfl ⟨rfl, rfl⟩ (by decide +kernel) ⟨by decide +kernel, by decide +kernel⟩ (by decide +kernel) ⟨by decide, by decide⟩ hP hS rfl hl.1 rfl (Nat.le_of_ble_eq_true rfl) dX3_spread_83 ⟨Nat.zero_le _, Nat.zero_le _⟩) hS (fun H locs hP hS => ?_)
              refine lv_topi (fun v19 ev19 => ?_)
              have h := gv_let_e ev19 h
              refine lv_istore (lv' := [(7, .int v19), (5, .int v13), (0, .ref (X.1 38)), (4, .int v10), (2, .int v15), (3, .int v16), (6, .int v17)]) hx hb dX3_spread_86 hl (by decide) rfl (fun ls hl => ?_)
              refine lv_iload hx hb dX3_spread_88 (lv_at hl 0 rfl) ?_
              refine lv_iconst (v := -1) hx hb dX3_spread_90 (by decide) ?_
              refine lv_icmp_eq (tgt := 176) hx hb dX3_spread_91 (by decide) (fun hc => ?_) (fun hc => ?_)
              · have h := gv_pos hc h
                obtain ⟨v20, ev20⟩ : ∃ y : Int32, y = (v17 + (1 : Int32)) := ⟨_, rfl⟩
                have h := gv_let_e ev20 h
                refine lv_iinc (v := v20) (lv' := [(6, .int v20), (7, .int v19), (5, .int v13), (0, .ref (X.1 38)), (4, .int v10), (2, .int v15), (3, .int v16)]) hx hb dX3_spread_176 hl (k := 6) rfl (by rw [ev20]; rfl) (by decide) rfl (fun ls hl => ?_)
                refine lv_goto (tgt := 73) hx hb dX3_spread_179 (by decide) ?_
                exact Kc _ (gv_inj h) _ _ _ hP hS (lv_sub hl [2, 3, 4, 5, 6, 0] rfl)
              · have h := gv_neg hc h
                refine lv_aload_n hx hb dX3_spread_94 rfl (lv_at hl 2 rfl) ?_
                refine gv_get (ref := "IceByEar$Roads") (C := RX3) (T := TX3) (N := 4) (ci := 3) (v := .ref (X.1 40)) C0 (fun _ h9 => List.mem_cons_of_mem _ (List.mem_append_right _ h9)) hP 38 (gw_o3 X s18 gk_38.1) rfl 1 (by decide) (by decide +kernel) rfl rfl dX3_spread_95 ?_
                refine lv_iload hx hb dX3_spread_98 (lv_at hl 0 rfl) ?_
                obtain ⟨hin21, h⟩ := gv_in_e h
                refine gv_iald C0 hP 40 gk_40.1 gk_40.2 hin21 dX3_spread_100 ?_
                refine lv_iconst (v := -1) hx hb dX3_spread_101 (by decide) ?_
                refine lv_icmp_eq (tgt := 176) hx hb dX3_spread_102 (by decide) (fun hc => ?_) (fun hc => ?_)
                · have h := gv_pos hc h
                  obtain ⟨v22, ev22⟩ : ∃ y : Int32, y = (v17 + (1 : Int32)) := ⟨_, rfl⟩
                  have h := gv_let_e ev22 h
                  refine lv_iinc (v := v22) (lv' := [(6, .int v22), (7, .int v19), (5, .int v13), (0, .ref (X.1 38)), (4, .int v10), (2, .int v15), (3, .int v16)]) hx hb dX3_spread_176 hl (k := 6) rfl (by rw [ev22]; rfl) (by decide) rfl (fun ls hl => ?_)
                  refine lv_goto (tgt := 73) hx hb dX3_spread_179 (by decide) ?_
                  exact Kc _ (gv_inj h) _ _ _ hP hS (lv_sub hl [2, 3, 4, 5, 6, 0] rfl)
                · have h := gv_neg hc h
                  refine lv_aload_n hx hb dX3_spread_105 rfl (lv_at hl 2 rfl) ?_
                  refine gv_get (ref := "IceByEar$Roads") (C := RX3) (T := TX3) (N := 4) (ci := 3) (v := .ref (X.1 41)) C0 (fun _ h9 => List.mem_cons_of_mem _ (List.mem_append_right _ h9)) hP 38 (gw_o3 X s18 gk_38.1) rfl 2 (by decide) (by decide +kernel) rfl rfl dX3_spread_106 ?_
                  refine lv_iload hx hb dX3_spread_109 (lv_at hl 0 rfl) ?_
                  obtain ⟨hin23, h⟩ := gv_in_e h
                  refine gv_iald C0 hP 41 gk_41.1 gk_41.2 hin23 dX3_spread_111 ?_
                  refine lv_iconst (v := -1) hx hb dX3_spread_112 (by decide) ?_
                  refine lv_icmp_eq (tgt := 119) hx hb dX3_spread_113 (by decide) (fun hc => ?_) (fun hc => ?_)
                  · have h := gv_pos hc h
                    refine lv_aload_n hx hb dX3_spread_119 rfl (lv_at hl 2 rfl) ?_
                    refine gv_get (ref := "IceByEar$Roads") (C := RX3) (T := TX3) (N := 4) (ci := 3) (v := .ref (X.1 41)) C0 (fun _ h9 => List.mem_cons_of_mem _ (List.mem_append_right _ h9)) hP 38 (gw_o3 X s18 gk_38.1) rfl 2 (by decide) (by decide +kernel) rfl rfl dX3_spread_120 ?_
                    refine lv_iload hx hb dX3_spread_123 (lv_at hl 0 rfl) ?_
                    refine lv_aload_n hx hb dX3_spread_125 rfl (lv_at hl 2 rfl) ?_
                    refine gv_get (ref := "IceByEar$Roads") (C := RX3) (T := TX3) (N := 4) (ci := 3) (v := .ref (X.1 41)) C0 (fun _ h9 => List.mem_cons_of_mem _ (List.mem_append_right _ h9)) hP 38 (gw_o3 X s18 gk_38.1) rfl 2 (by decide) (by decide +kernel) rfl rfl dX3_spread_126 ?_
                    refine lv_iload hx hb dX3_spread_129 (lv_at hl 1 rfl) ?_
                    obtain ⟨hin24, h⟩ := gv_in_e h
                    refine gv_iald C0 hP 41 gk_41.1 gk_41.2 hin24 dX3_spread_131 ?_
                    refine lv_aload_n hx hb dX3_spread_132 rfl (lv_at hl 2 rfl) ?_
                    refine gv_get (ref := "IceByEar$Roads") (C := RX3) (T := TX3) (N := 4) (ci := 3) (v := .ref (X.1 40)) C0 (fun _ h9 => List.mem_cons_of_mem _ (List.mem_append_right _ h9)) hP 38 (gw_o3 X s18 gk_38.1) rfl 1 (by decide) (by decide +kernel) rfl rfl dX3_spread_133 ?_
                    refine lv_iload hx hb dX3_spread_136 (lv_at hl 0 rfl) ?_
                    obtain ⟨hin25, h⟩ := gv_in_e h
                    refine gv_iald C0 hP 40 gk_40.1 gk_40.2 hin25 dX3_spread_138 ?_
                    refine lv_iadd hx hb dX3_spread_139 ?_
                    obtain ⟨hin26, h⟩ := gv_in_e h
                    refine gv_iast C0 hP hS 41 gk_41.1 gk_41.2 hin26 dX3_spread_140 (fun s27 H locs es27 hP hS => ?_)
                    have h := gv_let_e es27 h
                    refine lv_aload_n hx hb dX3_spread_141 rfl (lv_at hl 2 rfl) ?_
                    refine gv_get (ref := "IceByEar$Roads") (C := RX3) (T := TX3) (N := 4) (ci := 3) (v := .ref (X.1 40)) C0 (fun _ h9 => List.mem_cons_of_mem _ (List.mem_append_right _ h9)) hP 38 (gw_o3 X s27 gk_38.1) rfl 1 (by decide) (by decide +kernel) rfl rfl dX3_spread_142 ?_
                    refine lv_iload hx hb dX3_spread_145 (lv_at hl 0 rfl) ?_
                    obtain ⟨hin28, h⟩ := gv_in_e h
                    refine gv_iald C0 hP 40 gk_40.1 gk_40.2 hin28 dX3_spread_147 ?_
                    refine lv_if_ne (tgt := 165) hx hb dX3_spread_148 (by decide) (fun hc => ?_) (fun hc => ?_)
                    · have h := gv_neg hc h
                      refine lv_aload_n hx hb dX3_spread_165 rfl (lv_at hl 2 rfl) ?_
                      refine gv_get (ref := "IceByEar$Roads") (C := RX3) (T := TX3) (N := 4) (ci := 3) (v := .ref (X.1 42)) C0 (fun _ h9 => List.mem_cons_of_mem _ (List.mem_append_right _ h9)) hP 38 (gw_o3 X s27 gk_38.1) rfl 3 (by decide) (by decide +kernel) rfl rfl dX3_spread_166 ?_
                      refine lv_iload_n hx hb dX3_spread_169 rfl (lv_at hl 5 rfl) ?_
                      refine lv_iload hx hb dX3_spread_170 (lv_at hl 0 rfl) ?_
                      obtain ⟨hin29, h⟩ := gv_in_e h
                      refine gv_iast C0 hP hS 42 gk_42.1 gk_42.2 hin29 dX3_spread_172 (fun s30 H locs es30 hP hS => ?_)
                      have h := gv_let_e es30 h
                      obtain ⟨v31, ev31⟩ : ∃ y : Int32, y = (v16 + (1 : Int32)) := ⟨_, rfl⟩
                      have h := gv_let_e ev31 h
                      refine lv_iinc (v := v31) (lv' := [(3, .int v31), (7, .int v19), (5, .int v13), (0, .ref (X.1 38)), (4, .int v10), (2, .int v15), (6, .int v17)]) hx hb dX3_spread_173 hl (k := 5) rfl (by rw [ev31]; rfl) (by decide) rfl (fun ls hl => ?_)
                      obtain ⟨v32, ev32⟩ : ∃ y : Int32, y = (v17 + (1 : Int32)) := ⟨_, rfl⟩
                      have h := gv_let_e ev32 h
                      refine lv_iinc (v := v32) (lv' := [(6, .int v32), (3, .int v31), (7, .int v19), (5, .int v13), (0, .ref (X.1 38)), (4, .int v10), (2, .int v15)]) hx hb dX3_spread_176 hl (k := 6) rfl (by rw [ev32]; rfl) (by decide) rfl (fun ls hl => ?_)
                      refine lv_goto (tgt := 73) hx hb dX3_spread_179 (by decide) ?_
                      exact Kc _ (gv_inj h) _ _ _ hP hS (lv_sub hl [3, 4, 5, 6, 1, 0] rfl)
                    · have h := gv_pos hc h
                      obtain ⟨v33, ev33⟩ : ∃ y : Int32, y = (v15 + (-1 : Int32)) := ⟨_, rfl⟩
                      have h := gv_let_e ev33 h
                      refine lv_iinc (v := v33) (lv' := [(2, .int v33), (7, .int v19), (5, .int v13), (0, .ref (X.1 38)), (4, .int v10), (3, .int v16), (6, .int v17)]) hx hb dX3_spread_151 hl (k := 4) rfl (by rw [ev33]; rfl) (by decide) rfl (fun ls hl => ?_)
                      refine lv_aload_n hx hb dX3_spread_154 rfl (lv_at hl 3 rfl) ?_
                      refine gv_get (ref := "IceByEar$Roads") (C := RX3) (T := TX3) (N := 4) (ci := 3) (v := .ref (X.1 42)) C0 (fun _ h9 => List.mem_cons_of_mem _ (List.mem_append_right _ h9)) hP 38 (gw_o3 X s27 gk_38.1) rfl 3 (by decide) (by decide +kernel) rfl rfl dX3_spread_155 ?_
                      refine lv_iload_n hx hb dX3_spread_158 rfl (lv_at hl 0 rfl) ?_
                      refine lv_iload hx hb dX3_spread_159 (lv_at hl 1 rfl) ?_
                      obtain ⟨hin34, h⟩ := gv_in_e h
                      refine gv_iast C0 hP hS 42 gk_42.1 gk_42.2 hin34 dX3_spread_161 (fun s35 H locs es35 hP hS => ?_)
                      have h := gv_let_e es35 h
                      refine lv_goto (tgt := 176) hx hb dX3_spread_162 (by decide) ?_
                      obtain ⟨v36, ev36⟩ : ∃ y : Int32, y = (v17 + (1 : Int32)) := ⟨_, rfl⟩
                      have h := gv_let_e ev36 h
                      refine lv_iinc (v := v36) (lv' := [(6, .int v36), (2, .int v33), (7, .int v19), (5, .int v13), (0, .ref (X.1 38)), (4, .int v10), (3, .int v16)]) hx hb dX3_spread_176 hl (k := 6) rfl (by rw [ev36]; rfl) (by decide) rfl (fun ls hl => ?_)
                      refine lv_goto (tgt := 73) hx hb dX3_spread_179 (by decide) ?_
                      exact Kc _ (gv_inj h) _ _ _ hP hS (lv_sub hl [3, 4, 5, 1, 6, 0] rfl)
                  · have h := gv_neg hc h
                    refine lv_goto (tgt := 176) hx hb dX3_spread_116 (by decide) ?_
                    obtain ⟨v37, ev37⟩ : ∃ y : Int32, y = (v17 + (1 : Int32)) := ⟨_, rfl⟩
                    have h := gv_let_e ev37 h
                    refine lv_iinc (v := v37) (lv' := [(6, .int v37), (7, .int v19), (5, .int v13), (0, .ref (X.1 38)), (4, .int v10), (2, .int v15), (3, .int v16)]) hx hb dX3_spread_176 hl (k := 6) rfl (by rw [ev37]; rfl) (by decide) rfl (fun ls hl => ?_)
                    refine lv_goto (tgt := 73) hx hb dX3_spread_179 (by decide) ?_
                    exact Kc _ (gv_inj h) _ _ _ hP hS (lv_sub hl [2, 3, 4, 5, 6, 0] rfl)
          · obtain ⟨v38, v39, v40, s41⟩ := q42
            have h := gv_let_e (x := v38) rfl h
            have h := gv_let_e (x := v39) rfl h
            have h := gv_let_e (x := v40) rfl h
            have h := gv_let_e (x := s41) rfl h
            intro H locs ls hP hS hl
            have hP : gw_P X s41 H := hP
            have hl : lv_has ls 8 [(0, .ref (X.1 38)), (4, .int v10), (2, .int v38), (3, .int v39)] := hl
            obtain ⟨v42, ev42⟩ : ∃ y : Int32, y = (v10 + (1 : Int32)) := ⟨_, rfl⟩
            have h := gv_let_e ev42 h
            refine lv_iinc (v := v42) (lv' := [(4, .int v42), (0, .ref (X.1 38)), (2, .int v38), (3, .int v39)]) hx hb dX3_spread_182 hl (k := 1) rfl (by rw [ev42]; rfl) (by decide) rfl (fun ls hl => ?_)
            refine lv_goto (tgt := 47) hx hb dX3_spread_185 (by decide) ?_
            exact Kc _ (gv_inj h) _ _ _ hP hS (lv_sub hl [1, 2, 3, 0] rfl)
    · obtain ⟨v44, v45, v46, s47⟩ := q47
      have h := gv_let_e (x := v44) rfl h
      have h := gv_let_e (x := v45) rfl h
      have h := gv_let_e (x := v46) rfl h
      have h := gv_let_e (x := s47) rfl h
      intro H locs ls hP hS hl
      have hP : gw_P X s47 H := hP
      have hl : lv_has ls 8 [] := hl
      exact Kr _ _ _ _ _ (gv_inj h) hP hS dX3_spread_188
  · have h := gv_pos hc h
    exact Kr _ _ _ _ _ (gv_inj h) hP hS dX3_spread_18
theorem mX3_spread (l : Launch) (X : gw_X) (s0 : gs_S) (a1 : Int32) {τ : gs_S} (h : pX3_spread a1 s0 = some τ) : Met l yX3_spread wsX3_spread rX3_spread (gm_Pc X s0 [.ref (X.1 38), .int a1]) (gm_Qv X τ) 0 0 (gw_A X) :=
  gm_of RX3 (by decide) rfl rfl (Nat.le_of_ble_eq_true rfl) (fun p e s m below meth c ls C0 hP hl hS => tX3_spread C0 a1 s0 h (fun H locs ls pc τ hr hP hS hd => by subst hr; exact gm_retv C0 hP hS hd) hP hS hl)
def pX3_length_L3 (a3 : Int32) (v1 : Int32) (s2 : gs_S) : Option ((Int32 × gs_S) ⊕ (Int32 × gs_S)) := if (64 : Int32) ≤ v1 then some (.inr (v1, s2)) else gv_in v1 64 (if (s2.1 39 v1.toNatClampNeg) < a3 then gv_in v1 64 (gv_let (gs_u s2 40 v1.toNatClampNeg (-1 : Int32)) (fun s5 => gv_let (v1 + (1 : Int32)) (fun v6 => some (.inl (v6, s5))))) else gv_in v1 64 (gv_let (gs_u s2 40 v1.toNatClampNeg (1 : Int32)) (fun s8 => gv_let (v1 + (1 : Int32)) (fun v9 => some (.inl (v9, s8))))))
def pX3_length (a1 : Int32) (a2 : Int32) (a3 : Int32) (s0 : gs_S) : Option (Int32 × gs_S) := gv_bind (gv_loop (fun q => pX3_length_L3 a3 q.1 q.2) gv_N ((0 : Int32), s0)) (fun q => gv_let q.1 (fun v10 => gv_let q.2 (fun s11 => gv_bind (pX3_spread a2 s11) (fun s12 => gv_in a1 64 (if (s12.1 41 a1.toNatClampNeg) = (-1 : Int32) then some ((-4 : Int32), s12) else gv_in a1 64 (some ((s12.1 41 a1.toNatClampNeg), s12)))))))
def rX3_length : Room := { frames := 2, cells := 0, slots := 0, locals := 50 }
set_option maxHeartbeats 4000000 in
set_option maxRecDepth 100000 in
theorem tX3_length {p : Program} {l : Launch} {e : Env} {s : State} {m : MethodId} {args : Array Value} {below : List Frame} {meth : Method} {c : Code} {X : gw_X} {Q : State → Prop} (C0 : gm_At p s m args meth c X cX3_length 5 RX3 wsX3_length (some .int)) (a1 : Int32) (a2 : Int32) (a3 : Int32) (s0 : gs_S) {z : Int32 × gs_S} (h : pX3_length a1 a2 a3 s0 = some z) (Kr : ∀ (H : Heap) (locs : List Loc) (ls : Array Slot) (pc : Nat) (r : Int32) (τ : gs_S), z = (r, τ) → gw_P X τ H → va_S (gw_A X) s.heap H locs → decode cX3_length pc = .ok (.ireturn, 1) → W p l e rX3_length s m args below meth c H locs 0 0 Q (F0 m pc ls [.int r])) {H : Heap} {locs : List Loc} {ls : Array Slot} (hP : gw_P X s0 H) (hS : va_S (gw_A X) s.heap H locs) (hl : lv_has ls 5 [(0, .ref (X.1 38)), (1, .int a1), (2, .int a2), (3, .int a3)]) : W p l e rX3_length s m args below meth c H locs 0 0 Q (F0 m 0 ls []) := by
  obtain ⟨hx, hb, hml, hown, hts, hr, hlocks, hC⟩ := id C0
  unfold pX3_length at h
  refine lv_iconst (v := 0) hx hb dX3_length_0 (by decide) ?_
  refine lv_istore (lv' := [(4, .int (0 : Int32)), (0, .ref (X.1 38)), (1, .int a1), (2, .int a2), (3, .int a3)]) hx hb dX3_length_1 hl (by decide) rfl (fun ls hl => ?_)
  obtain ⟨q14, hq14, h⟩ := gv_bind_e h
  refine gv_loop_ind (Φ := fun q => ∀ (H : Heap) (locs : List Loc) (ls : Array Slot), gw_P X q.2 H → va_S (gw_A X) s.heap H locs → lv_has ls 5 [(0, .ref (X.1 38)), (1, .int a1), (2, .int a2), (3, .int a3), (4, .int q.1)] → W p l e rX3_length s m args below meth c H locs 0 0 Q (F0 m 3 ls [])) (Ψ := fun q => ∀ (H : Heap) (locs : List Loc) (ls : Array Slot), gw_P X q.2 H → va_S (gw_A X) s.heap H locs → lv_has ls 5 [(0, .ref (X.1 38)), (1, .int a1), (2, .int a2)] → W p l e rX3_length s m args below meth c H locs 0 0 Q (F0 m 39 ls [])) ?_ gv_N ((0 : Int32), s0) q14 hq14 ?_ H locs ls hP hS (lv_sub hl [1, 2, 3, 4, 0] rfl)
  · intro q x h Kc Ke H locs ls hP hS hl
    obtain ⟨v1, s2⟩ := q
    have h : pX3_length_L3 a3 v1 s2 = some x := h
    have hP : gw_P X s2 H := hP
    have hl : lv_has ls 5 [(0, .ref (X.1 38)), (1, .int a1), (2, .int a2), (3, .int a3), (4, .int v1)] := hl
    unfold pX3_length_L3 at h
    refine lv_iload hx hb dX3_length_3 (lv_at hl 4 rfl) ?_
    refine lv_bipush (v := 64) hx hb dX3_length_5 (by decide) ?_
    refine lv_icmp_ge (tgt := 39) hx hb dX3_length_7 (by decide) (fun hc => ?_) (fun hc => ?_)
    · have h := gv_pos hc h
      exact Ke _ (gv_inj h) _ _ _ hP hS (lv_sub hl [0, 1, 2] rfl)
    · have h := gv_neg hc h
      refine lv_aload_n hx hb dX3_length_10 rfl (lv_at hl 0 rfl) ?_
      refine gv_get (ref := "IceByEar$Roads") (C := RX3) (T := TX3) (N := 4) (ci := 3) (v := .ref (X.1 40)) C0 (fun _ h9 => List.mem_cons_of_mem _ (List.mem_append_right _ h9)) hP 38 (gw_o3 X s2 gk_38.1) rfl 1 (by decide) (by decide +kernel) rfl rfl dX3_length_11 ?_
      refine lv_iload hx hb dX3_length_14 (lv_at hl 4 rfl) ?_
      refine lv_aload_n hx hb dX3_length_16 rfl (lv_at hl 0 rfl) ?_
      refine gv_get (ref := "IceByEar$Roads") (C := RX3) (T := TX3) (N := 4) (ci := 3) (v := .ref (X.1 39)) C0 (fun _ h9 => List.mem_cons_of_mem _ (List.mem_append_right _ h9)) hP 38 (gw_o3 X s2 gk_38.1) rfl 0 (by decide) (by decide +kernel) rfl rfl dX3_length_17 ?_
      refine lv_iload hx hb dX3_length_20 (lv_at hl 4 rfl) ?_
      obtain ⟨hin3, h⟩ := gv_in_e h
      refine gv_iald C0 hP 39 gk_39.1 gk_39.2 hin3 dX3_length_22 ?_
      refine lv_iload_n hx hb dX3_length_23 rfl (lv_at hl 3 rfl) ?_
      refine lv_icmp_lt (tgt := 31) hx hb dX3_length_24 (by decide) (fun hc => ?_) (fun hc => ?_)
      · have h := gv_pos hc h
        refine lv_iconst (v := -1) hx hb dX3_length_31 (by decide) ?_
        obtain ⟨hin4, h⟩ := gv_in_e h
        refine gv_iast C0 hP hS 40 gk_40.1 gk_40.2 hin4 dX3_length_32 (fun s5 H locs es5 hP hS => ?_)
        have h := gv_let_e es5 h
        obtain ⟨v6, ev6⟩ : ∃ y : Int32, y = (v1 + (1 : Int32)) := ⟨_, rfl⟩
        have h := gv_let_e ev6 h
        refine lv_iinc (v := v6) (lv' := [(4, .int v6), (0, .ref (X.1 38)), (1, .int a1), (2, .int a2), (3, .int a3)]) hx hb dX3_length_33 hl (k := 4) rfl (by rw [ev6]; rfl) (by decide) rfl (fun ls hl => ?_)
        refine lv_goto (tgt := 3) hx hb dX3_length_36 (by decide) ?_
        exact Kc _ (gv_inj h) _ _ _ hP hS (lv_sub hl [1, 2, 3, 4, 0] rfl)
      · have h := gv_neg hc h
        refine lv_iconst (v := 1) hx hb dX3_length_27 (by decide) ?_
        refine lv_goto (tgt := 32) hx hb dX3_length_28 (by decide) ?_
        obtain ⟨hin7, h⟩ := gv_in_e h
        refine gv_iast C0 hP hS 40 gk_40.1 gk_40.2 hin7 dX3_length_32 (fun s8 H locs es8 hP hS => ?_)
        have h := gv_let_e es8 h
        obtain ⟨v9, ev9⟩ : ∃ y : Int32, y = (v1 + (1 : Int32)) := ⟨_, rfl⟩
        have h := gv_let_e ev9 h
        refine lv_iinc (v := v9) (lv' := [(4, .int v9), (0, .ref (X.1 38)), (1, .int a1), (2, .int a2), (3, .int a3)]) hx hb dX3_length_33 hl (k := 4) rfl (by rw [ev9]; rfl) (by decide) rfl (fun ls hl => ?_)
        refine lv_goto (tgt := 3) hx hb dX3_length_36 (by decide) ?_
        exact Kc _ (gv_inj h) _ _ _ hP hS (lv_sub hl [1, 2, 3, 4, 0] rfl)
  · obtain ⟨v10, s11⟩ := q14
    have h := gv_let_e (x := v10) rfl h
    have h := gv_let_e (x := s11) rfl h
    intro H locs ls hP hS hl
    have hP : gw_P X s11 H := hP
    have hl : lv_has ls 5 [(0, .ref (X.1 38)), (1, .int a1), (2, .int a2)] := hl
    refine lv_aload_n hx hb dX3_length_39 rfl (lv_at hl 0 rfl) ?_
    refine lv_iload_n hx hb dX3_length_40 rfl (lv_at hl 2 rfl) ?_
    obtain ⟨s12, hs12, h⟩ := gv_bind_e h
    refine gv_rv (gv_runV (n := 1) (rest := []) C0 (mX3_spread l X s11 a2 hs12) gX3_length_X3_spread rfl ⟨rfl, rfl⟩ (by decide +kernel) ⟨by decide, by decide⟩ gk_38.1 (by decide) rfl hP hS rfl hl.1 rfl (Nat.le_of_ble_eq_true rfl) dX3_length_41 ⟨Nat.zero_le _, Nat.zero_le _⟩) hS (fun H locs hP hS => ?_)
    refine lv_aload_n hx hb dX3_length_44 rfl (lv_at hl 0 rfl) ?_
    refine gv_get (ref := "IceByEar$Roads") (C := RX3) (T := TX3) (N := 4) (ci := 3) (v := .ref (X.1 41)) C0 (fun _ h9 => List.mem_cons_of_mem _ (List.mem_append_right _ h9)) hP 38 (gw_o3 X s12 gk_38.1) rfl 2 (by decide) (by decide +kernel) rfl rfl dX3_length_45 ?_
    refine lv_iload_n hx hb dX3_length_48 rfl (lv_at hl 1 rfl) ?_
    obtain ⟨hin13, h⟩ := gv_in_e h
    refine gv_iald C0 hP 41 gk_41.1 gk_41.2 hin13 dX3_length_49 ?_
    refine lv_iconst (v := -1) hx hb dX3_length_50 (by decide) ?_
    refine lv_icmp_ne (tgt := 59) hx hb dX3_length_51 (by decide) (fun hc => ?_) (fun hc => ?_)
    · have h := gv_neg hc h
      refine lv_aload_n hx hb dX3_length_59 rfl (lv_at hl 0 rfl) ?_
      refine gv_get (ref := "IceByEar$Roads") (C := RX3) (T := TX3) (N := 4) (ci := 3) (v := .ref (X.1 41)) C0 (fun _ h9 => List.mem_cons_of_mem _ (List.mem_append_right _ h9)) hP 38 (gw_o3 X s12 gk_38.1) rfl 2 (by decide) (by decide +kernel) rfl rfl dX3_length_60 ?_
      refine lv_iload_n hx hb dX3_length_63 rfl (lv_at hl 1 rfl) ?_
      obtain ⟨hin14, h⟩ := gv_in_e h
      refine gv_iald C0 hP 41 gk_41.1 gk_41.2 hin14 dX3_length_64 ?_
      exact Kr _ _ _ _ _ _ (gv_inj h) hP hS dX3_length_65
    · have h := gv_pos hc h
      refine lv_bipush (v := -4) hx hb dX3_length_54 (by decide) ?_
      refine lv_goto (tgt := 65) hx hb dX3_length_56 (by decide) ?_
      exact Kr _ _ _ _ _ _ (gv_inj h) hP hS dX3_length_65
theorem mX3_length (l : Launch) (X : gw_X) (s0 : gs_S) (a1 : Int32) (a2 : Int32) (a3 : Int32) {r : Int32} {τ : gs_S} (h : pX3_length a1 a2 a3 s0 = some (r, τ)) : Met l yX3_length wsX3_length rX3_length (gm_Pc X s0 [.ref (X.1 38), .int a1, .int a2, .int a3]) (gm_Qi X τ r) 0 0 (gw_A X) :=
  gm_of RX3 (by decide) rfl rfl (Nat.le_of_ble_eq_true rfl) (fun p e s m below meth c ls C0 hP hl hS => tX3_length C0 a1 a2 a3 s0 h (fun H locs ls pc r τ hr hP hS hd => by cases hr; exact gm_reti C0 hP hS hd) hP hS hl)
def pX3_nearer_L2 (a1 : Int32) (s0 : gs_S) (v1 : Int32) : Option ((Int32) ⊕ ((Int32) ⊕ (Int32))) := if (4 : Int32) ≤ v1 then some (.inr (.inl v1)) else gv_let (pX10_beside a1 v1) (fun v2 => if v2 = (-1 : Int32) then gv_let (v1 + (1 : Int32)) (fun v3 => some (.inl v3)) else gv_in v2 64 (gv_in a1 64 (if (s0.1 41 v2.toNatClampNeg) = ((s0.1 41 a1.toNatClampNeg) - (1 : Int32)) then some (.inr (.inr v2)) else gv_let (v1 + (1 : Int32)) (fun v6 => some (.inl v6)))))
def pX3_nearer (a1 : Int32) (s0 : gs_S) : Option (Int32) := gv_bret (gv_loop (fun q => pX3_nearer_L2 a1 s0 q) gv_N (0 : Int32)) (fun r => r) (fun q => gv_let q (fun v7 => some a1))
def rX3_nearer : Room := { frames := 1, cells := 0, slots := 0, locals := 21 }
set_option maxHeartbeats 4000000 in
set_option maxRecDepth 100000 in
theorem tX3_nearer {p : Program} {l : Launch} {e : Env} {s : State} {m : MethodId} {args : Array Value} {below : List Frame} {meth : Method} {c : Code} {X : gw_X} {Q : State → Prop} (C0 : gm_At p s m args meth c X cX3_nearer 4 RX3 wsX3_nearer (some .int)) (a1 : Int32) (s0 : gs_S) {z : Int32} (h : pX3_nearer a1 s0 = some z) (Kr : ∀ (H : Heap) (locs : List Loc) (ls : Array Slot) (pc : Nat) (r : Int32), z = r → gw_P X s0 H → va_S (gw_A X) s.heap H locs → decode cX3_nearer pc = .ok (.ireturn, 1) → W p l e rX3_nearer s m args below meth c H locs 0 0 Q (F0 m pc ls [.int r])) {H : Heap} {locs : List Loc} {ls : Array Slot} (hP : gw_P X s0 H) (hS : va_S (gw_A X) s.heap H locs) (hl : lv_has ls 4 [(0, .ref (X.1 38)), (1, .int a1)]) : W p l e rX3_nearer s m args below meth c H locs 0 0 Q (F0 m 0 ls []) := by
  obtain ⟨hx, hb, hml, hown, hts, hr, hlocks, hC⟩ := id C0
  unfold pX3_nearer at h
  refine lv_iconst (v := 0) hx hb dX3_nearer_0 (by decide) ?_
  refine lv_istore_n (lv' := [(2, .int (0 : Int32)), (0, .ref (X.1 38)), (1, .int a1)]) hx hb dX3_nearer_1 rfl hl (by decide) rfl (fun ls hl => ?_)
  obtain ⟨q7, hq7, h1q7, h2q7⟩ := gv_bret_e h
  refine gv_loop_ind (Φ := fun q => ∀ (H : Heap) (locs : List Loc) (ls : Array Slot), gw_P X s0 H → va_S (gw_A X) s.heap H locs → lv_has ls 4 [(0, .ref (X.1 38)), (1, .int a1), (2, .int q)] → W p l e rX3_nearer s m args below meth c H locs 0 0 Q (F0 m 2 ls [])) (Ψ := fun ex => (∀ q : Int32, ex = .inl q → ∀ (H : Heap) (locs : List Loc) (ls : Array Slot), gw_P X s0 H → va_S (gw_A X) s.heap H locs → lv_has ls 4 [(1, .int a1)] → W p l e rX3_nearer s m args below meth c H locs 0 0 Q (F0 m 43 ls [])) ∧ (∀ r : Int32, ex = .inr r → ∀ (H : Heap) (locs : List Loc) (ls : Array Slot) (pc : Nat), gw_P X s0 H → va_S (gw_A X) s.heap H locs → decode cX3_nearer pc = .ok (.ireturn, 1) → W p l e rX3_nearer s m args below meth c H locs 0 0 Q (F0 m pc ls [.int r]))) ?_ gv_N (0 : Int32) q7 hq7 ⟨?_, ?_⟩ H locs ls hP hS (lv_sub hl [1, 2, 0] rfl)
  · intro q x h Kc Ke H locs ls hP hS hl
    obtain ⟨v1, eq_q⟩ : ∃ y, y = q := ⟨_, rfl⟩
    subst eq_q
    have h : pX3_nearer_L2 a1 s0 v1 = some x := h
    have hP : gw_P X s0 H := hP
    have hl : lv_has ls 4 [(0, .ref (X.1 38)), (1, .int a1), (2, .int v1)] := hl
    unfold pX3_nearer_L2 at h
    refine lv_iload_n hx hb dX3_nearer_2 rfl (lv_at hl 2 rfl) ?_
    refine lv_iconst (v := 4) hx hb dX3_nearer_3 (by decide) ?_
    refine lv_icmp_ge (tgt := 43) hx hb dX3_nearer_4 (by decide) (fun hc => ?_) (fun hc => ?_)
    · have h := gv_pos hc h
      exact (Ke _ (gv_inj h)).1 _ rfl _ _ _ hP hS (lv_sub hl [1] rfl)
    · have h := gv_neg hc h
      refine lv_iload_n hx hb dX3_nearer_7 rfl (lv_at hl 1 rfl) ?_
      refine lv_iload_n hx hb dX3_nearer_8 rfl (lv_at hl 2 rfl) ?_
      refine gv_ri (gv_runN (n := 2) (rest := []) (host := "IceByEar") C0 (mX10_beside l X s0 a1 v1) gX3_nearer_X10_beside_n50 rfl ⟨rfl, rfl⟩ (by decide +kernel) ⟨by decide +kernel, by decide +kernel⟩ (by decide +kernel) ⟨by decide, by decide⟩ hP hS rfl hl.1 rfl (Nat.le_of_ble_eq_true rfl) dX3_nearer_9 ⟨Nat.zero_le _, Nat.zero_le _⟩) hS (fun H locs hP hS => ?_)
      refine lv_topi (fun v2 ev2 => ?_)
      have h := gv_let_e ev2 h
      refine lv_istore_n (lv' := [(3, .int v2), (0, .ref (X.1 38)), (1, .int a1), (2, .int v1)]) hx hb dX3_nearer_12 rfl hl (by decide) rfl (fun ls hl => ?_)
      refine lv_iload_n hx hb dX3_nearer_13 rfl (lv_at hl 0 rfl) ?_
      refine lv_iconst (v := -1) hx hb dX3_nearer_14 (by decide) ?_
      refine lv_icmp_eq (tgt := 37) hx hb dX3_nearer_15 (by decide) (fun hc => ?_) (fun hc => ?_)
      · have h := gv_pos hc h
        obtain ⟨v3, ev3⟩ : ∃ y : Int32, y = (v1 + (1 : Int32)) := ⟨_, rfl⟩
        have h := gv_let_e ev3 h
        refine lv_iinc (v := v3) (lv' := [(2, .int v3), (3, .int v2), (0, .ref (X.1 38)), (1, .int a1)]) hx hb dX3_nearer_37 hl (k := 3) rfl (by rw [ev3]; rfl) (by decide) rfl (fun ls hl => ?_)
        refine lv_goto (tgt := 2) hx hb dX3_nearer_40 (by decide) ?_
        exact Kc _ (gv_inj h) _ _ _ hP hS (lv_sub hl [2, 3, 0] rfl)
      · have h := gv_neg hc h
        refine lv_aload_n hx hb dX3_nearer_18 rfl (lv_at hl 1 rfl) ?_
        refine gv_get (ref := "IceByEar$Roads") (C := RX3) (T := TX3) (N := 4) (ci := 3) (v := .ref (X.1 41)) C0 (fun _ h9 => List.mem_cons_of_mem _ (List.mem_append_right _ h9)) hP 38 (gw_o3 X s0 gk_38.1) rfl 2 (by decide) (by decide +kernel) rfl rfl dX3_nearer_19 ?_
        refine lv_iload_n hx hb dX3_nearer_22 rfl (lv_at hl 0 rfl) ?_
        obtain ⟨hin4, h⟩ := gv_in_e h
        refine gv_iald C0 hP 41 gk_41.1 gk_41.2 hin4 dX3_nearer_23 ?_
        refine lv_aload_n hx hb dX3_nearer_24 rfl (lv_at hl 1 rfl) ?_
        refine gv_get (ref := "IceByEar$Roads") (C := RX3) (T := TX3) (N := 4) (ci := 3) (v := .ref (X.1 41)) C0 (fun _ h9 => List.mem_cons_of_mem _ (List.mem_append_right _ h9)) hP 38 (gw_o3 X s0 gk_38.1) rfl 2 (by decide) (by decide +kernel) rfl rfl dX3_nearer_25 ?_
        refine lv_iload_n hx hb dX3_nearer_28 rfl (lv_at hl 2 rfl) ?_
        obtain ⟨hin5, h⟩ := gv_in_e h
        refine gv_iald C0 hP 41 gk_41.1 gk_41.2 hin5 dX3_nearer_29 ?_
        refine lv_iconst (v := 1) hx hb dX3_nearer_30 (by decide) ?_
        refine lv_isub hx hb dX3_nearer_31 ?_
        refine lv_icmp_ne (tgt := 37) hx hb dX3_nearer_32 (by decide) (fun hc => ?_) (fun hc => ?_)
        · have h := gv_neg hc h
          obtain ⟨v6, ev6⟩ : ∃ y : Int32, y = (v1 + (1 : Int32)) := ⟨_, rfl⟩
          have h := gv_let_e ev6 h
          refine lv_iinc (v := v6) (lv' := [(2, .int v6), (3, .int v2), (0, .ref (X.1 38)), (1, .int a1)]) hx hb dX3_nearer_37 hl (k := 3) rfl (by rw [ev6]; rfl) (by decide) rfl (fun ls hl => ?_)
          refine lv_goto (tgt := 2) hx hb dX3_nearer_40 (by decide) ?_
          exact Kc _ (gv_inj h) _ _ _ hP hS (lv_sub hl [2, 3, 0] rfl)
        · have h := gv_pos hc h
          refine lv_iload_n hx hb dX3_nearer_35 rfl (lv_at hl 0 rfl) ?_
          exact (Ke _ (gv_inj h)).2 _ rfl _ _ _ _ hP hS dX3_nearer_36
  · intro q hex H locs ls hP hS hl
    have h := h1q7 q hex
    obtain ⟨v7, eq_q⟩ : ∃ y, y = q := ⟨_, rfl⟩
    subst eq_q
    have h := gv_let_e (x := v7) rfl h
    have hP : gw_P X s0 H := hP
    have hl : lv_has ls 4 [(1, .int a1)] := hl
    refine lv_iload_n hx hb dX3_nearer_43 rfl (lv_at hl 0 rfl) ?_
    exact Kr _ _ _ _ _ (gv_inj h) hP hS dX3_nearer_44
  · intro r hex H locs ls pc hP hS hd
    exact Kr _ _ _ _ _ (h2q7 r hex).symm hP hS hd
theorem mX3_nearer (l : Launch) (X : gw_X) (s0 : gs_S) (a1 : Int32) {r : Int32} (h : pX3_nearer a1 s0 = some r) : Met l yX3_nearer wsX3_nearer rX3_nearer (gm_Pc X s0 [.ref (X.1 38), .int a1]) (gm_Qi X s0 r) 0 0 (gw_A X) :=
  gm_of RX3 (by decide) rfl rfl (Nat.le_of_ble_eq_true rfl) (fun p e s m below meth c ls C0 hP hl hS => tX3_nearer C0 a1 s0 h (fun H locs ls pc r hr hP hS hd => by subst hr; exact gm_reti C0 hP hS hd) hP hS hl)
def pX3_walk_L5 (a2 : Int32) (s0 : gs_S) (v1 : Int32) (v2 : Int32) : Option ((Int32 × Int32) ⊕ (Int32 × Int32)) := if a2 ≤ v2 then some (.inr (v1, v2)) else gv_bind (pX3_nearer v1 s0) (fun v3 => gv_let (v2 + (1 : Int32)) (fun v4 => some (.inl (v3, v4))))
def pX3_walk (a1 : Int32) (a2 : Int32) (s0 : gs_S) : Option (Int32) := gv_bind (gv_loop (fun q => pX3_walk_L5 a2 s0 q.1 q.2) gv_N (a1, (0 : Int32))) (fun q => gv_let q.1 (fun v5 => gv_let q.2 (fun v6 => some v5)))
def rX3_walk : Room := { frames := 2, cells := 0, slots := 0, locals := 44 }
set_option maxHeartbeats 4000000 in
set_option maxRecDepth 100000 in
theorem tX3_walk {p : Program} {l : Launch} {e : Env} {s : State} {m : MethodId} {args : Array Value} {below : List Frame} {meth : Method} {c : Code} {X : gw_X} {Q : State → Prop} (C0 : gm_At p s m args meth c X cX3_walk 5 RX3 wsX3_walk (some .int)) (a1 : Int32) (a2 : Int32) (s0 : gs_S) {z : Int32} (h : pX3_walk a1 a2 s0 = some z) (Kr : ∀ (H : Heap) (locs : List Loc) (ls : Array Slot) (pc : Nat) (r : Int32), z = r → gw_P X s0 H → va_S (gw_A X) s.heap H locs → decode cX3_walk pc = .ok (.ireturn, 1) → W p l e rX3_walk s m args below meth c H locs 0 0 Q (F0 m pc ls [.int r])) {H : Heap} {locs : List Loc} {ls : Array Slot} (hP : gw_P X s0 H) (hS : va_S (gw_A X) s.heap H locs) (hl : lv_has ls 5 [(0, .ref (X.1 38)), (1, .int a1), (2, .int a2)]) : W p l e rX3_walk s m args below meth c H locs 0 0 Q (F0 m 0 ls []) := by
  obtain ⟨hx, hb, hml, hown, hts, hr, hlocks, hC⟩ := id C0
  unfold pX3_walk at h
  refine lv_iload_n hx hb dX3_walk_0 rfl (lv_at hl 1 rfl) ?_
  refine lv_istore_n (lv' := [(3, .int a1), (0, .ref (X.1 38)), (1, .int a1), (2, .int a2)]) hx hb dX3_walk_1 rfl hl (by decide) rfl (fun ls hl => ?_)
  refine lv_iconst (v := 0) hx hb dX3_walk_2 (by decide) ?_
  refine lv_istore (lv' := [(4, .int (0 : Int32)), (3, .int a1), (0, .ref (X.1 38)), (1, .int a1), (2, .int a2)]) hx hb dX3_walk_3 hl (by decide) rfl (fun ls hl => ?_)
  obtain ⟨q6, hq6, h⟩ := gv_bind_e h
  refine gv_loop_ind (Φ := fun q => ∀ (H : Heap) (locs : List Loc) (ls : Array Slot), gw_P X s0 H → va_S (gw_A X) s.heap H locs → lv_has ls 5 [(0, .ref (X.1 38)), (2, .int a2), (3, .int q.1), (4, .int q.2)] → W p l e rX3_walk s m args below meth c H locs 0 0 Q (F0 m 5 ls [])) (Ψ := fun q => ∀ (H : Heap) (locs : List Loc) (ls : Array Slot), gw_P X s0 H → va_S (gw_A X) s.heap H locs → lv_has ls 5 [(3, .int q.1)] → W p l e rX3_walk s m args below meth c H locs 0 0 Q (F0 m 23 ls [])) ?_ gv_N (a1, (0 : Int32)) q6 hq6 ?_ H locs ls hP hS (lv_sub hl [2, 4, 1, 0] rfl)
  · intro q x h Kc Ke H locs ls hP hS hl
    obtain ⟨v1, v2⟩ := q
    have h : pX3_walk_L5 a2 s0 v1 v2 = some x := h
    have hP : gw_P X s0 H := hP
    have hl : lv_has ls 5 [(0, .ref (X.1 38)), (2, .int a2), (3, .int v1), (4, .int v2)] := hl
    unfold pX3_walk_L5 at h
    refine lv_iload hx hb dX3_walk_5 (lv_at hl 3 rfl) ?_
    refine lv_iload_n hx hb dX3_walk_7 rfl (lv_at hl 1 rfl) ?_
    refine lv_icmp_ge (tgt := 23) hx hb dX3_walk_8 (by decide) (fun hc => ?_) (fun hc => ?_)
    · have h := gv_pos hc h
      exact Ke _ (gv_inj h) _ _ _ hP hS (lv_sub hl [2] rfl)
    · have h := gv_neg hc h
      refine lv_aload_n hx hb dX3_walk_11 rfl (lv_at hl 0 rfl) ?_
      refine lv_iload_n hx hb dX3_walk_12 rfl (lv_at hl 2 rfl) ?_
      obtain ⟨v3, hv3, h⟩ := gv_bind_e h
      refine gv_ri (gv_runV (n := 1) (rest := []) C0 (mX3_nearer l X s0 v1 hv3) gX3_walk_X3_nearer rfl ⟨rfl, rfl⟩ (by decide +kernel) ⟨by decide, by decide⟩ gk_38.1 (by decide) rfl hP hS rfl hl.1 rfl (Nat.le_of_ble_eq_true rfl) dX3_walk_13 ⟨Nat.zero_le _, Nat.zero_le _⟩) hS (fun H locs hP hS => ?_)
      refine lv_istore_n (lv' := [(3, .int v3), (0, .ref (X.1 38)), (2, .int a2), (4, .int v2)]) hx hb dX3_walk_16 rfl hl (by decide) rfl (fun ls hl => ?_)
      obtain ⟨v4, ev4⟩ : ∃ y : Int32, y = (v2 + (1 : Int32)) := ⟨_, rfl⟩
      have h := gv_let_e ev4 h
      refine lv_iinc (v := v4) (lv' := [(4, .int v4), (3, .int v3), (0, .ref (X.1 38)), (2, .int a2)]) hx hb dX3_walk_17 hl (k := 3) rfl (by rw [ev4]; rfl) (by decide) rfl (fun ls hl => ?_)
      refine lv_goto (tgt := 5) hx hb dX3_walk_20 (by decide) ?_
      exact Kc _ (gv_inj h) _ _ _ hP hS (lv_sub hl [2, 3, 1, 0] rfl)
  · obtain ⟨v5, v6⟩ := q6
    have h := gv_let_e (x := v5) rfl h
    have h := gv_let_e (x := v6) rfl h
    intro H locs ls hP hS hl
    have hP : gw_P X s0 H := hP
    have hl : lv_has ls 5 [(3, .int v5)] := hl
    refine lv_iload_n hx hb dX3_walk_23 rfl (lv_at hl 0 rfl) ?_
    exact Kr _ _ _ _ _ (gv_inj h) hP hS dX3_walk_24
theorem mX3_walk (l : Launch) (X : gw_X) (s0 : gs_S) (a1 : Int32) (a2 : Int32) {r : Int32} (h : pX3_walk a1 a2 s0 = some r) : Met l yX3_walk wsX3_walk rX3_walk (gm_Pc X s0 [.ref (X.1 38), .int a1, .int a2]) (gm_Qi X s0 r) 0 0 (gw_A X) :=
  gm_of RX3 (by decide) rfl rfl (Nat.le_of_ble_eq_true rfl) (fun p e s m below meth c ls C0 hP hl hS => tX3_walk C0 a1 a2 s0 h (fun H locs ls pc r hr hP hS hd => by subst hr; exact gm_reti C0 hP hS hd) hP hS hl)
def pX10_road (a1 : Int32) (a2 : Int32) (a3 : Int32) (a4 : Int32) (a5 : Int32) (s0 : gs_S) : Option (Int32 × gs_S) := if (pX10_isRoadAsked a1 a2 a3 a4) = 0 then some ((-1 : Int32), s0) else if (pX10_isWithin (a5.toInt64) (-1 : Int32) (63 : Int32)) = 0 then some ((-1 : Int32), s0) else gv_bind (pX3_weigh s0) (fun s1 => gv_bind2 (pX3_length a1 a2 (pX10_weightAlone a3 a4) s1) (fun v2 s3 => if v2 = (-4 : Int32) then some ((-4 : Int32), s3) else if a5 < v2 then if 0 ≤ a5 then gv_bind (pX3_walk a1 a5 s3) (fun v4 => some (v4, s3)) else some (v2, s3) else some ((-4 : Int32), s3)))
def rX10_road : Room := { frames := 5, cells := 0, slots := 0, locals := 109 }
set_option maxHeartbeats 4000000 in
set_option maxRecDepth 100000 in
theorem tX10_road {p : Program} {l : Launch} {e : Env} {s : State} {m : MethodId} {args : Array Value} {below : List Frame} {meth : Method} {c : Code} {X : gw_X} {Q : State → Prop} (C0 : gm_At p s m args meth c X cX10_road 7 RX10 wsX10_road (some .int)) (a1 : Int32) (a2 : Int32) (a3 : Int32) (a4 : Int32) (a5 : Int32) (s0 : gs_S) {z : Int32 × gs_S} (h : pX10_road a1 a2 a3 a4 a5 s0 = some z) (Kr : ∀ (H : Heap) (locs : List Loc) (ls : Array Slot) (pc : Nat) (r : Int32) (τ : gs_S), z = (r, τ) → gw_P X τ H → va_S (gw_A X) s.heap H locs → decode cX10_road pc = .ok (.ireturn, 1) → W p l e rX10_road s m args below meth c H locs 0 0 Q (F0 m pc ls [.int r])) {H : Heap} {locs : List Loc} {ls : Array Slot} (hP : gw_P X s0 H) (hS : va_S (gw_A X) s.heap H locs) (hl : lv_has ls 7 [(0, .ref (X.1 0)), (1, .int a1), (2, .int a2), (3, .int a3), (4, .int a4), (5, .int a5)]) : W p l e rX10_road s m args below meth c H locs 0 0 Q (F0 m 0 ls []) := by
  obtain ⟨hx, hb, hml, hown, hts, hr, hlocks, hC⟩ := id C0
  unfold pX10_road at h
  refine lv_iload_n hx hb dX10_road_0 rfl (lv_at hl 1 rfl) ?_
  refine lv_iload_n hx hb dX10_road_1 rfl (lv_at hl 2 rfl) ?_
  refine lv_iload_n hx hb dX10_road_2 rfl (lv_at hl 3 rfl) ?_
  refine lv_iload hx hb dX10_road_3 (lv_at hl 4 rfl) ?_
  refine gv_ri (gv_runS (n := 4) (rest := []) C0 (mX10_isRoadAsked l X s0 a1 a2 a3 a4) gX10_road_X10_isRoadAsked rfl ⟨rfl, rfl⟩ (by decide +kernel) ⟨by decide, by decide⟩ hP hS rfl hl.1 rfl (Nat.le_of_ble_eq_true rfl) dX10_road_5 ⟨Nat.zero_le _, Nat.zero_le _⟩) hS (fun H locs hP hS => ?_)
  refine lv_if_eq (tgt := 23) hx hb dX10_road_8 (by decide) (fun hc => ?_) (fun hc => ?_)
  · have h := gv_pos hc h
    refine lv_iconst (v := -1) hx hb dX10_road_23 (by decide) ?_
    exact Kr _ _ _ _ _ _ (gv_inj h) hP hS dX10_road_24
  · have h := gv_neg hc h
    refine lv_iload hx hb dX10_road_11 (lv_at hl 5 rfl) ?_
    refine lv_i2l hx hb dX10_road_13 rfl ?_
    refine lv_iconst (v := -1) hx hb dX10_road_14 (by decide) ?_
    refine lv_bipush (v := 63) hx hb dX10_road_15 (by decide) ?_
    refine gv_ri (gv_runS (n := 3) (rest := []) C0 (mX10_isWithin l X s0 (a5.toInt64) (-1 : Int32) (63 : Int32)) gX10_road_X10_isWithin rfl ⟨rfl, rfl⟩ (by decide +kernel) ⟨by decide, by decide⟩ hP hS rfl hl.1 rfl (Nat.le_of_ble_eq_true rfl) dX10_road_17 ⟨Nat.zero_le _, Nat.zero_le _⟩) hS (fun H locs hP hS => ?_)
    refine lv_if_ne (tgt := 25) hx hb dX10_road_20 (by decide) (fun hc => ?_) (fun hc => ?_)
    · have h := gv_neg hc h
      refine lv_aload_n hx hb dX10_road_25 rfl (lv_at hl 0 rfl) ?_
      refine gv_get (ref := "IceByEar") (C := RX10) (T := TX10) (N := 8) (ci := 10) (v := .ref (X.1 38)) C0 (fun _ h9 => List.mem_cons_of_mem _ (List.mem_append_left _ (List.mem_append_left _ (List.mem_append_left _ (List.mem_append_right _ h9))))) hP 0 (gw_o10 X s0 gk_0.1) rfl 5 (by decide) (by decide +kernel) rfl rfl dX10_road_26 ?_
      refine lv_aload_n hx hb dX10_road_29 rfl (lv_at hl 0 rfl) ?_
      refine gv_get (ref := "IceByEar") (C := RX10) (T := TX10) (N := 8) (ci := 10) (v := .ref (X.1 1)) C0 (fun _ h9 => List.mem_cons_of_mem _ (List.mem_append_left _ (List.mem_append_left _ (List.mem_append_left _ (List.mem_append_right _ h9))))) hP 0 (gw_o10 X s0 gk_0.1) rfl 0 (by decide) (by decide +kernel) rfl rfl dX10_road_30 ?_
      refine gv_get (ref := "IceByEar$Scene") (C := RX4) (T := TX4) (N := 6) (ci := 4) (v := .ref (X.1 2)) C0 (fun _ h9 => List.mem_cons_of_mem _ (List.mem_append_left _ (List.mem_append_left _ (List.mem_append_right _ h9)))) hP 1 (gw_o4 X s0 gk_1.1) rfl 0 (by decide) (by decide +kernel) rfl rfl dX10_road_33 ?_
      obtain ⟨s1, hs1, h⟩ := gv_bind_e h
      refine gv_rv (gv_runV (n := 1) (rest := []) C0 (mX3_weigh l X s0  hs1) gX10_road_X3_weigh rfl ⟨rfl, rfl⟩ (by decide +kernel) ⟨by decide, by decide⟩ gk_38.1 (by decide) rfl hP hS rfl hl.1 rfl (Nat.le_of_ble_eq_true rfl) dX10_road_36 ⟨Nat.zero_le _, Nat.zero_le _⟩) hS (fun H locs hP hS => ?_)
      refine lv_aload_n hx hb dX10_road_39 rfl (lv_at hl 0 rfl) ?_
      refine gv_get (ref := "IceByEar") (C := RX10) (T := TX10) (N := 8) (ci := 10) (v := .ref (X.1 38)) C0 (fun _ h9 => List.mem_cons_of_mem _ (List.mem_append_left _ (List.mem_append_left _ (List.mem_append_left _ (List.mem_append_right _ h9))))) hP 0 (gw_o10 X s1 gk_0.1) rfl 5 (by decide) (by decide +kernel) rfl rfl dX10_road_40 ?_
      refine lv_iload_n hx hb dX10_road_43 rfl (lv_at hl 1 rfl) ?_
      refine lv_iload_n hx hb dX10_road_44 rfl (lv_at hl 2 rfl) ?_
      refine lv_iload_n hx hb dX10_road_45 rfl (lv_at hl 3 rfl) ?_
      refine lv_iload hx hb dX10_road_46 (lv_at hl 4 rfl) ?_
      refine gv_ri (gv_runS (n := 2) (rest := [.int a2, .int a1, .ref (X.1 38)]) C0 (mX10_weightAlone l X s1 a3 a4) gX10_road_X10_weightAlone rfl ⟨rfl, rfl⟩ (by decide +kernel) ⟨by decide, by decide⟩ hP hS rfl hl.1 rfl (Nat.le_of_ble_eq_true rfl) dX10_road_48 ⟨Nat.zero_le _, Nat.zero_le _⟩) hS (fun H locs hP hS => ?_)
      obtain ⟨v2, s3, hv2, h⟩ := gv_bind2_e h
      refine gv_ri (gv_runV (n := 3) (rest := []) C0 (mX3_length l X s1 a1 a2 (pX10_weightAlone a3 a4) hv2) gX10_road_X3_length rfl ⟨rfl, rfl⟩ (by decide +kernel) ⟨by decide, by decide⟩ gk_38.1 (by decide) rfl hP hS rfl hl.1 rfl (Nat.le_of_ble_eq_true rfl) dX10_road_51 ⟨Nat.zero_le _, Nat.zero_le _⟩) hS (fun H locs hP hS => ?_)
      refine lv_istore (lv' := [(6, .int v2), (0, .ref (X.1 0)), (1, .int a1), (2, .int a2), (3, .int a3), (4, .int a4), (5, .int a5)]) hx hb dX10_road_54 hl (by decide) rfl (fun ls hl => ?_)
      refine lv_iload hx hb dX10_road_56 (lv_at hl 0 rfl) ?_
      refine lv_bipush (v := -4) hx hb dX10_road_58 (by decide) ?_
      refine lv_icmp_eq (tgt := 70) hx hb dX10_road_60 (by decide) (fun hc => ?_) (fun hc => ?_)
      · have h := gv_pos hc h
        refine lv_bipush (v := -4) hx hb dX10_road_70 (by decide) ?_
        exact Kr _ _ _ _ _ _ (gv_inj h) hP hS dX10_road_72
      · have h := gv_neg hc h
        refine lv_iload hx hb dX10_road_63 (lv_at hl 6 rfl) ?_
        refine lv_iload hx hb dX10_road_65 (lv_at hl 0 rfl) ?_
        refine lv_icmp_lt (tgt := 73) hx hb dX10_road_67 (by decide) (fun hc => ?_) (fun hc => ?_)
        · have h := gv_pos hc h
          refine lv_iload hx hb dX10_road_73 (lv_at hl 6 rfl) ?_
          refine lv_if_ge (tgt := 83) hx hb dX10_road_75 (by decide) (fun hc => ?_) (fun hc => ?_)
          · have h := gv_pos hc h
            refine lv_aload_n hx hb dX10_road_83 rfl (lv_at hl 1 rfl) ?_
            refine gv_get (ref := "IceByEar") (C := RX10) (T := TX10) (N := 8) (ci := 10) (v := .ref (X.1 38)) C0 (fun _ h9 => List.mem_cons_of_mem _ (List.mem_append_left _ (List.mem_append_left _ (List.mem_append_left _ (List.mem_append_right _ h9))))) hP 0 (gw_o10 X s3 gk_0.1) rfl 5 (by decide) (by decide +kernel) rfl rfl dX10_road_84 ?_
            refine lv_iload_n hx hb dX10_road_87 rfl (lv_at hl 2 rfl) ?_
            refine lv_iload hx hb dX10_road_88 (lv_at hl 6 rfl) ?_
            obtain ⟨v4, hv4, h⟩ := gv_bind_e h
            refine gv_ri (gv_runV (n := 2) (rest := []) C0 (mX3_walk l X s3 a1 a5 hv4) gX10_road_X3_walk rfl ⟨rfl, rfl⟩ (by decide +kernel) ⟨by decide, by decide⟩ gk_38.1 (by decide) rfl hP hS rfl hl.1 rfl (Nat.le_of_ble_eq_true rfl) dX10_road_90 ⟨Nat.zero_le _, Nat.zero_le _⟩) hS (fun H locs hP hS => ?_)
            exact Kr _ _ _ _ _ _ (gv_inj h) hP hS dX10_road_93
          · have h := gv_neg hc h
            refine lv_iload hx hb dX10_road_78 (lv_at hl 0 rfl) ?_
            refine lv_goto (tgt := 93) hx hb dX10_road_80 (by decide) ?_
            exact Kr _ _ _ _ _ _ (gv_inj h) hP hS dX10_road_93
        · have h := gv_neg hc h
          refine lv_bipush (v := -4) hx hb dX10_road_70 (by decide) ?_
          exact Kr _ _ _ _ _ _ (gv_inj h) hP hS dX10_road_72
    · have h := gv_pos hc h
      refine lv_iconst (v := -1) hx hb dX10_road_23 (by decide) ?_
      exact Kr _ _ _ _ _ _ (gv_inj h) hP hS dX10_road_24
theorem mX10_road (l : Launch) (X : gw_X) (s0 : gs_S) (a1 : Int32) (a2 : Int32) (a3 : Int32) (a4 : Int32) (a5 : Int32) {r : Int32} {τ : gs_S} (h : pX10_road a1 a2 a3 a4 a5 s0 = some (r, τ)) : Met l yX10_road wsX10_road rX10_road (gm_Pc X s0 [.ref (X.1 0), .int a1, .int a2, .int a3, .int a4, .int a5]) (gm_Qi X τ r) 0 0 (gw_A X) :=
  gm_of RX10 (by decide) rfl rfl (Nat.le_of_ble_eq_true rfl) (fun p e s m below meth c ls C0 hP hl hS => tX10_road C0 a1 a2 a3 a4 a5 s0 h (fun H locs ls pc r τ hr hP hS hd => by cases hr; exact gm_reti C0 hP hS hd) hP hS hl)
def pX10_most_L49 (a1 : Int32) (a2 : Int32) (a3 : Int32) (v2 : Int32) (v3 : Int32) (v4 : Int32) (s5 : gs_S) : Option ((Int32 × Int32 × Int32 × gs_S) ⊕ (Int32 × Int32 × Int32 × gs_S)) := if (7 : Int32) ≤ v4 then some (.inr (v2, v3, v4, s5)) else if (v3 - v2) ≤ (1 : Int32) then some (.inr (v2, v3, v4, s5)) else gv_let ((v2 + v3) / (2 : Int32)) (fun v6 => gv_bind2 (pX3_length a1 a2 (pX10_weightAlone v6 a3) s5) (fun v7 s8 => if v7 = (-4 : Int32) then gv_let (v4 + (1 : Int32)) (fun v10 => some (.inl (v2, v6, v10, s8))) else gv_let (v4 + (1 : Int32)) (fun v9 => some (.inl (v6, v3, v9, s8)))))
def pX10_most (a1 : Int32) (a2 : Int32) (a3 : Int32) (s0 : gs_S) : Option (Int32 × gs_S) := if (pX10_isSquare (a1.toInt64)) = 0 then some ((-1 : Int32), s0) else if (pX10_isSquare (a2.toInt64)) = 0 then some ((-1 : Int32), s0) else if (pX10_isPace a3) = 0 then some ((-1 : Int32), s0) else gv_bind (pX3_weigh s0) (fun s1 => gv_bind (gv_loop (fun q => pX10_most_L49 a1 a2 a3 q.1 q.2.1 q.2.2.1 q.2.2.2) gv_N ((0 : Int32), (100 : Int32), (0 : Int32), s1)) (fun q => gv_let q.1 (fun v11 => gv_let q.2.1 (fun v12 => gv_let q.2.2.1 (fun v13 => gv_let q.2.2.2 (fun s14 => if v11 ≤ 0 then some ((-4 : Int32), s14) else some (v11, s14)))))))
def rX10_most : Room := { frames := 5, cells := 0, slots := 0, locals := 109 }
set_option maxHeartbeats 4000000 in
set_option maxRecDepth 100000 in
theorem tX10_most {p : Program} {l : Launch} {e : Env} {s : State} {m : MethodId} {args : Array Value} {below : List Frame} {meth : Method} {c : Code} {X : gw_X} {Q : State → Prop} (C0 : gm_At p s m args meth c X cX10_most 8 RX10 wsX10_most (some .int)) (a1 : Int32) (a2 : Int32) (a3 : Int32) (s0 : gs_S) {z : Int32 × gs_S} (h : pX10_most a1 a2 a3 s0 = some z) (Kr : ∀ (H : Heap) (locs : List Loc) (ls : Array Slot) (pc : Nat) (r : Int32) (τ : gs_S), z = (r, τ) → gw_P X τ H → va_S (gw_A X) s.heap H locs → decode cX10_most pc = .ok (.ireturn, 1) → W p l e rX10_most s m args below meth c H locs 0 0 Q (F0 m pc ls [.int r])) {H : Heap} {locs : List Loc} {ls : Array Slot} (hP : gw_P X s0 H) (hS : va_S (gw_A X) s.heap H locs) (hl : lv_has ls 8 [(0, .ref (X.1 0)), (1, .int a1), (2, .int a2), (3, .int a3)]) : W p l e rX10_most s m args below meth c H locs 0 0 Q (F0 m 0 ls []) := by
  obtain ⟨hx, hb, hml, hown, hts, hr, hlocks, hC⟩ := id C0
  unfold pX10_most at h
  refine lv_iload_n hx hb dX10_most_0 rfl (lv_at hl 1 rfl) ?_
  refine lv_i2l hx hb dX10_most_1 rfl ?_
  refine gv_ri (gv_runS (n := 1) (rest := []) C0 (mX10_isSquare l X s0 (a1.toInt64)) gX10_most_X10_isSquare rfl ⟨rfl, rfl⟩ (by decide +kernel) ⟨by decide, by decide⟩ hP hS rfl hl.1 rfl (Nat.le_of_ble_eq_true rfl) dX10_most_2 ⟨Nat.zero_le _, Nat.zero_le _⟩) hS (fun H locs hP hS => ?_)
  refine lv_if_eq (tgt := 23) hx hb dX10_most_5 (by decide) (fun hc => ?_) (fun hc => ?_)
  · have h := gv_pos hc h
    refine lv_iconst (v := -1) hx hb dX10_most_23 (by decide) ?_
    exact Kr _ _ _ _ _ _ (gv_inj h) hP hS dX10_most_24
  · have h := gv_neg hc h
    refine lv_iload_n hx hb dX10_most_8 rfl (lv_at hl 2 rfl) ?_
    refine lv_i2l hx hb dX10_most_9 rfl ?_
    refine gv_ri (gv_runS (n := 1) (rest := []) C0 (mX10_isSquare l X s0 (a2.toInt64)) gX10_most_X10_isSquare rfl ⟨rfl, rfl⟩ (by decide +kernel) ⟨by decide, by decide⟩ hP hS rfl hl.1 rfl (Nat.le_of_ble_eq_true rfl) dX10_most_10 ⟨Nat.zero_le _, Nat.zero_le _⟩) hS (fun H locs hP hS => ?_)
    refine lv_if_eq (tgt := 23) hx hb dX10_most_13 (by decide) (fun hc => ?_) (fun hc => ?_)
    · have h := gv_pos hc h
      refine lv_iconst (v := -1) hx hb dX10_most_23 (by decide) ?_
      exact Kr _ _ _ _ _ _ (gv_inj h) hP hS dX10_most_24
    · have h := gv_neg hc h
      refine lv_iload_n hx hb dX10_most_16 rfl (lv_at hl 3 rfl) ?_
      refine gv_ri (gv_runS (n := 1) (rest := []) C0 (mX10_isPace l X s0 a3) gX10_most_X10_isPace rfl ⟨rfl, rfl⟩ (by decide +kernel) ⟨by decide, by decide⟩ hP hS rfl hl.1 rfl (Nat.le_of_ble_eq_true rfl) dX10_most_17 ⟨Nat.zero_le _, Nat.zero_le _⟩) hS (fun H locs hP hS => ?_)
      refine lv_if_ne (tgt := 25) hx hb dX10_most_20 (by decide) (fun hc => ?_) (fun hc => ?_)
      · have h := gv_neg hc h
        refine lv_aload_n hx hb dX10_most_25 rfl (lv_at hl 0 rfl) ?_
        refine gv_get (ref := "IceByEar") (C := RX10) (T := TX10) (N := 8) (ci := 10) (v := .ref (X.1 38)) C0 (fun _ h9 => List.mem_cons_of_mem _ (List.mem_append_left _ (List.mem_append_left _ (List.mem_append_left _ (List.mem_append_right _ h9))))) hP 0 (gw_o10 X s0 gk_0.1) rfl 5 (by decide) (by decide +kernel) rfl rfl dX10_most_26 ?_
        refine lv_aload_n hx hb dX10_most_29 rfl (lv_at hl 0 rfl) ?_
        refine gv_get (ref := "IceByEar") (C := RX10) (T := TX10) (N := 8) (ci := 10) (v := .ref (X.1 1)) C0 (fun _ h9 => List.mem_cons_of_mem _ (List.mem_append_left _ (List.mem_append_left _ (List.mem_append_left _ (List.mem_append_right _ h9))))) hP 0 (gw_o10 X s0 gk_0.1) rfl 0 (by decide) (by decide +kernel) rfl rfl dX10_most_30 ?_
        refine gv_get (ref := "IceByEar$Scene") (C := RX4) (T := TX4) (N := 6) (ci := 4) (v := .ref (X.1 2)) C0 (fun _ h9 => List.mem_cons_of_mem _ (List.mem_append_left _ (List.mem_append_left _ (List.mem_append_right _ h9)))) hP 1 (gw_o4 X s0 gk_1.1) rfl 0 (by decide) (by decide +kernel) rfl rfl dX10_most_33 ?_
        obtain ⟨s1, hs1, h⟩ := gv_bind_e h
        refine gv_rv (gv_runV (n := 1) (rest := []) C0 (mX3_weigh l X s0  hs1) gX10_most_X3_weigh rfl ⟨rfl, rfl⟩ (by decide +kernel) ⟨by decide, by decide⟩ gk_38.1 (by decide) rfl hP hS rfl hl.1 rfl (Nat.le_of_ble_eq_true rfl) dX10_most_36 ⟨Nat.zero_le _, Nat.zero_le _⟩) hS (fun H locs hP hS => ?_)
        refine lv_iconst (v := 0) hx hb dX10_most_39 (by decide) ?_
        refine lv_istore (lv' := [(4, .int (0 : Int32)), (0, .ref (X.1 0)), (1, .int a1), (2, .int a2), (3, .int a3)]) hx hb dX10_most_40 hl (by decide) rfl (fun ls hl => ?_)
        refine lv_bipush (v := 100) hx hb dX10_most_42 (by decide) ?_
        refine lv_istore (lv' := [(5, .int (100 : Int32)), (4, .int (0 : Int32)), (0, .ref (X.1 0)), (1, .int a1), (2, .int a2), (3, .int a3)]) hx hb dX10_most_44 hl (by decide) rfl (fun ls hl => ?_)
        refine lv_iconst (v := 0) hx hb dX10_most_46 (by decide) ?_
        refine lv_istore (lv' := [(6, .int (0 : Int32)), (5, .int (100 : Int32)), (4, .int (0 : Int32)), (0, .ref (X.1 0)), (1, .int a1), (2, .int a2), (3, .int a3)]) hx hb dX10_most_47 hl (by decide) rfl (fun ls hl => ?_)
        obtain ⟨q14, hq14, h⟩ := gv_bind_e h
        refine gv_loop_ind (Φ := fun q => ∀ (H : Heap) (locs : List Loc) (ls : Array Slot), gw_P X q.2.2.2 H → va_S (gw_A X) s.heap H locs → lv_has ls 8 [(0, .ref (X.1 0)), (1, .int a1), (2, .int a2), (3, .int a3), (4, .int q.1), (5, .int q.2.1), (6, .int q.2.2.1)] → W p l e rX10_most s m args below meth c H locs 0 0 Q (F0 m 49 ls [])) (Ψ := fun q => ∀ (H : Heap) (locs : List Loc) (ls : Array Slot), gw_P X q.2.2.2 H → va_S (gw_A X) s.heap H locs → lv_has ls 8 [(4, .int q.1)] → W p l e rX10_most s m args below meth c H locs 0 0 Q (F0 m 111 ls [])) ?_ gv_N ((0 : Int32), (100 : Int32), (0 : Int32), s1) q14 hq14 ?_ H locs ls hP hS (lv_sub hl [3, 4, 5, 6, 2, 1, 0] rfl)
        · intro q x h Kc Ke H locs ls hP hS hl
          obtain ⟨v2, v3, v4, s5⟩ := q
          have h : pX10_most_L49 a1 a2 a3 v2 v3 v4 s5 = some x := h
          have hP : gw_P X s5 H := hP
          have hl : lv_has ls 8 [(0, .ref (X.1 0)), (1, .int a1), (2, .int a2), (3, .int a3), (4, .int v2), (5, .int v3), (6, .int v4)] := hl
          unfold pX10_most_L49 at h
          refine lv_iload hx hb dX10_most_49 (lv_at hl 6 rfl) ?_
          refine lv_bipush (v := 7) hx hb dX10_most_51 (by decide) ?_
          refine lv_icmp_ge (tgt := 111) hx hb dX10_most_53 (by decide) (fun hc => ?_) (fun hc => ?_)
          · have h := gv_pos hc h
            exact Ke _ (gv_inj h) _ _ _ hP hS (lv_sub hl [4] rfl)
          · have h := gv_neg hc h
            refine lv_iload hx hb dX10_most_56 (lv_at hl 5 rfl) ?_
            refine lv_iload hx hb dX10_most_58 (lv_at hl 4 rfl) ?_
            refine lv_isub hx hb dX10_most_60 ?_
            refine lv_iconst (v := 1) hx hb dX10_most_61 (by decide) ?_
            refine lv_icmp_le (tgt := 111) hx hb dX10_most_62 (by decide) (fun hc => ?_) (fun hc => ?_)
            · have h := gv_pos hc h
              exact Ke _ (gv_inj h) _ _ _ hP hS (lv_sub hl [4] rfl)
            · have h := gv_neg hc h
              refine lv_iload hx hb dX10_most_65 (lv_at hl 4 rfl) ?_
              refine lv_iload hx hb dX10_most_67 (lv_at hl 5 rfl) ?_
              refine lv_iadd hx hb dX10_most_69 ?_
              refine lv_iconst (v := 2) hx hb dX10_most_70 (by decide) ?_
              refine lv_idiv hx hb dX10_most_71 (by decide) ?_
              refine lv_topi (fun v6 ev6 => ?_)
              have h := gv_let_e ev6 h
              refine lv_istore (lv' := [(7, .int v6), (0, .ref (X.1 0)), (1, .int a1), (2, .int a2), (3, .int a3), (4, .int v2), (5, .int v3), (6, .int v4)]) hx hb dX10_most_72 hl (by decide) rfl (fun ls hl => ?_)
              refine lv_aload_n hx hb dX10_most_74 rfl (lv_at hl 1 rfl) ?_
              refine gv_get (ref := "IceByEar") (C := RX10) (T := TX10) (N := 8) (ci := 10) (v := .ref (X.1 38)) C0 (fun _ h9 => List.mem_cons_of_mem _ (List.mem_append_left _ (List.mem_append_left _ (List.mem_append_left _ (List.mem_append_right _ h9))))) hP 0 (gw_o10 X s5 gk_0.1) rfl 5 (by decide) (by decide +kernel) rfl rfl dX10_most_75 ?_
              refine lv_iload_n hx hb dX10_most_78 rfl (lv_at hl 2 rfl) ?_
              refine lv_iload_n hx hb dX10_most_79 rfl (lv_at hl 3 rfl) ?_
              refine lv_iload hx hb dX10_most_80 (lv_at hl 0 rfl) ?_
              refine lv_iload_n hx hb dX10_most_82 rfl (lv_at hl 4 rfl) ?_
              refine gv_ri (gv_runS (n := 2) (rest := [.int a2, .int a1, .ref (X.1 38)]) C0 (mX10_weightAlone l X s5 v6 a3) gX10_most_X10_weightAlone rfl ⟨rfl, rfl⟩ (by decide +kernel) ⟨by decide, by decide⟩ hP hS rfl hl.1 rfl (Nat.le_of_ble_eq_true rfl) dX10_most_83 ⟨Nat.zero_le _, Nat.zero_le _⟩) hS (fun H locs hP hS => ?_)
              obtain ⟨v7, s8, hv7, h⟩ := gv_bind2_e h
              refine gv_ri (gv_runV (n := 3) (rest := []) C0 (mX3_length l X s5 a1 a2 (pX10_weightAlone v6 a3) hv7) gX10_most_X3_length rfl ⟨rfl, rfl⟩ (by decide +kernel) ⟨by decide, by decide⟩ gk_38.1 (by decide) rfl hP hS rfl hl.1 rfl (Nat.le_of_ble_eq_true rfl) dX10_most_86 ⟨Nat.zero_le _, Nat.zero_le _⟩) hS (fun H locs hP hS => ?_)
              refine lv_bipush (v := -4) hx hb dX10_most_89 (by decide) ?_
              refine lv_icmp_ne (tgt := 101) hx hb dX10_most_91 (by decide) (fun hc => ?_) (fun hc => ?_)
              · have h := gv_neg hc h
                refine lv_iload hx hb dX10_most_101 (lv_at hl 0 rfl) ?_
                refine lv_istore (lv' := [(4, .int v6), (7, .int v6), (0, .ref (X.1 0)), (1, .int a1), (2, .int a2), (3, .int a3), (5, .int v3), (6, .int v4)]) hx hb dX10_most_103 hl (by decide) rfl (fun ls hl => ?_)
                obtain ⟨v9, ev9⟩ : ∃ y : Int32, y = (v4 + (1 : Int32)) := ⟨_, rfl⟩
                have h := gv_let_e ev9 h
                refine lv_iinc (v := v9) (lv' := [(6, .int v9), (4, .int v6), (7, .int v6), (0, .ref (X.1 0)), (1, .int a1), (2, .int a2), (3, .int a3), (5, .int v3)]) hx hb dX10_most_105 hl (k := 7) rfl (by rw [ev9]; rfl) (by decide) rfl (fun ls hl => ?_)
                refine lv_goto (tgt := 49) hx hb dX10_most_108 (by decide) ?_
                exact Kc _ (gv_inj h) _ _ _ hP hS (lv_sub hl [3, 4, 5, 6, 1, 7, 0] rfl)
              · have h := gv_pos hc h
                refine lv_iload hx hb dX10_most_94 (lv_at hl 0 rfl) ?_
                refine lv_istore (lv' := [(5, .int v6), (7, .int v6), (0, .ref (X.1 0)), (1, .int a1), (2, .int a2), (3, .int a3), (4, .int v2), (6, .int v4)]) hx hb dX10_most_96 hl (by decide) rfl (fun ls hl => ?_)
                refine lv_goto (tgt := 105) hx hb dX10_most_98 (by decide) ?_
                obtain ⟨v10, ev10⟩ : ∃ y : Int32, y = (v4 + (1 : Int32)) := ⟨_, rfl⟩
                have h := gv_let_e ev10 h
                refine lv_iinc (v := v10) (lv' := [(6, .int v10), (5, .int v6), (7, .int v6), (0, .ref (X.1 0)), (1, .int a1), (2, .int a2), (3, .int a3), (4, .int v2)]) hx hb dX10_most_105 hl (k := 7) rfl (by rw [ev10]; rfl) (by decide) rfl (fun ls hl => ?_)
                refine lv_goto (tgt := 49) hx hb dX10_most_108 (by decide) ?_
                exact Kc _ (gv_inj h) _ _ _ hP hS (lv_sub hl [3, 4, 5, 6, 7, 1, 0] rfl)
        · obtain ⟨v11, v12, v13, s14⟩ := q14
          have h := gv_let_e (x := v11) rfl h
          have h := gv_let_e (x := v12) rfl h
          have h := gv_let_e (x := v13) rfl h
          have h := gv_let_e (x := s14) rfl h
          intro H locs ls hP hS hl
          have hP : gw_P X s14 H := hP
          have hl : lv_has ls 8 [(4, .int v11)] := hl
          refine lv_iload hx hb dX10_most_111 (lv_at hl 0 rfl) ?_
          refine lv_if_le (tgt := 121) hx hb dX10_most_113 (by decide) (fun hc => ?_) (fun hc => ?_)
          · have h := gv_pos hc h
            refine lv_bipush (v := -4) hx hb dX10_most_121 (by decide) ?_
            exact Kr _ _ _ _ _ _ (gv_inj h) hP hS dX10_most_123
          · have h := gv_neg hc h
            refine lv_iload hx hb dX10_most_116 (lv_at hl 0 rfl) ?_
            refine lv_goto (tgt := 123) hx hb dX10_most_118 (by decide) ?_
            exact Kr _ _ _ _ _ _ (gv_inj h) hP hS dX10_most_123
      · have h := gv_pos hc h
        refine lv_iconst (v := -1) hx hb dX10_most_23 (by decide) ?_
        exact Kr _ _ _ _ _ _ (gv_inj h) hP hS dX10_most_24
theorem mX10_most (l : Launch) (X : gw_X) (s0 : gs_S) (a1 : Int32) (a2 : Int32) (a3 : Int32) {r : Int32} {τ : gs_S} (h : pX10_most a1 a2 a3 s0 = some (r, τ)) : Met l yX10_most wsX10_most rX10_most (gm_Pc X s0 [.ref (X.1 0), .int a1, .int a2, .int a3]) (gm_Qi X τ r) 0 0 (gw_A X) :=
  gm_of RX10 (by decide) rfl rfl (Nat.le_of_ble_eq_true rfl) (fun p e s m below meth c ls C0 hP hl hS => tX10_most C0 a1 a2 a3 s0 h (fun H locs ls pc r τ hr hP hS hd => by cases hr; exact gm_reti C0 hP hS hd) hP hS hl)
def pX3_fewestLaid_J41 (v4 : Int32) (a4 : Int32) (v1 : Int32) (s2 : gs_S) (v5 : Int32) : Option ((Int32 × gs_S) ⊕ (Int32 × gs_S)) := if v4 < a4 then gv_in v1 64 (gv_let (gs_u s2 40 v1.toNatClampNeg v5) (fun s7 => gv_let (v1 + (1 : Int32)) (fun v8 => some (.inl (v8, s7))))) else gv_in v1 64 (gv_let (gs_u s2 40 v1.toNatClampNeg (0 : Int32)) (fun s10 => gv_let (v1 + (1 : Int32)) (fun v11 => some (.inl (v11, s10)))))
def pX3_fewestLaid_L3 (a4 : Int32) (v1 : Int32) (s2 : gs_S) : Option ((Int32 × gs_S) ⊕ (Int32 × gs_S)) := if (64 : Int32) ≤ v1 then some (.inr (v1, s2)) else gv_bind (pX2_trait v1 (0 : Int32) s2) (fun v3 => gv_bind (pX2_bareBearing v1 v3 s2) (fun v4 => if (v4 + (180 : Int32)) < a4 then pX3_fewestLaid_J41 v4 a4 v1 s2 (-1 : Int32) else pX3_fewestLaid_J41 v4 a4 v1 s2 (1 : Int32)))
def pX3_fewestLaid (a2 : Int32) (a3 : Int32) (a4 : Int32) (s0 : gs_S) : Option (Int32 × gs_S) := gv_bind (gv_loop (fun q => pX3_fewestLaid_L3 a4 q.1 q.2) gv_N ((0 : Int32), s0)) (fun q => gv_let q.1 (fun v12 => gv_let q.2 (fun s13 => gv_bind (pX3_spread a2 s13) (fun s14 => gv_in a3 64 (if (s14.1 41 a3.toNatClampNeg) = (-1 : Int32) then some ((-4 : Int32), s14) else gv_in a3 64 (some ((s14.1 41 a3.toNatClampNeg), s14)))))))
def rX3_fewestLaid : Room := { frames := 2, cells := 0, slots := 0, locals := 50 }
set_option maxHeartbeats 4000000 in
set_option maxRecDepth 100000 in
theorem tX3_fewestLaid {p : Program} {l : Launch} {e : Env} {s : State} {m : MethodId} {args : Array Value} {below : List Frame} {meth : Method} {c : Code} {X : gw_X} {Q : State → Prop} (C0 : gm_At p s m args meth c X cX3_fewestLaid 8 RX3 wsX3_fewestLaid (some .int)) (a2 : Int32) (a3 : Int32) (a4 : Int32) (s0 : gs_S) {z : Int32 × gs_S} (h : pX3_fewestLaid a2 a3 a4 s0 = some z) (Kr : ∀ (H : Heap) (locs : List Loc) (ls : Array Slot) (pc : Nat) (r : Int32) (τ : gs_S), z = (r, τ) → gw_P X τ H → va_S (gw_A X) s.heap H locs → decode cX3_fewestLaid pc = .ok (.ireturn, 1) → W p l e rX3_fewestLaid s m args below meth c H locs 0 0 Q (F0 m pc ls [.int r])) {H : Heap} {locs : List Loc} {ls : Array Slot} (hP : gw_P X s0 H) (hS : va_S (gw_A X) s.heap H locs) (hl : lv_has ls 8 [(0, .ref (X.1 38)), (1, .ref (X.1 2)), (2, .int a2), (3, .int a3), (4, .int a4)]) : W p l e rX3_fewestLaid s m args below meth c H locs 0 0 Q (F0 m 0 ls []) := by
  obtain ⟨hx, hb, hml, hown, hts, hr, hlocks, hC⟩ := id C0
  unfold pX3_fewestLaid at h
  refine lv_iconst (v := 0) hx hb dX3_fewestLaid_0 (by decide) ?_
  refine lv_istore (lv' := [(5, .int (0 : Int32)), (0, .ref (X.1 38)), (1, .ref (X.1 2)), (2, .int a2), (3, .int a3), (4, .int a4)]) hx hb dX3_fewestLaid_1 hl (by decide) rfl (fun ls hl => ?_)
  obtain ⟨q16, hq16, h⟩ := gv_bind_e h
  refine gv_loop_ind (Φ := fun q => ∀ (H : Heap) (locs : List Loc) (ls : Array Slot), gw_P X q.2 H → va_S (gw_A X) s.heap H locs → lv_has ls 8 [(0, .ref (X.1 38)), (1, .ref (X.1 2)), (2, .int a2), (3, .int a3), (4, .int a4), (5, .int q.1)] → W p l e rX3_fewestLaid s m args below meth c H locs 0 0 Q (F0 m 3 ls [])) (Ψ := fun q => ∀ (H : Heap) (locs : List Loc) (ls : Array Slot), gw_P X q.2 H → va_S (gw_A X) s.heap H locs → lv_has ls 8 [(0, .ref (X.1 38)), (2, .int a2), (3, .int a3)] → W p l e rX3_fewestLaid s m args below meth c H locs 0 0 Q (F0 m 69 ls [])) ?_ gv_N ((0 : Int32), s0) q16 hq16 ?_ H locs ls hP hS (lv_sub hl [1, 2, 3, 4, 5, 0] rfl)
  · intro q x h Kc Ke H locs ls hP hS hl
    obtain ⟨v1, s2⟩ := q
    have h : pX3_fewestLaid_L3 a4 v1 s2 = some x := h
    have hP : gw_P X s2 H := hP
    have hl : lv_has ls 8 [(0, .ref (X.1 38)), (1, .ref (X.1 2)), (2, .int a2), (3, .int a3), (4, .int a4), (5, .int v1)] := hl
    unfold pX3_fewestLaid_L3 at h
    refine lv_iload hx hb dX3_fewestLaid_3 (lv_at hl 5 rfl) ?_
    refine lv_bipush (v := 64) hx hb dX3_fewestLaid_5 (by decide) ?_
    refine lv_icmp_ge (tgt := 69) hx hb dX3_fewestLaid_7 (by decide) (fun hc => ?_) (fun hc => ?_)
    · have h := gv_pos hc h
      exact Ke _ (gv_inj h) _ _ _ hP hS (lv_sub hl [0, 2, 3] rfl)
    · have h := gv_neg hc h
      refine lv_aload_n hx hb dX3_fewestLaid_10 rfl (lv_at hl 1 rfl) ?_
      refine lv_iload hx hb dX3_fewestLaid_11 (lv_at hl 5 rfl) ?_
      refine lv_aload_n hx hb dX3_fewestLaid_13 rfl (lv_at hl 1 rfl) ?_
      refine lv_iload hx hb dX3_fewestLaid_14 (lv_at hl 5 rfl) ?_
      refine lv_iconst (v := 0) hx hb dX3_fewestLaid_16 (by decide) ?_
      obtain ⟨v3, hv3, h⟩ := gv_bind_e h
      refine gv_ri (gv_runV (n := 2) (rest := [.int v1, .ref (X.1 2)]) C0 (mX2_trait l X s2 v1 (0 : Int32) hv3) gX3_fewestLaid_X2_trait rfl ⟨rfl, rfl⟩ (by decide +kernel) ⟨by decide, by decide⟩ gk_2.1 (by decide) rfl hP hS rfl hl.1 rfl (Nat.le_of_ble_eq_true rfl) dX3_fewestLaid_17 ⟨Nat.zero_le _, Nat.zero_le _⟩) hS (fun H locs hP hS => ?_)
      obtain ⟨v4, hv4, h⟩ := gv_bind_e h
      refine gv_ri (gv_runV (n := 2) (rest := []) C0 (mX2_bareBearing l X s2 v1 v3 hv4) gX3_fewestLaid_X2_bareBearing rfl ⟨rfl, rfl⟩ (by decide +kernel) ⟨by decide, by decide⟩ gk_2.1 (by decide) rfl hP hS rfl hl.1 rfl (Nat.le_of_ble_eq_true rfl) dX3_fewestLaid_20 ⟨Nat.zero_le _, Nat.zero_le _⟩) hS (fun H locs hP hS => ?_)
      refine lv_istore (lv' := [(6, .int v4), (0, .ref (X.1 38)), (1, .ref (X.1 2)), (2, .int a2), (3, .int a3), (4, .int a4), (5, .int v1)]) hx hb dX3_fewestLaid_23 hl (by decide) rfl (fun ls hl => ?_)
      refine lv_iload hx hb dX3_fewestLaid_25 (lv_at hl 0 rfl) ?_
      refine lv_sipush (v := 180) hx hb dX3_fewestLaid_27 (by decide) ?_
      refine lv_iadd hx hb dX3_fewestLaid_30 ?_
      refine lv_iload hx hb dX3_fewestLaid_31 (lv_at hl 5 rfl) ?_
      have J41 : ∀ (v5 : Int32) (H : Heap) (locs : List Loc) (ls : Array Slot), pX3_fewestLaid_J41 v4 a4 v1 s2 v5 = some x → gw_P X s2 H → va_S (gw_A X) s.heap H locs → lv_has ls 8 [(6, .int v4), (0, .ref (X.1 38)), (1, .ref (X.1 2)), (2, .int a2), (3, .int a3), (4, .int a4), (5, .int v1)] → W p l e rX3_fewestLaid s m args below meth c H locs 0 0 Q (F0 m 41 ls [.int v5]) := by
        intro v5 H locs ls h hP hS hl
        unfold pX3_fewestLaid_J41 at h
        refine lv_istore (lv' := [(7, .int v5), (6, .int v4), (0, .ref (X.1 38)), (1, .ref (X.1 2)), (2, .int a2), (3, .int a3), (4, .int a4), (5, .int v1)]) hx hb dX3_fewestLaid_41 hl (by decide) rfl (fun ls hl => ?_)
        refine lv_aload_n hx hb dX3_fewestLaid_43 rfl (lv_at hl 2 rfl) ?_
        refine gv_get (ref := "IceByEar$Roads") (C := RX3) (T := TX3) (N := 4) (ci := 3) (v := .ref (X.1 40)) C0 (fun _ h9 => List.mem_cons_of_mem _ (List.mem_append_left _ (List.mem_append_right _ h9))) hP 38 (gw_o3 X s2 gk_38.1) rfl 1 (by decide) (by decide +kernel) rfl rfl dX3_fewestLaid_44 ?_
        refine lv_iload hx hb dX3_fewestLaid_47 (lv_at hl 7 rfl) ?_
        refine lv_iload hx hb dX3_fewestLaid_49 (lv_at hl 1 rfl) ?_
        refine lv_iload hx hb dX3_fewestLaid_51 (lv_at hl 6 rfl) ?_
        refine lv_icmp_lt (tgt := 60) hx hb dX3_fewestLaid_53 (by decide) (fun hc => ?_) (fun hc => ?_)
        · have h := gv_pos hc h
          refine lv_iload hx hb dX3_fewestLaid_60 (lv_at hl 0 rfl) ?_
          obtain ⟨hin6, h⟩ := gv_in_e h
          refine gv_iast C0 hP hS 40 gk_40.1 gk_40.2 hin6 dX3_fewestLaid_62 (fun s7 H locs es7 hP hS => ?_)
          have h := gv_let_e es7 h
          obtain ⟨v8, ev8⟩ : ∃ y : Int32, y = (v1 + (1 : Int32)) := ⟨_, rfl⟩
          have h := gv_let_e ev8 h
          refine lv_iinc (v := v8) (lv' := [(5, .int v8), (7, .int v5), (6, .int v4), (0, .ref (X.1 38)), (1, .ref (X.1 2)), (2, .int a2), (3, .int a3), (4, .int a4)]) hx hb dX3_fewestLaid_63 hl (k := 7) rfl (by rw [ev8]; rfl) (by decide) rfl (fun ls hl => ?_)
          refine lv_goto (tgt := 3) hx hb dX3_fewestLaid_66 (by decide) ?_
          exact Kc _ (gv_inj h) _ _ _ hP hS (lv_sub hl [3, 4, 5, 6, 7, 0] rfl)
        · have h := gv_neg hc h
          refine lv_iconst (v := 0) hx hb dX3_fewestLaid_56 (by decide) ?_
          refine lv_goto (tgt := 62) hx hb dX3_fewestLaid_57 (by decide) ?_
          obtain ⟨hin9, h⟩ := gv_in_e h
          refine gv_iast C0 hP hS 40 gk_40.1 gk_40.2 hin9 dX3_fewestLaid_62 (fun s10 H locs es10 hP hS => ?_)
          have h := gv_let_e es10 h
          obtain ⟨v11, ev11⟩ : ∃ y : Int32, y = (v1 + (1 : Int32)) := ⟨_, rfl⟩
          have h := gv_let_e ev11 h
          refine lv_iinc (v := v11) (lv' := [(5, .int v11), (7, .int v5), (6, .int v4), (0, .ref (X.1 38)), (1, .ref (X.1 2)), (2, .int a2), (3, .int a3), (4, .int a4)]) hx hb dX3_fewestLaid_63 hl (k := 7) rfl (by rw [ev11]; rfl) (by decide) rfl (fun ls hl => ?_)
          refine lv_goto (tgt := 3) hx hb dX3_fewestLaid_66 (by decide) ?_
          exact Kc _ (gv_inj h) _ _ _ hP hS (lv_sub hl [3, 4, 5, 6, 7, 0] rfl)
      refine lv_icmp_lt (tgt := 40) hx hb dX3_fewestLaid_33 (by decide) (fun hc => ?_) (fun hc => ?_)
      · have h := gv_pos hc h
        refine lv_iconst (v := -1) hx hb dX3_fewestLaid_40 (by decide) ?_
        exact J41 (-1 : Int32) _ _ _ h hP hS (lv_sub hl [0, 1, 2, 3, 4, 5, 6] rfl)
      · have h := gv_neg hc h
        refine lv_iconst (v := 1) hx hb dX3_fewestLaid_36 (by decide) ?_
        refine lv_goto (tgt := 41) hx hb dX3_fewestLaid_37 (by decide) ?_
        exact J41 (1 : Int32) _ _ _ h hP hS (lv_sub hl [0, 1, 2, 3, 4, 5, 6] rfl)
  · obtain ⟨v12, s13⟩ := q16
    have h := gv_let_e (x := v12) rfl h
    have h := gv_let_e (x := s13) rfl h
    intro H locs ls hP hS hl
    have hP : gw_P X s13 H := hP
    have hl : lv_has ls 8 [(0, .ref (X.1 38)), (2, .int a2), (3, .int a3)] := hl
    refine lv_aload_n hx hb dX3_fewestLaid_69 rfl (lv_at hl 0 rfl) ?_
    refine lv_iload_n hx hb dX3_fewestLaid_70 rfl (lv_at hl 1 rfl) ?_
    obtain ⟨s14, hs14, h⟩ := gv_bind_e h
    refine gv_rv (gv_runV (n := 1) (rest := []) C0 (mX3_spread l X s13 a2 hs14) gX3_fewestLaid_X3_spread rfl ⟨rfl, rfl⟩ (by decide +kernel) ⟨by decide, by decide⟩ gk_38.1 (by decide) rfl hP hS rfl hl.1 rfl (Nat.le_of_ble_eq_true rfl) dX3_fewestLaid_71 ⟨Nat.zero_le _, Nat.zero_le _⟩) hS (fun H locs hP hS => ?_)
    refine lv_aload_n hx hb dX3_fewestLaid_74 rfl (lv_at hl 0 rfl) ?_
    refine gv_get (ref := "IceByEar$Roads") (C := RX3) (T := TX3) (N := 4) (ci := 3) (v := .ref (X.1 41)) C0 (fun _ h9 => List.mem_cons_of_mem _ (List.mem_append_left _ (List.mem_append_right _ h9))) hP 38 (gw_o3 X s14 gk_38.1) rfl 2 (by decide) (by decide +kernel) rfl rfl dX3_fewestLaid_75 ?_
    refine lv_iload_n hx hb dX3_fewestLaid_78 rfl (lv_at hl 2 rfl) ?_
    obtain ⟨hin15, h⟩ := gv_in_e h
    refine gv_iald C0 hP 41 gk_41.1 gk_41.2 hin15 dX3_fewestLaid_79 ?_
    refine lv_iconst (v := -1) hx hb dX3_fewestLaid_80 (by decide) ?_
    refine lv_icmp_ne (tgt := 89) hx hb dX3_fewestLaid_81 (by decide) (fun hc => ?_) (fun hc => ?_)
    · have h := gv_neg hc h
      refine lv_aload_n hx hb dX3_fewestLaid_89 rfl (lv_at hl 0 rfl) ?_
      refine gv_get (ref := "IceByEar$Roads") (C := RX3) (T := TX3) (N := 4) (ci := 3) (v := .ref (X.1 41)) C0 (fun _ h9 => List.mem_cons_of_mem _ (List.mem_append_left _ (List.mem_append_right _ h9))) hP 38 (gw_o3 X s14 gk_38.1) rfl 2 (by decide) (by decide +kernel) rfl rfl dX3_fewestLaid_90 ?_
      refine lv_iload_n hx hb dX3_fewestLaid_93 rfl (lv_at hl 2 rfl) ?_
      obtain ⟨hin16, h⟩ := gv_in_e h
      refine gv_iald C0 hP 41 gk_41.1 gk_41.2 hin16 dX3_fewestLaid_94 ?_
      exact Kr _ _ _ _ _ _ (gv_inj h) hP hS dX3_fewestLaid_95
    · have h := gv_pos hc h
      refine lv_bipush (v := -4) hx hb dX3_fewestLaid_84 (by decide) ?_
      refine lv_goto (tgt := 95) hx hb dX3_fewestLaid_86 (by decide) ?_
      exact Kr _ _ _ _ _ _ (gv_inj h) hP hS dX3_fewestLaid_95
theorem mX3_fewestLaid (l : Launch) (X : gw_X) (s0 : gs_S) (a2 : Int32) (a3 : Int32) (a4 : Int32) {r : Int32} {τ : gs_S} (h : pX3_fewestLaid a2 a3 a4 s0 = some (r, τ)) : Met l yX3_fewestLaid wsX3_fewestLaid rX3_fewestLaid (gm_Pc X s0 [.ref (X.1 38), .ref (X.1 2), .int a2, .int a3, .int a4]) (gm_Qi X τ r) 0 0 (gw_A X) :=
  gm_of RX3 (by decide) rfl rfl (Nat.le_of_ble_eq_true rfl) (fun p e s m below meth c ls C0 hP hl hS => tX3_fewestLaid C0 a2 a3 a4 s0 h (fun H locs ls pc r τ hr hP hS hd => by cases hr; exact gm_reti C0 hP hS hd) hP hS hl)
def pX10_planks (a1 : Int32) (a2 : Int32) (a3 : Int32) (a4 : Int32) (s0 : gs_S) : Option (Int32 × gs_S) := if (pX10_isRoadAsked a1 a2 a3 a4) = 0 then some ((-1 : Int32), s0) else gv_bind2 (pX3_fewestLaid a1 a2 (pX10_weightAlone a3 a4) s0) (fun v1 s2 => some (v1, s2))
def rX10_planks : Room := { frames := 3, cells := 0, slots := 0, locals := 77 }
set_option maxHeartbeats 4000000 in
set_option maxRecDepth 100000 in
theorem tX10_planks {p : Program} {l : Launch} {e : Env} {s : State} {m : MethodId} {args : Array Value} {below : List Frame} {meth : Method} {c : Code} {X : gw_X} {Q : State → Prop} (C0 : gm_At p s m args meth c X cX10_planks 5 RX10 wsX10_planks (some .int)) (a1 : Int32) (a2 : Int32) (a3 : Int32) (a4 : Int32) (s0 : gs_S) {z : Int32 × gs_S} (h : pX10_planks a1 a2 a3 a4 s0 = some z) (Kr : ∀ (H : Heap) (locs : List Loc) (ls : Array Slot) (pc : Nat) (r : Int32) (τ : gs_S), z = (r, τ) → gw_P X τ H → va_S (gw_A X) s.heap H locs → decode cX10_planks pc = .ok (.ireturn, 1) → W p l e rX10_planks s m args below meth c H locs 0 0 Q (F0 m pc ls [.int r])) {H : Heap} {locs : List Loc} {ls : Array Slot} (hP : gw_P X s0 H) (hS : va_S (gw_A X) s.heap H locs) (hl : lv_has ls 5 [(0, .ref (X.1 0)), (1, .int a1), (2, .int a2), (3, .int a3), (4, .int a4)]) : W p l e rX10_planks s m args below meth c H locs 0 0 Q (F0 m 0 ls []) := by
  obtain ⟨hx, hb, hml, hown, hts, hr, hlocks, hC⟩ := id C0
  unfold pX10_planks at h
  refine lv_iload_n hx hb dX10_planks_0 rfl (lv_at hl 1 rfl) ?_
  refine lv_iload_n hx hb dX10_planks_1 rfl (lv_at hl 2 rfl) ?_
  refine lv_iload_n hx hb dX10_planks_2 rfl (lv_at hl 3 rfl) ?_
  refine lv_iload hx hb dX10_planks_3 (lv_at hl 4 rfl) ?_
  refine gv_ri (gv_runS (n := 4) (rest := []) C0 (mX10_isRoadAsked l X s0 a1 a2 a3 a4) gX10_planks_X10_isRoadAsked rfl ⟨rfl, rfl⟩ (by decide +kernel) ⟨by decide, by decide⟩ hP hS rfl hl.1 rfl (Nat.le_of_ble_eq_true rfl) dX10_planks_5 ⟨Nat.zero_le _, Nat.zero_le _⟩) hS (fun H locs hP hS => ?_)
  refine lv_if_ne (tgt := 13) hx hb dX10_planks_8 (by decide) (fun hc => ?_) (fun hc => ?_)
  · have h := gv_neg hc h
    refine lv_aload_n hx hb dX10_planks_13 rfl (lv_at hl 0 rfl) ?_
    refine gv_get (ref := "IceByEar") (C := RX10) (T := TX10) (N := 8) (ci := 10) (v := .ref (X.1 38)) C0 (fun _ h9 => List.mem_cons_of_mem _ (List.mem_append_left _ (List.mem_append_left _ (List.mem_append_left _ (List.mem_append_right _ h9))))) hP 0 (gw_o10 X s0 gk_0.1) rfl 5 (by decide) (by decide +kernel) rfl rfl dX10_planks_14 ?_
    refine lv_aload_n hx hb dX10_planks_17 rfl (lv_at hl 0 rfl) ?_
    refine gv_get (ref := "IceByEar") (C := RX10) (T := TX10) (N := 8) (ci := 10) (v := .ref (X.1 1)) C0 (fun _ h9 => List.mem_cons_of_mem _ (List.mem_append_left _ (List.mem_append_left _ (List.mem_append_left _ (List.mem_append_right _ h9))))) hP 0 (gw_o10 X s0 gk_0.1) rfl 0 (by decide) (by decide +kernel) rfl rfl dX10_planks_18 ?_
    refine gv_get (ref := "IceByEar$Scene") (C := RX4) (T := TX4) (N := 6) (ci := 4) (v := .ref (X.1 2)) C0 (fun _ h9 => List.mem_cons_of_mem _ (List.mem_append_left _ (List.mem_append_left _ (List.mem_append_right _ h9)))) hP 1 (gw_o4 X s0 gk_1.1) rfl 0 (by decide) (by decide +kernel) rfl rfl dX10_planks_21 ?_
    refine lv_iload_n hx hb dX10_planks_24 rfl (lv_at hl 1 rfl) ?_
    refine lv_iload_n hx hb dX10_planks_25 rfl (lv_at hl 2 rfl) ?_
    refine lv_iload_n hx hb dX10_planks_26 rfl (lv_at hl 3 rfl) ?_
    refine lv_iload hx hb dX10_planks_27 (lv_at hl 4 rfl) ?_
    refine gv_ri (gv_runS (n := 2) (rest := [.int a2, .int a1, .ref (X.1 2), .ref (X.1 38)]) C0 (mX10_weightAlone l X s0 a3 a4) gX10_planks_X10_weightAlone rfl ⟨rfl, rfl⟩ (by decide +kernel) ⟨by decide, by decide⟩ hP hS rfl hl.1 rfl (Nat.le_of_ble_eq_true rfl) dX10_planks_29 ⟨Nat.zero_le _, Nat.zero_le _⟩) hS (fun H locs hP hS => ?_)
    obtain ⟨v1, s2, hv1, h⟩ := gv_bind2_e h
    refine gv_ri (gv_runV (n := 4) (rest := []) C0 (mX3_fewestLaid l X s0 a1 a2 (pX10_weightAlone a3 a4) hv1) gX10_planks_X3_fewestLaid rfl ⟨rfl, rfl⟩ (by decide +kernel) ⟨by decide, by decide⟩ gk_38.1 (by decide) rfl hP hS rfl hl.1 rfl (Nat.le_of_ble_eq_true rfl) dX10_planks_32 ⟨Nat.zero_le _, Nat.zero_le _⟩) hS (fun H locs hP hS => ?_)
    exact Kr _ _ _ _ _ _ (gv_inj h) hP hS dX10_planks_35
  · have h := gv_pos hc h
    refine lv_iconst (v := -1) hx hb dX10_planks_11 (by decide) ?_
    exact Kr _ _ _ _ _ _ (gv_inj h) hP hS dX10_planks_12
theorem mX10_planks (l : Launch) (X : gw_X) (s0 : gs_S) (a1 : Int32) (a2 : Int32) (a3 : Int32) (a4 : Int32) {r : Int32} {τ : gs_S} (h : pX10_planks a1 a2 a3 a4 s0 = some (r, τ)) : Met l yX10_planks wsX10_planks rX10_planks (gm_Pc X s0 [.ref (X.1 0), .int a1, .int a2, .int a3, .int a4]) (gm_Qi X τ r) 0 0 (gw_A X) :=
  gm_of RX10 (by decide) rfl rfl (Nat.le_of_ble_eq_true rfl) (fun p e s m below meth c ls C0 hP hl hS => tX10_planks C0 a1 a2 a3 a4 s0 h (fun H locs ls pc r τ hr hP hS hd => by cases hr; exact gm_reti C0 hP hS hd) hP hS hl)
def pX10_slip (a1 : Int32) (a2 : Int32) (s0 : gs_S) : Option (Int32 × gs_S) := if (pX10_isWithin (a1.toInt64) (0 : Int32) (3 : Int32)) = 0 then some ((-1 : Int32), s0) else if (pX10_isWithin (a2.toInt64) (0 : Int32) (99 : Int32)) = 0 then some ((-1 : Int32), s0) else gv_in a1 4 (gv_let (s0.1 11 a1.toNatClampNeg) (fun v2 => gv_in a1 4 (gv_let (gs_u s0 11 a1.toNatClampNeg a2) (fun s4 => some (v2, s4)))))
def rX10_slip : Room := { frames := 1, cells := 0, slots := 0, locals := 23 }
set_option maxHeartbeats 4000000 in
set_option maxRecDepth 100000 in
theorem tX10_slip {p : Program} {l : Launch} {e : Env} {s : State} {m : MethodId} {args : Array Value} {below : List Frame} {meth : Method} {c : Code} {X : gw_X} {Q : State → Prop} (C0 : gm_At p s m args meth c X cX10_slip 4 RX10 wsX10_slip (some .int)) (a1 : Int32) (a2 : Int32) (s0 : gs_S) {z : Int32 × gs_S} (h : pX10_slip a1 a2 s0 = some z) (Kr : ∀ (H : Heap) (locs : List Loc) (ls : Array Slot) (pc : Nat) (r : Int32) (τ : gs_S), z = (r, τ) → gw_P X τ H → va_S (gw_A X) s.heap H locs → decode cX10_slip pc = .ok (.ireturn, 1) → W p l e rX10_slip s m args below meth c H locs 0 0 Q (F0 m pc ls [.int r])) {H : Heap} {locs : List Loc} {ls : Array Slot} (hP : gw_P X s0 H) (hS : va_S (gw_A X) s.heap H locs) (hl : lv_has ls 4 [(0, .ref (X.1 0)), (1, .int a1), (2, .int a2)]) : W p l e rX10_slip s m args below meth c H locs 0 0 Q (F0 m 0 ls []) := by
  obtain ⟨hx, hb, hml, hown, hts, hr, hlocks, hC⟩ := id C0
  unfold pX10_slip at h
  refine lv_iload_n hx hb dX10_slip_0 rfl (lv_at hl 1 rfl) ?_
  refine lv_i2l hx hb dX10_slip_1 rfl ?_
  refine lv_iconst (v := 0) hx hb dX10_slip_2 (by decide) ?_
  refine lv_iconst (v := 3) hx hb dX10_slip_3 (by decide) ?_
  refine gv_ri (gv_runS (n := 3) (rest := []) C0 (mX10_isWithin l X s0 (a1.toInt64) (0 : Int32) (3 : Int32)) gX10_slip_X10_isWithin rfl ⟨rfl, rfl⟩ (by decide +kernel) ⟨by decide, by decide⟩ hP hS rfl hl.1 rfl (Nat.le_of_ble_eq_true rfl) dX10_slip_4 ⟨Nat.zero_le _, Nat.zero_le _⟩) hS (fun H locs hP hS => ?_)
  refine lv_if_eq (tgt := 21) hx hb dX10_slip_7 (by decide) (fun hc => ?_) (fun hc => ?_)
  · have h := gv_pos hc h
    refine lv_iconst (v := -1) hx hb dX10_slip_21 (by decide) ?_
    exact Kr _ _ _ _ _ _ (gv_inj h) hP hS dX10_slip_22
  · have h := gv_neg hc h
    refine lv_iload_n hx hb dX10_slip_10 rfl (lv_at hl 2 rfl) ?_
    refine lv_i2l hx hb dX10_slip_11 rfl ?_
    refine lv_iconst (v := 0) hx hb dX10_slip_12 (by decide) ?_
    refine lv_bipush (v := 99) hx hb dX10_slip_13 (by decide) ?_
    refine gv_ri (gv_runS (n := 3) (rest := []) C0 (mX10_isWithin l X s0 (a2.toInt64) (0 : Int32) (99 : Int32)) gX10_slip_X10_isWithin rfl ⟨rfl, rfl⟩ (by decide +kernel) ⟨by decide, by decide⟩ hP hS rfl hl.1 rfl (Nat.le_of_ble_eq_true rfl) dX10_slip_15 ⟨Nat.zero_le _, Nat.zero_le _⟩) hS (fun H locs hP hS => ?_)
    refine lv_if_ne (tgt := 23) hx hb dX10_slip_18 (by decide) (fun hc => ?_) (fun hc => ?_)
    · have h := gv_neg hc h
      refine lv_aload_n hx hb dX10_slip_23 rfl (lv_at hl 0 rfl) ?_
      refine gv_get (ref := "IceByEar") (C := RX10) (T := TX10) (N := 8) (ci := 10) (v := .ref (X.1 1)) C0 (fun _ h9 => List.mem_cons_of_mem _ (List.mem_append_left _ (List.mem_append_left _ (List.mem_append_right _ h9)))) hP 0 (gw_o10 X s0 gk_0.1) rfl 0 (by decide) (by decide +kernel) rfl rfl dX10_slip_24 ?_
      refine gv_get (ref := "IceByEar$Scene") (C := RX4) (T := TX4) (N := 6) (ci := 4) (v := .ref (X.1 10)) C0 (fun _ h9 => List.mem_cons_of_mem _ (List.mem_append_left _ (List.mem_append_right _ h9))) hP 1 (gw_o4 X s0 gk_1.1) rfl 3 (by decide) (by decide +kernel) rfl rfl dX10_slip_27 ?_
      refine gv_get (ref := "IceByEar$Ears") (C := RX1) (T := TX1) (N := 5) (ci := 1) (v := .ref (X.1 11)) C0 (fun _ h9 => List.mem_cons_of_mem _ (List.mem_append_right _ h9)) hP 10 (gw_o1 X s0 gk_10.1) rfl 0 (by decide) (by decide +kernel) rfl rfl dX10_slip_30 ?_
      refine lv_iload_n hx hb dX10_slip_33 rfl (lv_at hl 1 rfl) ?_
      obtain ⟨hin1, h⟩ := gv_in_e h
      refine gv_iald C0 hP 11 gk_11.1 gk_11.2 hin1 dX10_slip_34 ?_
      refine lv_topi (fun v2 ev2 => ?_)
      have h := gv_let_e ev2 h
      refine lv_istore_n (lv' := [(3, .int v2), (0, .ref (X.1 0)), (1, .int a1), (2, .int a2)]) hx hb dX10_slip_35 rfl hl (by decide) rfl (fun ls hl => ?_)
      refine lv_aload_n hx hb dX10_slip_36 rfl (lv_at hl 1 rfl) ?_
      refine gv_get (ref := "IceByEar") (C := RX10) (T := TX10) (N := 8) (ci := 10) (v := .ref (X.1 1)) C0 (fun _ h9 => List.mem_cons_of_mem _ (List.mem_append_left _ (List.mem_append_left _ (List.mem_append_right _ h9)))) hP 0 (gw_o10 X s0 gk_0.1) rfl 0 (by decide) (by decide +kernel) rfl rfl dX10_slip_37 ?_
      refine gv_get (ref := "IceByEar$Scene") (C := RX4) (T := TX4) (N := 6) (ci := 4) (v := .ref (X.1 10)) C0 (fun _ h9 => List.mem_cons_of_mem _ (List.mem_append_left _ (List.mem_append_right _ h9))) hP 1 (gw_o4 X s0 gk_1.1) rfl 3 (by decide) (by decide +kernel) rfl rfl dX10_slip_40 ?_
      refine gv_get (ref := "IceByEar$Ears") (C := RX1) (T := TX1) (N := 5) (ci := 1) (v := .ref (X.1 11)) C0 (fun _ h9 => List.mem_cons_of_mem _ (List.mem_append_right _ h9)) hP 10 (gw_o1 X s0 gk_10.1) rfl 0 (by decide) (by decide +kernel) rfl rfl dX10_slip_43 ?_
      refine lv_iload_n hx hb dX10_slip_46 rfl (lv_at hl 2 rfl) ?_
      refine lv_iload_n hx hb dX10_slip_47 rfl (lv_at hl 3 rfl) ?_
      obtain ⟨hin3, h⟩ := gv_in_e h
      refine gv_iast C0 hP hS 11 gk_11.1 gk_11.2 hin3 dX10_slip_48 (fun s4 H locs es4 hP hS => ?_)
      have h := gv_let_e es4 h
      refine lv_iload_n hx hb dX10_slip_49 rfl (lv_at hl 0 rfl) ?_
      exact Kr _ _ _ _ _ _ (gv_inj h) hP hS dX10_slip_50
    · have h := gv_pos hc h
      refine lv_iconst (v := -1) hx hb dX10_slip_21 (by decide) ?_
      exact Kr _ _ _ _ _ _ (gv_inj h) hP hS dX10_slip_22
theorem mX10_slip (l : Launch) (X : gw_X) (s0 : gs_S) (a1 : Int32) (a2 : Int32) {r : Int32} {τ : gs_S} (h : pX10_slip a1 a2 s0 = some (r, τ)) : Met l yX10_slip wsX10_slip rX10_slip (gm_Pc X s0 [.ref (X.1 0), .int a1, .int a2]) (gm_Qi X τ r) 0 0 (gw_A X) :=
  gm_of RX10 (by decide) rfl rfl (Nat.le_of_ble_eq_true rfl) (fun p e s m below meth c ls C0 hP hl hS => tX10_slip C0 a1 a2 s0 h (fun H locs ls pc r τ hr hP hS hd => by cases hr; exact gm_reti C0 hP hS hd) hP hS hl)
def pX1_add (a1 : Int32) (a2 : Int32) (a3 : Int32) (s0 : gs_S) : Option (gs_S) := gv_in (s0.1 10 4) 16 (gv_let (gs_u s0 12 (s0.1 10 4).toNatClampNeg a1) (fun s2 => gv_in (s2.1 10 4) 16 (gv_let (gs_u s2 13 (s2.1 10 4).toNatClampNeg a2) (fun s4 => gv_in (s4.1 10 4) 16 (gv_let (gs_u s4 14 (s4.1 10 4).toNatClampNeg a3) (fun s6 => gv_let (gs_u s6 10 4 ((s6.1 10 4) + (1 : Int32))) (fun s7 => some s7)))))))
def rX1_add : Room := { frames := 0, cells := 0, slots := 0, locals := 0 }
set_option maxHeartbeats 4000000 in
set_option maxRecDepth 100000 in
theorem tX1_add {p : Program} {l : Launch} {e : Env} {s : State} {m : MethodId} {args : Array Value} {below : List Frame} {meth : Method} {c : Code} {X : gw_X} {Q : State → Prop} (C0 : gm_At p s m args meth c X cX1_add 4 RX1 wsX1_add none) (a1 : Int32) (a2 : Int32) (a3 : Int32) (s0 : gs_S) {z : gs_S} (h : pX1_add a1 a2 a3 s0 = some z) (Kr : ∀ (H : Heap) (locs : List Loc) (ls : Array Slot) (pc : Nat) (τ : gs_S), z = τ → gw_P X τ H → va_S (gw_A X) s.heap H locs → decode cX1_add pc = .ok (.return_, 1) → W p l e rX1_add s m args below meth c H locs 0 0 Q (F0 m pc ls [])) {H : Heap} {locs : List Loc} {ls : Array Slot} (hP : gw_P X s0 H) (hS : va_S (gw_A X) s.heap H locs) (hl : lv_has ls 4 [(0, .ref (X.1 10)), (1, .int a1), (2, .int a2), (3, .int a3)]) : W p l e rX1_add s m args below meth c H locs 0 0 Q (F0 m 0 ls []) := by
  obtain ⟨hx, hb, hml, hown, hts, hr, hlocks, hC⟩ := id C0
  unfold pX1_add at h
  refine lv_aload_n hx hb dX1_add_0 rfl (lv_at hl 0 rfl) ?_
  refine gv_get (ref := "IceByEar$Ears") (C := RX1) (T := TX1) (N := 5) (ci := 1) (v := .ref (X.1 12)) C0 (fun _ h9 => List.mem_cons_of_mem _ (List.mem_append_right _ h9)) hP 10 (gw_o1 X s0 gk_10.1) rfl 1 (by decide) (by decide +kernel) rfl rfl dX1_add_1 ?_
  refine lv_aload_n hx hb dX1_add_4 rfl (lv_at hl 0 rfl) ?_
  refine gv_get (ref := "IceByEar$Ears") (C := RX1) (T := TX1) (N := 5) (ci := 1) (v := .int (s0.1 10 4)) C0 (fun _ h9 => List.mem_cons_of_mem _ (List.mem_append_right _ h9)) hP 10 (gw_o1 X s0 gk_10.1) rfl 4 (by decide) (by decide +kernel) rfl rfl dX1_add_5 ?_
  refine lv_iload_n hx hb dX1_add_8 rfl (lv_at hl 1 rfl) ?_
  obtain ⟨hin1, h⟩ := gv_in_e h
  refine gv_iast C0 hP hS 12 gk_12.1 gk_12.2 hin1 dX1_add_9 (fun s2 H locs es2 hP hS => ?_)
  have h := gv_let_e es2 h
  refine lv_aload_n hx hb dX1_add_10 rfl (lv_at hl 0 rfl) ?_
  refine gv_get (ref := "IceByEar$Ears") (C := RX1) (T := TX1) (N := 5) (ci := 1) (v := .ref (X.1 13)) C0 (fun _ h9 => List.mem_cons_of_mem _ (List.mem_append_right _ h9)) hP 10 (gw_o1 X s2 gk_10.1) rfl 2 (by decide) (by decide +kernel) rfl rfl dX1_add_11 ?_
  refine lv_aload_n hx hb dX1_add_14 rfl (lv_at hl 0 rfl) ?_
  refine gv_get (ref := "IceByEar$Ears") (C := RX1) (T := TX1) (N := 5) (ci := 1) (v := .int (s2.1 10 4)) C0 (fun _ h9 => List.mem_cons_of_mem _ (List.mem_append_right _ h9)) hP 10 (gw_o1 X s2 gk_10.1) rfl 4 (by decide) (by decide +kernel) rfl rfl dX1_add_15 ?_
  refine lv_iload_n hx hb dX1_add_18 rfl (lv_at hl 2 rfl) ?_
  obtain ⟨hin3, h⟩ := gv_in_e h
  refine gv_iast C0 hP hS 13 gk_13.1 gk_13.2 hin3 dX1_add_19 (fun s4 H locs es4 hP hS => ?_)
  have h := gv_let_e es4 h
  refine lv_aload_n hx hb dX1_add_20 rfl (lv_at hl 0 rfl) ?_
  refine gv_get (ref := "IceByEar$Ears") (C := RX1) (T := TX1) (N := 5) (ci := 1) (v := .ref (X.1 14)) C0 (fun _ h9 => List.mem_cons_of_mem _ (List.mem_append_right _ h9)) hP 10 (gw_o1 X s4 gk_10.1) rfl 3 (by decide) (by decide +kernel) rfl rfl dX1_add_21 ?_
  refine lv_aload_n hx hb dX1_add_24 rfl (lv_at hl 0 rfl) ?_
  refine gv_get (ref := "IceByEar$Ears") (C := RX1) (T := TX1) (N := 5) (ci := 1) (v := .int (s4.1 10 4)) C0 (fun _ h9 => List.mem_cons_of_mem _ (List.mem_append_right _ h9)) hP 10 (gw_o1 X s4 gk_10.1) rfl 4 (by decide) (by decide +kernel) rfl rfl dX1_add_25 ?_
  refine lv_iload_n hx hb dX1_add_28 rfl (lv_at hl 3 rfl) ?_
  obtain ⟨hin5, h⟩ := gv_in_e h
  refine gv_iast C0 hP hS 14 gk_14.1 gk_14.2 hin5 dX1_add_29 (fun s6 H locs es6 hP hS => ?_)
  have h := gv_let_e es6 h
  refine lv_aload_n hx hb dX1_add_30 rfl (lv_at hl 0 rfl) ?_
  refine lv_dup hx hb dX1_add_31 rfl ?_
  refine gv_get (ref := "IceByEar$Ears") (C := RX1) (T := TX1) (N := 5) (ci := 1) (v := .int (s6.1 10 4)) C0 (fun _ h9 => List.mem_cons_of_mem _ (List.mem_append_right _ h9)) hP 10 (gw_o1 X s6 gk_10.1) rfl 4 (by decide) (by decide +kernel) rfl rfl dX1_add_32 ?_
  refine lv_iconst (v := 1) hx hb dX1_add_35 (by decide) ?_
  refine lv_iadd hx hb dX1_add_36 ?_
  refine gv_put (ref := "IceByEar$Ears") (C := RX1) (T := TX1) (N := 5) (ci := 1) (v := .int ((s6.1 10 4) + (1 : Int32))) C0 (fun _ h9 => List.mem_cons_of_mem _ (List.mem_append_right _ h9)) tyX1 tyX1_ok nmX1 hP hS 10 (gw_o1 X s6 gk_10.1) rfl 4 (by decide) (by decide +kernel) rfl rfl (tyX1_ok 4 (by decide)) rfl rfl (Nat.le_of_ble_eq_true rfl) (gw_s1_4 gk_10.1 ((s6.1 10 4) + (1 : Int32))) dX1_add_37 (fun s7 H locs es7 hP hS => ?_)
  have h := gv_let_e es7 h
  exact Kr _ _ _ _ _ (gv_inj h) hP hS dX1_add_40
theorem mX1_add (l : Launch) (X : gw_X) (s0 : gs_S) (a1 : Int32) (a2 : Int32) (a3 : Int32) {τ : gs_S} (h : pX1_add a1 a2 a3 s0 = some τ) : Met l yX1_add wsX1_add rX1_add (gm_Pc X s0 [.ref (X.1 10), .int a1, .int a2, .int a3]) (gm_Qv X τ) 0 0 (gw_A X) :=
  gm_of RX1 (by decide) rfl rfl (Nat.le_of_ble_eq_true rfl) (fun p e s m below meth c ls C0 hP hl hS => tX1_add C0 a1 a2 a3 s0 h (fun H locs ls pc τ hr hP hS hd => by subst hr; exact gm_retv C0 hP hS hd) hP hS hl)
def pX10_hear (a1 : Int32) (a2 : Int32) (a3 : Int32) (s0 : gs_S) : Option (Int32 × gs_S) := if (pX10_isWithin (a1.toInt64) (0 : Int32) (3 : Int32)) = 0 then some ((-1 : Int32), s0) else if (pX10_isSquare (a2.toInt64)) = 0 then some ((-1 : Int32), s0) else if (pX10_isWithin (a3.toInt64) (90 : Int32) (9999 : Int32)) = 0 then some ((-1 : Int32), s0) else if (s0.1 10 4) < (16 : Int32) then gv_bind (pX1_add a1 a2 a3 s0) (fun s1 => some ((s1.1 10 4), s1)) else some ((-3 : Int32), s0)
def rX10_hear : Room := { frames := 2, cells := 0, slots := 0, locals := 44 }
set_option maxHeartbeats 4000000 in
set_option maxRecDepth 100000 in
theorem tX10_hear {p : Program} {l : Launch} {e : Env} {s : State} {m : MethodId} {args : Array Value} {below : List Frame} {meth : Method} {c : Code} {X : gw_X} {Q : State → Prop} (C0 : gm_At p s m args meth c X cX10_hear 4 RX10 wsX10_hear (some .int)) (a1 : Int32) (a2 : Int32) (a3 : Int32) (s0 : gs_S) {z : Int32 × gs_S} (h : pX10_hear a1 a2 a3 s0 = some z) (Kr : ∀ (H : Heap) (locs : List Loc) (ls : Array Slot) (pc : Nat) (r : Int32) (τ : gs_S), z = (r, τ) → gw_P X τ H → va_S (gw_A X) s.heap H locs → decode cX10_hear pc = .ok (.ireturn, 1) → W p l e rX10_hear s m args below meth c H locs 0 0 Q (F0 m pc ls [.int r])) {H : Heap} {locs : List Loc} {ls : Array Slot} (hP : gw_P X s0 H) (hS : va_S (gw_A X) s.heap H locs) (hl : lv_has ls 4 [(0, .ref (X.1 0)), (1, .int a1), (2, .int a2), (3, .int a3)]) : W p l e rX10_hear s m args below meth c H locs 0 0 Q (F0 m 0 ls []) := by
  obtain ⟨hx, hb, hml, hown, hts, hr, hlocks, hC⟩ := id C0
  unfold pX10_hear at h
  refine lv_iload_n hx hb dX10_hear_0 rfl (lv_at hl 1 rfl) ?_
  refine lv_i2l hx hb dX10_hear_1 rfl ?_
  refine lv_iconst (v := 0) hx hb dX10_hear_2 (by decide) ?_
  refine lv_iconst (v := 3) hx hb dX10_hear_3 (by decide) ?_
  refine gv_ri (gv_runS (n := 3) (rest := []) C0 (mX10_isWithin l X s0 (a1.toInt64) (0 : Int32) (3 : Int32)) gX10_hear_X10_isWithin rfl ⟨rfl, rfl⟩ (by decide +kernel) ⟨by decide, by decide⟩ hP hS rfl hl.1 rfl (Nat.le_of_ble_eq_true rfl) dX10_hear_4 ⟨Nat.zero_le _, Nat.zero_le _⟩) hS (fun H locs hP hS => ?_)
  refine lv_if_eq (tgt := 31) hx hb dX10_hear_7 (by decide) (fun hc => ?_) (fun hc => ?_)
  · have h := gv_pos hc h
    refine lv_iconst (v := -1) hx hb dX10_hear_31 (by decide) ?_
    exact Kr _ _ _ _ _ _ (gv_inj h) hP hS dX10_hear_32
  · have h := gv_neg hc h
    refine lv_iload_n hx hb dX10_hear_10 rfl (lv_at hl 2 rfl) ?_
    refine lv_i2l hx hb dX10_hear_11 rfl ?_
    refine gv_ri (gv_runS (n := 1) (rest := []) C0 (mX10_isSquare l X s0 (a2.toInt64)) gX10_hear_X10_isSquare rfl ⟨rfl, rfl⟩ (by decide +kernel) ⟨by decide, by decide⟩ hP hS rfl hl.1 rfl (Nat.le_of_ble_eq_true rfl) dX10_hear_12 ⟨Nat.zero_le _, Nat.zero_le _⟩) hS (fun H locs hP hS => ?_)
    refine lv_if_eq (tgt := 31) hx hb dX10_hear_15 (by decide) (fun hc => ?_) (fun hc => ?_)
    · have h := gv_pos hc h
      refine lv_iconst (v := -1) hx hb dX10_hear_31 (by decide) ?_
      exact Kr _ _ _ _ _ _ (gv_inj h) hP hS dX10_hear_32
    · have h := gv_neg hc h
      refine lv_iload_n hx hb dX10_hear_18 rfl (lv_at hl 3 rfl) ?_
      refine lv_i2l hx hb dX10_hear_19 rfl ?_
      refine lv_bipush (v := 90) hx hb dX10_hear_20 (by decide) ?_
      refine lv_sipush (v := 9999) hx hb dX10_hear_22 (by decide) ?_
      refine gv_ri (gv_runS (n := 3) (rest := []) C0 (mX10_isWithin l X s0 (a3.toInt64) (90 : Int32) (9999 : Int32)) gX10_hear_X10_isWithin rfl ⟨rfl, rfl⟩ (by decide +kernel) ⟨by decide, by decide⟩ hP hS rfl hl.1 rfl (Nat.le_of_ble_eq_true rfl) dX10_hear_25 ⟨Nat.zero_le _, Nat.zero_le _⟩) hS (fun H locs hP hS => ?_)
      refine lv_if_ne (tgt := 33) hx hb dX10_hear_28 (by decide) (fun hc => ?_) (fun hc => ?_)
      · have h := gv_neg hc h
        refine lv_aload_n hx hb dX10_hear_33 rfl (lv_at hl 0 rfl) ?_
        refine gv_get (ref := "IceByEar") (C := RX10) (T := TX10) (N := 8) (ci := 10) (v := .ref (X.1 1)) C0 (fun _ h9 => List.mem_cons_of_mem _ (List.mem_append_left _ (List.mem_append_left _ (List.mem_append_right _ h9)))) hP 0 (gw_o10 X s0 gk_0.1) rfl 0 (by decide) (by decide +kernel) rfl rfl dX10_hear_34 ?_
        refine gv_get (ref := "IceByEar$Scene") (C := RX4) (T := TX4) (N := 6) (ci := 4) (v := .ref (X.1 10)) C0 (fun _ h9 => List.mem_cons_of_mem _ (List.mem_append_left _ (List.mem_append_right _ h9))) hP 1 (gw_o4 X s0 gk_1.1) rfl 3 (by decide) (by decide +kernel) rfl rfl dX10_hear_37 ?_
        refine gv_get (ref := "IceByEar$Ears") (C := RX1) (T := TX1) (N := 5) (ci := 1) (v := .int (s0.1 10 4)) C0 (fun _ h9 => List.mem_cons_of_mem _ (List.mem_append_right _ h9)) hP 10 (gw_o1 X s0 gk_10.1) rfl 4 (by decide) (by decide +kernel) rfl rfl dX10_hear_40 ?_
        refine lv_bipush (v := 16) hx hb dX10_hear_43 (by decide) ?_
        refine lv_icmp_lt (tgt := 51) hx hb dX10_hear_45 (by decide) (fun hc => ?_) (fun hc => ?_)
        · have h := gv_pos hc h
          refine lv_aload_n hx hb dX10_hear_51 rfl (lv_at hl 0 rfl) ?_
          refine gv_get (ref := "IceByEar") (C := RX10) (T := TX10) (N := 8) (ci := 10) (v := .ref (X.1 1)) C0 (fun _ h9 => List.mem_cons_of_mem _ (List.mem_append_left _ (List.mem_append_left _ (List.mem_append_right _ h9)))) hP 0 (gw_o10 X s0 gk_0.1) rfl 0 (by decide) (by decide +kernel) rfl rfl dX10_hear_52 ?_
          refine gv_get (ref := "IceByEar$Scene") (C := RX4) (T := TX4) (N := 6) (ci := 4) (v := .ref (X.1 10)) C0 (fun _ h9 => List.mem_cons_of_mem _ (List.mem_append_left _ (List.mem_append_right _ h9))) hP 1 (gw_o4 X s0 gk_1.1) rfl 3 (by decide) (by decide +kernel) rfl rfl dX10_hear_55 ?_
          refine lv_iload_n hx hb dX10_hear_58 rfl (lv_at hl 1 rfl) ?_
          refine lv_iload_n hx hb dX10_hear_59 rfl (lv_at hl 2 rfl) ?_
          refine lv_iload_n hx hb dX10_hear_60 rfl (lv_at hl 3 rfl) ?_
          obtain ⟨s1, hs1, h⟩ := gv_bind_e h
          refine gv_rv (gv_runV (n := 3) (rest := []) C0 (mX1_add l X s0 a1 a2 a3 hs1) gX10_hear_X1_add rfl ⟨rfl, rfl⟩ (by decide +kernel) ⟨by decide, by decide⟩ gk_10.1 (by decide) rfl hP hS rfl hl.1 rfl (Nat.le_of_ble_eq_true rfl) dX10_hear_61 ⟨Nat.zero_le _, Nat.zero_le _⟩) hS (fun H locs hP hS => ?_)
          refine lv_aload_n hx hb dX10_hear_64 rfl (lv_at hl 0 rfl) ?_
          refine gv_get (ref := "IceByEar") (C := RX10) (T := TX10) (N := 8) (ci := 10) (v := .ref (X.1 1)) C0 (fun _ h9 => List.mem_cons_of_mem _ (List.mem_append_left _ (List.mem_append_left _ (List.mem_append_right _ h9)))) hP 0 (gw_o10 X s1 gk_0.1) rfl 0 (by decide) (by decide +kernel) rfl rfl dX10_hear_65 ?_
          refine gv_get (ref := "IceByEar$Scene") (C := RX4) (T := TX4) (N := 6) (ci := 4) (v := .ref (X.1 10)) C0 (fun _ h9 => List.mem_cons_of_mem _ (List.mem_append_left _ (List.mem_append_right _ h9))) hP 1 (gw_o4 X s1 gk_1.1) rfl 3 (by decide) (by decide +kernel) rfl rfl dX10_hear_68 ?_
          refine gv_get (ref := "IceByEar$Ears") (C := RX1) (T := TX1) (N := 5) (ci := 1) (v := .int (s1.1 10 4)) C0 (fun _ h9 => List.mem_cons_of_mem _ (List.mem_append_right _ h9)) hP 10 (gw_o1 X s1 gk_10.1) rfl 4 (by decide) (by decide +kernel) rfl rfl dX10_hear_71 ?_
          exact Kr _ _ _ _ _ _ (gv_inj h) hP hS dX10_hear_74
        · have h := gv_neg hc h
          refine lv_bipush (v := -3) hx hb dX10_hear_48 (by decide) ?_
          exact Kr _ _ _ _ _ _ (gv_inj h) hP hS dX10_hear_50
      · have h := gv_pos hc h
        refine lv_iconst (v := -1) hx hb dX10_hear_31 (by decide) ?_
        exact Kr _ _ _ _ _ _ (gv_inj h) hP hS dX10_hear_32
theorem mX10_hear (l : Launch) (X : gw_X) (s0 : gs_S) (a1 : Int32) (a2 : Int32) (a3 : Int32) {r : Int32} {τ : gs_S} (h : pX10_hear a1 a2 a3 s0 = some (r, τ)) : Met l yX10_hear wsX10_hear rX10_hear (gm_Pc X s0 [.ref (X.1 0), .int a1, .int a2, .int a3]) (gm_Qi X τ r) 0 0 (gw_A X) :=
  gm_of RX10 (by decide) rfl rfl (Nat.le_of_ble_eq_true rfl) (fun p e s m below meth c ls C0 hP hl hS => tX10_hear C0 a1 a2 a3 s0 h (fun H locs ls pc r τ hr hP hS hd => by cases hr; exact gm_reti C0 hP hS hd) hP hS hl)
def pX10_deaf  (s0 : gs_S) : Option (Int32 × gs_S) := gv_let (s0.1 10 4) (fun v1 => gv_let (gs_u s0 10 4 (0 : Int32)) (fun s2 => some (v1, s2)))
def rX10_deaf : Room := { frames := 0, cells := 0, slots := 0, locals := 0 }
set_option maxHeartbeats 4000000 in
set_option maxRecDepth 100000 in
theorem tX10_deaf {p : Program} {l : Launch} {e : Env} {s : State} {m : MethodId} {args : Array Value} {below : List Frame} {meth : Method} {c : Code} {X : gw_X} {Q : State → Prop} (C0 : gm_At p s m args meth c X cX10_deaf 2 RX10 wsX10_deaf (some .int))  (s0 : gs_S) {z : Int32 × gs_S} (h : pX10_deaf s0 = some z) (Kr : ∀ (H : Heap) (locs : List Loc) (ls : Array Slot) (pc : Nat) (r : Int32) (τ : gs_S), z = (r, τ) → gw_P X τ H → va_S (gw_A X) s.heap H locs → decode cX10_deaf pc = .ok (.ireturn, 1) → W p l e rX10_deaf s m args below meth c H locs 0 0 Q (F0 m pc ls [.int r])) {H : Heap} {locs : List Loc} {ls : Array Slot} (hP : gw_P X s0 H) (hS : va_S (gw_A X) s.heap H locs) (hl : lv_has ls 2 [(0, .ref (X.1 0))]) : W p l e rX10_deaf s m args below meth c H locs 0 0 Q (F0 m 0 ls []) := by
  obtain ⟨hx, hb, hml, hown, hts, hr, hlocks, hC⟩ := id C0
  unfold pX10_deaf at h
  refine lv_aload_n hx hb dX10_deaf_0 rfl (lv_at hl 0 rfl) ?_
  refine gv_get (ref := "IceByEar") (C := RX10) (T := TX10) (N := 8) (ci := 10) (v := .ref (X.1 1)) C0 (fun _ h9 => List.mem_cons_of_mem _ (List.mem_append_left _ (List.mem_append_left _ (List.mem_append_right _ h9)))) hP 0 (gw_o10 X s0 gk_0.1) rfl 0 (by decide) (by decide +kernel) rfl rfl dX10_deaf_1 ?_
  refine gv_get (ref := "IceByEar$Scene") (C := RX4) (T := TX4) (N := 6) (ci := 4) (v := .ref (X.1 10)) C0 (fun _ h9 => List.mem_cons_of_mem _ (List.mem_append_left _ (List.mem_append_right _ h9))) hP 1 (gw_o4 X s0 gk_1.1) rfl 3 (by decide) (by decide +kernel) rfl rfl dX10_deaf_4 ?_
  refine gv_get (ref := "IceByEar$Ears") (C := RX1) (T := TX1) (N := 5) (ci := 1) (v := .int (s0.1 10 4)) C0 (fun _ h9 => List.mem_cons_of_mem _ (List.mem_append_right _ h9)) hP 10 (gw_o1 X s0 gk_10.1) rfl 4 (by decide) (by decide +kernel) rfl rfl dX10_deaf_7 ?_
  refine lv_topi (fun v1 ev1 => ?_)
  have h := gv_let_e ev1 h
  refine lv_istore_n (lv' := [(1, .int v1), (0, .ref (X.1 0))]) hx hb dX10_deaf_10 rfl hl (by decide) rfl (fun ls hl => ?_)
  refine lv_aload_n hx hb dX10_deaf_11 rfl (lv_at hl 1 rfl) ?_
  refine gv_get (ref := "IceByEar") (C := RX10) (T := TX10) (N := 8) (ci := 10) (v := .ref (X.1 1)) C0 (fun _ h9 => List.mem_cons_of_mem _ (List.mem_append_left _ (List.mem_append_left _ (List.mem_append_right _ h9)))) hP 0 (gw_o10 X s0 gk_0.1) rfl 0 (by decide) (by decide +kernel) rfl rfl dX10_deaf_12 ?_
  refine gv_get (ref := "IceByEar$Scene") (C := RX4) (T := TX4) (N := 6) (ci := 4) (v := .ref (X.1 10)) C0 (fun _ h9 => List.mem_cons_of_mem _ (List.mem_append_left _ (List.mem_append_right _ h9))) hP 1 (gw_o4 X s0 gk_1.1) rfl 3 (by decide) (by decide +kernel) rfl rfl dX10_deaf_15 ?_
  refine lv_iconst (v := 0) hx hb dX10_deaf_18 (by decide) ?_
  refine gv_put (ref := "IceByEar$Ears") (C := RX1) (T := TX1) (N := 5) (ci := 1) (v := .int (0 : Int32)) C0 (fun _ h9 => List.mem_cons_of_mem _ (List.mem_append_right _ h9)) tyX1 tyX1_ok nmX1 hP hS 10 (gw_o1 X s0 gk_10.1) rfl 4 (by decide) (by decide +kernel) rfl rfl (tyX1_ok 4 (by decide)) rfl rfl (Nat.le_of_ble_eq_true rfl) (gw_s1_4 gk_10.1 (0 : Int32)) dX10_deaf_19 (fun s2 H locs es2 hP hS => ?_)
  have h := gv_let_e es2 h
  refine lv_iload_n hx hb dX10_deaf_22 rfl (lv_at hl 0 rfl) ?_
  exact Kr _ _ _ _ _ _ (gv_inj h) hP hS dX10_deaf_23
theorem mX10_deaf (l : Launch) (X : gw_X) (s0 : gs_S)  {r : Int32} {τ : gs_S} (h : pX10_deaf s0 = some (r, τ)) : Met l yX10_deaf wsX10_deaf rX10_deaf (gm_Pc X s0 [.ref (X.1 0)]) (gm_Qi X τ r) 0 0 (gw_A X) :=
  gm_of RX10 (by decide) rfl rfl (Nat.le_of_ble_eq_true rfl) (fun p e s m below meth c ls C0 hP hl hS => tX10_deaf C0  s0 h (fun H locs ls pc r τ hr hP hS hd => by cases hr; exact gm_reti C0 hP hS hd) hP hS hl)
def pX6_fit_J105 (v2 : Int32) (s0 : gs_S) (v11 : Int32) (v12 : Int32) : Option (gs_S) := gv_in v2 64 (gv_let (gv_max (s0.1 44 v2.toNatClampNeg) v11) (fun v14 => gv_in v2 64 (gv_let (gs_u s0 44 v2.toNatClampNeg v14) (fun s16 => gv_in v2 64 (gv_let (gv_min (s16.1 45 v2.toNatClampNeg) v12) (fun v18 => gv_in v2 64 (gv_let (gs_u s16 45 v2.toNatClampNeg v18) (fun s20 => some s20))))))))
def pX6_fit_J87 (v10 : Int32) (v2 : Int32) (s0 : gs_S) (v11 : Int32) : Option (gs_S) := if v10 ≤ 0 then pX6_fit_J105 v2 s0 v11 (99 : Int32) else gv_nz v10 (pX6_fit_J105 v2 s0 v11 ((9000 : Int32) / v10))
def pX6_fit (a2 : Int32) (s0 : gs_S) : Option (gs_S) := gv_in a2 16 (gv_let (s0.1 13 a2.toNatClampNeg) (fun v2 => gv_in a2 16 (gv_in (s0.1 12 a2.toNatClampNeg) 4 (gv_let (s0.1 11 (s0.1 12 a2.toNatClampNeg).toNatClampNeg) (fun v5 => gv_in a2 16 (gv_bind (pX2_trait v2 (1 : Int32) s0) (fun v7 => gv_let ((s0.1 14 a2.toNatClampNeg) - ((7 : Int32) * v7)) (fun v8 => gv_let (v8 + v5) (fun v9 => gv_let (v8 - v5) (fun v10 => if v9 < 0 then pX6_fit_J87 v10 v2 s0 (100 : Int32) else gv_nz (v9 + (1 : Int32)) (pX6_fit_J87 v10 v2 s0 (((9000 : Int32) / (v9 + (1 : Int32))) + (1 : Int32)))))))))))))
def rX6_fit : Room := { frames := 1, cells := 0, slots := 0, locals := 40 }
set_option maxHeartbeats 4000000 in
set_option maxRecDepth 100000 in
theorem tX6_fit {p : Program} {l : Launch} {e : Env} {s : State} {m : MethodId} {args : Array Value} {below : List Frame} {meth : Method} {c : Code} {X : gw_X} {Q : State → Prop} (C0 : gm_At p s m args meth c X cX6_fit 10 RX6 wsX6_fit none) (a2 : Int32) (s0 : gs_S) {z : gs_S} (h : pX6_fit a2 s0 = some z) (Kr : ∀ (H : Heap) (locs : List Loc) (ls : Array Slot) (pc : Nat) (τ : gs_S), z = τ → gw_P X τ H → va_S (gw_A X) s.heap H locs → decode cX6_fit pc = .ok (.return_, 1) → W p l e rX6_fit s m args below meth c H locs 0 0 Q (F0 m pc ls [])) {H : Heap} {locs : List Loc} {ls : Array Slot} (hP : gw_P X s0 H) (hS : va_S (gw_A X) s.heap H locs) (hl : lv_has ls 10 [(0, .ref (X.1 43)), (1, .ref (X.1 1)), (2, .int a2)]) : W p l e rX6_fit s m args below meth c H locs 0 0 Q (F0 m 0 ls []) := by
  obtain ⟨hx, hb, hml, hown, hts, hr, hlocks, hC⟩ := id C0
  unfold pX6_fit at h
  refine lv_aload_n hx hb dX6_fit_0 rfl (lv_at hl 1 rfl) ?_
  refine gv_get (ref := "IceByEar$Scene") (C := RX4) (T := TX4) (N := 6) (ci := 4) (v := .ref (X.1 10)) C0 (fun _ h9 => List.mem_cons_of_mem _ (List.mem_append_left _ (List.mem_append_left _ (List.mem_append_left _ (List.mem_append_right _ h9))))) hP 1 (gw_o4 X s0 gk_1.1) rfl 3 (by decide) (by decide +kernel) rfl rfl dX6_fit_1 ?_
  refine gv_get (ref := "IceByEar$Ears") (C := RX1) (T := TX1) (N := 5) (ci := 1) (v := .ref (X.1 13)) C0 (fun _ h9 => List.mem_cons_of_mem _ (List.mem_append_left _ (List.mem_append_left _ (List.mem_append_right _ h9)))) hP 10 (gw_o1 X s0 gk_10.1) rfl 2 (by decide) (by decide +kernel) rfl rfl dX6_fit_4 ?_
  refine lv_iload_n hx hb dX6_fit_7 rfl (lv_at hl 2 rfl) ?_
  obtain ⟨hin1, h⟩ := gv_in_e h
  refine gv_iald C0 hP 13 gk_13.1 gk_13.2 hin1 dX6_fit_8 ?_
  refine lv_topi (fun v2 ev2 => ?_)
  have h := gv_let_e ev2 h
  refine lv_istore_n (lv' := [(3, .int v2), (0, .ref (X.1 43)), (1, .ref (X.1 1)), (2, .int a2)]) hx hb dX6_fit_9 rfl hl (by decide) rfl (fun ls hl => ?_)
  refine lv_aload_n hx hb dX6_fit_10 rfl (lv_at hl 2 rfl) ?_
  refine gv_get (ref := "IceByEar$Scene") (C := RX4) (T := TX4) (N := 6) (ci := 4) (v := .ref (X.1 10)) C0 (fun _ h9 => List.mem_cons_of_mem _ (List.mem_append_left _ (List.mem_append_left _ (List.mem_append_left _ (List.mem_append_right _ h9))))) hP 1 (gw_o4 X s0 gk_1.1) rfl 3 (by decide) (by decide +kernel) rfl rfl dX6_fit_11 ?_
  refine gv_get (ref := "IceByEar$Ears") (C := RX1) (T := TX1) (N := 5) (ci := 1) (v := .ref (X.1 11)) C0 (fun _ h9 => List.mem_cons_of_mem _ (List.mem_append_left _ (List.mem_append_left _ (List.mem_append_right _ h9)))) hP 10 (gw_o1 X s0 gk_10.1) rfl 0 (by decide) (by decide +kernel) rfl rfl dX6_fit_14 ?_
  refine lv_aload_n hx hb dX6_fit_17 rfl (lv_at hl 2 rfl) ?_
  refine gv_get (ref := "IceByEar$Scene") (C := RX4) (T := TX4) (N := 6) (ci := 4) (v := .ref (X.1 10)) C0 (fun _ h9 => List.mem_cons_of_mem _ (List.mem_append_left _ (List.mem_append_left _ (List.mem_append_left _ (List.mem_append_right _ h9))))) hP 1 (gw_o4 X s0 gk_1.1) rfl 3 (by decide) (by decide +kernel) rfl rfl dX6_fit_18 ?_
  refine gv_get (ref := "IceByEar$Ears") (C := RX1) (T := TX1) (N := 5) (ci := 1) (v := .ref (X.1 12)) C0 (fun _ h9 => List.mem_cons_of_mem _ (List.mem_append_left _ (List.mem_append_left _ (List.mem_append_right _ h9)))) hP 10 (gw_o1 X s0 gk_10.1) rfl 1 (by decide) (by decide +kernel) rfl rfl dX6_fit_21 ?_
  refine lv_iload_n hx hb dX6_fit_24 rfl (lv_at hl 3 rfl) ?_
  obtain ⟨hin3, h⟩ := gv_in_e h
  refine gv_iald C0 hP 12 gk_12.1 gk_12.2 hin3 dX6_fit_25 ?_
  obtain ⟨hin4, h⟩ := gv_in_e h
  refine gv_iald C0 hP 11 gk_11.1 gk_11.2 hin4 dX6_fit_26 ?_
  refine lv_topi (fun v5 ev5 => ?_)
  have h := gv_let_e ev5 h
  refine lv_istore (lv' := [(4, .int v5), (3, .int v2), (0, .ref (X.1 43)), (1, .ref (X.1 1)), (2, .int a2)]) hx hb dX6_fit_27 hl (by decide) rfl (fun ls hl => ?_)
  refine lv_aload_n hx hb dX6_fit_29 rfl (lv_at hl 3 rfl) ?_
  refine gv_get (ref := "IceByEar$Scene") (C := RX4) (T := TX4) (N := 6) (ci := 4) (v := .ref (X.1 10)) C0 (fun _ h9 => List.mem_cons_of_mem _ (List.mem_append_left _ (List.mem_append_left _ (List.mem_append_left _ (List.mem_append_right _ h9))))) hP 1 (gw_o4 X s0 gk_1.1) rfl 3 (by decide) (by decide +kernel) rfl rfl dX6_fit_30 ?_
  refine gv_get (ref := "IceByEar$Ears") (C := RX1) (T := TX1) (N := 5) (ci := 1) (v := .ref (X.1 14)) C0 (fun _ h9 => List.mem_cons_of_mem _ (List.mem_append_left _ (List.mem_append_left _ (List.mem_append_right _ h9)))) hP 10 (gw_o1 X s0 gk_10.1) rfl 3 (by decide) (by decide +kernel) rfl rfl dX6_fit_33 ?_
  refine lv_iload_n hx hb dX6_fit_36 rfl (lv_at hl 4 rfl) ?_
  obtain ⟨hin6, h⟩ := gv_in_e h
  refine gv_iald C0 hP 14 gk_14.1 gk_14.2 hin6 dX6_fit_37 ?_
  refine lv_bipush (v := 7) hx hb dX6_fit_38 (by decide) ?_
  refine lv_aload_n hx hb dX6_fit_40 rfl (lv_at hl 3 rfl) ?_
  refine gv_get (ref := "IceByEar$Scene") (C := RX4) (T := TX4) (N := 6) (ci := 4) (v := .ref (X.1 2)) C0 (fun _ h9 => List.mem_cons_of_mem _ (List.mem_append_left _ (List.mem_append_left _ (List.mem_append_left _ (List.mem_append_right _ h9))))) hP 1 (gw_o4 X s0 gk_1.1) rfl 0 (by decide) (by decide +kernel) rfl rfl dX6_fit_41 ?_
  refine lv_iload_n hx hb dX6_fit_44 rfl (lv_at hl 1 rfl) ?_
  refine lv_iconst (v := 1) hx hb dX6_fit_45 (by decide) ?_
  obtain ⟨v7, hv7, h⟩ := gv_bind_e h
  refine gv_ri (gv_runV (n := 2) (rest := [.int (7 : Int32), .int (s0.1 14 a2.toNatClampNeg)]) C0 (mX2_trait l X s0 v2 (1 : Int32) hv7) gX6_fit_X2_trait rfl ⟨rfl, rfl⟩ (by decide +kernel) ⟨by decide, by decide⟩ gk_2.1 (by decide) rfl hP hS rfl hl.1 rfl (Nat.le_of_ble_eq_true rfl) dX6_fit_46 ⟨Nat.zero_le _, Nat.zero_le _⟩) hS (fun H locs hP hS => ?_)
  refine lv_imul hx hb dX6_fit_49 ?_
  refine lv_isub hx hb dX6_fit_50 ?_
  refine lv_topi (fun v8 ev8 => ?_)
  have h := gv_let_e ev8 h
  refine lv_istore (lv' := [(5, .int v8), (4, .int v5), (3, .int v2), (0, .ref (X.1 43)), (1, .ref (X.1 1)), (2, .int a2)]) hx hb dX6_fit_51 hl (by decide) rfl (fun ls hl => ?_)
  refine lv_iload hx hb dX6_fit_53 (lv_at hl 0 rfl) ?_
  refine lv_iload hx hb dX6_fit_55 (lv_at hl 1 rfl) ?_
  refine lv_iadd hx hb dX6_fit_57 ?_
  refine lv_topi (fun v9 ev9 => ?_)
  have h := gv_let_e ev9 h
  refine lv_istore (lv' := [(6, .int v9), (5, .int v8), (4, .int v5), (3, .int v2), (0, .ref (X.1 43)), (1, .ref (X.1 1)), (2, .int a2)]) hx hb dX6_fit_58 hl (by decide) rfl (fun ls hl => ?_)
  refine lv_iload hx hb dX6_fit_60 (lv_at hl 1 rfl) ?_
  refine lv_iload hx hb dX6_fit_62 (lv_at hl 2 rfl) ?_
  refine lv_isub hx hb dX6_fit_64 ?_
  refine lv_topi (fun v10 ev10 => ?_)
  have h := gv_let_e ev10 h
  refine lv_istore (lv' := [(7, .int v10), (6, .int v9), (5, .int v8), (4, .int v5), (3, .int v2), (0, .ref (X.1 43)), (1, .ref (X.1 1)), (2, .int a2)]) hx hb dX6_fit_65 hl (by decide) rfl (fun ls hl => ?_)
  refine lv_iload hx hb dX6_fit_67 (lv_at hl 1 rfl) ?_
  have J87 : ∀ (v11 : Int32) (H : Heap) (locs : List Loc) (ls : Array Slot), pX6_fit_J87 v10 v2 s0 v11 = some z → gw_P X s0 H → va_S (gw_A X) s.heap H locs → lv_has ls 10 [(7, .int v10), (3, .int v2), (0, .ref (X.1 43))] → W p l e rX6_fit s m args below meth c H locs 0 0 Q (F0 m 87 ls [.int v11]) := by
    intro v11 H locs ls h hP hS hl
    unfold pX6_fit_J87 at h
    refine lv_istore (lv' := [(8, .int v11), (7, .int v10), (3, .int v2), (0, .ref (X.1 43))]) hx hb dX6_fit_87 hl (by decide) rfl (fun ls hl => ?_)
    refine lv_iload hx hb dX6_fit_89 (lv_at hl 1 rfl) ?_
    have J105 : ∀ (v12 : Int32) (H : Heap) (locs : List Loc) (ls : Array Slot), pX6_fit_J105 v2 s0 v11 v12 = some z → gw_P X s0 H → va_S (gw_A X) s.heap H locs → lv_has ls 10 [(8, .int v11), (3, .int v2), (0, .ref (X.1 43))] → W p l e rX6_fit s m args below meth c H locs 0 0 Q (F0 m 105 ls [.int v12]) := by
      intro v12 H locs ls h hP hS hl
      unfold pX6_fit_J105 at h
      refine lv_istore (lv' := [(9, .int v12), (8, .int v11), (3, .int v2), (0, .ref (X.1 43))]) hx hb dX6_fit_105 hl (by decide) rfl (fun ls hl => ?_)
      refine lv_aload_n hx hb dX6_fit_107 rfl (lv_at hl 3 rfl) ?_
      refine gv_get (ref := "IceByEar$Spans") (C := RX6) (T := TX6) (N := 2) (ci := 6) (v := .ref (X.1 44)) C0 (fun _ h9 => List.mem_cons_of_mem _ (List.mem_append_left _ (List.mem_append_right _ h9))) hP 43 (gw_o6 X s0 gk_43.1) rfl 0 (by decide) (by decide +kernel) rfl rfl dX6_fit_108 ?_
      refine lv_iload_n hx hb dX6_fit_111 rfl (lv_at hl 2 rfl) ?_
      refine lv_aload_n hx hb dX6_fit_112 rfl (lv_at hl 3 rfl) ?_
      refine gv_get (ref := "IceByEar$Spans") (C := RX6) (T := TX6) (N := 2) (ci := 6) (v := .ref (X.1 44)) C0 (fun _ h9 => List.mem_cons_of_mem _ (List.mem_append_left _ (List.mem_append_right _ h9))) hP 43 (gw_o6 X s0 gk_43.1) rfl 0 (by decide) (by decide +kernel) rfl rfl dX6_fit_113 ?_
      refine lv_iload_n hx hb dX6_fit_116 rfl (lv_at hl 2 rfl) ?_
      obtain ⟨hin13, h⟩ := gv_in_e h
      refine gv_iald C0 hP 44 gk_44.1 gk_44.2 hin13 dX6_fit_117 ?_
      refine lv_iload hx hb dX6_fit_118 (lv_at hl 1 rfl) ?_
      refine va_mmax hx hb (hml.trans hl.1.symm) hown (hts (.methodLink RX6 73 Lib.Math.max.name) (by decide +kernel)) (hts (.static Lib.Math.max.name) (by decide +kernel)) (hts (.initialized "java/lang/Math") (by decide +kernel)) (hts (.code Lib.Math.max.name Lib.Math.max.code 2 (some .int)) (by decide +kernel)) (by decide) (Nat.le_of_ble_eq_true rfl) (Nat.zero_le _) (Nat.zero_le _) dX6_fit_120 ?_
      refine lv_topi (fun v14 ev14 => ?_)
      have h := gv_let_e ev14 h
      obtain ⟨hin15, h⟩ := gv_in_e h
      refine gv_iast C0 hP hS 44 gk_44.1 gk_44.2 hin15 dX6_fit_123 (fun s16 H locs es16 hP hS => ?_)
      have h := gv_let_e es16 h
      refine lv_aload_n hx hb dX6_fit_124 rfl (lv_at hl 3 rfl) ?_
      refine gv_get (ref := "IceByEar$Spans") (C := RX6) (T := TX6) (N := 2) (ci := 6) (v := .ref (X.1 45)) C0 (fun _ h9 => List.mem_cons_of_mem _ (List.mem_append_left _ (List.mem_append_right _ h9))) hP 43 (gw_o6 X s16 gk_43.1) rfl 1 (by decide) (by decide +kernel) rfl rfl dX6_fit_125 ?_
      refine lv_iload_n hx hb dX6_fit_128 rfl (lv_at hl 2 rfl) ?_
      refine lv_aload_n hx hb dX6_fit_129 rfl (lv_at hl 3 rfl) ?_
      refine gv_get (ref := "IceByEar$Spans") (C := RX6) (T := TX6) (N := 2) (ci := 6) (v := .ref (X.1 45)) C0 (fun _ h9 => List.mem_cons_of_mem _ (List.mem_append_left _ (List.mem_append_right _ h9))) hP 43 (gw_o6 X s16 gk_43.1) rfl 1 (by decide) (by decide +kernel) rfl rfl dX6_fit_130 ?_
      refine lv_iload_n hx hb dX6_fit_133 rfl (lv_at hl 2 rfl) ?_
      obtain ⟨hin17, h⟩ := gv_in_e h
      refine gv_iald C0 hP 45 gk_45.1 gk_45.2 hin17 dX6_fit_134 ?_
      refine lv_iload hx hb dX6_fit_135 (lv_at hl 0 rfl) ?_
      refine va_mmin hx hb (hml.trans hl.1.symm) hown (hts (.methodLink RX6 78 Lib.Math.min.name) (by decide +kernel)) (hts (.static Lib.Math.min.name) (by decide +kernel)) (hts (.initialized "java/lang/Math") (by decide +kernel)) (hts (.code Lib.Math.min.name Lib.Math.min.code 2 (some .int)) (by decide +kernel)) (by decide) (Nat.le_of_ble_eq_true rfl) (Nat.zero_le _) (Nat.zero_le _) dX6_fit_137 ?_
      refine lv_topi (fun v18 ev18 => ?_)
      have h := gv_let_e ev18 h
      obtain ⟨hin19, h⟩ := gv_in_e h
      refine gv_iast C0 hP hS 45 gk_45.1 gk_45.2 hin19 dX6_fit_140 (fun s20 H locs es20 hP hS => ?_)
      have h := gv_let_e es20 h
      exact Kr _ _ _ _ _ (gv_inj h) hP hS dX6_fit_141
    refine lv_if_le (tgt := 103) hx hb dX6_fit_91 (by decide) (fun hc => ?_) (fun hc => ?_)
    · have h := gv_pos hc h
      refine lv_bipush (v := 99) hx hb dX6_fit_103 (by decide) ?_
      exact J105 (99 : Int32) _ _ _ h hP hS (lv_sub hl [0, 2, 3] rfl)
    · have h := gv_neg hc h
      refine lv_sipush (v := 9000) hx hb dX6_fit_94 (by decide) ?_
      refine lv_iload hx hb dX6_fit_97 (lv_at hl 1 rfl) ?_
      obtain ⟨hnz21, h⟩ := gv_nz_e h
      refine lv_idiv hx hb dX6_fit_99 hnz21 ?_
      refine lv_goto (tgt := 105) hx hb dX6_fit_100 (by decide) ?_
      exact J105 ((9000 : Int32) / v10) _ _ _ h hP hS (lv_sub hl [0, 2, 3] rfl)
  refine lv_if_lt (tgt := 85) hx hb dX6_fit_69 (by decide) (fun hc => ?_) (fun hc => ?_)
  · have h := gv_pos hc h
    refine lv_bipush (v := 100) hx hb dX6_fit_85 (by decide) ?_
    exact J87 (100 : Int32) _ _ _ h hP hS (lv_sub hl [0, 4, 5] rfl)
  · have h := gv_neg hc h
    refine lv_sipush (v := 9000) hx hb dX6_fit_72 (by decide) ?_
    refine lv_iload hx hb dX6_fit_75 (lv_at hl 1 rfl) ?_
    refine lv_iconst (v := 1) hx hb dX6_fit_77 (by decide) ?_
    refine lv_iadd hx hb dX6_fit_78 ?_
    obtain ⟨hnz22, h⟩ := gv_nz_e h
    refine lv_idiv hx hb dX6_fit_79 hnz22 ?_
    refine lv_iconst (v := 1) hx hb dX6_fit_80 (by decide) ?_
    refine lv_iadd hx hb dX6_fit_81 ?_
    refine lv_goto (tgt := 87) hx hb dX6_fit_82 (by decide) ?_
    exact J87 (((9000 : Int32) / (v9 + (1 : Int32))) + (1 : Int32)) _ _ _ h hP hS (lv_sub hl [0, 4, 5] rfl)
theorem mX6_fit (l : Launch) (X : gw_X) (s0 : gs_S) (a2 : Int32) {τ : gs_S} (h : pX6_fit a2 s0 = some τ) : Met l yX6_fit wsX6_fit rX6_fit (gm_Pc X s0 [.ref (X.1 43), .ref (X.1 1), .int a2]) (gm_Qv X τ) 0 0 (gw_A X) :=
  gm_of RX6 (by decide) rfl rfl (Nat.le_of_ble_eq_true rfl) (fun p e s m below meth c ls C0 hP hl hS => tX6_fit C0 a2 s0 h (fun H locs ls pc τ hr hP hS hd => by subst hr; exact gm_retv C0 hP hS hd) hP hS hl)
def pX6_draw (a1 : Int32) (a2 : Int32) (a3 : Int32) (s0 : gs_S) : Option (gs_S) := if a2 = (-1 : Int32) then some s0 else gv_in a1 64 (gv_in a2 64 (gv_let (gv_max (s0.1 44 a1.toNatClampNeg) ((s0.1 44 a2.toNatClampNeg) - a3)) (fun v3 => gv_in a1 64 (gv_let (gs_u s0 44 a1.toNatClampNeg v3) (fun s5 => gv_in a1 64 (gv_in a2 64 (gv_let (gv_min (s5.1 45 a1.toNatClampNeg) ((s5.1 45 a2.toNatClampNeg) + a3)) (fun v8 => gv_in a1 64 (gv_let (gs_u s5 45 a1.toNatClampNeg v8) (fun s10 => some s10))))))))))
def rX6_draw : Room := { frames := 1, cells := 0, slots := 0, locals := 40 }
set_option maxHeartbeats 4000000 in
set_option maxRecDepth 100000 in
theorem tX6_draw {p : Program} {l : Launch} {e : Env} {s : State} {m : MethodId} {args : Array Value} {below : List Frame} {meth : Method} {c : Code} {X : gw_X} {Q : State → Prop} (C0 : gm_At p s m args meth c X cX6_draw 4 RX6 wsX6_draw none) (a1 : Int32) (a2 : Int32) (a3 : Int32) (s0 : gs_S) {z : gs_S} (h : pX6_draw a1 a2 a3 s0 = some z) (Kr : ∀ (H : Heap) (locs : List Loc) (ls : Array Slot) (pc : Nat) (τ : gs_S), z = τ → gw_P X τ H → va_S (gw_A X) s.heap H locs → decode cX6_draw pc = .ok (.return_, 1) → W p l e rX6_draw s m args below meth c H locs 0 0 Q (F0 m pc ls [])) {H : Heap} {locs : List Loc} {ls : Array Slot} (hP : gw_P X s0 H) (hS : va_S (gw_A X) s.heap H locs) (hl : lv_has ls 4 [(0, .ref (X.1 43)), (1, .int a1), (2, .int a2), (3, .int a3)]) : W p l e rX6_draw s m args below meth c H locs 0 0 Q (F0 m 0 ls []) := by
  obtain ⟨hx, hb, hml, hown, hts, hr, hlocks, hC⟩ := id C0
  unfold pX6_draw at h
  refine lv_iload_n hx hb dX6_draw_0 rfl (lv_at hl 2 rfl) ?_
  refine lv_iconst (v := -1) hx hb dX6_draw_1 (by decide) ?_
  refine lv_icmp_eq (tgt := 51) hx hb dX6_draw_2 (by decide) (fun hc => ?_) (fun hc => ?_)
  · have h := gv_pos hc h
    exact Kr _ _ _ _ _ (gv_inj h) hP hS dX6_draw_51
  · have h := gv_neg hc h
    refine lv_aload_n hx hb dX6_draw_5 rfl (lv_at hl 0 rfl) ?_
    refine gv_get (ref := "IceByEar$Spans") (C := RX6) (T := TX6) (N := 2) (ci := 6) (v := .ref (X.1 44)) C0 (fun _ h9 => List.mem_cons_of_mem _ (List.mem_append_right _ h9)) hP 43 (gw_o6 X s0 gk_43.1) rfl 0 (by decide) (by decide +kernel) rfl rfl dX6_draw_6 ?_
    refine lv_iload_n hx hb dX6_draw_9 rfl (lv_at hl 1 rfl) ?_
    refine lv_aload_n hx hb dX6_draw_10 rfl (lv_at hl 0 rfl) ?_
    refine gv_get (ref := "IceByEar$Spans") (C := RX6) (T := TX6) (N := 2) (ci := 6) (v := .ref (X.1 44)) C0 (fun _ h9 => List.mem_cons_of_mem _ (List.mem_append_right _ h9)) hP 43 (gw_o6 X s0 gk_43.1) rfl 0 (by decide) (by decide +kernel) rfl rfl dX6_draw_11 ?_
    refine lv_iload_n hx hb dX6_draw_14 rfl (lv_at hl 1 rfl) ?_
    obtain ⟨hin1, h⟩ := gv_in_e h
    refine gv_iald C0 hP 44 gk_44.1 gk_44.2 hin1 dX6_draw_15 ?_
    refine lv_aload_n hx hb dX6_draw_16 rfl (lv_at hl 0 rfl) ?_
    refine gv_get (ref := "IceByEar$Spans") (C := RX6) (T := TX6) (N := 2) (ci := 6) (v := .ref (X.1 44)) C0 (fun _ h9 => List.mem_cons_of_mem _ (List.mem_append_right _ h9)) hP 43 (gw_o6 X s0 gk_43.1) rfl 0 (by decide) (by decide +kernel) rfl rfl dX6_draw_17 ?_
    refine lv_iload_n hx hb dX6_draw_20 rfl (lv_at hl 2 rfl) ?_
    obtain ⟨hin2, h⟩ := gv_in_e h
    refine gv_iald C0 hP 44 gk_44.1 gk_44.2 hin2 dX6_draw_21 ?_
    refine lv_iload_n hx hb dX6_draw_22 rfl (lv_at hl 3 rfl) ?_
    refine lv_isub hx hb dX6_draw_23 ?_
    refine va_mmax hx hb (hml.trans hl.1.symm) hown (hts (.methodLink RX6 73 Lib.Math.max.name) (by decide +kernel)) (hts (.static Lib.Math.max.name) (by decide +kernel)) (hts (.initialized "java/lang/Math") (by decide +kernel)) (hts (.code Lib.Math.max.name Lib.Math.max.code 2 (some .int)) (by decide +kernel)) (by decide) (Nat.le_of_ble_eq_true rfl) (Nat.zero_le _) (Nat.zero_le _) dX6_draw_24 ?_
    refine lv_topi (fun v3 ev3 => ?_)
    have h := gv_let_e ev3 h
    obtain ⟨hin4, h⟩ := gv_in_e h
    refine gv_iast C0 hP hS 44 gk_44.1 gk_44.2 hin4 dX6_draw_27 (fun s5 H locs es5 hP hS => ?_)
    have h := gv_let_e es5 h
    refine lv_aload_n hx hb dX6_draw_28 rfl (lv_at hl 0 rfl) ?_
    refine gv_get (ref := "IceByEar$Spans") (C := RX6) (T := TX6) (N := 2) (ci := 6) (v := .ref (X.1 45)) C0 (fun _ h9 => List.mem_cons_of_mem _ (List.mem_append_right _ h9)) hP 43 (gw_o6 X s5 gk_43.1) rfl 1 (by decide) (by decide +kernel) rfl rfl dX6_draw_29 ?_
    refine lv_iload_n hx hb dX6_draw_32 rfl (lv_at hl 1 rfl) ?_
    refine lv_aload_n hx hb dX6_draw_33 rfl (lv_at hl 0 rfl) ?_
    refine gv_get (ref := "IceByEar$Spans") (C := RX6) (T := TX6) (N := 2) (ci := 6) (v := .ref (X.1 45)) C0 (fun _ h9 => List.mem_cons_of_mem _ (List.mem_append_right _ h9)) hP 43 (gw_o6 X s5 gk_43.1) rfl 1 (by decide) (by decide +kernel) rfl rfl dX6_draw_34 ?_
    refine lv_iload_n hx hb dX6_draw_37 rfl (lv_at hl 1 rfl) ?_
    obtain ⟨hin6, h⟩ := gv_in_e h
    refine gv_iald C0 hP 45 gk_45.1 gk_45.2 hin6 dX6_draw_38 ?_
    refine lv_aload_n hx hb dX6_draw_39 rfl (lv_at hl 0 rfl) ?_
    refine gv_get (ref := "IceByEar$Spans") (C := RX6) (T := TX6) (N := 2) (ci := 6) (v := .ref (X.1 45)) C0 (fun _ h9 => List.mem_cons_of_mem _ (List.mem_append_right _ h9)) hP 43 (gw_o6 X s5 gk_43.1) rfl 1 (by decide) (by decide +kernel) rfl rfl dX6_draw_40 ?_
    refine lv_iload_n hx hb dX6_draw_43 rfl (lv_at hl 2 rfl) ?_
    obtain ⟨hin7, h⟩ := gv_in_e h
    refine gv_iald C0 hP 45 gk_45.1 gk_45.2 hin7 dX6_draw_44 ?_
    refine lv_iload_n hx hb dX6_draw_45 rfl (lv_at hl 3 rfl) ?_
    refine lv_iadd hx hb dX6_draw_46 ?_
    refine va_mmin hx hb (hml.trans hl.1.symm) hown (hts (.methodLink RX6 78 Lib.Math.min.name) (by decide +kernel)) (hts (.static Lib.Math.min.name) (by decide +kernel)) (hts (.initialized "java/lang/Math") (by decide +kernel)) (hts (.code Lib.Math.min.name Lib.Math.min.code 2 (some .int)) (by decide +kernel)) (by decide) (Nat.le_of_ble_eq_true rfl) (Nat.zero_le _) (Nat.zero_le _) dX6_draw_47 ?_
    refine lv_topi (fun v8 ev8 => ?_)
    have h := gv_let_e ev8 h
    obtain ⟨hin9, h⟩ := gv_in_e h
    refine gv_iast C0 hP hS 45 gk_45.1 gk_45.2 hin9 dX6_draw_50 (fun s10 H locs es10 hP hS => ?_)
    have h := gv_let_e es10 h
    exact Kr _ _ _ _ _ (gv_inj h) hP hS dX6_draw_51
theorem mX6_draw (l : Launch) (X : gw_X) (s0 : gs_S) (a1 : Int32) (a2 : Int32) (a3 : Int32) {τ : gs_S} (h : pX6_draw a1 a2 a3 s0 = some τ) : Met l yX6_draw wsX6_draw rX6_draw (gm_Pc X s0 [.ref (X.1 43), .int a1, .int a2, .int a3]) (gm_Qv X τ) 0 0 (gw_A X) :=
  gm_of RX6 (by decide) rfl rfl (Nat.le_of_ble_eq_true rfl) (fun p e s m below meth c ls C0 hP hl hS => tX6_draw C0 a1 a2 a3 s0 h (fun H locs ls pc τ hr hP hS hd => by subst hr; exact gm_retv C0 hP hS hd) hP hS hl)
def pX6_narrow_L2 (a1 : Int32) (v1 : Int32) (s2 : gs_S) : Option ((Int32 × gs_S) ⊕ (Int32 × gs_S)) := if (64 : Int32) ≤ v1 then some (.inr (v1, s2)) else gv_bind (pX6_draw v1 (pX10_beside v1 (0 : Int32)) a1 s2) (fun s3 => gv_bind (pX6_draw v1 (pX10_beside v1 (1 : Int32)) a1 s3) (fun s4 => gv_let (v1 + (1 : Int32)) (fun v5 => some (.inl (v5, s4)))))
def pX6_narrow_L39 (a1 : Int32) (v8 : Int32) (s9 : gs_S) : Option ((Int32 × gs_S) ⊕ (Int32 × gs_S)) := if v8 < 0 then some (.inr (v8, s9)) else gv_bind (pX6_draw v8 (pX10_beside v8 (3 : Int32)) a1 s9) (fun s10 => gv_bind (pX6_draw v8 (pX10_beside v8 (2 : Int32)) a1 s10) (fun s11 => gv_let (v8 + (-1 : Int32)) (fun v12 => some (.inl (v12, s11)))))
def pX6_narrow (a1 : Int32) (s0 : gs_S) : Option (gs_S) := gv_bind (gv_loop (fun q => pX6_narrow_L2 a1 q.1 q.2) gv_N ((0 : Int32), s0)) (fun q => gv_let q.1 (fun v6 => gv_let q.2 (fun s7 => gv_bind (gv_loop (fun q => pX6_narrow_L39 a1 q.1 q.2) gv_N ((63 : Int32), s7)) (fun q => gv_let q.1 (fun v13 => gv_let q.2 (fun s14 => some s14))))))
def rX6_narrow : Room := { frames := 2, cells := 0, slots := 0, locals := 63 }
set_option maxHeartbeats 4000000 in
set_option maxRecDepth 100000 in
theorem tX6_narrow {p : Program} {l : Launch} {e : Env} {s : State} {m : MethodId} {args : Array Value} {below : List Frame} {meth : Method} {c : Code} {X : gw_X} {Q : State → Prop} (C0 : gm_At p s m args meth c X cX6_narrow 3 RX6 wsX6_narrow none) (a1 : Int32) (s0 : gs_S) {z : gs_S} (h : pX6_narrow a1 s0 = some z) (Kr : ∀ (H : Heap) (locs : List Loc) (ls : Array Slot) (pc : Nat) (τ : gs_S), z = τ → gw_P X τ H → va_S (gw_A X) s.heap H locs → decode cX6_narrow pc = .ok (.return_, 1) → W p l e rX6_narrow s m args below meth c H locs 0 0 Q (F0 m pc ls [])) {H : Heap} {locs : List Loc} {ls : Array Slot} (hP : gw_P X s0 H) (hS : va_S (gw_A X) s.heap H locs) (hl : lv_has ls 3 [(0, .ref (X.1 43)), (1, .int a1)]) : W p l e rX6_narrow s m args below meth c H locs 0 0 Q (F0 m 0 ls []) := by
  obtain ⟨hx, hb, hml, hown, hts, hr, hlocks, hC⟩ := id C0
  unfold pX6_narrow at h
  refine lv_iconst (v := 0) hx hb dX6_narrow_0 (by decide) ?_
  refine lv_istore_n (lv' := [(2, .int (0 : Int32)), (0, .ref (X.1 43)), (1, .int a1)]) hx hb dX6_narrow_1 rfl hl (by decide) rfl (fun ls hl => ?_)
  obtain ⟨q15, hq15, h⟩ := gv_bind_e h
  refine gv_loop_ind (Φ := fun q => ∀ (H : Heap) (locs : List Loc) (ls : Array Slot), gw_P X q.2 H → va_S (gw_A X) s.heap H locs → lv_has ls 3 [(0, .ref (X.1 43)), (1, .int a1), (2, .int q.1)] → W p l e rX6_narrow s m args below meth c H locs 0 0 Q (F0 m 2 ls [])) (Ψ := fun q => ∀ (H : Heap) (locs : List Loc) (ls : Array Slot), gw_P X q.2 H → va_S (gw_A X) s.heap H locs → lv_has ls 3 [(0, .ref (X.1 43)), (1, .int a1)] → W p l e rX6_narrow s m args below meth c H locs 0 0 Q (F0 m 36 ls [])) ?_ gv_N ((0 : Int32), s0) q15 hq15 ?_ H locs ls hP hS (lv_sub hl [1, 2, 0] rfl)
  · intro q x h Kc Ke H locs ls hP hS hl
    obtain ⟨v1, s2⟩ := q
    have h : pX6_narrow_L2 a1 v1 s2 = some x := h
    have hP : gw_P X s2 H := hP
    have hl : lv_has ls 3 [(0, .ref (X.1 43)), (1, .int a1), (2, .int v1)] := hl
    unfold pX6_narrow_L2 at h
    refine lv_iload_n hx hb dX6_narrow_2 rfl (lv_at hl 2 rfl) ?_
    refine lv_bipush (v := 64) hx hb dX6_narrow_3 (by decide) ?_
    refine lv_icmp_ge (tgt := 36) hx hb dX6_narrow_5 (by decide) (fun hc => ?_) (fun hc => ?_)
    · have h := gv_pos hc h
      exact Ke _ (gv_inj h) _ _ _ hP hS (lv_sub hl [0, 1] rfl)
    · have h := gv_neg hc h
      refine lv_aload_n hx hb dX6_narrow_8 rfl (lv_at hl 0 rfl) ?_
      refine lv_iload_n hx hb dX6_narrow_9 rfl (lv_at hl 2 rfl) ?_
      refine lv_iload_n hx hb dX6_narrow_10 rfl (lv_at hl 2 rfl) ?_
      refine lv_iconst (v := 0) hx hb dX6_narrow_11 (by decide) ?_
      refine gv_ri (gv_runN (n := 2) (rest := [.int v1, .ref (X.1 43)]) (host := "IceByEar") C0 (mX10_beside l X s2 v1 (0 : Int32)) gX6_narrow_X10_beside_n81 rfl ⟨rfl, rfl⟩ (by decide +kernel) ⟨by decide +kernel, by decide +kernel⟩ (by decide +kernel) ⟨by decide, by decide⟩ hP hS rfl hl.1 rfl (Nat.le_of_ble_eq_true rfl) dX6_narrow_12 ⟨Nat.zero_le _, Nat.zero_le _⟩) hS (fun H locs hP hS => ?_)
      refine lv_iload_n hx hb dX6_narrow_15 rfl (lv_at hl 1 rfl) ?_
      obtain ⟨s3, hs3, h⟩ := gv_bind_e h
      refine gv_rv (gv_runV (n := 3) (rest := []) C0 (mX6_draw l X s2 v1 (pX10_beside v1 (0 : Int32)) a1 hs3) gX6_narrow_X6_draw rfl ⟨rfl, rfl⟩ (by decide +kernel) ⟨by decide, by decide⟩ gk_43.1 (by decide) rfl hP hS rfl hl.1 rfl (Nat.le_of_ble_eq_true rfl) dX6_narrow_16 ⟨Nat.zero_le _, Nat.zero_le _⟩) hS (fun H locs hP hS => ?_)
      refine lv_aload_n hx hb dX6_narrow_19 rfl (lv_at hl 0 rfl) ?_
      refine lv_iload_n hx hb dX6_narrow_20 rfl (lv_at hl 2 rfl) ?_
      refine lv_iload_n hx hb dX6_narrow_21 rfl (lv_at hl 2 rfl) ?_
      refine lv_iconst (v := 1) hx hb dX6_narrow_22 (by decide) ?_
      refine gv_ri (gv_runN (n := 2) (rest := [.int v1, .ref (X.1 43)]) (host := "IceByEar") C0 (mX10_beside l X s3 v1 (1 : Int32)) gX6_narrow_X10_beside_n81 rfl ⟨rfl, rfl⟩ (by decide +kernel) ⟨by decide +kernel, by decide +kernel⟩ (by decide +kernel) ⟨by decide, by decide⟩ hP hS rfl hl.1 rfl (Nat.le_of_ble_eq_true rfl) dX6_narrow_23 ⟨Nat.zero_le _, Nat.zero_le _⟩) hS (fun H locs hP hS => ?_)
      refine lv_iload_n hx hb dX6_narrow_26 rfl (lv_at hl 1 rfl) ?_
      obtain ⟨s4, hs4, h⟩ := gv_bind_e h
      refine gv_rv (gv_runV (n := 3) (rest := []) C0 (mX6_draw l X s3 v1 (pX10_beside v1 (1 : Int32)) a1 hs4) gX6_narrow_X6_draw rfl ⟨rfl, rfl⟩ (by decide +kernel) ⟨by decide, by decide⟩ gk_43.1 (by decide) rfl hP hS rfl hl.1 rfl (Nat.le_of_ble_eq_true rfl) dX6_narrow_27 ⟨Nat.zero_le _, Nat.zero_le _⟩) hS (fun H locs hP hS => ?_)
      obtain ⟨v5, ev5⟩ : ∃ y : Int32, y = (v1 + (1 : Int32)) := ⟨_, rfl⟩
      have h := gv_let_e ev5 h
      refine lv_iinc (v := v5) (lv' := [(2, .int v5), (0, .ref (X.1 43)), (1, .int a1)]) hx hb dX6_narrow_30 hl (k := 2) rfl (by rw [ev5]; rfl) (by decide) rfl (fun ls hl => ?_)
      refine lv_goto (tgt := 2) hx hb dX6_narrow_33 (by decide) ?_
      exact Kc _ (gv_inj h) _ _ _ hP hS (lv_sub hl [1, 2, 0] rfl)
  · obtain ⟨v6, s7⟩ := q15
    have h := gv_let_e (x := v6) rfl h
    have h := gv_let_e (x := s7) rfl h
    intro H locs ls hP hS hl
    have hP : gw_P X s7 H := hP
    have hl : lv_has ls 3 [(0, .ref (X.1 43)), (1, .int a1)] := hl
    refine lv_bipush (v := 63) hx hb dX6_narrow_36 (by decide) ?_
    refine lv_istore_n (lv' := [(2, .int (63 : Int32)), (0, .ref (X.1 43)), (1, .int a1)]) hx hb dX6_narrow_38 rfl hl (by decide) rfl (fun ls hl => ?_)
    obtain ⟨q14, hq14, h⟩ := gv_bind_e h
    refine gv_loop_ind (Φ := fun q => ∀ (H : Heap) (locs : List Loc) (ls : Array Slot), gw_P X q.2 H → va_S (gw_A X) s.heap H locs → lv_has ls 3 [(0, .ref (X.1 43)), (1, .int a1), (2, .int q.1)] → W p l e rX6_narrow s m args below meth c H locs 0 0 Q (F0 m 39 ls [])) (Ψ := fun q => ∀ (H : Heap) (locs : List Loc) (ls : Array Slot), gw_P X q.2 H → va_S (gw_A X) s.heap H locs → lv_has ls 3 [] → W p l e rX6_narrow s m args below meth c H locs 0 0 Q (F0 m 71 ls [])) ?_ gv_N ((63 : Int32), s7) q14 hq14 ?_ H locs ls hP hS (lv_sub hl [1, 2, 0] rfl)
    · intro q x h Kc Ke H locs ls hP hS hl
      obtain ⟨v8, s9⟩ := q
      have h : pX6_narrow_L39 a1 v8 s9 = some x := h
      have hP : gw_P X s9 H := hP
      have hl : lv_has ls 3 [(0, .ref (X.1 43)), (1, .int a1), (2, .int v8)] := hl
      unfold pX6_narrow_L39 at h
      refine lv_iload_n hx hb dX6_narrow_39 rfl (lv_at hl 2 rfl) ?_
      refine lv_if_lt (tgt := 71) hx hb dX6_narrow_40 (by decide) (fun hc => ?_) (fun hc => ?_)
      · have h := gv_pos hc h
        exact Ke _ (gv_inj h) _ _ _ hP hS (lv_sub hl [] rfl)
      · have h := gv_neg hc h
        refine lv_aload_n hx hb dX6_narrow_43 rfl (lv_at hl 0 rfl) ?_
        refine lv_iload_n hx hb dX6_narrow_44 rfl (lv_at hl 2 rfl) ?_
        refine lv_iload_n hx hb dX6_narrow_45 rfl (lv_at hl 2 rfl) ?_
        refine lv_iconst (v := 3) hx hb dX6_narrow_46 (by decide) ?_
        refine gv_ri (gv_runN (n := 2) (rest := [.int v8, .ref (X.1 43)]) (host := "IceByEar") C0 (mX10_beside l X s9 v8 (3 : Int32)) gX6_narrow_X10_beside_n81 rfl ⟨rfl, rfl⟩ (by decide +kernel) ⟨by decide +kernel, by decide +kernel⟩ (by decide +kernel) ⟨by decide, by decide⟩ hP hS rfl hl.1 rfl (Nat.le_of_ble_eq_true rfl) dX6_narrow_47 ⟨Nat.zero_le _, Nat.zero_le _⟩) hS (fun H locs hP hS => ?_)
        refine lv_iload_n hx hb dX6_narrow_50 rfl (lv_at hl 1 rfl) ?_
        obtain ⟨s10, hs10, h⟩ := gv_bind_e h
        refine gv_rv (gv_runV (n := 3) (rest := []) C0 (mX6_draw l X s9 v8 (pX10_beside v8 (3 : Int32)) a1 hs10) gX6_narrow_X6_draw rfl ⟨rfl, rfl⟩ (by decide +kernel) ⟨by decide, by decide⟩ gk_43.1 (by decide) rfl hP hS rfl hl.1 rfl (Nat.le_of_ble_eq_true rfl) dX6_narrow_51 ⟨Nat.zero_le _, Nat.zero_le _⟩) hS (fun H locs hP hS => ?_)
        refine lv_aload_n hx hb dX6_narrow_54 rfl (lv_at hl 0 rfl) ?_
        refine lv_iload_n hx hb dX6_narrow_55 rfl (lv_at hl 2 rfl) ?_
        refine lv_iload_n hx hb dX6_narrow_56 rfl (lv_at hl 2 rfl) ?_
        refine lv_iconst (v := 2) hx hb dX6_narrow_57 (by decide) ?_
        refine gv_ri (gv_runN (n := 2) (rest := [.int v8, .ref (X.1 43)]) (host := "IceByEar") C0 (mX10_beside l X s10 v8 (2 : Int32)) gX6_narrow_X10_beside_n81 rfl ⟨rfl, rfl⟩ (by decide +kernel) ⟨by decide +kernel, by decide +kernel⟩ (by decide +kernel) ⟨by decide, by decide⟩ hP hS rfl hl.1 rfl (Nat.le_of_ble_eq_true rfl) dX6_narrow_58 ⟨Nat.zero_le _, Nat.zero_le _⟩) hS (fun H locs hP hS => ?_)
        refine lv_iload_n hx hb dX6_narrow_61 rfl (lv_at hl 1 rfl) ?_
        obtain ⟨s11, hs11, h⟩ := gv_bind_e h
        refine gv_rv (gv_runV (n := 3) (rest := []) C0 (mX6_draw l X s10 v8 (pX10_beside v8 (2 : Int32)) a1 hs11) gX6_narrow_X6_draw rfl ⟨rfl, rfl⟩ (by decide +kernel) ⟨by decide, by decide⟩ gk_43.1 (by decide) rfl hP hS rfl hl.1 rfl (Nat.le_of_ble_eq_true rfl) dX6_narrow_62 ⟨Nat.zero_le _, Nat.zero_le _⟩) hS (fun H locs hP hS => ?_)
        obtain ⟨v12, ev12⟩ : ∃ y : Int32, y = (v8 + (-1 : Int32)) := ⟨_, rfl⟩
        have h := gv_let_e ev12 h
        refine lv_iinc (v := v12) (lv' := [(2, .int v12), (0, .ref (X.1 43)), (1, .int a1)]) hx hb dX6_narrow_65 hl (k := 2) rfl (by rw [ev12]; rfl) (by decide) rfl (fun ls hl => ?_)
        refine lv_goto (tgt := 39) hx hb dX6_narrow_68 (by decide) ?_
        exact Kc _ (gv_inj h) _ _ _ hP hS (lv_sub hl [1, 2, 0] rfl)
    · obtain ⟨v13, s14⟩ := q14
      have h := gv_let_e (x := v13) rfl h
      have h := gv_let_e (x := s14) rfl h
      intro H locs ls hP hS hl
      have hP : gw_P X s14 H := hP
      have hl : lv_has ls 3 [] := hl
      exact Kr _ _ _ _ _ (gv_inj h) hP hS dX6_narrow_71
theorem mX6_narrow (l : Launch) (X : gw_X) (s0 : gs_S) (a1 : Int32) {τ : gs_S} (h : pX6_narrow a1 s0 = some τ) : Met l yX6_narrow wsX6_narrow rX6_narrow (gm_Pc X s0 [.ref (X.1 43), .int a1]) (gm_Qv X τ) 0 0 (gw_A X) :=
  gm_of RX6 (by decide) rfl rfl (Nat.le_of_ble_eq_true rfl) (fun p e s m below meth c ls C0 hP hl hS => tX6_narrow C0 a1 s0 h (fun H locs ls pc τ hr hP hS hd => by subst hr; exact gm_retv C0 hP hS hd) hP hS hl)
def pX6_areOpen_L2 (s0 : gs_S) (v1 : Int32) : Option ((Int32) ⊕ ((Int32) ⊕ (Int32))) := if (64 : Int32) ≤ v1 then some (.inr (.inl v1)) else gv_in v1 64 (gv_in v1 64 (if (s0.1 44 v1.toNatClampNeg) ≤ (s0.1 45 v1.toNatClampNeg) then gv_let (v1 + (1 : Int32)) (fun v4 => some (.inl v4)) else some (.inr (.inr (0 : Int32)))))
def pX6_areOpen  (s0 : gs_S) : Option (Int32) := gv_bret (gv_loop (fun q => pX6_areOpen_L2 s0 q) gv_N (0 : Int32)) (fun r => r) (fun q => gv_let q (fun v5 => some (1 : Int32)))
def rX6_areOpen : Room := { frames := 0, cells := 0, slots := 0, locals := 0 }
set_option maxHeartbeats 4000000 in
set_option maxRecDepth 100000 in
theorem tX6_areOpen {p : Program} {l : Launch} {e : Env} {s : State} {m : MethodId} {args : Array Value} {below : List Frame} {meth : Method} {c : Code} {X : gw_X} {Q : State → Prop} (C0 : gm_At p s m args meth c X cX6_areOpen 2 RX6 wsX6_areOpen (some .boolean))  (s0 : gs_S) {z : Int32} (h : pX6_areOpen s0 = some z) (Kr : ∀ (H : Heap) (locs : List Loc) (ls : Array Slot) (pc : Nat) (r : Int32), z = r → narrow .boolean (.int r) = .int r → gw_P X s0 H → va_S (gw_A X) s.heap H locs → decode cX6_areOpen pc = .ok (.ireturn, 1) → W p l e rX6_areOpen s m args below meth c H locs 0 0 Q (F0 m pc ls [.int r])) {H : Heap} {locs : List Loc} {ls : Array Slot} (hP : gw_P X s0 H) (hS : va_S (gw_A X) s.heap H locs) (hl : lv_has ls 2 [(0, .ref (X.1 43))]) : W p l e rX6_areOpen s m args below meth c H locs 0 0 Q (F0 m 0 ls []) := by
  obtain ⟨hx, hb, hml, hown, hts, hr, hlocks, hC⟩ := id C0
  unfold pX6_areOpen at h
  refine lv_iconst (v := 0) hx hb dX6_areOpen_0 (by decide) ?_
  refine lv_istore_n (lv' := [(1, .int (0 : Int32)), (0, .ref (X.1 43))]) hx hb dX6_areOpen_1 rfl hl (by decide) rfl (fun ls hl => ?_)
  obtain ⟨q5, hq5, h1q5, h2q5⟩ := gv_bret_e h
  refine gv_loop_ind (Φ := fun q => ∀ (H : Heap) (locs : List Loc) (ls : Array Slot), gw_P X s0 H → va_S (gw_A X) s.heap H locs → lv_has ls 2 [(0, .ref (X.1 43)), (1, .int q)] → W p l e rX6_areOpen s m args below meth c H locs 0 0 Q (F0 m 2 ls [])) (Ψ := fun ex => (∀ q : Int32, ex = .inl q → ∀ (H : Heap) (locs : List Loc) (ls : Array Slot), gw_P X s0 H → va_S (gw_A X) s.heap H locs → lv_has ls 2 [] → W p l e rX6_areOpen s m args below meth c H locs 0 0 Q (F0 m 31 ls [])) ∧ (∀ r : Int32, ex = .inr r → ∀ (H : Heap) (locs : List Loc) (ls : Array Slot) (pc : Nat), narrow .boolean (.int r) = .int r → gw_P X s0 H → va_S (gw_A X) s.heap H locs → decode cX6_areOpen pc = .ok (.ireturn, 1) → W p l e rX6_areOpen s m args below meth c H locs 0 0 Q (F0 m pc ls [.int r]))) ?_ gv_N (0 : Int32) q5 hq5 ⟨?_, ?_⟩ H locs ls hP hS (lv_sub hl [1, 0] rfl)
  · intro q x h Kc Ke H locs ls hP hS hl
    obtain ⟨v1, eq_q⟩ : ∃ y, y = q := ⟨_, rfl⟩
    subst eq_q
    have h : pX6_areOpen_L2 s0 v1 = some x := h
    have hP : gw_P X s0 H := hP
    have hl : lv_has ls 2 [(0, .ref (X.1 43)), (1, .int v1)] := hl
    unfold pX6_areOpen_L2 at h
    refine lv_iload_n hx hb dX6_areOpen_2 rfl (lv_at hl 1 rfl) ?_
    refine lv_bipush (v := 64) hx hb dX6_areOpen_3 (by decide) ?_
    refine lv_icmp_ge (tgt := 31) hx hb dX6_areOpen_5 (by decide) (fun hc => ?_) (fun hc => ?_)
    · have h := gv_pos hc h
      exact (Ke _ (gv_inj h)).1 _ rfl _ _ _ hP hS (lv_sub hl [] rfl)
    · have h := gv_neg hc h
      refine lv_aload_n hx hb dX6_areOpen_8 rfl (lv_at hl 0 rfl) ?_
      refine gv_get (ref := "IceByEar$Spans") (C := RX6) (T := TX6) (N := 2) (ci := 6) (v := .ref (X.1 44)) C0 (fun _ h9 => List.mem_cons_of_mem _ (List.mem_append_right _ h9)) hP 43 (gw_o6 X s0 gk_43.1) rfl 0 (by decide) (by decide +kernel) rfl rfl dX6_areOpen_9 ?_
      refine lv_iload_n hx hb dX6_areOpen_12 rfl (lv_at hl 1 rfl) ?_
      obtain ⟨hin2, h⟩ := gv_in_e h
      refine gv_iald C0 hP 44 gk_44.1 gk_44.2 hin2 dX6_areOpen_13 ?_
      refine lv_aload_n hx hb dX6_areOpen_14 rfl (lv_at hl 0 rfl) ?_
      refine gv_get (ref := "IceByEar$Spans") (C := RX6) (T := TX6) (N := 2) (ci := 6) (v := .ref (X.1 45)) C0 (fun _ h9 => List.mem_cons_of_mem _ (List.mem_append_right _ h9)) hP 43 (gw_o6 X s0 gk_43.1) rfl 1 (by decide) (by decide +kernel) rfl rfl dX6_areOpen_15 ?_
      refine lv_iload_n hx hb dX6_areOpen_18 rfl (lv_at hl 1 rfl) ?_
      obtain ⟨hin3, h⟩ := gv_in_e h
      refine gv_iald C0 hP 45 gk_45.1 gk_45.2 hin3 dX6_areOpen_19 ?_
      refine lv_icmp_le (tgt := 25) hx hb dX6_areOpen_20 (by decide) (fun hc => ?_) (fun hc => ?_)
      · have h := gv_pos hc h
        obtain ⟨v4, ev4⟩ : ∃ y : Int32, y = (v1 + (1 : Int32)) := ⟨_, rfl⟩
        have h := gv_let_e ev4 h
        refine lv_iinc (v := v4) (lv' := [(1, .int v4), (0, .ref (X.1 43))]) hx hb dX6_areOpen_25 hl (k := 1) rfl (by rw [ev4]; rfl) (by decide) rfl (fun ls hl => ?_)
        refine lv_goto (tgt := 2) hx hb dX6_areOpen_28 (by decide) ?_
        exact Kc _ (gv_inj h) _ _ _ hP hS (lv_sub hl [1, 0] rfl)
      · have h := gv_neg hc h
        refine lv_iconst (v := 0) hx hb dX6_areOpen_23 (by decide) ?_
        exact (Ke _ (gv_inj h)).2 _ rfl _ _ _ _ (show narrow .boolean (.int (0 : Int32)) = .int (0 : Int32) by decide) hP hS dX6_areOpen_24
  · intro q hex H locs ls hP hS hl
    have h := h1q5 q hex
    obtain ⟨v5, eq_q⟩ : ∃ y, y = q := ⟨_, rfl⟩
    subst eq_q
    have h := gv_let_e (x := v5) rfl h
    have hP : gw_P X s0 H := hP
    have hl : lv_has ls 2 [] := hl
    refine lv_iconst (v := 1) hx hb dX6_areOpen_31 (by decide) ?_
    exact Kr _ _ _ _ _ (gv_inj h) (show narrow .boolean (.int (1 : Int32)) = .int (1 : Int32) by decide) hP hS dX6_areOpen_32
  · intro r hex H locs ls pc hn hP hS hd
    exact Kr _ _ _ _ _ (h2q5 r hex).symm hn hP hS hd
theorem mX6_areOpen (l : Launch) (X : gw_X) (s0 : gs_S)  {r : Int32} (h : pX6_areOpen s0 = some r) : Met l yX6_areOpen wsX6_areOpen rX6_areOpen (gm_Pc X s0 [.ref (X.1 43)]) (gm_Qi X s0 r) 0 0 (gw_A X) :=
  gm_of RX6 (by decide) rfl rfl (Nat.le_of_ble_eq_true rfl) (fun p e s m below meth c ls C0 hP hl hS => tX6_areOpen C0  s0 h (fun H locs ls pc r hr hn hP hS hd => by subst hr; exact gm_retz hn C0 hP hS hd) hP hS hl)
