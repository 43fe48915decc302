def pX8_add (t0 : Nat) (a1 : Int32) (a2 : Int32) (a3 : Int32) (s0 : gs_S) : Option (gs_S) := gv_in (s0.1 t0 3) 6 (gv_let (gs_u s0 (t0 + 1) (s0.1 t0 3).toNatClampNeg a1) (fun s2 => gv_in (s2.1 t0 3) 6 (gv_let (gs_u s2 (t0 + 2) (s2.1 t0 3).toNatClampNeg a2) (fun s4 => gv_in (s4.1 t0 3) 6 (gv_let (gs_u s4 (t0 + 3) (s4.1 t0 3).toNatClampNeg a3) (fun s6 => gv_let (gs_u s6 t0 3 ((s6.1 t0 3) + (1 : Int32))) (fun s7 => some s7)))))))
def rX8_add : Room := { frames := 0, cells := 0, slots := 0, locals := 0 }
set_option maxHeartbeats 4000000 in
set_option maxRecDepth 100000 in
theorem tX8_add {p : Program} {l : Launch} {e : Env} {s : State} {m : MethodId} {args : Array Value} {below : List Frame} {meth : Method} {c : Code} {X : gw_X} {Q : State → Prop} (C0 : gm_At p s m args meth c X cX8_add 4 RX8 wsX8_add none) (t0 : Nat) (ht0 : gk t0 = 8) (a1 : Int32) (a2 : Int32) (a3 : Int32) (s0 : gs_S) {z : gs_S} (h : pX8_add t0 a1 a2 a3 s0 = some z) (Kr : ∀ (H : Heap) (locs : List Loc) (ls : Array Slot) (pc : Nat) (τ : gs_S), z = τ → gw_P X τ H → va_S (gw_A X) s.heap H locs → decode cX8_add pc = .ok (.return_, 1) → W p l e rX8_add s m args below meth c H locs 0 0 Q (F0 m pc ls [])) {H : Heap} {locs : List Loc} {ls : Array Slot} (hP : gw_P X s0 H) (hS : va_S (gw_A X) s.heap H locs) (hl : lv_has ls 4 [(0, .ref (X.1 t0)), (1, .int a1), (2, .int a2), (3, .int a3)]) : W p l e rX8_add s m args below meth c H locs 0 0 Q (F0 m 0 ls []) := by
  obtain ⟨hx, hb, hml, hown, hts, hr, hlocks, hC⟩ := id C0
  unfold pX8_add at h
  refine lv_aload_n hx hb dX8_add_0 rfl (lv_at hl 0 rfl) ?_
  refine gv_get (ref := "IceByEar$Train") (C := RX8) (T := TX8) (N := 4) (ci := 8) (v := .ref (X.1 (t0 + 1))) C0 (fun _ h9 => List.mem_cons_of_mem _ (List.mem_append_right _ h9)) hP t0 (gw_o8 X s0 ht0) rfl 0 (by decide) (by decide +kernel) rfl rfl dX8_add_1 ?_
  refine lv_aload_n hx hb dX8_add_4 rfl (lv_at hl 0 rfl) ?_
  refine gv_get (ref := "IceByEar$Train") (C := RX8) (T := TX8) (N := 4) (ci := 8) (v := .int (s0.1 t0 3)) C0 (fun _ h9 => List.mem_cons_of_mem _ (List.mem_append_right _ h9)) hP t0 (gw_o8 X s0 ht0) rfl 3 (by decide) (by decide +kernel) rfl rfl dX8_add_5 ?_
  refine lv_iload_n hx hb dX8_add_8 rfl (lv_at hl 1 rfl) ?_
  obtain ⟨hin1, h⟩ := gv_in_e h
  refine gv_iast C0 hP hS (t0 + 1) (gk_o8_0 ht0).1 (gk_o8_0 ht0).2 hin1 dX8_add_9 (fun s2 H locs es2 hP hS => ?_)
  have h := gv_let_e es2 h
  refine lv_aload_n hx hb dX8_add_10 rfl (lv_at hl 0 rfl) ?_
  refine gv_get (ref := "IceByEar$Train") (C := RX8) (T := TX8) (N := 4) (ci := 8) (v := .ref (X.1 (t0 + 2))) C0 (fun _ h9 => List.mem_cons_of_mem _ (List.mem_append_right _ h9)) hP t0 (gw_o8 X s2 ht0) rfl 1 (by decide) (by decide +kernel) rfl rfl dX8_add_11 ?_
  refine lv_aload_n hx hb dX8_add_14 rfl (lv_at hl 0 rfl) ?_
  refine gv_get (ref := "IceByEar$Train") (C := RX8) (T := TX8) (N := 4) (ci := 8) (v := .int (s2.1 t0 3)) C0 (fun _ h9 => List.mem_cons_of_mem _ (List.mem_append_right _ h9)) hP t0 (gw_o8 X s2 ht0) rfl 3 (by decide) (by decide +kernel) rfl rfl dX8_add_15 ?_
  refine lv_iload_n hx hb dX8_add_18 rfl (lv_at hl 2 rfl) ?_
  obtain ⟨hin3, h⟩ := gv_in_e h
  refine gv_iast C0 hP hS (t0 + 2) (gk_o8_1 ht0).1 (gk_o8_1 ht0).2 hin3 dX8_add_19 (fun s4 H locs es4 hP hS => ?_)
  have h := gv_let_e es4 h
  refine lv_aload_n hx hb dX8_add_20 rfl (lv_at hl 0 rfl) ?_
  refine gv_get (ref := "IceByEar$Train") (C := RX8) (T := TX8) (N := 4) (ci := 8) (v := .ref (X.1 (t0 + 3))) C0 (fun _ h9 => List.mem_cons_of_mem _ (List.mem_append_right _ h9)) hP t0 (gw_o8 X s4 ht0) rfl 2 (by decide) (by decide +kernel) rfl rfl dX8_add_21 ?_
  refine lv_aload_n hx hb dX8_add_24 rfl (lv_at hl 0 rfl) ?_
  refine gv_get (ref := "IceByEar$Train") (C := RX8) (T := TX8) (N := 4) (ci := 8) (v := .int (s4.1 t0 3)) C0 (fun _ h9 => List.mem_cons_of_mem _ (List.mem_append_right _ h9)) hP t0 (gw_o8 X s4 ht0) rfl 3 (by decide) (by decide +kernel) rfl rfl dX8_add_25 ?_
  refine lv_iload_n hx hb dX8_add_28 rfl (lv_at hl 3 rfl) ?_
  obtain ⟨hin5, h⟩ := gv_in_e h
  refine gv_iast C0 hP hS (t0 + 3) (gk_o8_2 ht0).1 (gk_o8_2 ht0).2 hin5 dX8_add_29 (fun s6 H locs es6 hP hS => ?_)
  have h := gv_let_e es6 h
  refine lv_aload_n hx hb dX8_add_30 rfl (lv_at hl 0 rfl) ?_
  refine lv_dup hx hb dX8_add_31 rfl ?_
  refine gv_get (ref := "IceByEar$Train") (C := RX8) (T := TX8) (N := 4) (ci := 8) (v := .int (s6.1 t0 3)) C0 (fun _ h9 => List.mem_cons_of_mem _ (List.mem_append_right _ h9)) hP t0 (gw_o8 X s6 ht0) rfl 3 (by decide) (by decide +kernel) rfl rfl dX8_add_32 ?_
  refine lv_iconst (v := 1) hx hb dX8_add_35 (by decide) ?_
  refine lv_iadd hx hb dX8_add_36 ?_
  refine gv_put (ref := "IceByEar$Train") (C := RX8) (T := TX8) (N := 4) (ci := 8) (v := .int ((s6.1 t0 3) + (1 : Int32))) C0 (fun _ h9 => List.mem_cons_of_mem _ (List.mem_append_right _ h9)) tyX8 tyX8_ok nmX8 hP hS t0 (gw_o8 X s6 ht0) rfl 3 (by decide) (by decide +kernel) rfl rfl (tyX8_ok 3 (by decide)) rfl rfl (Nat.le_of_ble_eq_true rfl) (gw_s8_3 ht0 ((s6.1 t0 3) + (1 : Int32))) dX8_add_37 (fun s7 H locs es7 hP hS => ?_)
  have h := gv_let_e es7 h
  exact Kr _ _ _ _ _ (gv_inj h) hP hS dX8_add_40
theorem mX8_add (l : Launch) (X : gw_X) (s0 : gs_S) (t0 : Nat) (ht0 : gk t0 = 8) (a1 : Int32) (a2 : Int32) (a3 : Int32) {τ : gs_S} (h : pX8_add t0 a1 a2 a3 s0 = some τ) : Met l yX8_add wsX8_add rX8_add (gm_Pc X s0 [.ref (X.1 t0), .int a1, .int a2, .int a3]) (gm_Qv X τ) 0 0 (gw_A X) :=
  gm_of RX8 (by decide) rfl rfl (Nat.le_of_ble_eq_true rfl) (fun p e s m below meth c ls C0 hP hl hS => tX8_add C0 t0 ht0 a1 a2 a3 s0 h (fun H locs ls pc τ hr hP hS hd => by subst hr; exact gm_retv C0 hP hS hd) hP hS hl)
def pX0_readSleigh_J72 (v1 : Int32) (v7 : Int32) (v11 : Int32) (s12 : gs_S) : Option (Int32 × gs_S) := if v11 = (-4 : Int32) then some ((0 : Int32), s12) else gv_bind (pX8_add 34 v1 v7 v11 s12) (fun s13 => some ((1 : Int32), s13))
def pX0_readSleigh  (s0 : gs_S) : Option (Int32 × gs_S) := gv_bind2 (pX7_number (1 : Int32) (99 : Int32) s0) (fun v1 s2 => if v1 = (-4 : Int32) then some ((0 : Int32), s2) else gv_bind2 (pX7_takes (112 : Int32) s2) (fun v3 s4 => if v3 = 0 then some ((0 : Int32), s4) else gv_bind (pX7_sign s4) (fun v5 => if (pX10_isWithin (v5.toInt64) (49 : Int32) (57 : Int32)) = 0 then some ((0 : Int32), s4) else gv_bind (pX7_sign s4) (fun v6 => gv_let (v6 - (48 : Int32)) (fun v7 => gv_bind (pX7_pass s4) (fun s8 => gv_bind2 (pX7_takes (109 : Int32) s8) (fun v9 s10 => if v9 = 0 then pX0_readSleigh_J72 v1 v7 (0 : Int32) s10 else gv_bind2 (pX7_number (0 : Int32) (99 : Int32) s10) (fun v14 s15 => pX0_readSleigh_J72 v1 v7 v14 s15))))))))
def rX0_readSleigh : Room := { frames := 3, cells := 0, slots := 0, locals := 67 }
set_option maxHeartbeats 4000000 in
set_option maxRecDepth 100000 in
theorem tX0_readSleigh {p : Program} {l : Launch} {e : Env} {s : State} {m : MethodId} {args : Array Value} {below : List Frame} {meth : Method} {c : Code} {X : gw_X} {Q : State → Prop} (C0 : gm_At p s m args meth c X cX0_readSleigh 5 RX0 wsX0_readSleigh (some .boolean))  (s0 : gs_S) {z : Int32 × gs_S} (h : pX0_readSleigh s0 = some z) (Kr : ∀ (H : Heap) (locs : List Loc) (ls : Array Slot) (pc : Nat) (r : Int32) (τ : gs_S), z = (r, τ) → narrow .boolean (.int r) = .int r → gw_P X τ H → va_S (gw_A X) s.heap H locs → decode cX0_readSleigh pc = .ok (.ireturn, 1) → W p l e rX0_readSleigh s m args below meth c H locs 0 0 Q (F0 m pc ls [.int r])) {H : Heap} {locs : List Loc} {ls : Array Slot} (hP : gw_P X s0 H) (hS : va_S (gw_A X) s.heap H locs) (hl : lv_has ls 5 [(0, .ref (X.1 31)), (1, .ref (X.1 29))]) : W p l e rX0_readSleigh s m args below meth c H locs 0 0 Q (F0 m 0 ls []) := by
  obtain ⟨hx, hb, hml, hown, hts, hr, hlocks, hC⟩ := id C0
  unfold pX0_readSleigh at h
  refine lv_aload_n hx hb dX0_readSleigh_0 rfl (lv_at hl 1 rfl) ?_
  refine lv_iconst (v := 1) hx hb dX0_readSleigh_1 (by decide) ?_
  refine lv_bipush (v := 99) hx hb dX0_readSleigh_2 (by decide) ?_
  obtain ⟨v1, s2, hv1, h⟩ := gv_bind2_e h
  refine gv_ri (gv_runV (n := 2) (rest := []) C0 (mX7_number l X s0 (1 : Int32) (99 : Int32) hv1) gX0_readSleigh_X7_number rfl ⟨rfl, rfl⟩ (by decide +kernel) ⟨by decide, by decide⟩ gk_29.1 (by decide) rfl hP hS rfl hl.1 rfl (Nat.le_of_ble_eq_true rfl) dX0_readSleigh_4 ⟨Nat.zero_le _, Nat.zero_le _⟩) hS (fun H locs hP hS => ?_)
  refine lv_istore_n (lv' := [(2, .int v1), (0, .ref (X.1 31)), (1, .ref (X.1 29))]) hx hb dX0_readSleigh_7 rfl hl (by decide) rfl (fun ls hl => ?_)
  refine lv_iload_n hx hb dX0_readSleigh_8 rfl (lv_at hl 0 rfl) ?_
  refine lv_bipush (v := -4) hx hb dX0_readSleigh_9 (by decide) ?_
  refine lv_icmp_eq (tgt := 38) hx hb dX0_readSleigh_11 (by decide) (fun hc => ?_) (fun hc => ?_)
  · have h := gv_pos hc h
    refine lv_iconst (v := 0) hx hb dX0_readSleigh_38 (by decide) ?_
    exact Kr _ _ _ _ _ _ (gv_inj h) (show narrow .boolean (.int (0 : Int32)) = .int (0 : Int32) by decide) hP hS dX0_readSleigh_39
  · have h := gv_neg hc h
    refine lv_aload_n hx hb dX0_readSleigh_14 rfl (lv_at hl 2 rfl) ?_
    refine lv_bipush (v := 112) hx hb dX0_readSleigh_15 (by decide) ?_
    obtain ⟨v3, s4, hv3, h⟩ := gv_bind2_e h
    refine gv_ri (gv_runV (n := 1) (rest := []) C0 (mX7_takes l X s2 (112 : Int32) hv3) gX0_readSleigh_X7_takes rfl ⟨rfl, rfl⟩ (by decide +kernel) ⟨by decide, by decide⟩ gk_29.1 (by decide) rfl hP hS rfl hl.1 rfl (Nat.le_of_ble_eq_true rfl) dX0_readSleigh_17 ⟨Nat.zero_le _, Nat.zero_le _⟩) hS (fun H locs hP hS => ?_)
    refine lv_if_eq (tgt := 38) hx hb dX0_readSleigh_20 (by decide) (fun hc => ?_) (fun hc => ?_)
    · have h := gv_pos hc h
      refine lv_iconst (v := 0) hx hb dX0_readSleigh_38 (by decide) ?_
      exact Kr _ _ _ _ _ _ (gv_inj h) (show narrow .boolean (.int (0 : Int32)) = .int (0 : Int32) by decide) hP hS dX0_readSleigh_39
    · have h := gv_neg hc h
      refine lv_aload_n hx hb dX0_readSleigh_23 rfl (lv_at hl 2 rfl) ?_
      obtain ⟨v5, hv5, h⟩ := gv_bind_e h
      refine gv_ri (gv_runV (n := 0) (rest := []) C0 (mX7_sign l X s4  hv5) gX0_readSleigh_X7_sign rfl ⟨rfl, rfl⟩ (by decide +kernel) ⟨by decide, by decide⟩ gk_29.1 (by decide) rfl hP hS rfl hl.1 rfl (Nat.le_of_ble_eq_true rfl) dX0_readSleigh_24 ⟨Nat.zero_le _, Nat.zero_le _⟩) hS (fun H locs hP hS => ?_)
      refine lv_i2l hx hb dX0_readSleigh_27 rfl ?_
      refine lv_bipush (v := 49) hx hb dX0_readSleigh_28 (by decide) ?_
      refine lv_bipush (v := 57) hx hb dX0_readSleigh_30 (by decide) ?_
      refine gv_ri (gv_runN (n := 3) (rest := []) (host := "IceByEar") C0 (mX10_isWithin l X s4 (v5.toInt64) (49 : Int32) (57 : Int32)) gX0_readSleigh_X10_isWithin_n88 rfl ⟨rfl, rfl⟩ (by decide +kernel) ⟨by decide +kernel, by decide +kernel⟩ (by decide +kernel) ⟨by decide, by decide⟩ hP hS rfl hl.1 rfl (Nat.le_of_ble_eq_true rfl) dX0_readSleigh_32 ⟨Nat.zero_le _, Nat.zero_le _⟩) hS (fun H locs hP hS => ?_)
      refine lv_if_ne (tgt := 40) hx hb dX0_readSleigh_35 (by decide) (fun hc => ?_) (fun hc => ?_)
      · have h := gv_neg hc h
        refine lv_aload_n hx hb dX0_readSleigh_40 rfl (lv_at hl 2 rfl) ?_
        obtain ⟨v6, hv6, h⟩ := gv_bind_e h
        refine gv_ri (gv_runV (n := 0) (rest := []) C0 (mX7_sign l X s4  hv6) gX0_readSleigh_X7_sign rfl ⟨rfl, rfl⟩ (by decide +kernel) ⟨by decide, by decide⟩ gk_29.1 (by decide) rfl hP hS rfl hl.1 rfl (Nat.le_of_ble_eq_true rfl) dX0_readSleigh_41 ⟨Nat.zero_le _, Nat.zero_le _⟩) hS (fun H locs hP hS => ?_)
        refine lv_bipush (v := 48) hx hb dX0_readSleigh_44 (by decide) ?_
        refine lv_isub hx hb dX0_readSleigh_46 ?_
        refine lv_topi (fun v7 ev7 => ?_)
        have h := gv_let_e ev7 h
        refine lv_istore_n (lv' := [(3, .int v7), (2, .int v1), (0, .ref (X.1 31)), (1, .ref (X.1 29))]) hx hb dX0_readSleigh_47 rfl hl (by decide) rfl (fun ls hl => ?_)
        refine lv_aload_n hx hb dX0_readSleigh_48 rfl (lv_at hl 3 rfl) ?_
        obtain ⟨s8, hs8, h⟩ := gv_bind_e h
        refine gv_rv (gv_runV (n := 0) (rest := []) C0 (mX7_pass l X s4  hs8) gX0_readSleigh_X7_pass rfl ⟨rfl, rfl⟩ (by decide +kernel) ⟨by decide, by decide⟩ gk_29.1 (by decide) rfl hP hS rfl hl.1 rfl (Nat.le_of_ble_eq_true rfl) dX0_readSleigh_49 ⟨Nat.zero_le _, Nat.zero_le _⟩) hS (fun H locs hP hS => ?_)
        refine lv_aload_n hx hb dX0_readSleigh_52 rfl (lv_at hl 3 rfl) ?_
        refine lv_bipush (v := 109) hx hb dX0_readSleigh_53 (by decide) ?_
        obtain ⟨v9, s10, hv9, h⟩ := gv_bind2_e h
        refine gv_ri (gv_runV (n := 1) (rest := []) C0 (mX7_takes l X s8 (109 : Int32) hv9) gX0_readSleigh_X7_takes rfl ⟨rfl, rfl⟩ (by decide +kernel) ⟨by decide, by decide⟩ gk_29.1 (by decide) rfl hP hS rfl hl.1 rfl (Nat.le_of_ble_eq_true rfl) dX0_readSleigh_55 ⟨Nat.zero_le _, Nat.zero_le _⟩) hS (fun H locs hP hS => ?_)
        have J72 : ∀ (v11 : Int32) (s12 : gs_S) (H : Heap) (locs : List Loc) (ls : Array Slot), pX0_readSleigh_J72 v1 v7 v11 s12 = some z → gw_P X s12 H → va_S (gw_A X) s.heap H locs → lv_has ls 5 [(3, .int v7), (2, .int v1), (0, .ref (X.1 31))] → W p l e rX0_readSleigh s m args below meth c H locs 0 0 Q (F0 m 72 ls [.int v11]) := by
          intro v11 s12 H locs ls h hP hS hl
          unfold pX0_readSleigh_J72 at h
          refine lv_istore (lv' := [(4, .int v11), (3, .int v7), (2, .int v1), (0, .ref (X.1 31))]) hx hb dX0_readSleigh_72 hl (by decide) rfl (fun ls hl => ?_)
          refine lv_iload hx hb dX0_readSleigh_74 (lv_at hl 0 rfl) ?_
          refine lv_bipush (v := -4) hx hb dX0_readSleigh_76 (by decide) ?_
          refine lv_icmp_ne (tgt := 83) hx hb dX0_readSleigh_78 (by decide) (fun hc => ?_) (fun hc => ?_)
          · have h := gv_neg hc h
            refine lv_aload_n hx hb dX0_readSleigh_83 rfl (lv_at hl 3 rfl) ?_
            refine gv_get (ref := "IceByEar$Drafts") (C := RX0) (T := TX0) (N := 3) (ci := 0) (v := .ref (X.1 34)) C0 (fun _ h9 => List.mem_cons_of_mem _ (List.mem_append_left _ (List.mem_append_left _ (List.mem_append_right _ h9)))) hP 31 (gw_o0 X s12 gk_31.1) rfl 2 (by decide) (by decide +kernel) rfl rfl dX0_readSleigh_84 ?_
            refine lv_iload_n hx hb dX0_readSleigh_87 rfl (lv_at hl 2 rfl) ?_
            refine lv_iload_n hx hb dX0_readSleigh_88 rfl (lv_at hl 1 rfl) ?_
            refine lv_iload hx hb dX0_readSleigh_89 (lv_at hl 0 rfl) ?_
            obtain ⟨s13, hs13, h⟩ := gv_bind_e h
            refine gv_rv (gv_runV (n := 3) (rest := []) C0 (mX8_add l X s12 34 gk_34.1 v1 v7 v11 hs13) gX0_readSleigh_X8_add rfl ⟨rfl, rfl⟩ (by decide +kernel) ⟨by decide, by decide⟩ gk_34.1 (by decide) rfl hP hS rfl hl.1 rfl (Nat.le_of_ble_eq_true rfl) dX0_readSleigh_91 ⟨Nat.zero_le _, Nat.zero_le _⟩) hS (fun H locs hP hS => ?_)
            refine lv_iconst (v := 1) hx hb dX0_readSleigh_94 (by decide) ?_
            exact Kr _ _ _ _ _ _ (gv_inj h) (show narrow .boolean (.int (1 : Int32)) = .int (1 : Int32) by decide) hP hS dX0_readSleigh_95
          · have h := gv_pos hc h
            refine lv_iconst (v := 0) hx hb dX0_readSleigh_81 (by decide) ?_
            exact Kr _ _ _ _ _ _ (gv_inj h) (show narrow .boolean (.int (0 : Int32)) = .int (0 : Int32) by decide) hP hS dX0_readSleigh_82
        refine lv_if_eq (tgt := 71) hx hb dX0_readSleigh_58 (by decide) (fun hc => ?_) (fun hc => ?_)
        · have h := gv_pos hc h
          refine lv_iconst (v := 0) hx hb dX0_readSleigh_71 (by decide) ?_
          exact J72 (0 : Int32) s10 _ _ _ h hP hS (lv_sub hl [0, 1, 2] rfl)
        · have h := gv_neg hc h
          refine lv_aload_n hx hb dX0_readSleigh_61 rfl (lv_at hl 3 rfl) ?_
          refine lv_iconst (v := 0) hx hb dX0_readSleigh_62 (by decide) ?_
          refine lv_bipush (v := 99) hx hb dX0_readSleigh_63 (by decide) ?_
          obtain ⟨v14, s15, hv14, h⟩ := gv_bind2_e h
          refine gv_ri (gv_runV (n := 2) (rest := []) C0 (mX7_number l X s10 (0 : Int32) (99 : Int32) hv14) gX0_readSleigh_X7_number rfl ⟨rfl, rfl⟩ (by decide +kernel) ⟨by decide, by decide⟩ gk_29.1 (by decide) rfl hP hS rfl hl.1 rfl (Nat.le_of_ble_eq_true rfl) dX0_readSleigh_65 ⟨Nat.zero_le _, Nat.zero_le _⟩) hS (fun H locs hP hS => ?_)
          refine lv_goto (tgt := 72) hx hb dX0_readSleigh_68 (by decide) ?_
          exact J72 v14 s15 _ _ _ h hP hS (lv_sub hl [0, 1, 2] rfl)
      · have h := gv_pos hc h
        refine lv_iconst (v := 0) hx hb dX0_readSleigh_38 (by decide) ?_
        exact Kr _ _ _ _ _ _ (gv_inj h) (show narrow .boolean (.int (0 : Int32)) = .int (0 : Int32) by decide) hP hS dX0_readSleigh_39
theorem mX0_readSleigh (l : Launch) (X : gw_X) (s0 : gs_S)  {r : Int32} {τ : gs_S} (h : pX0_readSleigh s0 = some (r, τ)) : Met l yX0_readSleigh wsX0_readSleigh rX0_readSleigh (gm_Pc X s0 [.ref (X.1 31), .ref (X.1 29)]) (gm_Qi X τ r) 0 0 (gw_A X) :=
  gm_of RX0 (by decide) rfl rfl (Nat.le_of_ble_eq_true rfl) (fun p e s m below meth c ls C0 hP hl hS => tX0_readSleigh C0  s0 h (fun H locs ls pc r τ hr hn hP hS hd => by cases hr; exact gm_retz hn C0 hP hS hd) hP hS hl)
def pX0_readTrain_L14  (v3 : Int32) (s4 : gs_S) : Option ((Int32 × gs_S) ⊕ ((Int32 × gs_S) ⊕ (Int32 × gs_S))) := if (6 : Int32) ≤ v3 then some (.inr (.inl (v3, s4))) else gv_bind2 (pX0_readSleigh s4) (fun v5 s6 => if v5 = 0 then some (.inr (.inl (v3, s6))) else gv_bind (pX7_sign s6) (fun v7 => if v7 = (-1 : Int32) then some (.inr (.inr ((s6.1 34 3), s6))) else if v3 = (5 : Int32) then some (.inr (.inl (v3, s6))) else gv_bind2 (pX7_takes (44 : Int32) s6) (fun v8 s9 => if v8 = 0 then some (.inr (.inl (v3, s9))) else gv_let (v3 + (1 : Int32)) (fun v10 => some (.inl (v10, s9))))))
def pX0_readTrain  (s0 : gs_S) : Option (Int32 × gs_S) := gv_let (gs_u s0 34 3 (0 : Int32)) (fun s1 => gv_bind (pX7_rewind s1) (fun s2 => gv_bret (gv_loop (fun q => pX0_readTrain_L14 q.1 q.2) gv_N ((0 : Int32), s2)) (fun r => r) (fun q => gv_let q.1 (fun v11 => gv_let q.2 (fun s12 => some ((pX7_fault s12), s12))))))
def rX0_readTrain : Room := { frames := 4, cells := 0, slots := 0, locals := 91 }
set_option maxHeartbeats 4000000 in
set_option maxRecDepth 100000 in
theorem tX0_readTrain {p : Program} {l : Launch} {e : Env} {s : State} {m : MethodId} {args : Array Value} {below : List Frame} {meth : Method} {c : Code} {X : gw_X} {Q : State → Prop} (C0 : gm_At p s m args meth c X cX0_readTrain 3 RX0 wsX0_readTrain (some .int))  (s0 : gs_S) {z : Int32 × gs_S} (h : pX0_readTrain s0 = some z) (Kr : ∀ (H : Heap) (locs : List Loc) (ls : Array Slot) (pc : Nat) (r : Int32) (τ : gs_S), z = (r, τ) → gw_P X τ H → va_S (gw_A X) s.heap H locs → decode cX0_readTrain pc = .ok (.ireturn, 1) → W p l e rX0_readTrain s m args below meth c H locs 0 0 Q (F0 m pc ls [.int r])) {H : Heap} {locs : List Loc} {ls : Array Slot} (hP : gw_P X s0 H) (hS : va_S (gw_A X) s.heap H locs) (hl : lv_has ls 3 [(0, .ref (X.1 31)), (1, .ref (X.1 29))]) : W p l e rX0_readTrain s m args below meth c H locs 0 0 Q (F0 m 0 ls []) := by
  obtain ⟨hx, hb, hml, hown, hts, hr, hlocks, hC⟩ := id C0
  unfold pX0_readTrain at h
  refine lv_aload_n hx hb dX0_readTrain_0 rfl (lv_at hl 0 rfl) ?_
  refine gv_get (ref := "IceByEar$Drafts") (C := RX0) (T := TX0) (N := 3) (ci := 0) (v := .ref (X.1 34)) C0 (fun _ h9 => List.mem_cons_of_mem _ (List.mem_append_left _ (List.mem_append_left _ (List.mem_append_right _ h9)))) hP 31 (gw_o0 X s0 gk_31.1) rfl 2 (by decide) (by decide +kernel) rfl rfl dX0_readTrain_1 ?_
  refine lv_iconst (v := 0) hx hb dX0_readTrain_4 (by decide) ?_
  refine gv_put (ref := "IceByEar$Train") (C := RX8) (T := TX8) (N := 4) (ci := 8) (v := .int (0 : Int32)) C0 (fun _ h9 => List.mem_cons_of_mem _ (List.mem_append_left _ (List.mem_append_right _ h9))) tyX8 tyX8_ok nmX8 hP hS 34 (gw_o8 X s0 gk_34.1) rfl 3 (by decide) (by decide +kernel) rfl rfl (tyX8_ok 3 (by decide)) rfl rfl (Nat.le_of_ble_eq_true rfl) (gw_s8_3 gk_34.1 (0 : Int32)) dX0_readTrain_5 (fun s1 H locs es1 hP hS => ?_)
  have h := gv_let_e es1 h
  refine lv_aload_n hx hb dX0_readTrain_8 rfl (lv_at hl 1 rfl) ?_
  obtain ⟨s2, hs2, h⟩ := gv_bind_e h
  refine gv_rv (gv_runV (n := 0) (rest := []) C0 (mX7_rewind l X s1  hs2) gX0_readTrain_X7_rewind rfl ⟨rfl, rfl⟩ (by decide +kernel) ⟨by decide, by decide⟩ gk_29.1 (by decide) rfl hP hS rfl hl.1 rfl (Nat.le_of_ble_eq_true rfl) dX0_readTrain_9 ⟨Nat.zero_le _, Nat.zero_le _⟩) hS (fun H locs hP hS => ?_)
  refine lv_iconst (v := 0) hx hb dX0_readTrain_12 (by decide) ?_
  refine lv_istore_n (lv' := [(2, .int (0 : Int32)), (0, .ref (X.1 31)), (1, .ref (X.1 29))]) hx hb dX0_readTrain_13 rfl hl (by decide) rfl (fun ls hl => ?_)
  obtain ⟨q12, hq12, h1q12, h2q12⟩ := gv_bret_e h
  refine gv_loop_ind (Φ := fun q => ∀ (H : Heap) (locs : List Loc) (ls : Array Slot), gw_P X q.2 H → va_S (gw_A X) s.heap H locs → lv_has ls 3 [(0, .ref (X.1 31)), (1, .ref (X.1 29)), (2, .int q.1)] → W p l e rX0_readTrain s m args below meth c H locs 0 0 Q (F0 m 14 ls [])) (Ψ := fun ex => (∀ q : Int32 × gs_S, ex = .inl q → ∀ (H : Heap) (locs : List Loc) (ls : Array Slot), gw_P X q.2 H → va_S (gw_A X) s.heap H locs → lv_has ls 3 [(1, .ref (X.1 29))] → W p l e rX0_readTrain s m args below meth c H locs 0 0 Q (F0 m 70 ls [])) ∧ (∀ r : Int32 × gs_S, ex = .inr r → ∀ (H : Heap) (locs : List Loc) (ls : Array Slot) (pc : Nat), gw_P X r.2 H → va_S (gw_A X) s.heap H locs → decode cX0_readTrain pc = .ok (.ireturn, 1) → W p l e rX0_readTrain s m args below meth c H locs 0 0 Q (F0 m pc ls [.int r.1]))) ?_ gv_N ((0 : Int32), s2) q12 hq12 ⟨?_, ?_⟩ H locs ls hP hS (lv_sub hl [1, 2, 0] rfl)
  · intro q x h Kc Ke H locs ls hP hS hl
    obtain ⟨v3, s4⟩ := q
    have h : pX0_readTrain_L14 v3 s4 = some x := h
    have hP : gw_P X s4 H := hP
    have hl : lv_has ls 3 [(0, .ref (X.1 31)), (1, .ref (X.1 29)), (2, .int v3)] := hl
    unfold pX0_readTrain_L14 at h
    refine lv_iload_n hx hb dX0_readTrain_14 rfl (lv_at hl 2 rfl) ?_
    refine lv_bipush (v := 6) hx hb dX0_readTrain_15 (by decide) ?_
    refine lv_icmp_ge (tgt := 70) hx hb dX0_readTrain_17 (by decide) (fun hc => ?_) (fun hc => ?_)
    · have h := gv_pos hc h
      exact (Ke _ (gv_inj h)).1 _ rfl _ _ _ hP hS (lv_sub hl [1] rfl)
    · have h := gv_neg hc h
      refine lv_aload_n hx hb dX0_readTrain_20 rfl (lv_at hl 0 rfl) ?_
      refine lv_aload_n hx hb dX0_readTrain_21 rfl (lv_at hl 1 rfl) ?_
      obtain ⟨v5, s6, hv5, h⟩ := gv_bind2_e h
      refine gv_ri (gv_runV (n := 1) (rest := []) C0 (mX0_readSleigh l X s4  hv5) gX0_readTrain_X0_readSleigh rfl ⟨rfl, rfl⟩ (by decide +kernel) ⟨by decide, by decide⟩ gk_31.1 (by decide) rfl hP hS rfl hl.1 rfl (Nat.le_of_ble_eq_true rfl) dX0_readTrain_22 ⟨Nat.zero_le _, Nat.zero_le _⟩) hS (fun H locs hP hS => ?_)
      refine lv_if_ne (tgt := 31) hx hb dX0_readTrain_25 (by decide) (fun hc => ?_) (fun hc => ?_)
      · have h := gv_neg hc h
        refine lv_aload_n hx hb dX0_readTrain_31 rfl (lv_at hl 1 rfl) ?_
        obtain ⟨v7, hv7, h⟩ := gv_bind_e h
        refine gv_ri (gv_runV (n := 0) (rest := []) C0 (mX7_sign l X s6  hv7) gX0_readTrain_X7_sign rfl ⟨rfl, rfl⟩ (by decide +kernel) ⟨by decide, by decide⟩ gk_29.1 (by decide) rfl hP hS rfl hl.1 rfl (Nat.le_of_ble_eq_true rfl) dX0_readTrain_32 ⟨Nat.zero_le _, Nat.zero_le _⟩) hS (fun H locs hP hS => ?_)
        refine lv_iconst (v := -1) hx hb dX0_readTrain_35 (by decide) ?_
        refine lv_icmp_ne (tgt := 47) hx hb dX0_readTrain_36 (by decide) (fun hc => ?_) (fun hc => ?_)
        · have h := gv_neg hc h
          refine lv_iload_n hx hb dX0_readTrain_47 rfl (lv_at hl 2 rfl) ?_
          refine lv_iconst (v := 5) hx hb dX0_readTrain_48 (by decide) ?_
          refine lv_icmp_eq (tgt := 70) hx hb dX0_readTrain_49 (by decide) (fun hc => ?_) (fun hc => ?_)
          · have h := gv_pos hc h
            exact (Ke _ (gv_inj h)).1 _ rfl _ _ _ hP hS (lv_sub hl [1] rfl)
          · have h := gv_neg hc h
            refine lv_aload_n hx hb dX0_readTrain_52 rfl (lv_at hl 1 rfl) ?_
            refine lv_bipush (v := 44) hx hb dX0_readTrain_53 (by decide) ?_
            obtain ⟨v8, s9, hv8, h⟩ := gv_bind2_e h
            refine gv_ri (gv_runV (n := 1) (rest := []) C0 (mX7_takes l X s6 (44 : Int32) hv8) gX0_readTrain_X7_takes rfl ⟨rfl, rfl⟩ (by decide +kernel) ⟨by decide, by decide⟩ gk_29.1 (by decide) rfl hP hS rfl hl.1 rfl (Nat.le_of_ble_eq_true rfl) dX0_readTrain_55 ⟨Nat.zero_le _, Nat.zero_le _⟩) hS (fun H locs hP hS => ?_)
            refine lv_if_ne (tgt := 64) hx hb dX0_readTrain_58 (by decide) (fun hc => ?_) (fun hc => ?_)
            · have h := gv_neg hc h
              obtain ⟨v10, ev10⟩ : ∃ y : Int32, y = (v3 + (1 : Int32)) := ⟨_, rfl⟩
              have h := gv_let_e ev10 h
              refine lv_iinc (v := v10) (lv' := [(2, .int v10), (0, .ref (X.1 31)), (1, .ref (X.1 29))]) hx hb dX0_readTrain_64 hl (k := 2) rfl (by rw [ev10]; rfl) (by decide) rfl (fun ls hl => ?_)
              refine lv_goto (tgt := 14) hx hb dX0_readTrain_67 (by decide) ?_
              exact Kc _ (gv_inj h) _ _ _ hP hS (lv_sub hl [1, 2, 0] rfl)
            · have h := gv_pos hc h
              refine lv_goto (tgt := 70) hx hb dX0_readTrain_61 (by decide) ?_
              exact (Ke _ (gv_inj h)).1 _ rfl _ _ _ hP hS (lv_sub hl [1] rfl)
        · have h := gv_pos hc h
          refine lv_aload_n hx hb dX0_readTrain_39 rfl (lv_at hl 0 rfl) ?_
          refine gv_get (ref := "IceByEar$Drafts") (C := RX0) (T := TX0) (N := 3) (ci := 0) (v := .ref (X.1 34)) C0 (fun _ h9 => List.mem_cons_of_mem _ (List.mem_append_left _ (List.mem_append_left _ (List.mem_append_right _ h9)))) hP 31 (gw_o0 X s6 gk_31.1) rfl 2 (by decide) (by decide +kernel) rfl rfl dX0_readTrain_40 ?_
          refine gv_get (ref := "IceByEar$Train") (C := RX8) (T := TX8) (N := 4) (ci := 8) (v := .int (s6.1 34 3)) C0 (fun _ h9 => List.mem_cons_of_mem _ (List.mem_append_left _ (List.mem_append_right _ h9))) hP 34 (gw_o8 X s6 gk_34.1) rfl 3 (by decide) (by decide +kernel) rfl rfl dX0_readTrain_43 ?_
          exact (Ke _ (gv_inj h)).2 _ rfl _ _ _ _ hP hS dX0_readTrain_46
      · have h := gv_pos hc h
        refine lv_goto (tgt := 70) hx hb dX0_readTrain_28 (by decide) ?_
        exact (Ke _ (gv_inj h)).1 _ rfl _ _ _ hP hS (lv_sub hl [1] rfl)
  · intro q hex H locs ls hP hS hl
    have h := h1q12 q hex
    obtain ⟨v11, s12⟩ := q
    have h := gv_let_e (x := v11) rfl h
    have h := gv_let_e (x := s12) rfl h
    have hP : gw_P X s12 H := hP
    have hl : lv_has ls 3 [(1, .ref (X.1 29))] := hl
    refine lv_aload_n hx hb dX0_readTrain_70 rfl (lv_at hl 0 rfl) ?_
    refine gv_ri (gv_runV (n := 0) (rest := []) C0 (mX7_fault l X s12 ) gX0_readTrain_X7_fault rfl ⟨rfl, rfl⟩ (by decide +kernel) ⟨by decide, by decide⟩ gk_29.1 (by decide) rfl hP hS rfl hl.1 rfl (Nat.le_of_ble_eq_true rfl) dX0_readTrain_71 ⟨Nat.zero_le _, Nat.zero_le _⟩) hS (fun H locs hP hS => ?_)
    exact Kr _ _ _ _ _ _ (gv_inj h) hP hS dX0_readTrain_74
  · intro r hex H locs ls pc hP hS hd
    exact Kr _ _ _ _ _ _ (h2q12 r hex).symm hP hS hd
theorem mX0_readTrain (l : Launch) (X : gw_X) (s0 : gs_S)  {r : Int32} {τ : gs_S} (h : pX0_readTrain s0 = some (r, τ)) : Met l yX0_readTrain wsX0_readTrain rX0_readTrain (gm_Pc X s0 [.ref (X.1 31), .ref (X.1 29)]) (gm_Qi X τ r) 0 0 (gw_A X) :=
  gm_of RX0 (by decide) rfl rfl (Nat.le_of_ble_eq_true rfl) (fun p e s m below meth c ls C0 hP hl hS => tX0_readTrain C0  s0 h (fun H locs ls pc r τ hr hP hS hd => by cases hr; exact gm_reti C0 hP hS hd) hP hS hl)
def pX8_copy (t0 : Nat) (t1 : Nat) (s0 : gs_S) : Option (gs_S) := gv_cp (0 : Int32) (0 : Int32) (6 : Int32) 6 6 (gv_let (gs_w s0 (t0 + 1) (va_cpy (s0.1 (t1 + 1)) (s0.1 (t0 + 1)) (0 : Int32).toNatClampNeg (0 : Int32).toNatClampNeg (6 : Int32).toNatClampNeg)) (fun s2 => gv_cp (0 : Int32) (0 : Int32) (6 : Int32) 6 6 (gv_let (gs_w s2 (t0 + 2) (va_cpy (s2.1 (t1 + 2)) (s2.1 (t0 + 2)) (0 : Int32).toNatClampNeg (0 : Int32).toNatClampNeg (6 : Int32).toNatClampNeg)) (fun s4 => gv_cp (0 : Int32) (0 : Int32) (6 : Int32) 6 6 (gv_let (gs_w s4 (t0 + 3) (va_cpy (s4.1 (t1 + 3)) (s4.1 (t0 + 3)) (0 : Int32).toNatClampNeg (0 : Int32).toNatClampNeg (6 : Int32).toNatClampNeg)) (fun s6 => gv_let (gs_u s6 t0 3 (s6.1 t1 3)) (fun s7 => some s7)))))))
def rX8_copy : Room := { frames := 1, cells := 0, slots := 0, locals := 40 }
set_option maxHeartbeats 4000000 in
set_option maxRecDepth 100000 in
theorem tX8_copy {p : Program} {l : Launch} {e : Env} {s : State} {m : MethodId} {args : Array Value} {below : List Frame} {meth : Method} {c : Code} {X : gw_X} {Q : State → Prop} (C0 : gm_At p s m args meth c X cX8_copy 2 RX8 wsX8_copy none) (t0 : Nat) (ht0 : gk t0 = 8) (t1 : Nat) (ht1 : gk t1 = 8) (s0 : gs_S) {z : gs_S} (h : pX8_copy t0 t1 s0 = some z) (Kr : ∀ (H : Heap) (locs : List Loc) (ls : Array Slot) (pc : Nat) (τ : gs_S), z = τ → gw_P X τ H → va_S (gw_A X) s.heap H locs → decode cX8_copy pc = .ok (.return_, 1) → W p l e rX8_copy s m args below meth c H locs 0 0 Q (F0 m pc ls [])) {H : Heap} {locs : List Loc} {ls : Array Slot} (hP : gw_P X s0 H) (hS : va_S (gw_A X) s.heap H locs) (hl : lv_has ls 2 [(0, .ref (X.1 t0)), (1, .ref (X.1 t1))]) : W p l e rX8_copy s m args below meth c H locs 0 0 Q (F0 m 0 ls []) := by
  obtain ⟨hx, hb, hml, hown, hts, hr, hlocks, hC⟩ := id C0
  unfold pX8_copy at h
  refine lv_aload_n hx hb dX8_copy_0 rfl (lv_at hl 1 rfl) ?_
  refine gv_get (ref := "IceByEar$Train") (C := RX8) (T := TX8) (N := 4) (ci := 8) (v := .ref (X.1 (t1 + 1))) C0 (fun _ h9 => List.mem_cons_of_mem _ (List.mem_append_right _ h9)) hP t1 (gw_o8 X s0 ht1) rfl 0 (by decide) (by decide +kernel) rfl rfl dX8_copy_1 ?_
  refine lv_iconst (v := 0) hx hb dX8_copy_4 (by decide) ?_
  refine lv_aload_n hx hb dX8_copy_5 rfl (lv_at hl 0 rfl) ?_
  refine gv_get (ref := "IceByEar$Train") (C := RX8) (T := TX8) (N := 4) (ci := 8) (v := .ref (X.1 (t0 + 1))) C0 (fun _ h9 => List.mem_cons_of_mem _ (List.mem_append_right _ h9)) hP t0 (gw_o8 X s0 ht0) rfl 0 (by decide) (by decide +kernel) rfl rfl dX8_copy_6 ?_
  refine lv_iconst (v := 0) hx hb dX8_copy_9 (by decide) ?_
  refine lv_bipush (v := 6) hx hb dX8_copy_10 (by decide) ?_
  obtain ⟨hcp1, h⟩ := gv_cp_e h
  refine gv_copy C0 hl.1 (by decide +kernel) hP hS (t1 + 1) (t0 + 1) (gk_o8_0 ht1).1 (gk_o8_0 ht1).2 (gk_o8_0 ht0).1 (gk_o8_0 ht0).2 hcp1 (by decide) (by decide +kernel) dX8_copy_12 (fun s2 H locs es2 hP hS => ?_)
  have h := gv_let_e es2 h
  refine lv_aload_n hx hb dX8_copy_15 rfl (lv_at hl 1 rfl) ?_
  refine gv_get (ref := "IceByEar$Train") (C := RX8) (T := TX8) (N := 4) (ci := 8) (v := .ref (X.1 (t1 + 2))) C0 (fun _ h9 => List.mem_cons_of_mem _ (List.mem_append_right _ h9)) hP t1 (gw_o8 X s2 ht1) rfl 1 (by decide) (by decide +kernel) rfl rfl dX8_copy_16 ?_
  refine lv_iconst (v := 0) hx hb dX8_copy_19 (by decide) ?_
  refine lv_aload_n hx hb dX8_copy_20 rfl (lv_at hl 0 rfl) ?_
  refine gv_get (ref := "IceByEar$Train") (C := RX8) (T := TX8) (N := 4) (ci := 8) (v := .ref (X.1 (t0 + 2))) C0 (fun _ h9 => List.mem_cons_of_mem _ (List.mem_append_right _ h9)) hP t0 (gw_o8 X s2 ht0) rfl 1 (by decide) (by decide +kernel) rfl rfl dX8_copy_21 ?_
  refine lv_iconst (v := 0) hx hb dX8_copy_24 (by decide) ?_
  refine lv_bipush (v := 6) hx hb dX8_copy_25 (by decide) ?_
  obtain ⟨hcp3, h⟩ := gv_cp_e h
  refine gv_copy C0 hl.1 (by decide +kernel) hP hS (t1 + 2) (t0 + 2) (gk_o8_1 ht1).1 (gk_o8_1 ht1).2 (gk_o8_1 ht0).1 (gk_o8_1 ht0).2 hcp3 (by decide) (by decide +kernel) dX8_copy_27 (fun s4 H locs es4 hP hS => ?_)
  have h := gv_let_e es4 h
  refine lv_aload_n hx hb dX8_copy_30 rfl (lv_at hl 1 rfl) ?_
  refine gv_get (ref := "IceByEar$Train") (C := RX8) (T := TX8) (N := 4) (ci := 8) (v := .ref (X.1 (t1 + 3))) C0 (fun _ h9 => List.mem_cons_of_mem _ (List.mem_append_right _ h9)) hP t1 (gw_o8 X s4 ht1) rfl 2 (by decide) (by decide +kernel) rfl rfl dX8_copy_31 ?_
  refine lv_iconst (v := 0) hx hb dX8_copy_34 (by decide) ?_
  refine lv_aload_n hx hb dX8_copy_35 rfl (lv_at hl 0 rfl) ?_
  refine gv_get (ref := "IceByEar$Train") (C := RX8) (T := TX8) (N := 4) (ci := 8) (v := .ref (X.1 (t0 + 3))) C0 (fun _ h9 => List.mem_cons_of_mem _ (List.mem_append_right _ h9)) hP t0 (gw_o8 X s4 ht0) rfl 2 (by decide) (by decide +kernel) rfl rfl dX8_copy_36 ?_
  refine lv_iconst (v := 0) hx hb dX8_copy_39 (by decide) ?_
  refine lv_bipush (v := 6) hx hb dX8_copy_40 (by decide) ?_
  obtain ⟨hcp5, h⟩ := gv_cp_e h
  refine gv_copy C0 hl.1 (by decide +kernel) hP hS (t1 + 3) (t0 + 3) (gk_o8_2 ht1).1 (gk_o8_2 ht1).2 (gk_o8_2 ht0).1 (gk_o8_2 ht0).2 hcp5 (by decide) (by decide +kernel) dX8_copy_42 (fun s6 H locs es6 hP hS => ?_)
  have h := gv_let_e es6 h
  refine lv_aload_n hx hb dX8_copy_45 rfl (lv_at hl 0 rfl) ?_
  refine lv_aload_n hx hb dX8_copy_46 rfl (lv_at hl 1 rfl) ?_
  refine gv_get (ref := "IceByEar$Train") (C := RX8) (T := TX8) (N := 4) (ci := 8) (v := .int (s6.1 t1 3)) C0 (fun _ h9 => List.mem_cons_of_mem _ (List.mem_append_right _ h9)) hP t1 (gw_o8 X s6 ht1) rfl 3 (by decide) (by decide +kernel) rfl rfl dX8_copy_47 ?_
  refine gv_put (ref := "IceByEar$Train") (C := RX8) (T := TX8) (N := 4) (ci := 8) (v := .int (s6.1 t1 3)) C0 (fun _ h9 => List.mem_cons_of_mem _ (List.mem_append_right _ h9)) tyX8 tyX8_ok nmX8 hP hS t0 (gw_o8 X s6 ht0) rfl 3 (by decide) (by decide +kernel) rfl rfl (tyX8_ok 3 (by decide)) rfl rfl (Nat.le_of_ble_eq_true rfl) (gw_s8_3 ht0 (s6.1 t1 3)) dX8_copy_50 (fun s7 H locs es7 hP hS => ?_)
  have h := gv_let_e es7 h
  exact Kr _ _ _ _ _ (gv_inj h) hP hS dX8_copy_53
theorem mX8_copy (l : Launch) (X : gw_X) (s0 : gs_S) (t0 : Nat) (ht0 : gk t0 = 8) (t1 : Nat) (ht1 : gk t1 = 8) {τ : gs_S} (h : pX8_copy t0 t1 s0 = some τ) : Met l yX8_copy wsX8_copy rX8_copy (gm_Pc X s0 [.ref (X.1 t0), .ref (X.1 t1)]) (gm_Qv X τ) 0 0 (gw_A X) :=
  gm_of RX8 (by decide) rfl rfl (Nat.le_of_ble_eq_true rfl) (fun p e s m below meth c ls C0 hP hl hS => tX8_copy C0 t0 ht0 t1 ht1 s0 h (fun H locs ls pc τ hr hP hS hd => by subst hr; exact gm_retv C0 hP hS hd) hP hS hl)
def pX10_sleighs_J33 (v1 : Int32) (s3 : gs_S) : Option (Int32 × gs_S) := gv_let (gs_u s3 29 1 (0 : Int32)) (fun s4 => some (v1, s4))
def pX10_sleighs  (s0 : gs_S) : Option (Int32 × gs_S) := gv_bind2 (pX0_readTrain s0) (fun v1 s2 => if v1 ≤ 0 then pX10_sleighs_J33 v1 s2 else gv_bind (pX8_copy 4 34 s2) (fun s5 => pX10_sleighs_J33 v1 s5))
def rX10_sleighs : Room := { frames := 5, cells := 0, slots := 0, locals := 113 }
set_option maxHeartbeats 4000000 in
set_option maxRecDepth 100000 in
theorem tX10_sleighs {p : Program} {l : Launch} {e : Env} {s : State} {m : MethodId} {args : Array Value} {below : List Frame} {meth : Method} {c : Code} {X : gw_X} {Q : State → Prop} (C0 : gm_At p s m args meth c X cX10_sleighs 2 RX10 wsX10_sleighs (some .int))  (s0 : gs_S) {z : Int32 × gs_S} (h : pX10_sleighs s0 = some z) (Kr : ∀ (H : Heap) (locs : List Loc) (ls : Array Slot) (pc : Nat) (r : Int32) (τ : gs_S), z = (r, τ) → gw_P X τ H → va_S (gw_A X) s.heap H locs → decode cX10_sleighs pc = .ok (.ireturn, 1) → W p l e rX10_sleighs s m args below meth c H locs 0 0 Q (F0 m pc ls [.int r])) {H : Heap} {locs : List Loc} {ls : Array Slot} (hP : gw_P X s0 H) (hS : va_S (gw_A X) s.heap H locs) (hl : lv_has ls 2 [(0, .ref (X.1 0))]) : W p l e rX10_sleighs s m args below meth c H locs 0 0 Q (F0 m 0 ls []) := by
  obtain ⟨hx, hb, hml, hown, hts, hr, hlocks, hC⟩ := id C0
  unfold pX10_sleighs at h
  refine lv_aload_n hx hb dX10_sleighs_0 rfl (lv_at hl 0 rfl) ?_
  refine gv_get (ref := "IceByEar") (C := RX10) (T := TX10) (N := 8) (ci := 10) (v := .ref (X.1 31)) C0 (fun _ h9 => List.mem_cons_of_mem _ (List.mem_append_left _ (List.mem_append_left _ (List.mem_append_left _ (List.mem_append_left _ (List.mem_append_right _ h9)))))) hP 0 (gw_o10 X s0 gk_0.1) rfl 4 (by decide) (by decide +kernel) rfl rfl dX10_sleighs_1 ?_
  refine lv_aload_n hx hb dX10_sleighs_4 rfl (lv_at hl 0 rfl) ?_
  refine gv_get (ref := "IceByEar") (C := RX10) (T := TX10) (N := 8) (ci := 10) (v := .ref (X.1 29)) C0 (fun _ h9 => List.mem_cons_of_mem _ (List.mem_append_left _ (List.mem_append_left _ (List.mem_append_left _ (List.mem_append_left _ (List.mem_append_right _ h9)))))) hP 0 (gw_o10 X s0 gk_0.1) rfl 3 (by decide) (by decide +kernel) rfl rfl dX10_sleighs_5 ?_
  obtain ⟨v1, s2, hv1, h⟩ := gv_bind2_e h
  refine gv_ri (gv_runV (n := 1) (rest := []) C0 (mX0_readTrain l X s0  hv1) gX10_sleighs_X0_readTrain rfl ⟨rfl, rfl⟩ (by decide +kernel) ⟨by decide, by decide⟩ gk_31.1 (by decide) rfl hP hS rfl hl.1 rfl (Nat.le_of_ble_eq_true rfl) dX10_sleighs_8 ⟨Nat.zero_le _, Nat.zero_le _⟩) hS (fun H locs hP hS => ?_)
  refine lv_istore_n (lv' := [(1, .int v1), (0, .ref (X.1 0))]) hx hb dX10_sleighs_11 rfl hl (by decide) rfl (fun ls hl => ?_)
  refine lv_iload_n hx hb dX10_sleighs_12 rfl (lv_at hl 0 rfl) ?_
  have J33 : ∀ (s3 : gs_S) (H : Heap) (locs : List Loc) (ls : Array Slot), pX10_sleighs_J33 v1 s3 = some z → gw_P X s3 H → va_S (gw_A X) s.heap H locs → lv_has ls 2 [(1, .int v1), (0, .ref (X.1 0))] → W p l e rX10_sleighs s m args below meth c H locs 0 0 Q (F0 m 33 ls []) := by
    intro s3 H locs ls h hP hS hl
    unfold pX10_sleighs_J33 at h
    refine lv_aload_n hx hb dX10_sleighs_33 rfl (lv_at hl 1 rfl) ?_
    refine gv_get (ref := "IceByEar") (C := RX10) (T := TX10) (N := 8) (ci := 10) (v := .ref (X.1 29)) C0 (fun _ h9 => List.mem_cons_of_mem _ (List.mem_append_left _ (List.mem_append_left _ (List.mem_append_left _ (List.mem_append_left _ (List.mem_append_right _ h9)))))) hP 0 (gw_o10 X s3 gk_0.1) rfl 3 (by decide) (by decide +kernel) rfl rfl dX10_sleighs_34 ?_
    refine lv_iconst (v := 0) hx hb dX10_sleighs_37 (by decide) ?_
    refine gv_put (ref := "IceByEar$Tape") (C := RX7) (T := TX7) (N := 3) (ci := 7) (v := .int (0 : Int32)) C0 (fun _ h9 => List.mem_cons_of_mem _ (List.mem_append_left _ (List.mem_append_right _ h9))) tyX7 tyX7_ok nmX7 hP hS 29 (gw_o7 X s3 gk_29.1) rfl 1 (by decide) (by decide +kernel) rfl rfl (tyX7_ok 1 (by decide)) rfl rfl (Nat.le_of_ble_eq_true rfl) (gw_s7_1 gk_29.1 (0 : Int32)) dX10_sleighs_38 (fun s4 H locs es4 hP hS => ?_)
    have h := gv_let_e es4 h
    refine lv_iload_n hx hb dX10_sleighs_41 rfl (lv_at hl 0 rfl) ?_
    exact Kr _ _ _ _ _ _ (gv_inj h) hP hS dX10_sleighs_42
  refine lv_if_le (tgt := 33) hx hb dX10_sleighs_13 (by decide) (fun hc => ?_) (fun hc => ?_)
  · have h := gv_pos hc h
    exact J33 s2 _ _ _ h hP hS (lv_sub hl [0, 1] rfl)
  · have h := gv_neg hc h
    refine lv_aload_n hx hb dX10_sleighs_16 rfl (lv_at hl 1 rfl) ?_
    refine gv_get (ref := "IceByEar") (C := RX10) (T := TX10) (N := 8) (ci := 10) (v := .ref (X.1 1)) C0 (fun _ h9 => List.mem_cons_of_mem _ (List.mem_append_left _ (List.mem_append_left _ (List.mem_append_left _ (List.mem_append_left _ (List.mem_append_right _ h9)))))) hP 0 (gw_o10 X s2 gk_0.1) rfl 0 (by decide) (by decide +kernel) rfl rfl dX10_sleighs_17 ?_
    refine gv_get (ref := "IceByEar$Scene") (C := RX4) (T := TX4) (N := 6) (ci := 4) (v := .ref (X.1 4)) C0 (fun _ h9 => List.mem_cons_of_mem _ (List.mem_append_left _ (List.mem_append_left _ (List.mem_append_left _ (List.mem_append_right _ h9))))) hP 1 (gw_o4 X s2 gk_1.1) rfl 1 (by decide) (by decide +kernel) rfl rfl dX10_sleighs_20 ?_
    refine lv_aload_n hx hb dX10_sleighs_23 rfl (lv_at hl 1 rfl) ?_
    refine gv_get (ref := "IceByEar") (C := RX10) (T := TX10) (N := 8) (ci := 10) (v := .ref (X.1 31)) C0 (fun _ h9 => List.mem_cons_of_mem _ (List.mem_append_left _ (List.mem_append_left _ (List.mem_append_left _ (List.mem_append_left _ (List.mem_append_right _ h9)))))) hP 0 (gw_o10 X s2 gk_0.1) rfl 4 (by decide) (by decide +kernel) rfl rfl dX10_sleighs_24 ?_
    refine gv_get (ref := "IceByEar$Drafts") (C := RX0) (T := TX0) (N := 3) (ci := 0) (v := .ref (X.1 34)) C0 (fun _ h9 => List.mem_cons_of_mem _ (List.mem_append_left _ (List.mem_append_left _ (List.mem_append_right _ h9)))) hP 31 (gw_o0 X s2 gk_31.1) rfl 2 (by decide) (by decide +kernel) rfl rfl dX10_sleighs_27 ?_
    obtain ⟨s5, hs5, h⟩ := gv_bind_e h
    refine gv_rv (gv_runV (n := 1) (rest := []) C0 (mX8_copy l X s2 4 gk_4.1 34 gk_34.1 hs5) gX10_sleighs_X8_copy rfl ⟨rfl, rfl⟩ (by decide +kernel) ⟨by decide, by decide⟩ gk_4.1 (by decide) rfl hP hS rfl hl.1 rfl (Nat.le_of_ble_eq_true rfl) dX10_sleighs_30 ⟨Nat.zero_le _, Nat.zero_le _⟩) hS (fun H locs hP hS => ?_)
    exact J33 s5 _ _ _ h hP hS (lv_sub hl [0, 1] rfl)
theorem mX10_sleighs (l : Launch) (X : gw_X) (s0 : gs_S)  {r : Int32} {τ : gs_S} (h : pX10_sleighs s0 = some (r, τ)) : Met l yX10_sleighs wsX10_sleighs rX10_sleighs (gm_Pc X s0 [.ref (X.1 0)]) (gm_Qi X τ r) 0 0 (gw_A X) :=
  gm_of RX10 (by decide) rfl rfl (Nat.le_of_ble_eq_true rfl) (fun p e s m below meth c ls C0 hP hl hS => tX10_sleighs C0  s0 h (fun H locs ls pc r τ hr hP hS hd => by cases hr; exact gm_reti C0 hP hS hd) hP hS hl)
def pX2_thinnerThan_L5 (s0 : gs_S) (a1 : Int32) (v1 : Int64) (v2 : Int32) : Option ((Int64 × Int32) ⊕ (Int64 × Int32)) := if (64 : Int32) ≤ v2 then some (.inr (v1, v2)) else gv_bind (pX2_trait v2 (0 : Int32) s0) (fun v3 => if a1 ≤ v3 then gv_let (v2 + (1 : Int32)) (fun v4 => some (.inl (v1, v4))) else gv_let (v1 ||| ((1 : Int64) <<< (v2.toInt64 &&& 63))) (fun v5 => gv_let (v2 + (1 : Int32)) (fun v6 => some (.inl (v5, v6)))))
def pX2_thinnerThan (a1 : Int32) (s0 : gs_S) : Option (Int64) := gv_bind (gv_loop (fun q => pX2_thinnerThan_L5 s0 a1 q.1 q.2) gv_N ((0 : Int64), (0 : Int32))) (fun q => gv_let q.1 (fun v7 => gv_let q.2 (fun v8 => some v7)))
def rX2_thinnerThan : Room := { frames := 1, cells := 0, slots := 0, locals := 22 }
set_option maxHeartbeats 4000000 in
set_option maxRecDepth 100000 in
theorem tX2_thinnerThan {p : Program} {l : Launch} {e : Env} {s : State} {m : MethodId} {args : Array Value} {below : List Frame} {meth : Method} {c : Code} {X : gw_X} {Q : State → Prop} (C0 : gm_At p s m args meth c X cX2_thinnerThan 5 RX2 wsX2_thinnerThan (some .long)) (a1 : Int32) (s0 : gs_S) {z : Int64} (h : pX2_thinnerThan a1 s0 = some z) (Kr : ∀ (H : Heap) (locs : List Loc) (ls : Array Slot) (pc : Nat) (r : Int64), z = r → gw_P X s0 H → va_S (gw_A X) s.heap H locs → decode cX2_thinnerThan pc = .ok (.lreturn, 1) → W p l e rX2_thinnerThan s m args below meth c H locs 0 0 Q (F0 m pc ls [.long r])) {H : Heap} {locs : List Loc} {ls : Array Slot} (hP : gw_P X s0 H) (hS : va_S (gw_A X) s.heap H locs) (hl : lv_has ls 5 [(0, .ref (X.1 2)), (1, .int a1)]) : W p l e rX2_thinnerThan s m args below meth c H locs 0 0 Q (F0 m 0 ls []) := by
  obtain ⟨hx, hb, hml, hown, hts, hr, hlocks, hC⟩ := id C0
  unfold pX2_thinnerThan at h
  refine lv_lconst (v := 0) hx hb dX2_thinnerThan_0 (by decide) ?_
  refine lv_lstore_n (lv' := [(2, .long (0 : Int64)), (0, .ref (X.1 2)), (1, .int a1)]) hx hb dX2_thinnerThan_1 rfl hl (by decide) rfl (fun ls hl => ?_)
  refine lv_iconst (v := 0) hx hb dX2_thinnerThan_2 (by decide) ?_
  refine lv_istore (lv' := [(4, .int (0 : Int32)), (2, .long (0 : Int64)), (0, .ref (X.1 2)), (1, .int a1)]) hx hb dX2_thinnerThan_3 hl (by decide) rfl (fun ls hl => ?_)
  obtain ⟨q8, hq8, h⟩ := gv_bind_e h
  refine gv_loop_ind (Φ := fun q => ∀ (H : Heap) (locs : List Loc) (ls : Array Slot), gw_P X s0 H → va_S (gw_A X) s.heap H locs → lv_has ls 5 [(0, .ref (X.1 2)), (1, .int a1), (2, .long q.1), (4, .int q.2)] → W p l e rX2_thinnerThan s m args below meth c H locs 0 0 Q (F0 m 5 ls [])) (Ψ := fun q => ∀ (H : Heap) (locs : List Loc) (ls : Array Slot), gw_P X s0 H → va_S (gw_A X) s.heap H locs → lv_has ls 5 [(2, .long q.1)] → W p l e rX2_thinnerThan s m args below meth c H locs 0 0 Q (F0 m 36 ls [])) ?_ gv_N ((0 : Int64), (0 : Int32)) q8 hq8 ?_ H locs ls hP hS (lv_sub hl [2, 3, 1, 0] rfl)
  · intro q x h Kc Ke H locs ls hP hS hl
    obtain ⟨v1, v2⟩ := q
    have h : pX2_thinnerThan_L5 s0 a1 v1 v2 = some x := h
    have hP : gw_P X s0 H := hP
    have hl : lv_has ls 5 [(0, .ref (X.1 2)), (1, .int a1), (2, .long v1), (4, .int v2)] := hl
    unfold pX2_thinnerThan_L5 at h
    refine lv_iload hx hb dX2_thinnerThan_5 (lv_at hl 3 rfl) ?_
    refine lv_bipush (v := 64) hx hb dX2_thinnerThan_7 (by decide) ?_
    refine lv_icmp_ge (tgt := 36) hx hb dX2_thinnerThan_9 (by decide) (fun hc => ?_) (fun hc => ?_)
    · have h := gv_pos hc h
      exact Ke _ (gv_inj h) _ _ _ hP hS (lv_sub hl [2] rfl)
    · have h := gv_neg hc h
      refine lv_aload_n hx hb dX2_thinnerThan_12 rfl (lv_at hl 0 rfl) ?_
      refine lv_iload hx hb dX2_thinnerThan_13 (lv_at hl 3 rfl) ?_
      refine lv_iconst (v := 0) hx hb dX2_thinnerThan_15 (by decide) ?_
      obtain ⟨v3, hv3, h⟩ := gv_bind_e h
      refine gv_ri (gv_runV (n := 2) (rest := []) C0 (mX2_trait l X s0 v2 (0 : Int32) hv3) gX2_thinnerThan_X2_trait rfl ⟨rfl, rfl⟩ (by decide +kernel) ⟨by decide, by decide⟩ gk_2.1 (by decide) rfl hP hS rfl hl.1 rfl (Nat.le_of_ble_eq_true rfl) dX2_thinnerThan_16 ⟨Nat.zero_le _, Nat.zero_le _⟩) hS (fun H locs hP hS => ?_)
      refine lv_iload_n hx hb dX2_thinnerThan_19 rfl (lv_at hl 1 rfl) ?_
      refine lv_icmp_ge (tgt := 30) hx hb dX2_thinnerThan_20 (by decide) (fun hc => ?_) (fun hc => ?_)
      · have h := gv_pos hc h
        obtain ⟨v4, ev4⟩ : ∃ y : Int32, y = (v2 + (1 : Int32)) := ⟨_, rfl⟩
        have h := gv_let_e ev4 h
        refine lv_iinc (v := v4) (lv' := [(4, .int v4), (0, .ref (X.1 2)), (1, .int a1), (2, .long v1)]) hx hb dX2_thinnerThan_30 hl (k := 3) rfl (by rw [ev4]; rfl) (by decide) rfl (fun ls hl => ?_)
        refine lv_goto (tgt := 5) hx hb dX2_thinnerThan_33 (by decide) ?_
        exact Kc _ (gv_inj h) _ _ _ hP hS (lv_sub hl [1, 2, 3, 0] rfl)
      · have h := gv_neg hc h
        refine lv_lload_n hx hb dX2_thinnerThan_23 rfl (lv_at hl 2 rfl) ?_
        refine lv_lconst (v := 1) hx hb dX2_thinnerThan_24 (by decide) ?_
        refine lv_iload hx hb dX2_thinnerThan_25 (lv_at hl 3 rfl) ?_
        refine lv_lshl hx hb dX2_thinnerThan_27 rfl ?_
        refine lv_lor hx hb dX2_thinnerThan_28 ?_
        refine lv_topl (fun v5 ev5 => ?_)
        have h := gv_let_e ev5 h
        refine lv_lstore_n (lv' := [(2, .long v5), (0, .ref (X.1 2)), (1, .int a1), (4, .int v2)]) hx hb dX2_thinnerThan_29 rfl hl (by decide) rfl (fun ls hl => ?_)
        obtain ⟨v6, ev6⟩ : ∃ y : Int32, y = (v2 + (1 : Int32)) := ⟨_, rfl⟩
        have h := gv_let_e ev6 h
        refine lv_iinc (v := v6) (lv' := [(4, .int v6), (2, .long v5), (0, .ref (X.1 2)), (1, .int a1)]) hx hb dX2_thinnerThan_30 hl (k := 3) rfl (by rw [ev6]; rfl) (by decide) rfl (fun ls hl => ?_)
        refine lv_goto (tgt := 5) hx hb dX2_thinnerThan_33 (by decide) ?_
        exact Kc _ (gv_inj h) _ _ _ hP hS (lv_sub hl [2, 3, 1, 0] rfl)
  · obtain ⟨v7, v8⟩ := q8
    have h := gv_let_e (x := v7) rfl h
    have h := gv_let_e (x := v8) rfl h
    intro H locs ls hP hS hl
    have hP : gw_P X s0 H := hP
    have hl : lv_has ls 5 [(2, .long v7)] := hl
    refine lv_lload_n hx hb dX2_thinnerThan_36 rfl (lv_at hl 0 rfl) ?_
    exact Kr _ _ _ _ _ (gv_inj h) hP hS dX2_thinnerThan_37
theorem mX2_thinnerThan (l : Launch) (X : gw_X) (s0 : gs_S) (a1 : Int32) {r : Int64} (h : pX2_thinnerThan a1 s0 = some r) : Met l yX2_thinnerThan wsX2_thinnerThan rX2_thinnerThan (gm_Pc X s0 [.ref (X.1 2), .int a1]) (gm_Ql X s0 r) 0 0 (gw_A X) :=
  gm_of RX2 (by decide) rfl rfl (Nat.le_of_ble_eq_true rfl) (fun p e s m below meth c ls C0 hP hl hS => tX2_thinnerThan C0 a1 s0 h (fun H locs ls pc r hr hP hS hd => by subst hr; exact gm_retl C0 hP hS hd) hP hS hl)
def pJ13_bitCount_95d88 (a0 : Int64) : Int32 := gv_let (a0 - (((a0.toUInt64 >>> ((1 : Int32).toInt64.toUInt64 &&& Int64.toUInt64 63)).toInt64) &&& (6148914691236517205 : Int64))) (fun v1 => gv_let ((v1 &&& (3689348814741910323 : Int64)) + (((v1.toUInt64 >>> ((2 : Int32).toInt64.toUInt64 &&& Int64.toUInt64 63)).toInt64) &&& (3689348814741910323 : Int64))) (fun v2 => gv_let ((v2 + ((v2.toUInt64 >>> ((4 : Int32).toInt64.toUInt64 &&& Int64.toUInt64 63)).toInt64)) &&& (1085102592571150095 : Int64)) (fun v3 => gv_let (v3 + ((v3.toUInt64 >>> ((8 : Int32).toInt64.toUInt64 &&& Int64.toUInt64 63)).toInt64)) (fun v4 => gv_let (v4 + ((v4.toUInt64 >>> ((16 : Int32).toInt64.toUInt64 &&& Int64.toUInt64 63)).toInt64)) (fun v5 => gv_let (v5 + ((v5.toUInt64 >>> ((32 : Int32).toInt64.toUInt64 &&& Int64.toUInt64 63)).toInt64)) (fun v6 => ((v6.toInt32) &&& (127 : Int32))))))))
def rJ13_bitCount_95d88 : Room := { frames := 0, cells := 0, slots := 0, locals := 0 }
set_option maxHeartbeats 4000000 in
set_option maxRecDepth 100000 in
theorem tJ13_bitCount_95d88 {p : Program} {l : Launch} {e : Env} {s : State} {m : MethodId} {args : Array Value} {below : List Frame} {meth : Method} {c : Code} {X : gw_X} {Q : State → Prop} (C0 : gm_At p s m args meth c X cJ13_bitCount_95d88 2 RJ13 wsJ13_bitCount_95d88 (some .int)) (a0 : Int64) (s0 : gs_S) {z : Int32} (h : pJ13_bitCount_95d88 a0 = z) (Kr : ∀ (H : Heap) (locs : List Loc) (ls : Array Slot) (pc : Nat) (r : Int32), z = r → gw_P X s0 H → va_S (gw_A X) s.heap H locs → decode cJ13_bitCount_95d88 pc = .ok (.ireturn, 1) → W p l e rJ13_bitCount_95d88 s m args below meth c H locs 0 0 Q (F0 m pc ls [.int r])) {H : Heap} {locs : List Loc} {ls : Array Slot} (hP : gw_P X s0 H) (hS : va_S (gw_A X) s.heap H locs) (hl : lv_has ls 2 [(0, .long a0)]) : W p l e rJ13_bitCount_95d88 s m args below meth c H locs 0 0 Q (F0 m 0 ls []) := by
  obtain ⟨hx, hb, hml, hown, hts, hr, hlocks, hC⟩ := id C0
  unfold pJ13_bitCount_95d88 at h
  refine lv_lload_n hx hb dJ13_bitCount_95d88_0 rfl (lv_at hl 0 rfl) ?_
  refine lv_lload_n hx hb dJ13_bitCount_95d88_1 rfl (lv_at hl 0 rfl) ?_
  refine lv_iconst (v := 1) hx hb dJ13_bitCount_95d88_2 (by decide) ?_
  refine lv_lushr hx hb dJ13_bitCount_95d88_3 rfl ?_
  refine lv_ldc2 (v := 6148914691236517205) hx hb hown (hts (.constantLong RJ13 314 (6148914691236517205)) (by decide +kernel)) dJ13_bitCount_95d88_4 ?_
  refine lv_land hx hb dJ13_bitCount_95d88_7 ?_
  refine lv_lsub hx hb dJ13_bitCount_95d88_8 ?_
  refine lv_topl (fun v1 ev1 => ?_)
  have h := gv_let_e ev1 h
  refine lv_lstore_n (lv' := [(0, .long v1)]) hx hb dJ13_bitCount_95d88_9 rfl hl (by decide) rfl (fun ls hl => ?_)
  refine lv_lload_n hx hb dJ13_bitCount_95d88_10 rfl (lv_at hl 0 rfl) ?_
  refine lv_ldc2 (v := 3689348814741910323) hx hb hown (hts (.constantLong RJ13 316 (3689348814741910323)) (by decide +kernel)) dJ13_bitCount_95d88_11 ?_
  refine lv_land hx hb dJ13_bitCount_95d88_14 ?_
  refine lv_lload_n hx hb dJ13_bitCount_95d88_15 rfl (lv_at hl 0 rfl) ?_
  refine lv_iconst (v := 2) hx hb dJ13_bitCount_95d88_16 (by decide) ?_
  refine lv_lushr hx hb dJ13_bitCount_95d88_17 rfl ?_
  refine lv_ldc2 (v := 3689348814741910323) hx hb hown (hts (.constantLong RJ13 316 (3689348814741910323)) (by decide +kernel)) dJ13_bitCount_95d88_18 ?_
  refine lv_land hx hb dJ13_bitCount_95d88_21 ?_
  refine lv_ladd hx hb dJ13_bitCount_95d88_22 ?_
  refine lv_topl (fun v2 ev2 => ?_)
  have h := gv_let_e ev2 h
  refine lv_lstore_n (lv' := [(0, .long v2)]) hx hb dJ13_bitCount_95d88_23 rfl hl (by decide) rfl (fun ls hl => ?_)
  refine lv_lload_n hx hb dJ13_bitCount_95d88_24 rfl (lv_at hl 0 rfl) ?_
  refine lv_lload_n hx hb dJ13_bitCount_95d88_25 rfl (lv_at hl 0 rfl) ?_
  refine lv_iconst (v := 4) hx hb dJ13_bitCount_95d88_26 (by decide) ?_
  refine lv_lushr hx hb dJ13_bitCount_95d88_27 rfl ?_
  refine lv_ladd hx hb dJ13_bitCount_95d88_28 ?_
  refine lv_ldc2 (v := 1085102592571150095) hx hb hown (hts (.constantLong RJ13 318 (1085102592571150095)) (by decide +kernel)) dJ13_bitCount_95d88_29 ?_
  refine lv_land hx hb dJ13_bitCount_95d88_32 ?_
  refine lv_topl (fun v3 ev3 => ?_)
  have h := gv_let_e ev3 h
  refine lv_lstore_n (lv' := [(0, .long v3)]) hx hb dJ13_bitCount_95d88_33 rfl hl (by decide) rfl (fun ls hl => ?_)
  refine lv_lload_n hx hb dJ13_bitCount_95d88_34 rfl (lv_at hl 0 rfl) ?_
  refine lv_lload_n hx hb dJ13_bitCount_95d88_35 rfl (lv_at hl 0 rfl) ?_
  refine lv_bipush (v := 8) hx hb dJ13_bitCount_95d88_36 (by decide) ?_
  refine lv_lushr hx hb dJ13_bitCount_95d88_38 rfl ?_
  refine lv_ladd hx hb dJ13_bitCount_95d88_39 ?_
  refine lv_topl (fun v4 ev4 => ?_)
  have h := gv_let_e ev4 h
  refine lv_lstore_n (lv' := [(0, .long v4)]) hx hb dJ13_bitCount_95d88_40 rfl hl (by decide) rfl (fun ls hl => ?_)
  refine lv_lload_n hx hb dJ13_bitCount_95d88_41 rfl (lv_at hl 0 rfl) ?_
  refine lv_lload_n hx hb dJ13_bitCount_95d88_42 rfl (lv_at hl 0 rfl) ?_
  refine lv_bipush (v := 16) hx hb dJ13_bitCount_95d88_43 (by decide) ?_
  refine lv_lushr hx hb dJ13_bitCount_95d88_45 rfl ?_
  refine lv_ladd hx hb dJ13_bitCount_95d88_46 ?_
  refine lv_topl (fun v5 ev5 => ?_)
  have h := gv_let_e ev5 h
  refine lv_lstore_n (lv' := [(0, .long v5)]) hx hb dJ13_bitCount_95d88_47 rfl hl (by decide) rfl (fun ls hl => ?_)
  refine lv_lload_n hx hb dJ13_bitCount_95d88_48 rfl (lv_at hl 0 rfl) ?_
  refine lv_lload_n hx hb dJ13_bitCount_95d88_49 rfl (lv_at hl 0 rfl) ?_
  refine lv_bipush (v := 32) hx hb dJ13_bitCount_95d88_50 (by decide) ?_
  refine lv_lushr hx hb dJ13_bitCount_95d88_52 rfl ?_
  refine lv_ladd hx hb dJ13_bitCount_95d88_53 ?_
  refine lv_topl (fun v6 ev6 => ?_)
  have h := gv_let_e ev6 h
  refine lv_lstore_n (lv' := [(0, .long v6)]) hx hb dJ13_bitCount_95d88_54 rfl hl (by decide) rfl (fun ls hl => ?_)
  refine lv_lload_n hx hb dJ13_bitCount_95d88_55 rfl (lv_at hl 0 rfl) ?_
  refine lv_l2i hx hb dJ13_bitCount_95d88_56 rfl ?_
  refine lv_bipush (v := 127) hx hb dJ13_bitCount_95d88_57 (by decide) ?_
  refine lv_iand hx hb dJ13_bitCount_95d88_59 ?_
  exact Kr _ _ _ _ _ h.symm hP hS dJ13_bitCount_95d88_60
theorem mJ13_bitCount_95d88 (l : Launch) (X : gw_X) (s0 : gs_S) (a0 : Int64) : Met l yJ13_bitCount_95d88 wsJ13_bitCount_95d88 rJ13_bitCount_95d88 (gm_Pc X s0 [.long a0]) (gm_Qi X s0 (pJ13_bitCount_95d88 a0)) 0 0 (gw_A X) :=
  gm_of RJ13 (by decide) rfl rfl (Nat.le_of_ble_eq_true rfl) (fun p e s m below meth c ls C0 hP hl hS => tJ13_bitCount_95d88 C0 a0 s0 rfl (fun H locs ls pc r hr hP hS hd => by subst hr; exact gm_reti C0 hP hS hd) hP hS hl)
def pX10_count (a1 : Int32) (s0 : gs_S) : Option (Int32) := if a1 = (0 : Int32) then some (s0.1 4 3) else if a1 = (1 : Int32) then some (s0.1 8 1) else if a1 = (2 : Int32) then some (s0.1 10 4) else if a1 = (3 : Int32) then gv_bind (pX2_thinnerThan (1 : Int32) s0) (fun v1 => some (pJ13_bitCount_95d88 v1)) else if a1 = (4 : Int32) then gv_bind (pX2_total (4 : Int32) s0) (fun v2 => some v2) else some (-1 : Int32)
def rX10_count : Room := { frames := 2, cells := 0, slots := 0, locals := 46 }
set_option maxHeartbeats 4000000 in
set_option maxRecDepth 100000 in
theorem tX10_count {p : Program} {l : Launch} {e : Env} {s : State} {m : MethodId} {args : Array Value} {below : List Frame} {meth : Method} {c : Code} {X : gw_X} {Q : State → Prop} (C0 : gm_At p s m args meth c X cX10_count 2 RX10 wsX10_count (some .int)) (a1 : Int32) (s0 : gs_S) {z : Int32} (h : pX10_count a1 s0 = some z) (Kr : ∀ (H : Heap) (locs : List Loc) (ls : Array Slot) (pc : Nat) (r : Int32), z = r → gw_P X s0 H → va_S (gw_A X) s.heap H locs → decode cX10_count pc = .ok (.ireturn, 1) → W p l e rX10_count s m args below meth c H locs 0 0 Q (F0 m pc ls [.int r])) {H : Heap} {locs : List Loc} {ls : Array Slot} (hP : gw_P X s0 H) (hS : va_S (gw_A X) s.heap H locs) (hl : lv_has ls 2 [(0, .ref (X.1 0)), (1, .int a1)]) : W p l e rX10_count s m args below meth c H locs 0 0 Q (F0 m 0 ls []) := by
  obtain ⟨hx, hb, hml, hown, hts, hr, hlocks, hC⟩ := id C0
  unfold pX10_count at h
  refine lv_iload_n hx hb dX10_count_0 rfl (lv_at hl 1 rfl) ?_
  by_cases hc : a1 = (0 : Int32)
  · have h := gv_pos hc h
    refine gv_tin (k := 0) (tgt := 36) hx hb dX10_count_1 hc (by decide) (by decide) rfl (by decide) ?_
    refine lv_aload_n hx hb dX10_count_36 rfl (lv_at hl 0 rfl) ?_
    refine gv_get (ref := "IceByEar") (C := RX10) (T := TX10) (N := 8) (ci := 10) (v := .ref (X.1 1)) C0 (fun _ h9 => List.mem_cons_of_mem _ (List.mem_append_left _ (List.mem_append_left _ (List.mem_append_left _ (List.mem_append_left _ (List.mem_append_left _ (List.mem_append_right _ h9))))))) hP 0 (gw_o10 X s0 gk_0.1) rfl 0 (by decide) (by decide +kernel) rfl rfl dX10_count_37 ?_
    refine gv_get (ref := "IceByEar$Scene") (C := RX4) (T := TX4) (N := 6) (ci := 4) (v := .ref (X.1 4)) C0 (fun _ h9 => List.mem_cons_of_mem _ (List.mem_append_left _ (List.mem_append_left _ (List.mem_append_left _ (List.mem_append_left _ (List.mem_append_right _ h9)))))) hP 1 (gw_o4 X s0 gk_1.1) rfl 1 (by decide) (by decide +kernel) rfl rfl dX10_count_40 ?_
    refine gv_get (ref := "IceByEar$Train") (C := RX8) (T := TX8) (N := 4) (ci := 8) (v := .int (s0.1 4 3)) C0 (fun _ h9 => List.mem_cons_of_mem _ (List.mem_append_left _ (List.mem_append_left _ (List.mem_append_left _ (List.mem_append_right _ h9))))) hP 4 (gw_o8 X s0 gk_4.1) rfl 3 (by decide) (by decide +kernel) rfl rfl dX10_count_43 ?_
    exact Kr _ _ _ _ _ (gv_inj h) hP hS dX10_count_46
  · have h := gv_neg hc h
    have hd0 := hc
    by_cases hc : a1 = (1 : Int32)
    · have h := gv_pos hc h
      refine gv_tin (k := 1) (tgt := 47) hx hb dX10_count_1 hc (by decide) (by decide) rfl (by decide) ?_
      refine lv_aload_n hx hb dX10_count_47 rfl (lv_at hl 0 rfl) ?_
      refine gv_get (ref := "IceByEar") (C := RX10) (T := TX10) (N := 8) (ci := 10) (v := .ref (X.1 1)) C0 (fun _ h9 => List.mem_cons_of_mem _ (List.mem_append_left _ (List.mem_append_left _ (List.mem_append_left _ (List.mem_append_left _ (List.mem_append_left _ (List.mem_append_right _ h9))))))) hP 0 (gw_o10 X s0 gk_0.1) rfl 0 (by decide) (by decide +kernel) rfl rfl dX10_count_48 ?_
      refine gv_get (ref := "IceByEar$Scene") (C := RX4) (T := TX4) (N := 6) (ci := 4) (v := .ref (X.1 8)) C0 (fun _ h9 => List.mem_cons_of_mem _ (List.mem_append_left _ (List.mem_append_left _ (List.mem_append_left _ (List.mem_append_left _ (List.mem_append_right _ h9)))))) hP 1 (gw_o4 X s0 gk_1.1) rfl 2 (by decide) (by decide +kernel) rfl rfl dX10_count_51 ?_
      refine gv_get (ref := "IceByEar$Way") (C := RX9) (T := TX9) (N := 2) (ci := 9) (v := .int (s0.1 8 1)) C0 (fun _ h9 => List.mem_cons_of_mem _ (List.mem_append_left _ (List.mem_append_left _ (List.mem_append_right _ h9)))) hP 8 (gw_o9 X s0 gk_8.1) rfl 1 (by decide) (by decide +kernel) rfl rfl dX10_count_54 ?_
      exact Kr _ _ _ _ _ (gv_inj h) hP hS dX10_count_57
    · have h := gv_neg hc h
      have hd1 := hc
      by_cases hc : a1 = (2 : Int32)
      · have h := gv_pos hc h
        refine gv_tin (k := 2) (tgt := 58) hx hb dX10_count_1 hc (by decide) (by decide) rfl (by decide) ?_
        refine lv_aload_n hx hb dX10_count_58 rfl (lv_at hl 0 rfl) ?_
        refine gv_get (ref := "IceByEar") (C := RX10) (T := TX10) (N := 8) (ci := 10) (v := .ref (X.1 1)) C0 (fun _ h9 => List.mem_cons_of_mem _ (List.mem_append_left _ (List.mem_append_left _ (List.mem_append_left _ (List.mem_append_left _ (List.mem_append_left _ (List.mem_append_right _ h9))))))) hP 0 (gw_o10 X s0 gk_0.1) rfl 0 (by decide) (by decide +kernel) rfl rfl dX10_count_59 ?_
        refine gv_get (ref := "IceByEar$Scene") (C := RX4) (T := TX4) (N := 6) (ci := 4) (v := .ref (X.1 10)) C0 (fun _ h9 => List.mem_cons_of_mem _ (List.mem_append_left _ (List.mem_append_left _ (List.mem_append_left _ (List.mem_append_left _ (List.mem_append_right _ h9)))))) hP 1 (gw_o4 X s0 gk_1.1) rfl 3 (by decide) (by decide +kernel) rfl rfl dX10_count_62 ?_
        refine gv_get (ref := "IceByEar$Ears") (C := RX1) (T := TX1) (N := 5) (ci := 1) (v := .int (s0.1 10 4)) C0 (fun _ h9 => List.mem_cons_of_mem _ (List.mem_append_left _ (List.mem_append_right _ h9))) hP 10 (gw_o1 X s0 gk_10.1) rfl 4 (by decide) (by decide +kernel) rfl rfl dX10_count_65 ?_
        exact Kr _ _ _ _ _ (gv_inj h) hP hS dX10_count_68
      · have h := gv_neg hc h
        have hd2 := hc
        by_cases hc : a1 = (3 : Int32)
        · have h := gv_pos hc h
          refine gv_tin (k := 3) (tgt := 69) hx hb dX10_count_1 hc (by decide) (by decide) rfl (by decide) ?_
          refine lv_aload_n hx hb dX10_count_69 rfl (lv_at hl 0 rfl) ?_
          refine gv_get (ref := "IceByEar") (C := RX10) (T := TX10) (N := 8) (ci := 10) (v := .ref (X.1 1)) C0 (fun _ h9 => List.mem_cons_of_mem _ (List.mem_append_left _ (List.mem_append_left _ (List.mem_append_left _ (List.mem_append_left _ (List.mem_append_left _ (List.mem_append_right _ h9))))))) hP 0 (gw_o10 X s0 gk_0.1) rfl 0 (by decide) (by decide +kernel) rfl rfl dX10_count_70 ?_
          refine gv_get (ref := "IceByEar$Scene") (C := RX4) (T := TX4) (N := 6) (ci := 4) (v := .ref (X.1 2)) C0 (fun _ h9 => List.mem_cons_of_mem _ (List.mem_append_left _ (List.mem_append_left _ (List.mem_append_left _ (List.mem_append_left _ (List.mem_append_right _ h9)))))) hP 1 (gw_o4 X s0 gk_1.1) rfl 0 (by decide) (by decide +kernel) rfl rfl dX10_count_73 ?_
          refine lv_iconst (v := 1) hx hb dX10_count_76 (by decide) ?_
          obtain ⟨v1, hv1, h⟩ := gv_bind_e h
          refine gv_rl (gv_runV (n := 1) (rest := []) C0 (mX2_thinnerThan l X s0 (1 : Int32) hv1) gX10_count_X2_thinnerThan rfl ⟨rfl, rfl⟩ (by decide +kernel) ⟨by decide, by decide⟩ gk_2.1 (by decide) rfl hP hS rfl hl.1 rfl (Nat.le_of_ble_eq_true rfl) dX10_count_77 ⟨Nat.zero_le _, Nat.zero_le _⟩) hS (fun H locs hP hS => ?_)
          refine gv_ri (gv_runS (n := 1) (rest := []) C0 (mJ13_bitCount_95d88 l X s0 v1) gX10_count_J13_bitCount_95d88 rfl ⟨rfl, rfl⟩ (by decide +kernel) ⟨by decide, by decide⟩ hP hS rfl hl.1 rfl (Nat.le_of_ble_eq_true rfl) dX10_count_80 ⟨Nat.zero_le _, Nat.zero_le _⟩) hS (fun H locs hP hS => ?_)
          exact Kr _ _ _ _ _ (gv_inj h) hP hS dX10_count_83
        · have h := gv_neg hc h
          have hd3 := hc
          by_cases hc : a1 = (4 : Int32)
          · have h := gv_pos hc h
            refine gv_tin (k := 4) (tgt := 84) hx hb dX10_count_1 hc (by decide) (by decide) rfl (by decide) ?_
            refine lv_aload_n hx hb dX10_count_84 rfl (lv_at hl 0 rfl) ?_
            refine gv_get (ref := "IceByEar") (C := RX10) (T := TX10) (N := 8) (ci := 10) (v := .ref (X.1 1)) C0 (fun _ h9 => List.mem_cons_of_mem _ (List.mem_append_left _ (List.mem_append_left _ (List.mem_append_left _ (List.mem_append_left _ (List.mem_append_left _ (List.mem_append_right _ h9))))))) hP 0 (gw_o10 X s0 gk_0.1) rfl 0 (by decide) (by decide +kernel) rfl rfl dX10_count_85 ?_
            refine gv_get (ref := "IceByEar$Scene") (C := RX4) (T := TX4) (N := 6) (ci := 4) (v := .ref (X.1 2)) C0 (fun _ h9 => List.mem_cons_of_mem _ (List.mem_append_left _ (List.mem_append_left _ (List.mem_append_left _ (List.mem_append_left _ (List.mem_append_right _ h9)))))) hP 1 (gw_o4 X s0 gk_1.1) rfl 0 (by decide) (by decide +kernel) rfl rfl dX10_count_88 ?_
            refine lv_iconst (v := 4) hx hb dX10_count_91 (by decide) ?_
            obtain ⟨v2, hv2, h⟩ := gv_bind_e h
            refine gv_ri (gv_runV (n := 1) (rest := []) C0 (mX2_total l X s0 (4 : Int32) hv2) gX10_count_X2_total rfl ⟨rfl, rfl⟩ (by decide +kernel) ⟨by decide, by decide⟩ gk_2.1 (by decide) rfl hP hS rfl hl.1 rfl (Nat.le_of_ble_eq_true rfl) dX10_count_92 ⟨Nat.zero_le _, Nat.zero_le _⟩) hS (fun H locs hP hS => ?_)
            exact Kr _ _ _ _ _ (gv_inj h) hP hS dX10_count_95
          · have h := gv_neg hc h
            have hd4 := hc
            refine lv_tableOut (tgt := 96) hx hb dX10_count_1 (by have n0 := lv_neT hd0 (show ((0 : Int32)).toInt = 0 by decide); have n1 := lv_neT hd1 (show ((1 : Int32)).toInt = 1 by decide); have n2 := lv_neT hd2 (show ((2 : Int32)).toInt = 2 by decide); have n3 := lv_neT hd3 (show ((3 : Int32)).toInt = 3 by decide); have n4 := lv_neT hd4 (show ((4 : Int32)).toInt = 4 by decide); omega) (by decide) ?_
            refine lv_iconst (v := -1) hx hb dX10_count_96 (by decide) ?_
            exact Kr _ _ _ _ _ (gv_inj h) hP hS dX10_count_97
theorem mX10_count (l : Launch) (X : gw_X) (s0 : gs_S) (a1 : Int32) {r : Int32} (h : pX10_count a1 s0 = some r) : Met l yX10_count wsX10_count rX10_count (gm_Pc X s0 [.ref (X.1 0), .int a1]) (gm_Qi X s0 r) 0 0 (gw_A X) :=
  gm_of RX10 (by decide) rfl rfl (Nat.le_of_ble_eq_true rfl) (fun p e s m below meth c ls C0 hP hl hS => tX10_count C0 a1 s0 h (fun H locs ls pc r hr hP hS hd => by subst hr; exact gm_reti C0 hP hS hd) hP hS hl)
def pX10_isLoad (a0 : Int32) : Int32 := (pX10_isWithin (a0.toInt64) (1 : Int32) (99 : Int32))
def rX10_isLoad : Room := { frames := 1, cells := 0, slots := 0, locals := 23 }
set_option maxHeartbeats 4000000 in
set_option maxRecDepth 100000 in
theorem tX10_isLoad {p : Program} {l : Launch} {e : Env} {s : State} {m : MethodId} {args : Array Value} {below : List Frame} {meth : Method} {c : Code} {X : gw_X} {Q : State → Prop} (C0 : gm_At p s m args meth c X cX10_isLoad 1 RX10 wsX10_isLoad (some .boolean)) (a0 : Int32) (s0 : gs_S) {z : Int32} (h : pX10_isLoad a0 = z) (Kr : ∀ (H : Heap) (locs : List Loc) (ls : Array Slot) (pc : Nat) (r : Int32), z = r → narrow .boolean (.int r) = .int r → gw_P X s0 H → va_S (gw_A X) s.heap H locs → decode cX10_isLoad pc = .ok (.ireturn, 1) → W p l e rX10_isLoad s m args below meth c H locs 0 0 Q (F0 m pc ls [.int r])) {H : Heap} {locs : List Loc} {ls : Array Slot} (hP : gw_P X s0 H) (hS : va_S (gw_A X) s.heap H locs) (hl : lv_has ls 1 [(0, .int a0)]) : W p l e rX10_isLoad s m args below meth c H locs 0 0 Q (F0 m 0 ls []) := by
  obtain ⟨hx, hb, hml, hown, hts, hr, hlocks, hC⟩ := id C0
  unfold pX10_isLoad at h
  refine lv_iload_n hx hb dX10_isLoad_0 rfl (lv_at hl 0 rfl) ?_
  refine lv_i2l hx hb dX10_isLoad_1 rfl ?_
  refine lv_iconst (v := 1) hx hb dX10_isLoad_2 (by decide) ?_
  refine lv_bipush (v := 99) hx hb dX10_isLoad_3 (by decide) ?_
  refine gv_ri (gv_runS (n := 3) (rest := []) C0 (mX10_isWithin l X s0 (a0.toInt64) (1 : Int32) (99 : Int32)) gX10_isLoad_X10_isWithin rfl ⟨rfl, rfl⟩ (by decide +kernel) ⟨by decide, by decide⟩ hP hS rfl hl.1 rfl (Nat.le_of_ble_eq_true rfl) dX10_isLoad_5 ⟨Nat.zero_le _, Nat.zero_le _⟩) hS (fun H locs hP hS => ?_)
  exact Kr _ _ _ _ _ h.symm (bX10_isWithin (a0.toInt64) (1 : Int32) (99 : Int32)) hP hS dX10_isLoad_8
theorem mX10_isLoad (l : Launch) (X : gw_X) (s0 : gs_S) (a0 : Int32) : Met l yX10_isLoad wsX10_isLoad rX10_isLoad (gm_Pc X s0 [.int a0]) (gm_Qi X s0 (pX10_isLoad a0)) 0 0 (gw_A X) :=
  gm_of RX10 (by decide) rfl rfl (Nat.le_of_ble_eq_true rfl) (fun p e s m below meth c ls C0 hP hl hS => tX10_isLoad C0 a0 s0 rfl (fun H locs ls pc r hr hn hP hS hd => by subst hr; exact gm_retz hn C0 hP hS hd) hP hS hl)
theorem bX10_isLoad (a0 : Int32) : narrow .boolean (.int (pX10_isLoad a0)) = .int (pX10_isLoad a0) := by
  unfold pX10_isLoad
  repeat' split
  all_goals first | rfl | exact bX10_isWithin _ _ _
def pX10_isPace (a0 : Int32) : Int32 := (pX10_isWithin (a0.toInt64) (1 : Int32) (9 : Int32))
def rX10_isPace : Room := { frames := 1, cells := 0, slots := 0, locals := 23 }
set_option maxHeartbeats 4000000 in
set_option maxRecDepth 100000 in
theorem tX10_isPace {p : Program} {l : Launch} {e : Env} {s : State} {m : MethodId} {args : Array Value} {below : List Frame} {meth : Method} {c : Code} {X : gw_X} {Q : State → Prop} (C0 : gm_At p s m args meth c X cX10_isPace 1 RX10 wsX10_isPace (some .boolean)) (a0 : Int32) (s0 : gs_S) {z : Int32} (h : pX10_isPace a0 = z) (Kr : ∀ (H : Heap) (locs : List Loc) (ls : Array Slot) (pc : Nat) (r : Int32), z = r → narrow .boolean (.int r) = .int r → gw_P X s0 H → va_S (gw_A X) s.heap H locs → decode cX10_isPace pc = .ok (.ireturn, 1) → W p l e rX10_isPace s m args below meth c H locs 0 0 Q (F0 m pc ls [.int r])) {H : Heap} {locs : List Loc} {ls : Array Slot} (hP : gw_P X s0 H) (hS : va_S (gw_A X) s.heap H locs) (hl : lv_has ls 1 [(0, .int a0)]) : W p l e rX10_isPace s m args below meth c H locs 0 0 Q (F0 m 0 ls []) := by
  obtain ⟨hx, hb, hml, hown, hts, hr, hlocks, hC⟩ := id C0
  unfold pX10_isPace at h
  refine lv_iload_n hx hb dX10_isPace_0 rfl (lv_at hl 0 rfl) ?_
  refine lv_i2l hx hb dX10_isPace_1 rfl ?_
  refine lv_iconst (v := 1) hx hb dX10_isPace_2 (by decide) ?_
  refine lv_bipush (v := 9) hx hb dX10_isPace_3 (by decide) ?_
  refine gv_ri (gv_runS (n := 3) (rest := []) C0 (mX10_isWithin l X s0 (a0.toInt64) (1 : Int32) (9 : Int32)) gX10_isPace_X10_isWithin rfl ⟨rfl, rfl⟩ (by decide +kernel) ⟨by decide, by decide⟩ hP hS rfl hl.1 rfl (Nat.le_of_ble_eq_true rfl) dX10_isPace_5 ⟨Nat.zero_le _, Nat.zero_le _⟩) hS (fun H locs hP hS => ?_)
  exact Kr _ _ _ _ _ h.symm (bX10_isWithin (a0.toInt64) (1 : Int32) (9 : Int32)) hP hS dX10_isPace_8
theorem mX10_isPace (l : Launch) (X : gw_X) (s0 : gs_S) (a0 : Int32) : Met l yX10_isPace wsX10_isPace rX10_isPace (gm_Pc X s0 [.int a0]) (gm_Qi X s0 (pX10_isPace a0)) 0 0 (gw_A X) :=
  gm_of RX10 (by decide) rfl rfl (Nat.le_of_ble_eq_true rfl) (fun p e s m below meth c ls C0 hP hl hS => tX10_isPace C0 a0 s0 rfl (fun H locs ls pc r hr hn hP hS hd => by subst hr; exact gm_retz hn C0 hP hS hd) hP hS hl)
theorem bX10_isPace (a0 : Int32) : narrow .boolean (.int (pX10_isPace a0)) = .int (pX10_isPace a0) := by
  unfold pX10_isPace
  repeat' split
  all_goals first | rfl | exact bX10_isWithin _ _ _
def pX10_sleigh (a1 : Int32) (a2 : Int32) (a3 : Int32) (s0 : gs_S) : Option (Int32 × gs_S) := if (pX10_isLoad a1) = 0 then some ((-1 : Int32), s0) else if (pX10_isPace a2) = 0 then some ((-1 : Int32), s0) else if (pX10_isWithin (a3.toInt64) (0 : Int32) (99 : Int32)) = 0 then some ((-1 : Int32), s0) else if (s0.1 4 3) < (6 : Int32) then gv_bind (pX8_add 4 a1 a2 a3 s0) (fun s1 => some (((s1.1 4 3) - (1 : Int32)), s1)) else some ((-3 : Int32), s0)
def rX10_sleigh : Room := { frames := 2, cells := 0, slots := 0, locals := 43 }
set_option maxHeartbeats 4000000 in
set_option maxRecDepth 100000 in
theorem tX10_sleigh {p : Program} {l : Launch} {e : Env} {s : State} {m : MethodId} {args : Array Value} {below : List Frame} {meth : Method} {c : Code} {X : gw_X} {Q : State → Prop} (C0 : gm_At p s m args meth c X cX10_sleigh 4 RX10 wsX10_sleigh (some .int)) (a1 : Int32) (a2 : Int32) (a3 : Int32) (s0 : gs_S) {z : Int32 × gs_S} (h : pX10_sleigh a1 a2 a3 s0 = some z) (Kr : ∀ (H : Heap) (locs : List Loc) (ls : Array Slot) (pc : Nat) (r : Int32) (τ : gs_S), z = (r, τ) → gw_P X τ H → va_S (gw_A X) s.heap H locs → decode cX10_sleigh pc = .ok (.ireturn, 1) → W p l e rX10_sleigh s m args below meth c H locs 0 0 Q (F0 m pc ls [.int r])) {H : Heap} {locs : List Loc} {ls : Array Slot} (hP : gw_P X s0 H) (hS : va_S (gw_A X) s.heap H locs) (hl : lv_has ls 4 [(0, .ref (X.1 0)), (1, .int a1), (2, .int a2), (3, .int a3)]) : W p l e rX10_sleigh s m args below meth c H locs 0 0 Q (F0 m 0 ls []) := by
  obtain ⟨hx, hb, hml, hown, hts, hr, hlocks, hC⟩ := id C0
  unfold pX10_sleigh at h
  refine lv_iload_n hx hb dX10_sleigh_0 rfl (lv_at hl 1 rfl) ?_
  refine gv_ri (gv_runS (n := 1) (rest := []) C0 (mX10_isLoad l X s0 a1) gX10_sleigh_X10_isLoad rfl ⟨rfl, rfl⟩ (by decide +kernel) ⟨by decide, by decide⟩ hP hS rfl hl.1 rfl (Nat.le_of_ble_eq_true rfl) dX10_sleigh_1 ⟨Nat.zero_le _, Nat.zero_le _⟩) hS (fun H locs hP hS => ?_)
  refine lv_if_eq (tgt := 25) hx hb dX10_sleigh_4 (by decide) (fun hc => ?_) (fun hc => ?_)
  · have h := gv_pos hc h
    refine lv_iconst (v := -1) hx hb dX10_sleigh_25 (by decide) ?_
    exact Kr _ _ _ _ _ _ (gv_inj h) hP hS dX10_sleigh_26
  · have h := gv_neg hc h
    refine lv_iload_n hx hb dX10_sleigh_7 rfl (lv_at hl 2 rfl) ?_
    refine gv_ri (gv_runS (n := 1) (rest := []) C0 (mX10_isPace l X s0 a2) gX10_sleigh_X10_isPace rfl ⟨rfl, rfl⟩ (by decide +kernel) ⟨by decide, by decide⟩ hP hS rfl hl.1 rfl (Nat.le_of_ble_eq_true rfl) dX10_sleigh_8 ⟨Nat.zero_le _, Nat.zero_le _⟩) hS (fun H locs hP hS => ?_)
    refine lv_if_eq (tgt := 25) hx hb dX10_sleigh_11 (by decide) (fun hc => ?_) (fun hc => ?_)
    · have h := gv_pos hc h
      refine lv_iconst (v := -1) hx hb dX10_sleigh_25 (by decide) ?_
      exact Kr _ _ _ _ _ _ (gv_inj h) hP hS dX10_sleigh_26
    · have h := gv_neg hc h
      refine lv_iload_n hx hb dX10_sleigh_14 rfl (lv_at hl 3 rfl) ?_
      refine lv_i2l hx hb dX10_sleigh_15 rfl ?_
      refine lv_iconst (v := 0) hx hb dX10_sleigh_16 (by decide) ?_
      refine lv_bipush (v := 99) hx hb dX10_sleigh_17 (by decide) ?_
      refine gv_ri (gv_runS (n := 3) (rest := []) C0 (mX10_isWithin l X s0 (a3.toInt64) (0 : Int32) (99 : Int32)) gX10_sleigh_X10_isWithin rfl ⟨rfl, rfl⟩ (by decide +kernel) ⟨by decide, by decide⟩ hP hS rfl hl.1 rfl (Nat.le_of_ble_eq_true rfl) dX10_sleigh_19 ⟨Nat.zero_le _, Nat.zero_le _⟩) hS (fun H locs hP hS => ?_)
      refine lv_if_ne (tgt := 27) hx hb dX10_sleigh_22 (by decide) (fun hc => ?_) (fun hc => ?_)
      · have h := gv_neg hc h
        refine lv_aload_n hx hb dX10_sleigh_27 rfl (lv_at hl 0 rfl) ?_
        refine gv_get (ref := "IceByEar") (C := RX10) (T := TX10) (N := 8) (ci := 10) (v := .ref (X.1 1)) C0 (fun _ h9 => List.mem_cons_of_mem _ (List.mem_append_left _ (List.mem_append_left _ (List.mem_append_right _ h9)))) hP 0 (gw_o10 X s0 gk_0.1) rfl 0 (by decide) (by decide +kernel) rfl rfl dX10_sleigh_28 ?_
        refine gv_get (ref := "IceByEar$Scene") (C := RX4) (T := TX4) (N := 6) (ci := 4) (v := .ref (X.1 4)) C0 (fun _ h9 => List.mem_cons_of_mem _ (List.mem_append_left _ (List.mem_append_right _ h9))) hP 1 (gw_o4 X s0 gk_1.1) rfl 1 (by decide) (by decide +kernel) rfl rfl dX10_sleigh_31 ?_
        refine gv_get (ref := "IceByEar$Train") (C := RX8) (T := TX8) (N := 4) (ci := 8) (v := .int (s0.1 4 3)) C0 (fun _ h9 => List.mem_cons_of_mem _ (List.mem_append_right _ h9)) hP 4 (gw_o8 X s0 gk_4.1) rfl 3 (by decide) (by decide +kernel) rfl rfl dX10_sleigh_34 ?_
        refine lv_bipush (v := 6) hx hb dX10_sleigh_37 (by decide) ?_
        refine lv_icmp_lt (tgt := 45) hx hb dX10_sleigh_39 (by decide) (fun hc => ?_) (fun hc => ?_)
        · have h := gv_pos hc h
          refine lv_aload_n hx hb dX10_sleigh_45 rfl (lv_at hl 0 rfl) ?_
          refine gv_get (ref := "IceByEar") (C := RX10) (T := TX10) (N := 8) (ci := 10) (v := .ref (X.1 1)) C0 (fun _ h9 => List.mem_cons_of_mem _ (List.mem_append_left _ (List.mem_append_left _ (List.mem_append_right _ h9)))) hP 0 (gw_o10 X s0 gk_0.1) rfl 0 (by decide) (by decide +kernel) rfl rfl dX10_sleigh_46 ?_
          refine gv_get (ref := "IceByEar$Scene") (C := RX4) (T := TX4) (N := 6) (ci := 4) (v := .ref (X.1 4)) C0 (fun _ h9 => List.mem_cons_of_mem _ (List.mem_append_left _ (List.mem_append_right _ h9))) hP 1 (gw_o4 X s0 gk_1.1) rfl 1 (by decide) (by decide +kernel) rfl rfl dX10_sleigh_49 ?_
          refine lv_iload_n hx hb dX10_sleigh_52 rfl (lv_at hl 1 rfl) ?_
          refine lv_iload_n hx hb dX10_sleigh_53 rfl (lv_at hl 2 rfl) ?_
          refine lv_iload_n hx hb dX10_sleigh_54 rfl (lv_at hl 3 rfl) ?_
          obtain ⟨s1, hs1, h⟩ := gv_bind_e h
          refine gv_rv (gv_runV (n := 3) (rest := []) C0 (mX8_add l X s0 4 gk_4.1 a1 a2 a3 hs1) gX10_sleigh_X8_add rfl ⟨rfl, rfl⟩ (by decide +kernel) ⟨by decide, by decide⟩ gk_4.1 (by decide) rfl hP hS rfl hl.1 rfl (Nat.le_of_ble_eq_true rfl) dX10_sleigh_55 ⟨Nat.zero_le _, Nat.zero_le _⟩) hS (fun H locs hP hS => ?_)
          refine lv_aload_n hx hb dX10_sleigh_58 rfl (lv_at hl 0 rfl) ?_
          refine gv_get (ref := "IceByEar") (C := RX10) (T := TX10) (N := 8) (ci := 10) (v := .ref (X.1 1)) C0 (fun _ h9 => List.mem_cons_of_mem _ (List.mem_append_left _ (List.mem_append_left _ (List.mem_append_right _ h9)))) hP 0 (gw_o10 X s1 gk_0.1) rfl 0 (by decide) (by decide +kernel) rfl rfl dX10_sleigh_59 ?_
          refine gv_get (ref := "IceByEar$Scene") (C := RX4) (T := TX4) (N := 6) (ci := 4) (v := .ref (X.1 4)) C0 (fun _ h9 => List.mem_cons_of_mem _ (List.mem_append_left _ (List.mem_append_right _ h9))) hP 1 (gw_o4 X s1 gk_1.1) rfl 1 (by decide) (by decide +kernel) rfl rfl dX10_sleigh_62 ?_
          refine gv_get (ref := "IceByEar$Train") (C := RX8) (T := TX8) (N := 4) (ci := 8) (v := .int (s1.1 4 3)) C0 (fun _ h9 => List.mem_cons_of_mem _ (List.mem_append_right _ h9)) hP 4 (gw_o8 X s1 gk_4.1) rfl 3 (by decide) (by decide +kernel) rfl rfl dX10_sleigh_65 ?_
          refine lv_iconst (v := 1) hx hb dX10_sleigh_68 (by decide) ?_
          refine lv_isub hx hb dX10_sleigh_69 ?_
          exact Kr _ _ _ _ _ _ (gv_inj h) hP hS dX10_sleigh_70
        · have h := gv_neg hc h
          refine lv_bipush (v := -3) hx hb dX10_sleigh_42 (by decide) ?_
          exact Kr _ _ _ _ _ _ (gv_inj h) hP hS dX10_sleigh_44
      · have h := gv_pos hc h
        refine lv_iconst (v := -1) hx hb dX10_sleigh_25 (by decide) ?_
        exact Kr _ _ _ _ _ _ (gv_inj h) hP hS dX10_sleigh_26
theorem mX10_sleigh (l : Launch) (X : gw_X) (s0 : gs_S) (a1 : Int32) (a2 : Int32) (a3 : Int32) {r : Int32} {τ : gs_S} (h : pX10_sleigh a1 a2 a3 s0 = some (r, τ)) : Met l yX10_sleigh wsX10_sleigh rX10_sleigh (gm_Pc X s0 [.ref (X.1 0), .int a1, .int a2, .int a3]) (gm_Qi X τ r) 0 0 (gw_A X) :=
  gm_of RX10 (by decide) rfl rfl (Nat.le_of_ble_eq_true rfl) (fun p e s m below meth c ls C0 hP hl hS => tX10_sleigh C0 a1 a2 a3 s0 h (fun H locs ls pc r τ hr hP hS hd => by cases hr; exact gm_reti C0 hP hS hd) hP hS hl)
def pX10_home  (s0 : gs_S) : Option (Int32 × gs_S) := gv_let (s0.1 4 3) (fun v1 => gv_let (gs_u s0 4 3 (0 : Int32)) (fun s2 => some (v1, s2)))
def rX10_home : Room := { frames := 0, cells := 0, slots := 0, locals := 0 }
set_option maxHeartbeats 4000000 in
set_option maxRecDepth 100000 in
theorem tX10_home {p : Program} {l : Launch} {e : Env} {s : State} {m : MethodId} {args : Array Value} {below : List Frame} {meth : Method} {c : Code} {X : gw_X} {Q : State → Prop} (C0 : gm_At p s m args meth c X cX10_home 2 RX10 wsX10_home (some .int))  (s0 : gs_S) {z : Int32 × gs_S} (h : pX10_home s0 = some z) (Kr : ∀ (H : Heap) (locs : List Loc) (ls : Array Slot) (pc : Nat) (r : Int32) (τ : gs_S), z = (r, τ) → gw_P X τ H → va_S (gw_A X) s.heap H locs → decode cX10_home pc = .ok (.ireturn, 1) → W p l e rX10_home s m args below meth c H locs 0 0 Q (F0 m pc ls [.int r])) {H : Heap} {locs : List Loc} {ls : Array Slot} (hP : gw_P X s0 H) (hS : va_S (gw_A X) s.heap H locs) (hl : lv_has ls 2 [(0, .ref (X.1 0))]) : W p l e rX10_home s m args below meth c H locs 0 0 Q (F0 m 0 ls []) := by
  obtain ⟨hx, hb, hml, hown, hts, hr, hlocks, hC⟩ := id C0
  unfold pX10_home at h
  refine lv_aload_n hx hb dX10_home_0 rfl (lv_at hl 0 rfl) ?_
  refine gv_get (ref := "IceByEar") (C := RX10) (T := TX10) (N := 8) (ci := 10) (v := .ref (X.1 1)) C0 (fun _ h9 => List.mem_cons_of_mem _ (List.mem_append_left _ (List.mem_append_left _ (List.mem_append_right _ h9)))) hP 0 (gw_o10 X s0 gk_0.1) rfl 0 (by decide) (by decide +kernel) rfl rfl dX10_home_1 ?_
  refine gv_get (ref := "IceByEar$Scene") (C := RX4) (T := TX4) (N := 6) (ci := 4) (v := .ref (X.1 4)) C0 (fun _ h9 => List.mem_cons_of_mem _ (List.mem_append_left _ (List.mem_append_right _ h9))) hP 1 (gw_o4 X s0 gk_1.1) rfl 1 (by decide) (by decide +kernel) rfl rfl dX10_home_4 ?_
  refine gv_get (ref := "IceByEar$Train") (C := RX8) (T := TX8) (N := 4) (ci := 8) (v := .int (s0.1 4 3)) C0 (fun _ h9 => List.mem_cons_of_mem _ (List.mem_append_right _ h9)) hP 4 (gw_o8 X s0 gk_4.1) rfl 3 (by decide) (by decide +kernel) rfl rfl dX10_home_7 ?_
  refine lv_topi (fun v1 ev1 => ?_)
  have h := gv_let_e ev1 h
  refine lv_istore_n (lv' := [(1, .int v1), (0, .ref (X.1 0))]) hx hb dX10_home_10 rfl hl (by decide) rfl (fun ls hl => ?_)
  refine lv_aload_n hx hb dX10_home_11 rfl (lv_at hl 1 rfl) ?_
  refine gv_get (ref := "IceByEar") (C := RX10) (T := TX10) (N := 8) (ci := 10) (v := .ref (X.1 1)) C0 (fun _ h9 => List.mem_cons_of_mem _ (List.mem_append_left _ (List.mem_append_left _ (List.mem_append_right _ h9)))) hP 0 (gw_o10 X s0 gk_0.1) rfl 0 (by decide) (by decide +kernel) rfl rfl dX10_home_12 ?_
  refine gv_get (ref := "IceByEar$Scene") (C := RX4) (T := TX4) (N := 6) (ci := 4) (v := .ref (X.1 4)) C0 (fun _ h9 => List.mem_cons_of_mem _ (List.mem_append_left _ (List.mem_append_right _ h9))) hP 1 (gw_o4 X s0 gk_1.1) rfl 1 (by decide) (by decide +kernel) rfl rfl dX10_home_15 ?_
  refine lv_iconst (v := 0) hx hb dX10_home_18 (by decide) ?_
  refine gv_put (ref := "IceByEar$Train") (C := RX8) (T := TX8) (N := 4) (ci := 8) (v := .int (0 : Int32)) C0 (fun _ h9 => List.mem_cons_of_mem _ (List.mem_append_right _ h9)) tyX8 tyX8_ok nmX8 hP hS 4 (gw_o8 X s0 gk_4.1) rfl 3 (by decide) (by decide +kernel) rfl rfl (tyX8_ok 3 (by decide)) rfl rfl (Nat.le_of_ble_eq_true rfl) (gw_s8_3 gk_4.1 (0 : Int32)) dX10_home_19 (fun s2 H locs es2 hP hS => ?_)
  have h := gv_let_e es2 h
  refine lv_iload_n hx hb dX10_home_22 rfl (lv_at hl 0 rfl) ?_
  exact Kr _ _ _ _ _ _ (gv_inj h) hP hS dX10_home_23
theorem mX10_home (l : Launch) (X : gw_X) (s0 : gs_S)  {r : Int32} {τ : gs_S} (h : pX10_home s0 = some (r, τ)) : Met l yX10_home wsX10_home rX10_home (gm_Pc X s0 [.ref (X.1 0)]) (gm_Qi X τ r) 0 0 (gw_A X) :=
  gm_of RX10 (by decide) rfl rfl (Nat.le_of_ble_eq_true rfl) (fun p e s m below meth c ls C0 hP hl hS => tX10_home C0  s0 h (fun H locs ls pc r τ hr hP hS hd => by cases hr; exact gm_reti C0 hP hS hd) hP hS hl)
def pX10_allBeside (a0 : Int64) : Int64 := (((((a0.toUInt64 >>> ((8 : Int32).toInt64.toUInt64 &&& Int64.toUInt64 63)).toInt64) ||| (a0 <<< ((8 : Int32).toInt64 &&& 63))) ||| (((a0 &&& (-72340172838076674 : Int64)).toUInt64 >>> ((1 : Int32).toInt64.toUInt64 &&& Int64.toUInt64 63)).toInt64)) ||| ((a0 &&& (9187201950435737471 : Int64)) <<< ((1 : Int32).toInt64 &&& 63)))
def rX10_allBeside : Room := { frames := 0, cells := 0, slots := 0, locals := 0 }
set_option maxHeartbeats 4000000 in
set_option maxRecDepth 100000 in
theorem tX10_allBeside {p : Program} {l : Launch} {e : Env} {s : State} {m : MethodId} {args : Array Value} {below : List Frame} {meth : Method} {c : Code} {X : gw_X} {Q : State → Prop} (C0 : gm_At p s m args meth c X cX10_allBeside 2 RX10 wsX10_allBeside (some .long)) (a0 : Int64) (s0 : gs_S) {z : Int64} (h : pX10_allBeside a0 = z) (Kr : ∀ (H : Heap) (locs : List Loc) (ls : Array Slot) (pc : Nat) (r : Int64), z = r → gw_P X s0 H → va_S (gw_A X) s.heap H locs → decode cX10_allBeside pc = .ok (.lreturn, 1) → W p l e rX10_allBeside s m args below meth c H locs 0 0 Q (F0 m pc ls [.long r])) {H : Heap} {locs : List Loc} {ls : Array Slot} (hP : gw_P X s0 H) (hS : va_S (gw_A X) s.heap H locs) (hl : lv_has ls 2 [(0, .long a0)]) : W p l e rX10_allBeside s m args below meth c H locs 0 0 Q (F0 m 0 ls []) := by
  obtain ⟨hx, hb, hml, hown, hts, hr, hlocks, hC⟩ := id C0
  unfold pX10_allBeside at h
  refine lv_lload_n hx hb dX10_allBeside_0 rfl (lv_at hl 0 rfl) ?_
  refine lv_bipush (v := 8) hx hb dX10_allBeside_1 (by decide) ?_
  refine lv_lushr hx hb dX10_allBeside_3 rfl ?_
  refine lv_lload_n hx hb dX10_allBeside_4 rfl (lv_at hl 0 rfl) ?_
  refine lv_bipush (v := 8) hx hb dX10_allBeside_5 (by decide) ?_
  refine lv_lshl hx hb dX10_allBeside_7 rfl ?_
  refine lv_lor hx hb dX10_allBeside_8 ?_
  refine lv_lload_n hx hb dX10_allBeside_9 rfl (lv_at hl 0 rfl) ?_
  refine lv_ldc2 (v := -72340172838076674) hx hb hown (hts (.constantLong RX10 276 (-72340172838076674)) (by decide +kernel)) dX10_allBeside_10 ?_
  refine lv_land hx hb dX10_allBeside_13 ?_
  refine lv_iconst (v := 1) hx hb dX10_allBeside_14 (by decide) ?_
  refine lv_lushr hx hb dX10_allBeside_15 rfl ?_
  refine lv_lor hx hb dX10_allBeside_16 ?_
  refine lv_lload_n hx hb dX10_allBeside_17 rfl (lv_at hl 0 rfl) ?_
  refine lv_ldc2 (v := 9187201950435737471) hx hb hown (hts (.constantLong RX10 278 (9187201950435737471)) (by decide +kernel)) dX10_allBeside_18 ?_
  refine lv_land hx hb dX10_allBeside_21 ?_
  refine lv_iconst (v := 1) hx hb dX10_allBeside_22 (by decide) ?_
  refine lv_lshl hx hb dX10_allBeside_23 rfl ?_
  refine lv_lor hx hb dX10_allBeside_24 ?_
  exact Kr _ _ _ _ _ h.symm hP hS dX10_allBeside_25
theorem mX10_allBeside (l : Launch) (X : gw_X) (s0 : gs_S) (a0 : Int64) : Met l yX10_allBeside wsX10_allBeside rX10_allBeside (gm_Pc X s0 [.long a0]) (gm_Ql X s0 (pX10_allBeside a0)) 0 0 (gw_A X) :=
  gm_of RX10 (by decide) rfl rfl (Nat.le_of_ble_eq_true rfl) (fun p e s m below meth c ls C0 hP hl hS => tX10_allBeside C0 a0 s0 rfl (fun H locs ls pc r hr hP hS hd => by subst hr; exact gm_retl C0 hP hS hd) hP hS hl)
def pX10_areNext (a0 : Int32) (a1 : Int32) : Int32 := if (lg_cmp ((((pX10_allBeside ((1 : Int64) <<< (a0.toInt64 &&& 63))).toUInt64 >>> (a1.toInt64.toUInt64 &&& Int64.toUInt64 63)).toInt64) &&& (1 : Int64)) (0 : Int64)) = 0 then (0 : Int32) else (1 : Int32)
def rX10_areNext : Room := { frames := 1, cells := 0, slots := 0, locals := 21 }
set_option maxHeartbeats 4000000 in
set_option maxRecDepth 100000 in
theorem tX10_areNext {p : Program} {l : Launch} {e : Env} {s : State} {m : MethodId} {args : Array Value} {below : List Frame} {meth : Method} {c : Code} {X : gw_X} {Q : State → Prop} (C0 : gm_At p s m args meth c X cX10_areNext 2 RX10 wsX10_areNext (some .boolean)) (a0 : Int32) (a1 : Int32) (s0 : gs_S) {z : Int32} (h : pX10_areNext a0 a1 = z) (Kr : ∀ (H : Heap) (locs : List Loc) (ls : Array Slot) (pc : Nat) (r : Int32), z = r → narrow .boolean (.int r) = .int r → gw_P X s0 H → va_S (gw_A X) s.heap H locs → decode cX10_areNext pc = .ok (.ireturn, 1) → W p l e rX10_areNext s m args below meth c H locs 0 0 Q (F0 m pc ls [.int r])) {H : Heap} {locs : List Loc} {ls : Array Slot} (hP : gw_P X s0 H) (hS : va_S (gw_A X) s.heap H locs) (hl : lv_has ls 2 [(0, .int a0), (1, .int a1)]) : W p l e rX10_areNext s m args below meth c H locs 0 0 Q (F0 m 0 ls []) := by
  obtain ⟨hx, hb, hml, hown, hts, hr, hlocks, hC⟩ := id C0
  unfold pX10_areNext at h
  refine lv_lconst (v := 1) hx hb dX10_areNext_0 (by decide) ?_
  refine lv_iload_n hx hb dX10_areNext_1 rfl (lv_at hl 0 rfl) ?_
  refine lv_lshl hx hb dX10_areNext_2 rfl ?_
  refine gv_rl (gv_runS (n := 1) (rest := []) C0 (mX10_allBeside l X s0 ((1 : Int64) <<< (a0.toInt64 &&& 63))) gX10_areNext_X10_allBeside rfl ⟨rfl, rfl⟩ (by decide +kernel) ⟨by decide, by decide⟩ hP hS rfl hl.1 rfl (Nat.le_of_ble_eq_true rfl) dX10_areNext_3 ⟨Nat.zero_le _, Nat.zero_le _⟩) hS (fun H locs hP hS => ?_)
  refine lv_iload_n hx hb dX10_areNext_6 rfl (lv_at hl 1 rfl) ?_
  refine lv_lushr hx hb dX10_areNext_7 rfl ?_
  refine lv_lconst (v := 1) hx hb dX10_areNext_8 (by decide) ?_
  refine lv_land hx hb dX10_areNext_9 ?_
  refine lv_lconst (v := 0) hx hb dX10_areNext_10 (by decide) ?_
  refine W.lcmp hx hb dX10_areNext_11 ?_
  refine lv_if_eq (tgt := 19) hx hb dX10_areNext_12 (by decide) (fun hc => ?_) (fun hc => ?_)
  · have h := gv_pos hc h
    refine lv_iconst (v := 0) hx hb dX10_areNext_19 (by decide) ?_
    exact Kr _ _ _ _ _ h.symm (show narrow .boolean (.int (0 : Int32)) = .int (0 : Int32) by decide) hP hS dX10_areNext_20
  · have h := gv_neg hc h
    refine lv_iconst (v := 1) hx hb dX10_areNext_15 (by decide) ?_
    refine lv_goto (tgt := 20) hx hb dX10_areNext_16 (by decide) ?_
    exact Kr _ _ _ _ _ h.symm (show narrow .boolean (.int (1 : Int32)) = .int (1 : Int32) by decide) hP hS dX10_areNext_20
theorem mX10_areNext (l : Launch) (X : gw_X) (s0 : gs_S) (a0 : Int32) (a1 : Int32) : Met l yX10_areNext wsX10_areNext rX10_areNext (gm_Pc X s0 [.int a0, .int a1]) (gm_Qi X s0 (pX10_areNext a0 a1)) 0 0 (gw_A X) :=
  gm_of RX10 (by decide) rfl rfl (Nat.le_of_ble_eq_true rfl) (fun p e s m below meth c ls C0 hP hl hS => tX10_areNext C0 a0 a1 s0 rfl (fun H locs ls pc r hr hn hP hS hd => by subst hr; exact gm_retz hn C0 hP hS hd) hP hS hl)
theorem bX10_areNext (a0 : Int32) (a1 : Int32) : narrow .boolean (.int (pX10_areNext a0 a1)) = .int (pX10_areNext a0 a1) := by
  unfold pX10_areNext
  repeat' split
  all_goals first | rfl
def pX9_add (a1 : Int32) (s0 : gs_S) : Option (gs_S) := gv_in (s0.1 8 1) 24 (gv_let (gs_u s0 9 (s0.1 8 1).toNatClampNeg a1) (fun s2 => gv_let (gs_u s2 8 1 ((s2.1 8 1) + (1 : Int32))) (fun s3 => some s3)))
def rX9_add : Room := { frames := 0, cells := 0, slots := 0, locals := 0 }
set_option maxHeartbeats 4000000 in
set_option maxRecDepth 100000 in
theorem tX9_add {p : Program} {l : Launch} {e : Env} {s : State} {m : MethodId} {args : Array Value} {below : List Frame} {meth : Method} {c : Code} {X : gw_X} {Q : State → Prop} (C0 : gm_At p s m args meth c X cX9_add 2 RX9 wsX9_add none) (a1 : Int32) (s0 : gs_S) {z : gs_S} (h : pX9_add a1 s0 = some z) (Kr : ∀ (H : Heap) (locs : List Loc) (ls : Array Slot) (pc : Nat) (τ : gs_S), z = τ → gw_P X τ H → va_S (gw_A X) s.heap H locs → decode cX9_add pc = .ok (.return_, 1) → W p l e rX9_add s m args below meth c H locs 0 0 Q (F0 m pc ls [])) {H : Heap} {locs : List Loc} {ls : Array Slot} (hP : gw_P X s0 H) (hS : va_S (gw_A X) s.heap H locs) (hl : lv_has ls 2 [(0, .ref (X.1 8)), (1, .int a1)]) : W p l e rX9_add s m args below meth c H locs 0 0 Q (F0 m 0 ls []) := by
  obtain ⟨hx, hb, hml, hown, hts, hr, hlocks, hC⟩ := id C0
  unfold pX9_add at h
  refine lv_aload_n hx hb dX9_add_0 rfl (lv_at hl 0 rfl) ?_
  refine gv_get (ref := "IceByEar$Way") (C := RX9) (T := TX9) (N := 2) (ci := 9) (v := .ref (X.1 9)) C0 (fun _ h9 => List.mem_cons_of_mem _ (List.mem_append_right _ h9)) hP 8 (gw_o9 X s0 gk_8.1) rfl 0 (by decide) (by decide +kernel) rfl rfl dX9_add_1 ?_
  refine lv_aload_n hx hb dX9_add_4 rfl (lv_at hl 0 rfl) ?_
  refine gv_get (ref := "IceByEar$Way") (C := RX9) (T := TX9) (N := 2) (ci := 9) (v := .int (s0.1 8 1)) C0 (fun _ h9 => List.mem_cons_of_mem _ (List.mem_append_right _ h9)) hP 8 (gw_o9 X s0 gk_8.1) rfl 1 (by decide) (by decide +kernel) rfl rfl dX9_add_5 ?_
  refine lv_iload_n hx hb dX9_add_8 rfl (lv_at hl 1 rfl) ?_
  obtain ⟨hin1, h⟩ := gv_in_e h
  refine gv_iast C0 hP hS 9 gk_9.1 gk_9.2 hin1 dX9_add_9 (fun s2 H locs es2 hP hS => ?_)
  have h := gv_let_e es2 h
  refine lv_aload_n hx hb dX9_add_10 rfl (lv_at hl 0 rfl) ?_
  refine lv_dup hx hb dX9_add_11 rfl ?_
  refine gv_get (ref := "IceByEar$Way") (C := RX9) (T := TX9) (N := 2) (ci := 9) (v := .int (s2.1 8 1)) C0 (fun _ h9 => List.mem_cons_of_mem _ (List.mem_append_right _ h9)) hP 8 (gw_o9 X s2 gk_8.1) rfl 1 (by decide) (by decide +kernel) rfl rfl dX9_add_12 ?_
  refine lv_iconst (v := 1) hx hb dX9_add_15 (by decide) ?_
  refine lv_iadd hx hb dX9_add_16 ?_
  refine gv_put (ref := "IceByEar$Way") (C := RX9) (T := TX9) (N := 2) (ci := 9) (v := .int ((s2.1 8 1) + (1 : Int32))) C0 (fun _ h9 => List.mem_cons_of_mem _ (List.mem_append_right _ h9)) tyX9 tyX9_ok nmX9 hP hS 8 (gw_o9 X s2 gk_8.1) rfl 1 (by decide) (by decide +kernel) rfl rfl (tyX9_ok 1 (by decide)) rfl rfl (Nat.le_of_ble_eq_true rfl) (gw_s9_1 gk_8.1 ((s2.1 8 1) + (1 : Int32))) dX9_add_17 (fun s3 H locs es3 hP hS => ?_)
  have h := gv_let_e es3 h
  exact Kr _ _ _ _ _ (gv_inj h) hP hS dX9_add_20
theorem mX9_add (l : Launch) (X : gw_X) (s0 : gs_S) (a1 : Int32) {τ : gs_S} (h : pX9_add a1 s0 = some τ) : Met l yX9_add wsX9_add rX9_add (gm_Pc X s0 [.ref (X.1 8), .int a1]) (gm_Qv X τ) 0 0 (gw_A X) :=
  gm_of RX9 (by decide) rfl rfl (Nat.le_of_ble_eq_true rfl) (fun p e s m below meth c ls C0 hP hl hS => tX9_add C0 a1 s0 h (fun H locs ls pc τ hr hP hS hd => by subst hr; exact gm_retv C0 hP hS hd) hP hS hl)
def pX10_step_J46 (s0 : gs_S) (a1 : Int32)  : Option (Int32 × gs_S) := if (s0.1 8 1) < (24 : Int32) then gv_bind (pX9_add a1 s0) (fun s1 => some ((s1.1 8 1), s1)) else some ((-3 : Int32), s0)
def pX10_step (a1 : Int32) (s0 : gs_S) : Option (Int32 × gs_S) := if (pX10_isSquare (a1.toInt64)) = 0 then some ((-1 : Int32), s0) else if (s0.1 8 1) ≤ 0 then pX10_step_J46 s0 a1 else gv_in ((s0.1 8 1) - (1 : Int32)) 24 (if (pX10_areNext (s0.1 9 ((s0.1 8 1) - (1 : Int32)).toNatClampNeg) a1) = 0 then some ((-2 : Int32), s0) else pX10_step_J46 s0 a1)
def rX10_step : Room := { frames := 2, cells := 0, slots := 0, locals := 44 }
set_option maxHeartbeats 4000000 in
set_option maxRecDepth 100000 in
theorem tX10_step {p : Program} {l : Launch} {e : Env} {s : State} {m : MethodId} {args : Array Value} {below : List Frame} {meth : Method} {c : Code} {X : gw_X} {Q : State → Prop} (C0 : gm_At p s m args meth c X cX10_step 3 RX10 wsX10_step (some .int)) (a1 : Int32) (s0 : gs_S) {z : Int32 × gs_S} (h : pX10_step a1 s0 = some z) (Kr : ∀ (H : Heap) (locs : List Loc) (ls : Array Slot) (pc : Nat) (r : Int32) (τ : gs_S), z = (r, τ) → gw_P X τ H → va_S (gw_A X) s.heap H locs → decode cX10_step pc = .ok (.ireturn, 1) → W p l e rX10_step s m args below meth c H locs 0 0 Q (F0 m pc ls [.int r])) {H : Heap} {locs : List Loc} {ls : Array Slot} (hP : gw_P X s0 H) (hS : va_S (gw_A X) s.heap H locs) (hl : lv_has ls 3 [(0, .ref (X.1 0)), (1, .int a1)]) : W p l e rX10_step s m args below meth c H locs 0 0 Q (F0 m 0 ls []) := by
  obtain ⟨hx, hb, hml, hown, hts, hr, hlocks, hC⟩ := id C0
  unfold pX10_step at h
  refine lv_iload_n hx hb dX10_step_0 rfl (lv_at hl 1 rfl) ?_
  refine lv_i2l hx hb dX10_step_1 rfl ?_
  refine gv_ri (gv_runS (n := 1) (rest := []) C0 (mX10_isSquare l X s0 (a1.toInt64)) gX10_step_X10_isSquare rfl ⟨rfl, rfl⟩ (by decide +kernel) ⟨by decide, by decide⟩ hP hS rfl hl.1 rfl (Nat.le_of_ble_eq_true rfl) dX10_step_2 ⟨Nat.zero_le _, Nat.zero_le _⟩) hS (fun H locs hP hS => ?_)
  refine lv_if_ne (tgt := 10) hx hb dX10_step_5 (by decide) (fun hc => ?_) (fun hc => ?_)
  · have h := gv_neg hc h
    refine lv_aload_n hx hb dX10_step_10 rfl (lv_at hl 0 rfl) ?_
    refine gv_get (ref := "IceByEar") (C := RX10) (T := TX10) (N := 8) (ci := 10) (v := .ref (X.1 1)) C0 (fun _ h9 => List.mem_cons_of_mem _ (List.mem_append_left _ (List.mem_append_left _ (List.mem_append_right _ h9)))) hP 0 (gw_o10 X s0 gk_0.1) rfl 0 (by decide) (by decide +kernel) rfl rfl dX10_step_11 ?_
    refine gv_get (ref := "IceByEar$Scene") (C := RX4) (T := TX4) (N := 6) (ci := 4) (v := .ref (X.1 8)) C0 (fun _ h9 => List.mem_cons_of_mem _ (List.mem_append_left _ (List.mem_append_right _ h9))) hP 1 (gw_o4 X s0 gk_1.1) rfl 2 (by decide) (by decide +kernel) rfl rfl dX10_step_14 ?_
    refine lv_astore_n (lv' := [(2, .ref (X.1 8)), (0, .ref (X.1 0)), (1, .int a1)]) hx hb dX10_step_17 rfl hl (by decide) rfl (fun ls hl => ?_)
    refine lv_aload_n hx hb dX10_step_18 rfl (lv_at hl 0 rfl) ?_
    refine gv_get (ref := "IceByEar$Way") (C := RX9) (T := TX9) (N := 2) (ci := 9) (v := .int (s0.1 8 1)) C0 (fun _ h9 => List.mem_cons_of_mem _ (List.mem_append_right _ h9)) hP 8 (gw_o9 X s0 gk_8.1) rfl 1 (by decide) (by decide +kernel) rfl rfl dX10_step_19 ?_
    have J46 : ∀  (H : Heap) (locs : List Loc) (ls : Array Slot), pX10_step_J46 s0 a1 = some z → gw_P X s0 H → va_S (gw_A X) s.heap H locs → lv_has ls 3 [(2, .ref (X.1 8)), (1, .int a1)] → W p l e rX10_step s m args below meth c H locs 0 0 Q (F0 m 46 ls []) := by
      intro  H locs ls h hP hS hl
      unfold pX10_step_J46 at h
      refine lv_aload_n hx hb dX10_step_46 rfl (lv_at hl 0 rfl) ?_
      refine gv_get (ref := "IceByEar$Way") (C := RX9) (T := TX9) (N := 2) (ci := 9) (v := .int (s0.1 8 1)) C0 (fun _ h9 => List.mem_cons_of_mem _ (List.mem_append_right _ h9)) hP 8 (gw_o9 X s0 gk_8.1) rfl 1 (by decide) (by decide +kernel) rfl rfl dX10_step_47 ?_
      refine lv_bipush (v := 24) hx hb dX10_step_50 (by decide) ?_
      refine lv_icmp_lt (tgt := 58) hx hb dX10_step_52 (by decide) (fun hc => ?_) (fun hc => ?_)
      · have h := gv_pos hc h
        refine lv_aload_n hx hb dX10_step_58 rfl (lv_at hl 0 rfl) ?_
        refine lv_iload_n hx hb dX10_step_59 rfl (lv_at hl 1 rfl) ?_
        obtain ⟨s1, hs1, h⟩ := gv_bind_e h
        refine gv_rv (gv_runV (n := 1) (rest := []) C0 (mX9_add l X s0 a1 hs1) gX10_step_X9_add rfl ⟨rfl, rfl⟩ (by decide +kernel) ⟨by decide, by decide⟩ gk_8.1 (by decide) rfl hP hS rfl hl.1 rfl (Nat.le_of_ble_eq_true rfl) dX10_step_60 ⟨Nat.zero_le _, Nat.zero_le _⟩) hS (fun H locs hP hS => ?_)
        refine lv_aload_n hx hb dX10_step_63 rfl (lv_at hl 0 rfl) ?_
        refine gv_get (ref := "IceByEar$Way") (C := RX9) (T := TX9) (N := 2) (ci := 9) (v := .int (s1.1 8 1)) C0 (fun _ h9 => List.mem_cons_of_mem _ (List.mem_append_right _ h9)) hP 8 (gw_o9 X s1 gk_8.1) rfl 1 (by decide) (by decide +kernel) rfl rfl dX10_step_64 ?_
        exact Kr _ _ _ _ _ _ (gv_inj h) hP hS dX10_step_67
      · have h := gv_neg hc h
        refine lv_bipush (v := -3) hx hb dX10_step_55 (by decide) ?_
        exact Kr _ _ _ _ _ _ (gv_inj h) hP hS dX10_step_57
    refine lv_if_le (tgt := 46) hx hb dX10_step_22 (by decide) (fun hc => ?_) (fun hc => ?_)
    · have h := gv_pos hc h
      exact J46  _ _ _ h hP hS (lv_sub hl [0, 2] rfl)
    · have h := gv_neg hc h
      refine lv_aload_n hx hb dX10_step_25 rfl (lv_at hl 0 rfl) ?_
      refine gv_get (ref := "IceByEar$Way") (C := RX9) (T := TX9) (N := 2) (ci := 9) (v := .ref (X.1 9)) C0 (fun _ h9 => List.mem_cons_of_mem _ (List.mem_append_right _ h9)) hP 8 (gw_o9 X s0 gk_8.1) rfl 0 (by decide) (by decide +kernel) rfl rfl dX10_step_26 ?_
      refine lv_aload_n hx hb dX10_step_29 rfl (lv_at hl 0 rfl) ?_
      refine gv_get (ref := "IceByEar$Way") (C := RX9) (T := TX9) (N := 2) (ci := 9) (v := .int (s0.1 8 1)) C0 (fun _ h9 => List.mem_cons_of_mem _ (List.mem_append_right _ h9)) hP 8 (gw_o9 X s0 gk_8.1) rfl 1 (by decide) (by decide +kernel) rfl rfl dX10_step_30 ?_
      refine lv_iconst (v := 1) hx hb dX10_step_33 (by decide) ?_
      refine lv_isub hx hb dX10_step_34 ?_
      obtain ⟨hin2, h⟩ := gv_in_e h
      refine gv_iald C0 hP 9 gk_9.1 gk_9.2 hin2 dX10_step_35 ?_
      refine lv_iload_n hx hb dX10_step_36 rfl (lv_at hl 2 rfl) ?_
      refine gv_ri (gv_runS (n := 2) (rest := []) C0 (mX10_areNext l X s0 (s0.1 9 ((s0.1 8 1) - (1 : Int32)).toNatClampNeg) a1) gX10_step_X10_areNext rfl ⟨rfl, rfl⟩ (by decide +kernel) ⟨by decide, by decide⟩ hP hS rfl hl.1 rfl (Nat.le_of_ble_eq_true rfl) dX10_step_37 ⟨Nat.zero_le _, Nat.zero_le _⟩) hS (fun H locs hP hS => ?_)
      refine lv_if_ne (tgt := 46) hx hb dX10_step_40 (by decide) (fun hc => ?_) (fun hc => ?_)
      · have h := gv_neg hc h
        exact J46  _ _ _ h hP hS (lv_sub hl [0, 2] rfl)
      · have h := gv_pos hc h
        refine lv_bipush (v := -2) hx hb dX10_step_43 (by decide) ?_
        exact Kr _ _ _ _ _ _ (gv_inj h) hP hS dX10_step_45
  · have h := gv_pos hc h
    refine lv_iconst (v := -1) hx hb dX10_step_8 (by decide) ?_
    exact Kr _ _ _ _ _ _ (gv_inj h) hP hS dX10_step_9
theorem mX10_step (l : Launch) (X : gw_X) (s0 : gs_S) (a1 : Int32) {r : Int32} {τ : gs_S} (h : pX10_step a1 s0 = some (r, τ)) : Met l yX10_step wsX10_step rX10_step (gm_Pc X s0 [.ref (X.1 0), .int a1]) (gm_Qi X τ r) 0 0 (gw_A X) :=
  gm_of RX10 (by decide) rfl rfl (Nat.le_of_ble_eq_true rfl) (fun p e s m below meth c ls C0 hP hl hS => tX10_step C0 a1 s0 h (fun H locs ls pc r τ hr hP hS hd => by cases hr; exact gm_reti C0 hP hS hd) hP hS hl)
def pX10_back (a1 : Int32) (s0 : gs_S) : Option (Int32 × gs_S) := if (pX10_isWithin (a1.toInt64) (1 : Int32) (24 : Int32)) = 0 then some ((-1 : Int32), s0) else if a1 ≤ (s0.1 8 1) then gv_let (gs_u s0 8 1 ((s0.1 8 1) - a1)) (fun s1 => some ((s1.1 8 1), s1)) else some ((-2 : Int32), s0)
def rX10_back : Room := { frames := 1, cells := 0, slots := 0, locals := 23 }
set_option maxHeartbeats 4000000 in
set_option maxRecDepth 100000 in
theorem tX10_back {p : Program} {l : Launch} {e : Env} {s : State} {m : MethodId} {args : Array Value} {below : List Frame} {meth : Method} {c : Code} {X : gw_X} {Q : State → Prop} (C0 : gm_At p s m args meth c X cX10_back 2 RX10 wsX10_back (some .int)) (a1 : Int32) (s0 : gs_S) {z : Int32 × gs_S} (h : pX10_back a1 s0 = some z) (Kr : ∀ (H : Heap) (locs : List Loc) (ls : Array Slot) (pc : Nat) (r : Int32) (τ : gs_S), z = (r, τ) → gw_P X τ H → va_S (gw_A X) s.heap H locs → decode cX10_back pc = .ok (.ireturn, 1) → W p l e rX10_back s m args below meth c H locs 0 0 Q (F0 m pc ls [.int r])) {H : Heap} {locs : List Loc} {ls : Array Slot} (hP : gw_P X s0 H) (hS : va_S (gw_A X) s.heap H locs) (hl : lv_has ls 2 [(0, .ref (X.1 0)), (1, .int a1)]) : W p l e rX10_back s m args below meth c H locs 0 0 Q (F0 m 0 ls []) := by
  obtain ⟨hx, hb, hml, hown, hts, hr, hlocks, hC⟩ := id C0
  unfold pX10_back at h
  refine lv_iload_n hx hb dX10_back_0 rfl (lv_at hl 1 rfl) ?_
  refine lv_i2l hx hb dX10_back_1 rfl ?_
  refine lv_iconst (v := 1) hx hb dX10_back_2 (by decide) ?_
  refine lv_bipush (v := 24) hx hb dX10_back_3 (by decide) ?_
  refine gv_ri (gv_runS (n := 3) (rest := []) C0 (mX10_isWithin l X s0 (a1.toInt64) (1 : Int32) (24 : Int32)) gX10_back_X10_isWithin rfl ⟨rfl, rfl⟩ (by decide +kernel) ⟨by decide, by decide⟩ hP hS rfl hl.1 rfl (Nat.le_of_ble_eq_true rfl) dX10_back_5 ⟨Nat.zero_le _, Nat.zero_le _⟩) hS (fun H locs hP hS => ?_)
  refine lv_if_ne (tgt := 13) hx hb dX10_back_8 (by decide) (fun hc => ?_) (fun hc => ?_)
  · have h := gv_neg hc h
    refine lv_iload_n hx hb dX10_back_13 rfl (lv_at hl 1 rfl) ?_
    refine lv_aload_n hx hb dX10_back_14 rfl (lv_at hl 0 rfl) ?_
    refine gv_get (ref := "IceByEar") (C := RX10) (T := TX10) (N := 8) (ci := 10) (v := .ref (X.1 1)) C0 (fun _ h9 => List.mem_cons_of_mem _ (List.mem_append_left _ (List.mem_append_left _ (List.mem_append_right _ h9)))) hP 0 (gw_o10 X s0 gk_0.1) rfl 0 (by decide) (by decide +kernel) rfl rfl dX10_back_15 ?_
    refine gv_get (ref := "IceByEar$Scene") (C := RX4) (T := TX4) (N := 6) (ci := 4) (v := .ref (X.1 8)) C0 (fun _ h9 => List.mem_cons_of_mem _ (List.mem_append_left _ (List.mem_append_right _ h9))) hP 1 (gw_o4 X s0 gk_1.1) rfl 2 (by decide) (by decide +kernel) rfl rfl dX10_back_18 ?_
    refine gv_get (ref := "IceByEar$Way") (C := RX9) (T := TX9) (N := 2) (ci := 9) (v := .int (s0.1 8 1)) C0 (fun _ h9 => List.mem_cons_of_mem _ (List.mem_append_right _ h9)) hP 8 (gw_o9 X s0 gk_8.1) rfl 1 (by decide) (by decide +kernel) rfl rfl dX10_back_21 ?_
    refine lv_icmp_le (tgt := 30) hx hb dX10_back_24 (by decide) (fun hc => ?_) (fun hc => ?_)
    · have h := gv_pos hc h
      refine lv_aload_n hx hb dX10_back_30 rfl (lv_at hl 0 rfl) ?_
      refine gv_get (ref := "IceByEar") (C := RX10) (T := TX10) (N := 8) (ci := 10) (v := .ref (X.1 1)) C0 (fun _ h9 => List.mem_cons_of_mem _ (List.mem_append_left _ (List.mem_append_left _ (List.mem_append_right _ h9)))) hP 0 (gw_o10 X s0 gk_0.1) rfl 0 (by decide) (by decide +kernel) rfl rfl dX10_back_31 ?_
      refine gv_get (ref := "IceByEar$Scene") (C := RX4) (T := TX4) (N := 6) (ci := 4) (v := .ref (X.1 8)) C0 (fun _ h9 => List.mem_cons_of_mem _ (List.mem_append_left _ (List.mem_append_right _ h9))) hP 1 (gw_o4 X s0 gk_1.1) rfl 2 (by decide) (by decide +kernel) rfl rfl dX10_back_34 ?_
      refine lv_dup hx hb dX10_back_37 rfl ?_
      refine gv_get (ref := "IceByEar$Way") (C := RX9) (T := TX9) (N := 2) (ci := 9) (v := .int (s0.1 8 1)) C0 (fun _ h9 => List.mem_cons_of_mem _ (List.mem_append_right _ h9)) hP 8 (gw_o9 X s0 gk_8.1) rfl 1 (by decide) (by decide +kernel) rfl rfl dX10_back_38 ?_
      refine lv_iload_n hx hb dX10_back_41 rfl (lv_at hl 1 rfl) ?_
      refine lv_isub hx hb dX10_back_42 ?_
      refine gv_put (ref := "IceByEar$Way") (C := RX9) (T := TX9) (N := 2) (ci := 9) (v := .int ((s0.1 8 1) - a1)) C0 (fun _ h9 => List.mem_cons_of_mem _ (List.mem_append_right _ h9)) tyX9 tyX9_ok nmX9 hP hS 8 (gw_o9 X s0 gk_8.1) rfl 1 (by decide) (by decide +kernel) rfl rfl (tyX9_ok 1 (by decide)) rfl rfl (Nat.le_of_ble_eq_true rfl) (gw_s9_1 gk_8.1 ((s0.1 8 1) - a1)) dX10_back_43 (fun s1 H locs es1 hP hS => ?_)
      have h := gv_let_e es1 h
      refine lv_aload_n hx hb dX10_back_46 rfl (lv_at hl 0 rfl) ?_
      refine gv_get (ref := "IceByEar") (C := RX10) (T := TX10) (N := 8) (ci := 10) (v := .ref (X.1 1)) C0 (fun _ h9 => List.mem_cons_of_mem _ (List.mem_append_left _ (List.mem_append_left _ (List.mem_append_right _ h9)))) hP 0 (gw_o10 X s1 gk_0.1) rfl 0 (by decide) (by decide +kernel) rfl rfl dX10_back_47 ?_
      refine gv_get (ref := "IceByEar$Scene") (C := RX4) (T := TX4) (N := 6) (ci := 4) (v := .ref (X.1 8)) C0 (fun _ h9 => List.mem_cons_of_mem _ (List.mem_append_left _ (List.mem_append_right _ h9))) hP 1 (gw_o4 X s1 gk_1.1) rfl 2 (by decide) (by decide +kernel) rfl rfl dX10_back_50 ?_
      refine gv_get (ref := "IceByEar$Way") (C := RX9) (T := TX9) (N := 2) (ci := 9) (v := .int (s1.1 8 1)) C0 (fun _ h9 => List.mem_cons_of_mem _ (List.mem_append_right _ h9)) hP 8 (gw_o9 X s1 gk_8.1) rfl 1 (by decide) (by decide +kernel) rfl rfl dX10_back_53 ?_
      exact Kr _ _ _ _ _ _ (gv_inj h) hP hS dX10_back_56
    · have h := gv_neg hc h
      refine lv_bipush (v := -2) hx hb dX10_back_27 (by decide) ?_
      exact Kr _ _ _ _ _ _ (gv_inj h) hP hS dX10_back_29
  · have h := gv_pos hc h
    refine lv_iconst (v := -1) hx hb dX10_back_11 (by decide) ?_
    exact Kr _ _ _ _ _ _ (gv_inj h) hP hS dX10_back_12
theorem mX10_back (l : Launch) (X : gw_X) (s0 : gs_S) (a1 : Int32) {r : Int32} {τ : gs_S} (h : pX10_back a1 s0 = some (r, τ)) : Met l yX10_back wsX10_back rX10_back (gm_Pc X s0 [.ref (X.1 0), .int a1]) (gm_Qi X τ r) 0 0 (gw_A X) :=
  gm_of RX10 (by decide) rfl rfl (Nat.le_of_ble_eq_true rfl) (fun p e s m below meth c ls C0 hP hl hS => tX10_back C0 a1 s0 h (fun H locs ls pc r τ hr hP hS hd => by cases hr; exact gm_reti C0 hP hS hd) hP hS hl)
def pX8_minute (a1 : Int32) (a2 : Int32) (s0 : gs_S) : Option (Int32) := gv_in a1 6 (gv_in a1 6 (some ((s0.1 7 a1.toNatClampNeg) + (a2 * ((10 : Int32) - (s0.1 6 a1.toNatClampNeg))))))
def rX8_minute : Room := { frames := 0, cells := 0, slots := 0, locals := 0 }
set_option maxHeartbeats 4000000 in
set_option maxRecDepth 100000 in
theorem tX8_minute {p : Program} {l : Launch} {e : Env} {s : State} {m : MethodId} {args : Array Value} {below : List Frame} {meth : Method} {c : Code} {X : gw_X} {Q : State → Prop} (C0 : gm_At p s m args meth c X cX8_minute 3 RX8 wsX8_minute (some .int)) (a1 : Int32) (a2 : Int32) (s0 : gs_S) {z : Int32} (h : pX8_minute a1 a2 s0 = some z) (Kr : ∀ (H : Heap) (locs : List Loc) (ls : Array Slot) (pc : Nat) (r : Int32), z = r → gw_P X s0 H → va_S (gw_A X) s.heap H locs → decode cX8_minute pc = .ok (.ireturn, 1) → W p l e rX8_minute s m args below meth c H locs 0 0 Q (F0 m pc ls [.int r])) {H : Heap} {locs : List Loc} {ls : Array Slot} (hP : gw_P X s0 H) (hS : va_S (gw_A X) s.heap H locs) (hl : lv_has ls 3 [(0, .ref (X.1 4)), (1, .int a1), (2, .int a2)]) : W p l e rX8_minute s m args below meth c H locs 0 0 Q (F0 m 0 ls []) := by
  obtain ⟨hx, hb, hml, hown, hts, hr, hlocks, hC⟩ := id C0
  unfold pX8_minute at h
  refine lv_aload_n hx hb dX8_minute_0 rfl (lv_at hl 0 rfl) ?_
  refine gv_get (ref := "IceByEar$Train") (C := RX8) (T := TX8) (N := 4) (ci := 8) (v := .ref (X.1 7)) C0 (fun _ h9 => List.mem_cons_of_mem _ (List.mem_append_right _ h9)) hP 4 (gw_o8 X s0 gk_4.1) rfl 2 (by decide) (by decide +kernel) rfl rfl dX8_minute_1 ?_
  refine lv_iload_n hx hb dX8_minute_4 rfl (lv_at hl 1 rfl) ?_
  obtain ⟨hin1, h⟩ := gv_in_e h
  refine gv_iald C0 hP 7 gk_7.1 gk_7.2 hin1 dX8_minute_5 ?_
  refine lv_iload_n hx hb dX8_minute_6 rfl (lv_at hl 2 rfl) ?_
  refine lv_bipush (v := 10) hx hb dX8_minute_7 (by decide) ?_
  refine lv_aload_n hx hb dX8_minute_9 rfl (lv_at hl 0 rfl) ?_
  refine gv_get (ref := "IceByEar$Train") (C := RX8) (T := TX8) (N := 4) (ci := 8) (v := .ref (X.1 6)) C0 (fun _ h9 => List.mem_cons_of_mem _ (List.mem_append_right _ h9)) hP 4 (gw_o8 X s0 gk_4.1) rfl 1 (by decide) (by decide +kernel) rfl rfl dX8_minute_10 ?_
  refine lv_iload_n hx hb dX8_minute_13 rfl (lv_at hl 1 rfl) ?_
  obtain ⟨hin2, h⟩ := gv_in_e h
  refine gv_iald C0 hP 6 gk_6.1 gk_6.2 hin2 dX8_minute_14 ?_
  refine lv_isub hx hb dX8_minute_15 ?_
  refine lv_imul hx hb dX8_minute_16 ?_
  refine lv_iadd hx hb dX8_minute_17 ?_
  exact Kr _ _ _ _ _ (gv_inj h) hP hS dX8_minute_18
theorem mX8_minute (l : Launch) (X : gw_X) (s0 : gs_S) (a1 : Int32) (a2 : Int32) {r : Int32} (h : pX8_minute a1 a2 s0 = some r) : Met l yX8_minute wsX8_minute rX8_minute (gm_Pc X s0 [.ref (X.1 4), .int a1, .int a2]) (gm_Qi X s0 r) 0 0 (gw_A X) :=
  gm_of RX8 (by decide) rfl rfl (Nat.le_of_ble_eq_true rfl) (fun p e s m below meth c ls C0 hP hl hS => tX8_minute C0 a1 a2 s0 h (fun H locs ls pc r hr hP hS hd => by subst hr; exact gm_reti C0 hP hS hd) hP hS hl)
def pX8_meets_L2 (a1 : Int32) (a2 : Int32) (s0 : gs_S) (v1 : Int32) : Option ((Int32) ⊕ ((Int32) ⊕ (Int32))) := if a1 ≤ v1 then some (.inr (.inl v1)) else gv_bind (pX8_minute v1 a2 s0) (fun v2 => gv_bind (pX8_minute a1 a2 s0) (fun v3 => if v2 = v3 then some (.inr (.inr (1 : Int32))) else gv_let (v1 + (1 : Int32)) (fun v4 => some (.inl v4))))
def pX8_meets (a1 : Int32) (a2 : Int32) (s0 : gs_S) : Option (Int32) := gv_bret (gv_loop (fun q => pX8_meets_L2 a1 a2 s0 q) gv_N (0 : Int32)) (fun r => r) (fun q => gv_let q (fun v5 => some (0 : Int32)))
def rX8_meets : Room := { frames := 1, cells := 0, slots := 0, locals := 22 }
set_option maxHeartbeats 4000000 in
set_option maxRecDepth 100000 in
theorem tX8_meets {p : Program} {l : Launch} {e : Env} {s : State} {m : MethodId} {args : Array Value} {below : List Frame} {meth : Method} {c : Code} {X : gw_X} {Q : State → Prop} (C0 : gm_At p s m args meth c X cX8_meets 4 RX8 wsX8_meets (some .boolean)) (a1 : Int32) (a2 : Int32) (s0 : gs_S) {z : Int32} (h : pX8_meets a1 a2 s0 = some z) (Kr : ∀ (H : Heap) (locs : List Loc) (ls : Array Slot) (pc : Nat) (r : Int32), z = r → narrow .boolean (.int r) = .int r → gw_P X s0 H → va_S (gw_A X) s.heap H locs → decode cX8_meets pc = .ok (.ireturn, 1) → W p l e rX8_meets s m args below meth c H locs 0 0 Q (F0 m pc ls [.int r])) {H : Heap} {locs : List Loc} {ls : Array Slot} (hP : gw_P X s0 H) (hS : va_S (gw_A X) s.heap H locs) (hl : lv_has ls 4 [(0, .ref (X.1 4)), (1, .int a1), (2, .int a2)]) : W p l e rX8_meets s m args below meth c H locs 0 0 Q (F0 m 0 ls []) := by
  obtain ⟨hx, hb, hml, hown, hts, hr, hlocks, hC⟩ := id C0
  unfold pX8_meets at h
  refine lv_iconst (v := 0) hx hb dX8_meets_0 (by decide) ?_
  refine lv_istore_n (lv' := [(3, .int (0 : Int32)), (0, .ref (X.1 4)), (1, .int a1), (2, .int a2)]) hx hb dX8_meets_1 rfl hl (by decide) rfl (fun ls hl => ?_)
  obtain ⟨q5, hq5, h1q5, h2q5⟩ := gv_bret_e h
  refine gv_loop_ind (Φ := fun q => ∀ (H : Heap) (locs : List Loc) (ls : Array Slot), gw_P X s0 H → va_S (gw_A X) s.heap H locs → lv_has ls 4 [(0, .ref (X.1 4)), (1, .int a1), (2, .int a2), (3, .int q)] → W p l e rX8_meets s m args below meth c H locs 0 0 Q (F0 m 2 ls [])) (Ψ := fun ex => (∀ q : Int32, ex = .inl q → ∀ (H : Heap) (locs : List Loc) (ls : Array Slot), gw_P X s0 H → va_S (gw_A X) s.heap H locs → lv_has ls 4 [] → W p l e rX8_meets s m args below meth c H locs 0 0 Q (F0 m 30 ls [])) ∧ (∀ r : Int32, ex = .inr r → ∀ (H : Heap) (locs : List Loc) (ls : Array Slot) (pc : Nat), narrow .boolean (.int r) = .int r → gw_P X s0 H → va_S (gw_A X) s.heap H locs → decode cX8_meets pc = .ok (.ireturn, 1) → W p l e rX8_meets s m args below meth c H locs 0 0 Q (F0 m pc ls [.int r]))) ?_ gv_N (0 : Int32) q5 hq5 ⟨?_, ?_⟩ H locs ls hP hS (lv_sub hl [1, 2, 3, 0] rfl)
  · intro q x h Kc Ke H locs ls hP hS hl
    obtain ⟨v1, eq_q⟩ : ∃ y, y = q := ⟨_, rfl⟩
    subst eq_q
    have h : pX8_meets_L2 a1 a2 s0 v1 = some x := h
    have hP : gw_P X s0 H := hP
    have hl : lv_has ls 4 [(0, .ref (X.1 4)), (1, .int a1), (2, .int a2), (3, .int v1)] := hl
    unfold pX8_meets_L2 at h
    refine lv_iload_n hx hb dX8_meets_2 rfl (lv_at hl 3 rfl) ?_
    refine lv_iload_n hx hb dX8_meets_3 rfl (lv_at hl 1 rfl) ?_
    refine lv_icmp_ge (tgt := 30) hx hb dX8_meets_4 (by decide) (fun hc => ?_) (fun hc => ?_)
    · have h := gv_pos hc h
      exact (Ke _ (gv_inj h)).1 _ rfl _ _ _ hP hS (lv_sub hl [] rfl)
    · have h := gv_neg hc h
      refine lv_aload_n hx hb dX8_meets_7 rfl (lv_at hl 0 rfl) ?_
      refine lv_iload_n hx hb dX8_meets_8 rfl (lv_at hl 3 rfl) ?_
      refine lv_iload_n hx hb dX8_meets_9 rfl (lv_at hl 2 rfl) ?_
      obtain ⟨v2, hv2, h⟩ := gv_bind_e h
      refine gv_ri (gv_runV (n := 2) (rest := []) C0 (mX8_minute l X s0 v1 a2 hv2) gX8_meets_X8_minute rfl ⟨rfl, rfl⟩ (by decide +kernel) ⟨by decide, by decide⟩ gk_4.1 (by decide) rfl hP hS rfl hl.1 rfl (Nat.le_of_ble_eq_true rfl) dX8_meets_10 ⟨Nat.zero_le _, Nat.zero_le _⟩) hS (fun H locs hP hS => ?_)
      refine lv_aload_n hx hb dX8_meets_13 rfl (lv_at hl 0 rfl) ?_
      refine lv_iload_n hx hb dX8_meets_14 rfl (lv_at hl 1 rfl) ?_
      refine lv_iload_n hx hb dX8_meets_15 rfl (lv_at hl 2 rfl) ?_
      obtain ⟨v3, hv3, h⟩ := gv_bind_e h
      refine gv_ri (gv_runV (n := 2) (rest := [.int v2]) C0 (mX8_minute l X s0 a1 a2 hv3) gX8_meets_X8_minute rfl ⟨rfl, rfl⟩ (by decide +kernel) ⟨by decide, by decide⟩ gk_4.1 (by decide) rfl hP hS rfl hl.1 rfl (Nat.le_of_ble_eq_true rfl) dX8_meets_16 ⟨Nat.zero_le _, Nat.zero_le _⟩) hS (fun H locs hP hS => ?_)
      refine lv_icmp_ne (tgt := 24) hx hb dX8_meets_19 (by decide) (fun hc => ?_) (fun hc => ?_)
      · have h := gv_neg hc h
        obtain ⟨v4, ev4⟩ : ∃ y : Int32, y = (v1 + (1 : Int32)) := ⟨_, rfl⟩
        have h := gv_let_e ev4 h
        refine lv_iinc (v := v4) (lv' := [(3, .int v4), (0, .ref (X.1 4)), (1, .int a1), (2, .int a2)]) hx hb dX8_meets_24 hl (k := 3) rfl (by rw [ev4]; rfl) (by decide) rfl (fun ls hl => ?_)
        refine lv_goto (tgt := 2) hx hb dX8_meets_27 (by decide) ?_
        exact Kc _ (gv_inj h) _ _ _ hP hS (lv_sub hl [1, 2, 3, 0] rfl)
      · have h := gv_pos hc h
        refine lv_iconst (v := 1) hx hb dX8_meets_22 (by decide) ?_
        exact (Ke _ (gv_inj h)).2 _ rfl _ _ _ _ (show narrow .boolean (.int (1 : Int32)) = .int (1 : Int32) by decide) hP hS dX8_meets_23
  · intro q hex H locs ls hP hS hl
    have h := h1q5 q hex
    obtain ⟨v5, eq_q⟩ : ∃ y, y = q := ⟨_, rfl⟩
    subst eq_q
    have h := gv_let_e (x := v5) rfl h
    have hP : gw_P X s0 H := hP
    have hl : lv_has ls 4 [] := hl
    refine lv_iconst (v := 0) hx hb dX8_meets_30 (by decide) ?_
    exact Kr _ _ _ _ _ (gv_inj h) (show narrow .boolean (.int (0 : Int32)) = .int (0 : Int32) by decide) hP hS dX8_meets_31
  · intro r hex H locs ls pc hn hP hS hd
    exact Kr _ _ _ _ _ (h2q5 r hex).symm hn hP hS hd
theorem mX8_meets (l : Launch) (X : gw_X) (s0 : gs_S) (a1 : Int32) (a2 : Int32) {r : Int32} (h : pX8_meets a1 a2 s0 = some r) : Met l yX8_meets wsX8_meets rX8_meets (gm_Pc X s0 [.ref (X.1 4), .int a1, .int a2]) (gm_Qi X s0 r) 0 0 (gw_A X) :=
  gm_of RX8 (by decide) rfl rfl (Nat.le_of_ble_eq_true rfl) (fun p e s m below meth c ls C0 hP hl hS => tX8_meets C0 a1 a2 s0 h (fun H locs ls pc r hr hn hP hS hd => by subst hr; exact gm_retz hn C0 hP hS hd) hP hS hl)
def pX10_weightAlone (a0 : Int32) (a1 : Int32) : Int32 := ((a0 * ((10 : Int32) + a1)) / (10 : Int32))
def rX10_weightAlone : Room := { frames := 0, cells := 0, slots := 0, locals := 0 }
set_option maxHeartbeats 4000000 in
set_option maxRecDepth 100000 in
theorem tX10_weightAlone {p : Program} {l : Launch} {e : Env} {s : State} {m : MethodId} {args : Array Value} {below : List Frame} {meth : Method} {c : Code} {X : gw_X} {Q : State → Prop} (C0 : gm_At p s m args meth c X cX10_weightAlone 2 RX10 wsX10_weightAlone (some .int)) (a0 : Int32) (a1 : Int32) (s0 : gs_S) {z : Int32} (h : pX10_weightAlone a0 a1 = z) (Kr : ∀ (H : Heap) (locs : List Loc) (ls : Array Slot) (pc : Nat) (r : Int32), z = r → gw_P X s0 H → va_S (gw_A X) s.heap H locs → decode cX10_weightAlone pc = .ok (.ireturn, 1) → W p l e rX10_weightAlone s m args below meth c H locs 0 0 Q (F0 m pc ls [.int r])) {H : Heap} {locs : List Loc} {ls : Array Slot} (hP : gw_P X s0 H) (hS : va_S (gw_A X) s.heap H locs) (hl : lv_has ls 2 [(0, .int a0), (1, .int a1)]) : W p l e rX10_weightAlone s m args below meth c H locs 0 0 Q (F0 m 0 ls []) := by
  obtain ⟨hx, hb, hml, hown, hts, hr, hlocks, hC⟩ := id C0
  unfold pX10_weightAlone at h
  refine lv_iload_n hx hb dX10_weightAlone_0 rfl (lv_at hl 0 rfl) ?_
  refine lv_bipush (v := 10) hx hb dX10_weightAlone_1 (by decide) ?_
  refine lv_iload_n hx hb dX10_weightAlone_3 rfl (lv_at hl 1 rfl) ?_
  refine lv_iadd hx hb dX10_weightAlone_4 ?_
  refine lv_imul hx hb dX10_weightAlone_5 ?_
  refine lv_bipush (v := 10) hx hb dX10_weightAlone_6 (by decide) ?_
  refine lv_idiv hx hb dX10_weightAlone_8 (by decide) ?_
  exact Kr _ _ _ _ _ h.symm hP hS dX10_weightAlone_9
theorem mX10_weightAlone (l : Launch) (X : gw_X) (s0 : gs_S) (a0 : Int32) (a1 : Int32) : Met l yX10_weightAlone wsX10_weightAlone rX10_weightAlone (gm_Pc X s0 [.int a0, .int a1]) (gm_Qi X s0 (pX10_weightAlone a0 a1)) 0 0 (gw_A X) :=
  gm_of RX10 (by decide) rfl rfl (Nat.le_of_ble_eq_true rfl) (fun p e s m below meth c ls C0 hP hl hS => tX10_weightAlone C0 a0 a1 s0 rfl (fun H locs ls pc r hr hP hS hd => by subst hr; exact gm_reti C0 hP hS hd) hP hS hl)
def pX8_weight_L19 (s0 : gs_S) (a1 : Int32) (a2 : Int32) (v4 : Int32) (v5 : Int32) : Option ((Int32 × Int32) ⊕ (Int32 × Int32)) := if (s0.1 4 3) ≤ v5 then some (.inr (v4, v5)) else gv_bind (pX8_minute a1 a2 s0) (fun v6 => gv_bind (pX8_minute v5 a2 s0) (fun v7 => gv_let (v6 - v7) (fun v8 => if v8 ≤ 0 then gv_let (v5 + (1 : Int32)) (fun v9 => some (.inl (v4, v9))) else gv_in v5 6 (gv_in v5 6 (gv_nz ((10 : Int32) * v8) (gv_let (v4 + (((s0.1 5 v5.toNatClampNeg) * (s0.1 6 v5.toNatClampNeg)) / ((10 : Int32) * v8))) (fun v13 => gv_let (v5 + (1 : Int32)) (fun v14 => some (.inl (v13, v14))))))))))
def pX8_weight (a1 : Int32) (a2 : Int32) (s0 : gs_S) : Option (Int32) := gv_in a1 6 (gv_in a1 6 (gv_let (pX10_weightAlone (s0.1 5 a1.toNatClampNeg) (s0.1 6 a1.toNatClampNeg)) (fun v3 => gv_bind (gv_loop (fun q => pX8_weight_L19 s0 a1 a2 q.1 q.2) gv_N (v3, (0 : Int32))) (fun q => gv_let q.1 (fun v15 => gv_let q.2 (fun v16 => some v15))))))
def rX8_weight : Room := { frames := 1, cells := 0, slots := 0, locals := 22 }
set_option maxHeartbeats 4000000 in
set_option maxRecDepth 100000 in
theorem tX8_weight {p : Program} {l : Launch} {e : Env} {s : State} {m : MethodId} {args : Array Value} {below : List Frame} {meth : Method} {c : Code} {X : gw_X} {Q : State → Prop} (C0 : gm_At p s m args meth c X cX8_weight 6 RX8 wsX8_weight (some .int)) (a1 : Int32) (a2 : Int32) (s0 : gs_S) {z : Int32} (h : pX8_weight a1 a2 s0 = some z) (Kr : ∀ (H : Heap) (locs : List Loc) (ls : Array Slot) (pc : Nat) (r : Int32), z = r → gw_P X s0 H → va_S (gw_A X) s.heap H locs → decode cX8_weight pc = .ok (.ireturn, 1) → W p l e rX8_weight s m args below meth c H locs 0 0 Q (F0 m pc ls [.int r])) {H : Heap} {locs : List Loc} {ls : Array Slot} (hP : gw_P X s0 H) (hS : va_S (gw_A X) s.heap H locs) (hl : lv_has ls 6 [(0, .ref (X.1 4)), (1, .int a1), (2, .int a2)]) : W p l e rX8_weight s m args below meth c H locs 0 0 Q (F0 m 0 ls []) := by
  obtain ⟨hx, hb, hml, hown, hts, hr, hlocks, hC⟩ := id C0
  unfold pX8_weight at h
  refine lv_aload_n hx hb dX8_weight_0 rfl (lv_at hl 0 rfl) ?_
  refine gv_get (ref := "IceByEar$Train") (C := RX8) (T := TX8) (N := 4) (ci := 8) (v := .ref (X.1 5)) C0 (fun _ h9 => List.mem_cons_of_mem _ (List.mem_append_right _ h9)) hP 4 (gw_o8 X s0 gk_4.1) rfl 0 (by decide) (by decide +kernel) rfl rfl dX8_weight_1 ?_
  refine lv_iload_n hx hb dX8_weight_4 rfl (lv_at hl 1 rfl) ?_
  obtain ⟨hin1, h⟩ := gv_in_e h
  refine gv_iald C0 hP 5 gk_5.1 gk_5.2 hin1 dX8_weight_5 ?_
  refine lv_aload_n hx hb dX8_weight_6 rfl (lv_at hl 0 rfl) ?_
  refine gv_get (ref := "IceByEar$Train") (C := RX8) (T := TX8) (N := 4) (ci := 8) (v := .ref (X.1 6)) C0 (fun _ h9 => List.mem_cons_of_mem _ (List.mem_append_right _ h9)) hP 4 (gw_o8 X s0 gk_4.1) rfl 1 (by decide) (by decide +kernel) rfl rfl dX8_weight_7 ?_
  refine lv_iload_n hx hb dX8_weight_10 rfl (lv_at hl 1 rfl) ?_
  obtain ⟨hin2, h⟩ := gv_in_e h
  refine gv_iald C0 hP 6 gk_6.1 gk_6.2 hin2 dX8_weight_11 ?_
  refine gv_ri (gv_runN (n := 2) (rest := []) (host := "IceByEar") C0 (mX10_weightAlone l X s0 (s0.1 5 a1.toNatClampNeg) (s0.1 6 a1.toNatClampNeg)) gX8_weight_X10_weightAlone_n35 rfl ⟨rfl, rfl⟩ (by decide +kernel) ⟨by decide +kernel, by decide +kernel⟩ (by decide +kernel) ⟨by decide, by decide⟩ hP hS rfl hl.1 rfl (Nat.le_of_ble_eq_true rfl) dX8_weight_12 ⟨Nat.zero_le _, Nat.zero_le _⟩) hS (fun H locs hP hS => ?_)
  refine lv_topi (fun v3 ev3 => ?_)
  have h := gv_let_e ev3 h
  refine lv_istore_n (lv' := [(3, .int v3), (0, .ref (X.1 4)), (1, .int a1), (2, .int a2)]) hx hb dX8_weight_15 rfl hl (by decide) rfl (fun ls hl => ?_)
  refine lv_iconst (v := 0) hx hb dX8_weight_16 (by decide) ?_
  refine lv_istore (lv' := [(4, .int (0 : Int32)), (3, .int v3), (0, .ref (X.1 4)), (1, .int a1), (2, .int a2)]) hx hb dX8_weight_17 hl (by decide) rfl (fun ls hl => ?_)
  obtain ⟨q16, hq16, h⟩ := gv_bind_e h
  refine gv_loop_ind (Φ := fun q => ∀ (H : Heap) (locs : List Loc) (ls : Array Slot), gw_P X s0 H → va_S (gw_A X) s.heap H locs → lv_has ls 6 [(0, .ref (X.1 4)), (1, .int a1), (2, .int a2), (3, .int q.1), (4, .int q.2)] → W p l e rX8_weight s m args below meth c H locs 0 0 Q (F0 m 19 ls [])) (Ψ := fun q => ∀ (H : Heap) (locs : List Loc) (ls : Array Slot), gw_P X s0 H → va_S (gw_A X) s.heap H locs → lv_has ls 6 [(3, .int q.1)] → W p l e rX8_weight s m args below meth c H locs 0 0 Q (F0 m 79 ls [])) ?_ gv_N (v3, (0 : Int32)) q16 hq16 ?_ H locs ls hP hS (lv_sub hl [2, 3, 4, 1, 0] rfl)
  · intro q x h Kc Ke H locs ls hP hS hl
    obtain ⟨v4, v5⟩ := q
    have h : pX8_weight_L19 s0 a1 a2 v4 v5 = some x := h
    have hP : gw_P X s0 H := hP
    have hl : lv_has ls 6 [(0, .ref (X.1 4)), (1, .int a1), (2, .int a2), (3, .int v4), (4, .int v5)] := hl
    unfold pX8_weight_L19 at h
    refine lv_iload hx hb dX8_weight_19 (lv_at hl 4 rfl) ?_
    refine lv_aload_n hx hb dX8_weight_21 rfl (lv_at hl 0 rfl) ?_
    refine gv_get (ref := "IceByEar$Train") (C := RX8) (T := TX8) (N := 4) (ci := 8) (v := .int (s0.1 4 3)) C0 (fun _ h9 => List.mem_cons_of_mem _ (List.mem_append_right _ h9)) hP 4 (gw_o8 X s0 gk_4.1) rfl 3 (by decide) (by decide +kernel) rfl rfl dX8_weight_22 ?_
    refine lv_icmp_ge (tgt := 79) hx hb dX8_weight_25 (by decide) (fun hc => ?_) (fun hc => ?_)
    · have h := gv_pos hc h
      exact Ke _ (gv_inj h) _ _ _ hP hS (lv_sub hl [3] rfl)
    · have h := gv_neg hc h
      refine lv_aload_n hx hb dX8_weight_28 rfl (lv_at hl 0 rfl) ?_
      refine lv_iload_n hx hb dX8_weight_29 rfl (lv_at hl 1 rfl) ?_
      refine lv_iload_n hx hb dX8_weight_30 rfl (lv_at hl 2 rfl) ?_
      obtain ⟨v6, hv6, h⟩ := gv_bind_e h
      refine gv_ri (gv_runV (n := 2) (rest := []) C0 (mX8_minute l X s0 a1 a2 hv6) gX8_weight_X8_minute rfl ⟨rfl, rfl⟩ (by decide +kernel) ⟨by decide, by decide⟩ gk_4.1 (by decide) rfl hP hS rfl hl.1 rfl (Nat.le_of_ble_eq_true rfl) dX8_weight_31 ⟨Nat.zero_le _, Nat.zero_le _⟩) hS (fun H locs hP hS => ?_)
      refine lv_aload_n hx hb dX8_weight_34 rfl (lv_at hl 0 rfl) ?_
      refine lv_iload hx hb dX8_weight_35 (lv_at hl 4 rfl) ?_
      refine lv_iload_n hx hb dX8_weight_37 rfl (lv_at hl 2 rfl) ?_
      obtain ⟨v7, hv7, h⟩ := gv_bind_e h
      refine gv_ri (gv_runV (n := 2) (rest := [.int v6]) C0 (mX8_minute l X s0 v5 a2 hv7) gX8_weight_X8_minute rfl ⟨rfl, rfl⟩ (by decide +kernel) ⟨by decide, by decide⟩ gk_4.1 (by decide) rfl hP hS rfl hl.1 rfl (Nat.le_of_ble_eq_true rfl) dX8_weight_38 ⟨Nat.zero_le _, Nat.zero_le _⟩) hS (fun H locs hP hS => ?_)
      refine lv_isub hx hb dX8_weight_41 ?_
      refine lv_topi (fun v8 ev8 => ?_)
      have h := gv_let_e ev8 h
      refine lv_istore (lv' := [(5, .int v8), (0, .ref (X.1 4)), (1, .int a1), (2, .int a2), (3, .int v4), (4, .int v5)]) hx hb dX8_weight_42 hl (by decide) rfl (fun ls hl => ?_)
      refine lv_iload hx hb dX8_weight_44 (lv_at hl 0 rfl) ?_
      refine lv_if_le (tgt := 73) hx hb dX8_weight_46 (by decide) (fun hc => ?_) (fun hc => ?_)
      · have h := gv_pos hc h
        obtain ⟨v9, ev9⟩ : ∃ y : Int32, y = (v5 + (1 : Int32)) := ⟨_, rfl⟩
        have h := gv_let_e ev9 h
        refine lv_iinc (v := v9) (lv' := [(4, .int v9), (5, .int v8), (0, .ref (X.1 4)), (1, .int a1), (2, .int a2), (3, .int v4)]) hx hb dX8_weight_73 hl (k := 5) rfl (by rw [ev9]; rfl) (by decide) rfl (fun ls hl => ?_)
        refine lv_goto (tgt := 19) hx hb dX8_weight_76 (by decide) ?_
        exact Kc _ (gv_inj h) _ _ _ hP hS (lv_sub hl [2, 3, 4, 5, 0] rfl)
      · have h := gv_neg hc h
        refine lv_iload_n hx hb dX8_weight_49 rfl (lv_at hl 4 rfl) ?_
        refine lv_aload_n hx hb dX8_weight_50 rfl (lv_at hl 1 rfl) ?_
        refine gv_get (ref := "IceByEar$Train") (C := RX8) (T := TX8) (N := 4) (ci := 8) (v := .ref (X.1 5)) C0 (fun _ h9 => List.mem_cons_of_mem _ (List.mem_append_right _ h9)) hP 4 (gw_o8 X s0 gk_4.1) rfl 0 (by decide) (by decide +kernel) rfl rfl dX8_weight_51 ?_
        refine lv_iload hx hb dX8_weight_54 (lv_at hl 5 rfl) ?_
        obtain ⟨hin10, h⟩ := gv_in_e h
        refine gv_iald C0 hP 5 gk_5.1 gk_5.2 hin10 dX8_weight_56 ?_
        refine lv_aload_n hx hb dX8_weight_57 rfl (lv_at hl 1 rfl) ?_
        refine gv_get (ref := "IceByEar$Train") (C := RX8) (T := TX8) (N := 4) (ci := 8) (v := .ref (X.1 6)) C0 (fun _ h9 => List.mem_cons_of_mem _ (List.mem_append_right _ h9)) hP 4 (gw_o8 X s0 gk_4.1) rfl 1 (by decide) (by decide +kernel) rfl rfl dX8_weight_58 ?_
        refine lv_iload hx hb dX8_weight_61 (lv_at hl 5 rfl) ?_
        obtain ⟨hin11, h⟩ := gv_in_e h
        refine gv_iald C0 hP 6 gk_6.1 gk_6.2 hin11 dX8_weight_63 ?_
        refine lv_imul hx hb dX8_weight_64 ?_
        refine lv_bipush (v := 10) hx hb dX8_weight_65 (by decide) ?_
        refine lv_iload hx hb dX8_weight_67 (lv_at hl 0 rfl) ?_
        refine lv_imul hx hb dX8_weight_69 ?_
        obtain ⟨hnz12, h⟩ := gv_nz_e h
        refine lv_idiv hx hb dX8_weight_70 hnz12 ?_
        refine lv_iadd hx hb dX8_weight_71 ?_
        refine lv_topi (fun v13 ev13 => ?_)
        have h := gv_let_e ev13 h
        refine lv_istore_n (lv' := [(3, .int v13), (5, .int v8), (0, .ref (X.1 4)), (1, .int a1), (2, .int a2), (4, .int v5)]) hx hb dX8_weight_72 rfl hl (by decide) rfl (fun ls hl => ?_)
        obtain ⟨v14, ev14⟩ : ∃ y : Int32, y = (v5 + (1 : Int32)) := ⟨_, rfl⟩
        have h := gv_let_e ev14 h
        refine lv_iinc (v := v14) (lv' := [(4, .int v14), (3, .int v13), (5, .int v8), (0, .ref (X.1 4)), (1, .int a1), (2, .int a2)]) hx hb dX8_weight_73 hl (k := 5) rfl (by rw [ev14]; rfl) (by decide) rfl (fun ls hl => ?_)
        refine lv_goto (tgt := 19) hx hb dX8_weight_76 (by decide) ?_
        exact Kc _ (gv_inj h) _ _ _ hP hS (lv_sub hl [3, 4, 5, 1, 0] rfl)
  · obtain ⟨v15, v16⟩ := q16
    have h := gv_let_e (x := v15) rfl h
    have h := gv_let_e (x := v16) rfl h
    intro H locs ls hP hS hl
    have hP : gw_P X s0 H := hP
    have hl : lv_has ls 6 [(3, .int v15)] := hl
    refine lv_iload_n hx hb dX8_weight_79 rfl (lv_at hl 0 rfl) ?_
    exact Kr _ _ _ _ _ (gv_inj h) hP hS dX8_weight_80
theorem mX8_weight (l : Launch) (X : gw_X) (s0 : gs_S) (a1 : Int32) (a2 : Int32) {r : Int32} (h : pX8_weight a1 a2 s0 = some r) : Met l yX8_weight wsX8_weight rX8_weight (gm_Pc X s0 [.ref (X.1 4), .int a1, .int a2]) (gm_Qi X s0 r) 0 0 (gw_A X) :=
  gm_of RX8 (by decide) rfl rfl (Nat.le_of_ble_eq_true rfl) (fun p e s m below meth c ls C0 hP hl hS => tX8_weight C0 a1 a2 s0 h (fun H locs ls pc r hr hP hS hd => by subst hr; exact gm_reti C0 hP hS hd) hP hS hl)
def pX10_need (a1 : Int32) (a2 : Int32) (s0 : gs_S) : Option (Int32) := if (pX10_isWithin (a1.toInt64) (0 : Int32) ((s0.1 4 3) - (1 : Int32))) = 0 then some (-1 : Int32) else if (pX10_isWithin (a2.toInt64) (0 : Int32) ((s0.1 8 1) - (1 : Int32))) = 0 then some (-1 : Int32) else gv_bind (pX8_meets a1 a2 s0) (fun v1 => if v1 = 0 then gv_bind (pX8_weight a1 a2 s0) (fun v2 => some v2) else some (-2 : Int32))
def rX10_need : Room := { frames := 2, cells := 0, slots := 0, locals := 47 }
set_option maxHeartbeats 4000000 in
set_option maxRecDepth 100000 in
theorem tX10_need {p : Program} {l : Launch} {e : Env} {s : State} {m : MethodId} {args : Array Value} {below : List Frame} {meth : Method} {c : Code} {X : gw_X} {Q : State → Prop} (C0 : gm_At p s m args meth c X cX10_need 3 RX10 wsX10_need (some .int)) (a1 : Int32) (a2 : Int32) (s0 : gs_S) {z : Int32} (h : pX10_need a1 a2 s0 = some z) (Kr : ∀ (H : Heap) (locs : List Loc) (ls : Array Slot) (pc : Nat) (r : Int32), z = r → gw_P X s0 H → va_S (gw_A X) s.heap H locs → decode cX10_need pc = .ok (.ireturn, 1) → W p l e rX10_need s m args below meth c H locs 0 0 Q (F0 m pc ls [.int r])) {H : Heap} {locs : List Loc} {ls : Array Slot} (hP : gw_P X s0 H) (hS : va_S (gw_A X) s.heap H locs) (hl : lv_has ls 3 [(0, .ref (X.1 0)), (1, .int a1), (2, .int a2)]) : W p l e rX10_need s m args below meth c H locs 0 0 Q (F0 m 0 ls []) := by
  obtain ⟨hx, hb, hml, hown, hts, hr, hlocks, hC⟩ := id C0
  unfold pX10_need at h
  refine lv_iload_n hx hb dX10_need_0 rfl (lv_at hl 1 rfl) ?_
  refine lv_i2l hx hb dX10_need_1 rfl ?_
  refine lv_iconst (v := 0) hx hb dX10_need_2 (by decide) ?_
  refine lv_aload_n hx hb dX10_need_3 rfl (lv_at hl 0 rfl) ?_
  refine gv_get (ref := "IceByEar") (C := RX10) (T := TX10) (N := 8) (ci := 10) (v := .ref (X.1 1)) C0 (fun _ h9 => List.mem_cons_of_mem _ (List.mem_append_left _ (List.mem_append_left _ (List.mem_append_left _ (List.mem_append_right _ h9))))) hP 0 (gw_o10 X s0 gk_0.1) rfl 0 (by decide) (by decide +kernel) rfl rfl dX10_need_4 ?_
  refine gv_get (ref := "IceByEar$Scene") (C := RX4) (T := TX4) (N := 6) (ci := 4) (v := .ref (X.1 4)) C0 (fun _ h9 => List.mem_cons_of_mem _ (List.mem_append_left _ (List.mem_append_left _ (List.mem_append_right _ h9)))) hP 1 (gw_o4 X s0 gk_1.1) rfl 1 (by decide) (by decide +kernel) rfl rfl dX10_need_7 ?_
  refine gv_get (ref := "IceByEar$Train") (C := RX8) (T := TX8) (N := 4) (ci := 8) (v := .int (s0.1 4 3)) C0 (fun _ h9 => List.mem_cons_of_mem _ (List.mem_append_left _ (List.mem_append_right _ h9))) hP 4 (gw_o8 X s0 gk_4.1) rfl 3 (by decide) (by decide +kernel) rfl rfl dX10_need_10 ?_
  refine lv_iconst (v := 1) hx hb dX10_need_13 (by decide) ?_
  refine lv_isub hx hb dX10_need_14 ?_
  refine gv_ri (gv_runS (n := 3) (rest := []) C0 (mX10_isWithin l X s0 (a1.toInt64) (0 : Int32) ((s0.1 4 3) - (1 : Int32))) gX10_need_X10_isWithin rfl ⟨rfl, rfl⟩ (by decide +kernel) ⟨by decide, by decide⟩ hP hS rfl hl.1 rfl (Nat.le_of_ble_eq_true rfl) dX10_need_15 ⟨Nat.zero_le _, Nat.zero_le _⟩) hS (fun H locs hP hS => ?_)
  refine lv_if_eq (tgt := 42) hx hb dX10_need_18 (by decide) (fun hc => ?_) (fun hc => ?_)
  · have h := gv_pos hc h
    refine lv_iconst (v := -1) hx hb dX10_need_42 (by decide) ?_
    exact Kr _ _ _ _ _ (gv_inj h) hP hS dX10_need_43
  · have h := gv_neg hc h
    refine lv_iload_n hx hb dX10_need_21 rfl (lv_at hl 2 rfl) ?_
    refine lv_i2l hx hb dX10_need_22 rfl ?_
    refine lv_iconst (v := 0) hx hb dX10_need_23 (by decide) ?_
    refine lv_aload_n hx hb dX10_need_24 rfl (lv_at hl 0 rfl) ?_
    refine gv_get (ref := "IceByEar") (C := RX10) (T := TX10) (N := 8) (ci := 10) (v := .ref (X.1 1)) C0 (fun _ h9 => List.mem_cons_of_mem _ (List.mem_append_left _ (List.mem_append_left _ (List.mem_append_left _ (List.mem_append_right _ h9))))) hP 0 (gw_o10 X s0 gk_0.1) rfl 0 (by decide) (by decide +kernel) rfl rfl dX10_need_25 ?_
    refine gv_get (ref := "IceByEar$Scene") (C := RX4) (T := TX4) (N := 6) (ci := 4) (v := .ref (X.1 8)) C0 (fun _ h9 => List.mem_cons_of_mem _ (List.mem_append_left _ (List.mem_append_left _ (List.mem_append_right _ h9)))) hP 1 (gw_o4 X s0 gk_1.1) rfl 2 (by decide) (by decide +kernel) rfl rfl dX10_need_28 ?_
    refine gv_get (ref := "IceByEar$Way") (C := RX9) (T := TX9) (N := 2) (ci := 9) (v := .int (s0.1 8 1)) C0 (fun _ h9 => List.mem_cons_of_mem _ (List.mem_append_right _ h9)) hP 8 (gw_o9 X s0 gk_8.1) rfl 1 (by decide) (by decide +kernel) rfl rfl dX10_need_31 ?_
    refine lv_iconst (v := 1) hx hb dX10_need_34 (by decide) ?_
    refine lv_isub hx hb dX10_need_35 ?_
    refine gv_ri (gv_runS (n := 3) (rest := []) C0 (mX10_isWithin l X s0 (a2.toInt64) (0 : Int32) ((s0.1 8 1) - (1 : Int32))) gX10_need_X10_isWithin rfl ⟨rfl, rfl⟩ (by decide +kernel) ⟨by decide, by decide⟩ hP hS rfl hl.1 rfl (Nat.le_of_ble_eq_true rfl) dX10_need_36 ⟨Nat.zero_le _, Nat.zero_le _⟩) hS (fun H locs hP hS => ?_)
    refine lv_if_ne (tgt := 44) hx hb dX10_need_39 (by decide) (fun hc => ?_) (fun hc => ?_)
    · have h := gv_neg hc h
      refine lv_aload_n hx hb dX10_need_44 rfl (lv_at hl 0 rfl) ?_
      refine gv_get (ref := "IceByEar") (C := RX10) (T := TX10) (N := 8) (ci := 10) (v := .ref (X.1 1)) C0 (fun _ h9 => List.mem_cons_of_mem _ (List.mem_append_left _ (List.mem_append_left _ (List.mem_append_left _ (List.mem_append_right _ h9))))) hP 0 (gw_o10 X s0 gk_0.1) rfl 0 (by decide) (by decide +kernel) rfl rfl dX10_need_45 ?_
      refine gv_get (ref := "IceByEar$Scene") (C := RX4) (T := TX4) (N := 6) (ci := 4) (v := .ref (X.1 4)) C0 (fun _ h9 => List.mem_cons_of_mem _ (List.mem_append_left _ (List.mem_append_left _ (List.mem_append_right _ h9)))) hP 1 (gw_o4 X s0 gk_1.1) rfl 1 (by decide) (by decide +kernel) rfl rfl dX10_need_48 ?_
      refine lv_iload_n hx hb dX10_need_51 rfl (lv_at hl 1 rfl) ?_
      refine lv_iload_n hx hb dX10_need_52 rfl (lv_at hl 2 rfl) ?_
      obtain ⟨v1, hv1, h⟩ := gv_bind_e h
      refine gv_ri (gv_runV (n := 2) (rest := []) C0 (mX8_meets l X s0 a1 a2 hv1) gX10_need_X8_meets rfl ⟨rfl, rfl⟩ (by decide +kernel) ⟨by decide, by decide⟩ gk_4.1 (by decide) rfl hP hS rfl hl.1 rfl (Nat.le_of_ble_eq_true rfl) dX10_need_53 ⟨Nat.zero_le _, Nat.zero_le _⟩) hS (fun H locs hP hS => ?_)
      refine lv_if_eq (tgt := 64) hx hb dX10_need_56 (by decide) (fun hc => ?_) (fun hc => ?_)
      · have h := gv_pos hc h
        refine lv_aload_n hx hb dX10_need_64 rfl (lv_at hl 0 rfl) ?_
        refine gv_get (ref := "IceByEar") (C := RX10) (T := TX10) (N := 8) (ci := 10) (v := .ref (X.1 1)) C0 (fun _ h9 => List.mem_cons_of_mem _ (List.mem_append_left _ (List.mem_append_left _ (List.mem_append_left _ (List.mem_append_right _ h9))))) hP 0 (gw_o10 X s0 gk_0.1) rfl 0 (by decide) (by decide +kernel) rfl rfl dX10_need_65 ?_
        refine gv_get (ref := "IceByEar$Scene") (C := RX4) (T := TX4) (N := 6) (ci := 4) (v := .ref (X.1 4)) C0 (fun _ h9 => List.mem_cons_of_mem _ (List.mem_append_left _ (List.mem_append_left _ (List.mem_append_right _ h9)))) hP 1 (gw_o4 X s0 gk_1.1) rfl 1 (by decide) (by decide +kernel) rfl rfl dX10_need_68 ?_
        refine lv_iload_n hx hb dX10_need_71 rfl (lv_at hl 1 rfl) ?_
        refine lv_iload_n hx hb dX10_need_72 rfl (lv_at hl 2 rfl) ?_
        obtain ⟨v2, hv2, h⟩ := gv_bind_e h
        refine gv_ri (gv_runV (n := 2) (rest := []) C0 (mX8_weight l X s0 a1 a2 hv2) gX10_need_X8_weight rfl ⟨rfl, rfl⟩ (by decide +kernel) ⟨by decide, by decide⟩ gk_4.1 (by decide) rfl hP hS rfl hl.1 rfl (Nat.le_of_ble_eq_true rfl) dX10_need_73 ⟨Nat.zero_le _, Nat.zero_le _⟩) hS (fun H locs hP hS => ?_)
        exact Kr _ _ _ _ _ (gv_inj h) hP hS dX10_need_76
      · have h := gv_neg hc h
        refine lv_bipush (v := -2) hx hb dX10_need_59 (by decide) ?_
        refine lv_goto (tgt := 76) hx hb dX10_need_61 (by decide) ?_
        exact Kr _ _ _ _ _ (gv_inj h) hP hS dX10_need_76
    · have h := gv_pos hc h
      refine lv_iconst (v := -1) hx hb dX10_need_42 (by decide) ?_
      exact Kr _ _ _ _ _ (gv_inj h) hP hS dX10_need_43
theorem mX10_need (l : Launch) (X : gw_X) (s0 : gs_S) (a1 : Int32) (a2 : Int32) {r : Int32} (h : pX10_need a1 a2 s0 = some r) : Met l yX10_need wsX10_need rX10_need (gm_Pc X s0 [.ref (X.1 0), .int a1, .int a2]) (gm_Qi X s0 r) 0 0 (gw_A X) :=
  gm_of RX10 (by decide) rfl rfl (Nat.le_of_ble_eq_true rfl) (fun p e s m below meth c ls C0 hP hl hS => tX10_need C0 a1 a2 s0 h (fun H locs ls pc r hr hP hS hd => by subst hr; exact gm_reti C0 hP hS hd) hP hS hl)
def pX4_breakingPlace_L2 (s0 : gs_S) (a1 : Int32) (v1 : Int32) : Option ((Int32) ⊕ ((Int32) ⊕ (Int32))) := if (s0.1 8 1) ≤ v1 then some (.inr (.inl v1)) else gv_bind (pX8_meets a1 v1 s0) (fun v2 => if v2 = 0 then gv_bind (pX8_weight a1 v1 s0) (fun v3 => gv_in v1 24 (gv_bind (pX2_bearing (s0.1 9 v1.toNatClampNeg) s0) (fun v5 => if v3 ≤ v5 then gv_let (v1 + (1 : Int32)) (fun v6 => some (.inl v6)) else some (.inr (.inr v1))))) else some (.inr (.inr v1)))
def pX4_breakingPlace (a1 : Int32) (s0 : gs_S) : Option (Int32) := gv_bret (gv_loop (fun q => pX4_breakingPlace_L2 s0 a1 q) gv_N (0 : Int32)) (fun r => r) (fun q => gv_let q (fun v7 => some (-1 : Int32)))
def rX4_breakingPlace : Room := { frames := 4, cells := 0, slots := 0, locals := 87 }
set_option maxHeartbeats 4000000 in
set_option maxRecDepth 100000 in
theorem tX4_breakingPlace {p : Program} {l : Launch} {e : Env} {s : State} {m : MethodId} {args : Array Value} {below : List Frame} {meth : Method} {c : Code} {X : gw_X} {Q : State → Prop} (C0 : gm_At p s m args meth c X cX4_breakingPlace 3 RX4 wsX4_breakingPlace (some .int)) (a1 : Int32) (s0 : gs_S) {z : Int32} (h : pX4_breakingPlace a1 s0 = some z) (Kr : ∀ (H : Heap) (locs : List Loc) (ls : Array Slot) (pc : Nat) (r : Int32), z = r → gw_P X s0 H → va_S (gw_A X) s.heap H locs → decode cX4_breakingPlace pc = .ok (.ireturn, 1) → W p l e rX4_breakingPlace s m args below meth c H locs 0 0 Q (F0 m pc ls [.int r])) {H : Heap} {locs : List Loc} {ls : Array Slot} (hP : gw_P X s0 H) (hS : va_S (gw_A X) s.heap H locs) (hl : lv_has ls 3 [(0, .ref (X.1 1)), (1, .int a1)]) : W p l e rX4_breakingPlace s m args below meth c H locs 0 0 Q (F0 m 0 ls []) := by
  obtain ⟨hx, hb, hml, hown, hts, hr, hlocks, hC⟩ := id C0
  unfold pX4_breakingPlace at h
  refine lv_iconst (v := 0) hx hb dX4_breakingPlace_0 (by decide) ?_
  refine lv_istore_n (lv' := [(2, .int (0 : Int32)), (0, .ref (X.1 1)), (1, .int a1)]) hx hb dX4_breakingPlace_1 rfl hl (by decide) rfl (fun ls hl => ?_)
  obtain ⟨q7, hq7, h1q7, h2q7⟩ := gv_bret_e h
  refine gv_loop_ind (Φ := fun q => ∀ (H : Heap) (locs : List Loc) (ls : Array Slot), gw_P X s0 H → va_S (gw_A X) s.heap H locs → lv_has ls 3 [(0, .ref (X.1 1)), (1, .int a1), (2, .int q)] → W p l e rX4_breakingPlace s m args below meth c H locs 0 0 Q (F0 m 2 ls [])) (Ψ := fun ex => (∀ q : Int32, ex = .inl q → ∀ (H : Heap) (locs : List Loc) (ls : Array Slot), gw_P X s0 H → va_S (gw_A X) s.heap H locs → lv_has ls 3 [] → W p l e rX4_breakingPlace s m args below meth c H locs 0 0 Q (F0 m 61 ls [])) ∧ (∀ r : Int32, ex = .inr r → ∀ (H : Heap) (locs : List Loc) (ls : Array Slot) (pc : Nat), gw_P X s0 H → va_S (gw_A X) s.heap H locs → decode cX4_breakingPlace pc = .ok (.ireturn, 1) → W p l e rX4_breakingPlace s m args below meth c H locs 0 0 Q (F0 m pc ls [.int r]))) ?_ gv_N (0 : Int32) q7 hq7 ⟨?_, ?_⟩ H locs ls hP hS (lv_sub hl [1, 2, 0] rfl)
  · intro q x h Kc Ke H locs ls hP hS hl
    obtain ⟨v1, eq_q⟩ : ∃ y, y = q := ⟨_, rfl⟩
    subst eq_q
    have h : pX4_breakingPlace_L2 s0 a1 v1 = some x := h
    have hP : gw_P X s0 H := hP
    have hl : lv_has ls 3 [(0, .ref (X.1 1)), (1, .int a1), (2, .int v1)] := hl
    unfold pX4_breakingPlace_L2 at h
    refine lv_iload_n hx hb dX4_breakingPlace_2 rfl (lv_at hl 2 rfl) ?_
    refine lv_aload_n hx hb dX4_breakingPlace_3 rfl (lv_at hl 0 rfl) ?_
    refine gv_get (ref := "IceByEar$Scene") (C := RX4) (T := TX4) (N := 6) (ci := 4) (v := .ref (X.1 8)) C0 (fun _ h9 => List.mem_cons_of_mem _ (List.mem_append_left _ (List.mem_append_left _ (List.mem_append_left _ (List.mem_append_right _ h9))))) hP 1 (gw_o4 X s0 gk_1.1) rfl 2 (by decide) (by decide +kernel) rfl rfl dX4_breakingPlace_4 ?_
    refine gv_get (ref := "IceByEar$Way") (C := RX9) (T := TX9) (N := 2) (ci := 9) (v := .int (s0.1 8 1)) C0 (fun _ h9 => List.mem_cons_of_mem _ (List.mem_append_left _ (List.mem_append_left _ (List.mem_append_right _ h9)))) hP 8 (gw_o9 X s0 gk_8.1) rfl 1 (by decide) (by decide +kernel) rfl rfl dX4_breakingPlace_7 ?_
    refine lv_icmp_ge (tgt := 61) hx hb dX4_breakingPlace_10 (by decide) (fun hc => ?_) (fun hc => ?_)
    · have h := gv_pos hc h
      exact (Ke _ (gv_inj h)).1 _ rfl _ _ _ hP hS (lv_sub hl [] rfl)
    · have h := gv_neg hc h
      refine lv_aload_n hx hb dX4_breakingPlace_13 rfl (lv_at hl 0 rfl) ?_
      refine gv_get (ref := "IceByEar$Scene") (C := RX4) (T := TX4) (N := 6) (ci := 4) (v := .ref (X.1 4)) C0 (fun _ h9 => List.mem_cons_of_mem _ (List.mem_append_left _ (List.mem_append_left _ (List.mem_append_left _ (List.mem_append_right _ h9))))) hP 1 (gw_o4 X s0 gk_1.1) rfl 1 (by decide) (by decide +kernel) rfl rfl dX4_breakingPlace_14 ?_
      refine lv_iload_n hx hb dX4_breakingPlace_17 rfl (lv_at hl 1 rfl) ?_
      refine lv_iload_n hx hb dX4_breakingPlace_18 rfl (lv_at hl 2 rfl) ?_
      obtain ⟨v2, hv2, h⟩ := gv_bind_e h
      refine gv_ri (gv_runV (n := 2) (rest := []) C0 (mX8_meets l X s0 a1 v1 hv2) gX4_breakingPlace_X8_meets rfl ⟨rfl, rfl⟩ (by decide +kernel) ⟨by decide, by decide⟩ gk_4.1 (by decide) rfl hP hS rfl hl.1 rfl (Nat.le_of_ble_eq_true rfl) dX4_breakingPlace_19 ⟨Nat.zero_le _, Nat.zero_le _⟩) hS (fun H locs hP hS => ?_)
      refine lv_if_ne (tgt := 53) hx hb dX4_breakingPlace_22 (by decide) (fun hc => ?_) (fun hc => ?_)
      · have h := gv_neg hc h
        refine lv_iload_n hx hb dX4_breakingPlace_53 rfl (lv_at hl 2 rfl) ?_
        exact (Ke _ (gv_inj h)).2 _ rfl _ _ _ _ hP hS dX4_breakingPlace_54
      · have h := gv_pos hc h
        refine lv_aload_n hx hb dX4_breakingPlace_25 rfl (lv_at hl 0 rfl) ?_
        refine gv_get (ref := "IceByEar$Scene") (C := RX4) (T := TX4) (N := 6) (ci := 4) (v := .ref (X.1 4)) C0 (fun _ h9 => List.mem_cons_of_mem _ (List.mem_append_left _ (List.mem_append_left _ (List.mem_append_left _ (List.mem_append_right _ h9))))) hP 1 (gw_o4 X s0 gk_1.1) rfl 1 (by decide) (by decide +kernel) rfl rfl dX4_breakingPlace_26 ?_
        refine lv_iload_n hx hb dX4_breakingPlace_29 rfl (lv_at hl 1 rfl) ?_
        refine lv_iload_n hx hb dX4_breakingPlace_30 rfl (lv_at hl 2 rfl) ?_
        obtain ⟨v3, hv3, h⟩ := gv_bind_e h
        refine gv_ri (gv_runV (n := 2) (rest := []) C0 (mX8_weight l X s0 a1 v1 hv3) gX4_breakingPlace_X8_weight rfl ⟨rfl, rfl⟩ (by decide +kernel) ⟨by decide, by decide⟩ gk_4.1 (by decide) rfl hP hS rfl hl.1 rfl (Nat.le_of_ble_eq_true rfl) dX4_breakingPlace_31 ⟨Nat.zero_le _, Nat.zero_le _⟩) hS (fun H locs hP hS => ?_)
        refine lv_aload_n hx hb dX4_breakingPlace_34 rfl (lv_at hl 0 rfl) ?_
        refine gv_get (ref := "IceByEar$Scene") (C := RX4) (T := TX4) (N := 6) (ci := 4) (v := .ref (X.1 2)) C0 (fun _ h9 => List.mem_cons_of_mem _ (List.mem_append_left _ (List.mem_append_left _ (List.mem_append_left _ (List.mem_append_right _ h9))))) hP 1 (gw_o4 X s0 gk_1.1) rfl 0 (by decide) (by decide +kernel) rfl rfl dX4_breakingPlace_35 ?_
        refine lv_aload_n hx hb dX4_breakingPlace_38 rfl (lv_at hl 0 rfl) ?_
        refine gv_get (ref := "IceByEar$Scene") (C := RX4) (T := TX4) (N := 6) (ci := 4) (v := .ref (X.1 8)) C0 (fun _ h9 => List.mem_cons_of_mem _ (List.mem_append_left _ (List.mem_append_left _ (List.mem_append_left _ (List.mem_append_right _ h9))))) hP 1 (gw_o4 X s0 gk_1.1) rfl 2 (by decide) (by decide +kernel) rfl rfl dX4_breakingPlace_39 ?_
        refine gv_get (ref := "IceByEar$Way") (C := RX9) (T := TX9) (N := 2) (ci := 9) (v := .ref (X.1 9)) C0 (fun _ h9 => List.mem_cons_of_mem _ (List.mem_append_left _ (List.mem_append_left _ (List.mem_append_right _ h9)))) hP 8 (gw_o9 X s0 gk_8.1) rfl 0 (by decide) (by decide +kernel) rfl rfl dX4_breakingPlace_42 ?_
        refine lv_iload_n hx hb dX4_breakingPlace_45 rfl (lv_at hl 2 rfl) ?_
        obtain ⟨hin4, h⟩ := gv_in_e h
        refine gv_iald C0 hP 9 gk_9.1 gk_9.2 hin4 dX4_breakingPlace_46 ?_
        obtain ⟨v5, hv5, h⟩ := gv_bind_e h
        refine gv_ri (gv_runV (n := 1) (rest := [.int v3]) C0 (mX2_bearing l X s0 (s0.1 9 v1.toNatClampNeg) hv5) gX4_breakingPlace_X2_bearing rfl ⟨rfl, rfl⟩ (by decide +kernel) ⟨by decide, by decide⟩ gk_2.1 (by decide) rfl hP hS rfl hl.1 rfl (Nat.le_of_ble_eq_true rfl) dX4_breakingPlace_47 ⟨Nat.zero_le _, Nat.zero_le _⟩) hS (fun H locs hP hS => ?_)
        refine lv_icmp_le (tgt := 55) hx hb dX4_breakingPlace_50 (by decide) (fun hc => ?_) (fun hc => ?_)
        · have h := gv_pos hc h
          obtain ⟨v6, ev6⟩ : ∃ y : Int32, y = (v1 + (1 : Int32)) := ⟨_, rfl⟩
          have h := gv_let_e ev6 h
          refine lv_iinc (v := v6) (lv' := [(2, .int v6), (0, .ref (X.1 1)), (1, .int a1)]) hx hb dX4_breakingPlace_55 hl (k := 2) rfl (by rw [ev6]; rfl) (by decide) rfl (fun ls hl => ?_)
          refine lv_goto (tgt := 2) hx hb dX4_breakingPlace_58 (by decide) ?_
          exact Kc _ (gv_inj h) _ _ _ hP hS (lv_sub hl [1, 2, 0] rfl)
        · have h := gv_neg hc h
          refine lv_iload_n hx hb dX4_breakingPlace_53 rfl (lv_at hl 2 rfl) ?_
          exact (Ke _ (gv_inj h)).2 _ rfl _ _ _ _ hP hS dX4_breakingPlace_54
  · intro q hex H locs ls hP hS hl
    have h := h1q7 q hex
    obtain ⟨v7, eq_q⟩ : ∃ y, y = q := ⟨_, rfl⟩
    subst eq_q
    have h := gv_let_e (x := v7) rfl h
    have hP : gw_P X s0 H := hP
    have hl : lv_has ls 3 [] := hl
    refine lv_iconst (v := -1) hx hb dX4_breakingPlace_61 (by decide) ?_
    exact Kr _ _ _ _ _ (gv_inj h) hP hS dX4_breakingPlace_62
  · intro r hex H locs ls pc hP hS hd
    exact Kr _ _ _ _ _ (h2q7 r hex).symm hP hS hd
theorem mX4_breakingPlace (l : Launch) (X : gw_X) (s0 : gs_S) (a1 : Int32) {r : Int32} (h : pX4_breakingPlace a1 s0 = some r) : Met l yX4_breakingPlace wsX4_breakingPlace rX4_breakingPlace (gm_Pc X s0 [.ref (X.1 1), .int a1]) (gm_Qi X s0 r) 0 0 (gw_A X) :=
  gm_of RX4 (by decide) rfl rfl (Nat.le_of_ble_eq_true rfl) (fun p e s m below meth c ls C0 hP hl hS => tX4_breakingPlace C0 a1 s0 h (fun H locs ls pc r hr hP hS hd => by subst hr; exact gm_reti C0 hP hS hd) hP hS hl)
def pX4_firstToBreak_J47 (v3 : Int32) (v4 : Int32) (s0 : gs_S)  : Option ((Int32 × Int32 × Int32) ⊕ (Int32 × Int32 × Int32)) := gv_bind (pX8_minute v3 v4 s0) (fun v6 => gv_let (v3 + (1 : Int32)) (fun v7 => some (.inl (v3, v6, v7))))
def pX4_firstToBreak_L6 (s0 : gs_S) (v1 : Int32) (v2 : Int32) (v3 : Int32) : Option ((Int32 × Int32 × Int32) ⊕ (Int32 × Int32 × Int32)) := if (s0.1 4 3) ≤ v3 then some (.inr (v1, v2, v3)) else gv_bind (pX4_breakingPlace v3 s0) (fun v4 => if v4 < 0 then gv_let (v3 + (1 : Int32)) (fun v5 => some (.inl (v1, v2, v5))) else if v1 < 0 then pX4_firstToBreak_J47 v3 v4 s0 else gv_bind (pX8_minute v3 v4 s0) (fun v8 => if v2 ≤ v8 then gv_let (v3 + (1 : Int32)) (fun v9 => some (.inl (v1, v2, v9))) else pX4_firstToBreak_J47 v3 v4 s0))
def pX4_firstToBreak  (s0 : gs_S) : Option (Int32) := gv_bind (gv_loop (fun q => pX4_firstToBreak_L6 s0 q.1 q.2.1 q.2.2) gv_N ((-1 : Int32), (0 : Int32), (0 : Int32))) (fun q => gv_let q.1 (fun v10 => gv_let q.2.1 (fun v11 => gv_let q.2.2 (fun v12 => some v10))))
def rX4_firstToBreak : Room := { frames := 5, cells := 0, slots := 0, locals := 109 }
set_option maxHeartbeats 4000000 in
set_option maxRecDepth 100000 in
theorem tX4_firstToBreak {p : Program} {l : Launch} {e : Env} {s : State} {m : MethodId} {args : Array Value} {below : List Frame} {meth : Method} {c : Code} {X : gw_X} {Q : State → Prop} (C0 : gm_At p s m args meth c X cX4_firstToBreak 5 RX4 wsX4_firstToBreak (some .int))  (s0 : gs_S) {z : Int32} (h : pX4_firstToBreak s0 = some z) (Kr : ∀ (H : Heap) (locs : List Loc) (ls : Array Slot) (pc : Nat) (r : Int32), z = r → gw_P X s0 H → va_S (gw_A X) s.heap H locs → decode cX4_firstToBreak pc = .ok (.ireturn, 1) → W p l e rX4_firstToBreak s m args below meth c H locs 0 0 Q (F0 m pc ls [.int r])) {H : Heap} {locs : List Loc} {ls : Array Slot} (hP : gw_P X s0 H) (hS : va_S (gw_A X) s.heap H locs) (hl : lv_has ls 5 [(0, .ref (X.1 1))]) : W p l e rX4_firstToBreak s m args below meth c H locs 0 0 Q (F0 m 0 ls []) := by
  obtain ⟨hx, hb, hml, hown, hts, hr, hlocks, hC⟩ := id C0
  unfold pX4_firstToBreak at h
  refine lv_iconst (v := -1) hx hb dX4_firstToBreak_0 (by decide) ?_
  refine lv_istore_n (lv' := [(1, .int (-1 : Int32)), (0, .ref (X.1 1))]) hx hb dX4_firstToBreak_1 rfl hl (by decide) rfl (fun ls hl => ?_)
  refine lv_iconst (v := 0) hx hb dX4_firstToBreak_2 (by decide) ?_
  refine lv_istore_n (lv' := [(2, .int (0 : Int32)), (1, .int (-1 : Int32)), (0, .ref (X.1 1))]) hx hb dX4_firstToBreak_3 rfl hl (by decide) rfl (fun ls hl => ?_)
  refine lv_iconst (v := 0) hx hb dX4_firstToBreak_4 (by decide) ?_
  refine lv_istore_n (lv' := [(3, .int (0 : Int32)), (2, .int (0 : Int32)), (1, .int (-1 : Int32)), (0, .ref (X.1 1))]) hx hb dX4_firstToBreak_5 rfl hl (by decide) rfl (fun ls hl => ?_)
  obtain ⟨q12, hq12, h⟩ := gv_bind_e h
  refine gv_loop_ind (Φ := fun q => ∀ (H : Heap) (locs : List Loc) (ls : Array Slot), gw_P X s0 H → va_S (gw_A X) s.heap H locs → lv_has ls 5 [(0, .ref (X.1 1)), (1, .int q.1), (2, .int q.2.1), (3, .int q.2.2)] → W p l e rX4_firstToBreak s m args below meth c H locs 0 0 Q (F0 m 6 ls [])) (Ψ := fun q => ∀ (H : Heap) (locs : List Loc) (ls : Array Slot), gw_P X s0 H → va_S (gw_A X) s.heap H locs → lv_has ls 5 [(1, .int q.1)] → W p l e rX4_firstToBreak s m args below meth c H locs 0 0 Q (F0 m 66 ls [])) ?_ gv_N ((-1 : Int32), (0 : Int32), (0 : Int32)) q12 hq12 ?_ H locs ls hP hS (lv_sub hl [3, 2, 1, 0] rfl)
  · intro q x h Kc Ke H locs ls hP hS hl
    obtain ⟨v1, v2, v3⟩ := q
    have h : pX4_firstToBreak_L6 s0 v1 v2 v3 = some x := h
    have hP : gw_P X s0 H := hP
    have hl : lv_has ls 5 [(0, .ref (X.1 1)), (1, .int v1), (2, .int v2), (3, .int v3)] := hl
    unfold pX4_firstToBreak_L6 at h
    refine lv_iload_n hx hb dX4_firstToBreak_6 rfl (lv_at hl 3 rfl) ?_
    refine lv_aload_n hx hb dX4_firstToBreak_7 rfl (lv_at hl 0 rfl) ?_
    refine gv_get (ref := "IceByEar$Scene") (C := RX4) (T := TX4) (N := 6) (ci := 4) (v := .ref (X.1 4)) C0 (fun _ h9 => List.mem_cons_of_mem _ (List.mem_append_left _ (List.mem_append_left _ (List.mem_append_left _ (List.mem_append_right _ h9))))) hP 1 (gw_o4 X s0 gk_1.1) rfl 1 (by decide) (by decide +kernel) rfl rfl dX4_firstToBreak_8 ?_
    refine gv_get (ref := "IceByEar$Train") (C := RX8) (T := TX8) (N := 4) (ci := 8) (v := .int (s0.1 4 3)) C0 (fun _ h9 => List.mem_cons_of_mem _ (List.mem_append_left _ (List.mem_append_left _ (List.mem_append_right _ h9)))) hP 4 (gw_o8 X s0 gk_4.1) rfl 3 (by decide) (by decide +kernel) rfl rfl dX4_firstToBreak_11 ?_
    refine lv_icmp_ge (tgt := 66) hx hb dX4_firstToBreak_14 (by decide) (fun hc => ?_) (fun hc => ?_)
    · have h := gv_pos hc h
      exact Ke _ (gv_inj h) _ _ _ hP hS (lv_sub hl [1] rfl)
    · have h := gv_neg hc h
      refine lv_aload_n hx hb dX4_firstToBreak_17 rfl (lv_at hl 0 rfl) ?_
      refine lv_iload_n hx hb dX4_firstToBreak_18 rfl (lv_at hl 3 rfl) ?_
      obtain ⟨v4, hv4, h⟩ := gv_bind_e h
      refine gv_ri (gv_runV (n := 1) (rest := []) C0 (mX4_breakingPlace l X s0 v3 hv4) gX4_firstToBreak_X4_breakingPlace rfl ⟨rfl, rfl⟩ (by decide +kernel) ⟨by decide, by decide⟩ gk_1.1 (by decide) rfl hP hS rfl hl.1 rfl (Nat.le_of_ble_eq_true rfl) dX4_firstToBreak_19 ⟨Nat.zero_le _, Nat.zero_le _⟩) hS (fun H locs hP hS => ?_)
      refine lv_istore (lv' := [(4, .int v4), (0, .ref (X.1 1)), (1, .int v1), (2, .int v2), (3, .int v3)]) hx hb dX4_firstToBreak_22 hl (by decide) rfl (fun ls hl => ?_)
      refine lv_iload hx hb dX4_firstToBreak_24 (lv_at hl 0 rfl) ?_
      refine lv_if_lt (tgt := 60) hx hb dX4_firstToBreak_26 (by decide) (fun hc => ?_) (fun hc => ?_)
      · have h := gv_pos hc h
        obtain ⟨v5, ev5⟩ : ∃ y : Int32, y = (v3 + (1 : Int32)) := ⟨_, rfl⟩
        have h := gv_let_e ev5 h
        refine lv_iinc (v := v5) (lv' := [(3, .int v5), (4, .int v4), (0, .ref (X.1 1)), (1, .int v1), (2, .int v2)]) hx hb dX4_firstToBreak_60 hl (k := 4) rfl (by rw [ev5]; rfl) (by decide) rfl (fun ls hl => ?_)
        refine lv_goto (tgt := 6) hx hb dX4_firstToBreak_63 (by decide) ?_
        exact Kc _ (gv_inj h) _ _ _ hP hS (lv_sub hl [2, 3, 4, 0] rfl)
      · have h := gv_neg hc h
        refine lv_iload_n hx hb dX4_firstToBreak_29 rfl (lv_at hl 2 rfl) ?_
        have J47 : ∀  (H : Heap) (locs : List Loc) (ls : Array Slot), pX4_firstToBreak_J47 v3 v4 s0 = some x → gw_P X s0 H → va_S (gw_A X) s.heap H locs → lv_has ls 5 [(4, .int v4), (0, .ref (X.1 1)), (3, .int v3)] → W p l e rX4_firstToBreak s m args below meth c H locs 0 0 Q (F0 m 47 ls []) := by
          intro  H locs ls h hP hS hl
          unfold pX4_firstToBreak_J47 at h
          refine lv_iload_n hx hb dX4_firstToBreak_47 rfl (lv_at hl 2 rfl) ?_
          refine lv_istore_n (lv' := [(1, .int v3), (4, .int v4), (0, .ref (X.1 1)), (3, .int v3)]) hx hb dX4_firstToBreak_48 rfl hl (by decide) rfl (fun ls hl => ?_)
          refine lv_aload_n hx hb dX4_firstToBreak_49 rfl (lv_at hl 2 rfl) ?_
          refine gv_get (ref := "IceByEar$Scene") (C := RX4) (T := TX4) (N := 6) (ci := 4) (v := .ref (X.1 4)) C0 (fun _ h9 => List.mem_cons_of_mem _ (List.mem_append_left _ (List.mem_append_left _ (List.mem_append_left _ (List.mem_append_right _ h9))))) hP 1 (gw_o4 X s0 gk_1.1) rfl 1 (by decide) (by decide +kernel) rfl rfl dX4_firstToBreak_50 ?_
          refine lv_iload_n hx hb dX4_firstToBreak_53 rfl (lv_at hl 3 rfl) ?_
          refine lv_iload hx hb dX4_firstToBreak_54 (lv_at hl 1 rfl) ?_
          obtain ⟨v6, hv6, h⟩ := gv_bind_e h
          refine gv_ri (gv_runV (n := 2) (rest := []) C0 (mX8_minute l X s0 v3 v4 hv6) gX4_firstToBreak_X8_minute rfl ⟨rfl, rfl⟩ (by decide +kernel) ⟨by decide, by decide⟩ gk_4.1 (by decide) rfl hP hS rfl hl.1 rfl (Nat.le_of_ble_eq_true rfl) dX4_firstToBreak_56 ⟨Nat.zero_le _, Nat.zero_le _⟩) hS (fun H locs hP hS => ?_)
          refine lv_istore_n (lv' := [(2, .int v6), (1, .int v3), (4, .int v4), (0, .ref (X.1 1)), (3, .int v3)]) hx hb dX4_firstToBreak_59 rfl hl (by decide) rfl (fun ls hl => ?_)
          obtain ⟨v7, ev7⟩ : ∃ y : Int32, y = (v3 + (1 : Int32)) := ⟨_, rfl⟩
          have h := gv_let_e ev7 h
          refine lv_iinc (v := v7) (lv' := [(3, .int v7), (2, .int v6), (1, .int v3), (4, .int v4), (0, .ref (X.1 1))]) hx hb dX4_firstToBreak_60 hl (k := 4) rfl (by rw [ev7]; rfl) (by decide) rfl (fun ls hl => ?_)
          refine lv_goto (tgt := 6) hx hb dX4_firstToBreak_63 (by decide) ?_
          exact Kc _ (gv_inj h) _ _ _ hP hS (lv_sub hl [4, 2, 1, 0] rfl)
        refine lv_if_lt (tgt := 47) hx hb dX4_firstToBreak_30 (by decide) (fun hc => ?_) (fun hc => ?_)
        · have h := gv_pos hc h
          exact J47  _ _ _ h hP hS (lv_sub hl [0, 1, 4] rfl)
        · have h := gv_neg hc h
          refine lv_aload_n hx hb dX4_firstToBreak_33 rfl (lv_at hl 1 rfl) ?_
          refine gv_get (ref := "IceByEar$Scene") (C := RX4) (T := TX4) (N := 6) (ci := 4) (v := .ref (X.1 4)) C0 (fun _ h9 => List.mem_cons_of_mem _ (List.mem_append_left _ (List.mem_append_left _ (List.mem_append_left _ (List.mem_append_right _ h9))))) hP 1 (gw_o4 X s0 gk_1.1) rfl 1 (by decide) (by decide +kernel) rfl rfl dX4_firstToBreak_34 ?_
          refine lv_iload_n hx hb dX4_firstToBreak_37 rfl (lv_at hl 4 rfl) ?_
          refine lv_iload hx hb dX4_firstToBreak_38 (lv_at hl 0 rfl) ?_
          obtain ⟨v8, hv8, h⟩ := gv_bind_e h
          refine gv_ri (gv_runV (n := 2) (rest := []) C0 (mX8_minute l X s0 v3 v4 hv8) gX4_firstToBreak_X8_minute rfl ⟨rfl, rfl⟩ (by decide +kernel) ⟨by decide, by decide⟩ gk_4.1 (by decide) rfl hP hS rfl hl.1 rfl (Nat.le_of_ble_eq_true rfl) dX4_firstToBreak_40 ⟨Nat.zero_le _, Nat.zero_le _⟩) hS (fun H locs hP hS => ?_)
          refine lv_iload_n hx hb dX4_firstToBreak_43 rfl (lv_at hl 3 rfl) ?_
          refine lv_icmp_ge (tgt := 60) hx hb dX4_firstToBreak_44 (by decide) (fun hc => ?_) (fun hc => ?_)
          · have h := gv_pos hc h
            obtain ⟨v9, ev9⟩ : ∃ y : Int32, y = (v3 + (1 : Int32)) := ⟨_, rfl⟩
            have h := gv_let_e ev9 h
            refine lv_iinc (v := v9) (lv' := [(3, .int v9), (4, .int v4), (0, .ref (X.1 1)), (1, .int v1), (2, .int v2)]) hx hb dX4_firstToBreak_60 hl (k := 4) rfl (by rw [ev9]; rfl) (by decide) rfl (fun ls hl => ?_)
            refine lv_goto (tgt := 6) hx hb dX4_firstToBreak_63 (by decide) ?_
            exact Kc _ (gv_inj h) _ _ _ hP hS (lv_sub hl [2, 3, 4, 0] rfl)
          · have h := gv_neg hc h
            exact J47  _ _ _ h hP hS (lv_sub hl [0, 1, 4] rfl)
  · obtain ⟨v10, v11, v12⟩ := q12
    have h := gv_let_e (x := v10) rfl h
    have h := gv_let_e (x := v11) rfl h
    have h := gv_let_e (x := v12) rfl h
    intro H locs ls hP hS hl
    have hP : gw_P X s0 H := hP
    have hl : lv_has ls 5 [(1, .int v10)] := hl
    refine lv_iload_n hx hb dX4_firstToBreak_66 rfl (lv_at hl 0 rfl) ?_
    exact Kr _ _ _ _ _ (gv_inj h) hP hS dX4_firstToBreak_67
theorem mX4_firstToBreak (l : Launch) (X : gw_X) (s0 : gs_S)  {r : Int32} (h : pX4_firstToBreak s0 = some r) : Met l yX4_firstToBreak wsX4_firstToBreak rX4_firstToBreak (gm_Pc X s0 [.ref (X.1 1)]) (gm_Qi X s0 r) 0 0 (gw_A X) :=
  gm_of RX4 (by decide) rfl rfl (Nat.le_of_ble_eq_true rfl) (fun p e s m below meth c ls C0 hP hl hS => tX4_firstToBreak C0  s0 h (fun H locs ls pc r hr hP hS hd => by subst hr; exact gm_reti C0 hP hS hd) hP hS hl)
def pX4_crackedFrom_L20 (v1 : Int64) (v3 : Int64) (v4 : Int32) : Option ((Int64 × Int32) ⊕ (Int64 × Int32)) := if (64 : Int32) ≤ v4 then some (.inr (v3, v4)) else gv_let (v3 ||| ((pX10_allBeside v3) &&& v1)) (fun v5 => if (lg_cmp v5 v3) = 0 then some (.inr (v3, v4)) else gv_let (v4 + (1 : Int32)) (fun v6 => some (.inl (v5, v6))))
def pX4_crackedFrom (a1 : Int32) (s0 : gs_S) : Option (Int64) := gv_bind (pX2_thinnerThan (s0.1 1 4) s0) (fun v1 => gv_let ((1 : Int64) <<< (a1.toInt64 &&& 63)) (fun v2 => gv_bind (gv_loop (fun q => pX4_crackedFrom_L20 v1 q.1 q.2) gv_N (v2, (0 : Int32))) (fun q => gv_let q.1 (fun v7 => gv_let q.2 (fun v8 => some v7)))))
def rX4_crackedFrom : Room := { frames := 2, cells := 0, slots := 0, locals := 46 }
set_option maxHeartbeats 4000000 in
set_option maxRecDepth 100000 in
theorem tX4_crackedFrom {p : Program} {l : Launch} {e : Env} {s : State} {m : MethodId} {args : Array Value} {below : List Frame} {meth : Method} {c : Code} {X : gw_X} {Q : State → Prop} (C0 : gm_At p s m args meth c X cX4_crackedFrom 9 RX4 wsX4_crackedFrom (some .long)) (a1 : Int32) (s0 : gs_S) {z : Int64} (h : pX4_crackedFrom a1 s0 = some z) (Kr : ∀ (H : Heap) (locs : List Loc) (ls : Array Slot) (pc : Nat) (r : Int64), z = r → gw_P X s0 H → va_S (gw_A X) s.heap H locs → decode cX4_crackedFrom pc = .ok (.lreturn, 1) → W p l e rX4_crackedFrom s m args below meth c H locs 0 0 Q (F0 m pc ls [.long r])) {H : Heap} {locs : List Loc} {ls : Array Slot} (hP : gw_P X s0 H) (hS : va_S (gw_A X) s.heap H locs) (hl : lv_has ls 9 [(0, .ref (X.1 1)), (1, .int a1)]) : W p l e rX4_crackedFrom s m args below meth c H locs 0 0 Q (F0 m 0 ls []) := by
  obtain ⟨hx, hb, hml, hown, hts, hr, hlocks, hC⟩ := id C0
  unfold pX4_crackedFrom at h
  refine lv_aload_n hx hb dX4_crackedFrom_0 rfl (lv_at hl 0 rfl) ?_
  refine gv_get (ref := "IceByEar$Scene") (C := RX4) (T := TX4) (N := 6) (ci := 4) (v := .ref (X.1 2)) C0 (fun _ h9 => List.mem_cons_of_mem _ (List.mem_append_left _ (List.mem_append_right _ h9))) hP 1 (gw_o4 X s0 gk_1.1) rfl 0 (by decide) (by decide +kernel) rfl rfl dX4_crackedFrom_1 ?_
  refine lv_aload_n hx hb dX4_crackedFrom_4 rfl (lv_at hl 0 rfl) ?_
  refine gv_get (ref := "IceByEar$Scene") (C := RX4) (T := TX4) (N := 6) (ci := 4) (v := .int (s0.1 1 4)) C0 (fun _ h9 => List.mem_cons_of_mem _ (List.mem_append_left _ (List.mem_append_right _ h9))) hP 1 (gw_o4 X s0 gk_1.1) rfl 4 (by decide) (by decide +kernel) rfl rfl dX4_crackedFrom_5 ?_
  obtain ⟨v1, hv1, h⟩ := gv_bind_e h
  refine gv_rl (gv_runV (n := 1) (rest := []) C0 (mX2_thinnerThan l X s0 (s0.1 1 4) hv1) gX4_crackedFrom_X2_thinnerThan rfl ⟨rfl, rfl⟩ (by decide +kernel) ⟨by decide, by decide⟩ gk_2.1 (by decide) rfl hP hS rfl hl.1 rfl (Nat.le_of_ble_eq_true rfl) dX4_crackedFrom_8 ⟨Nat.zero_le _, Nat.zero_le _⟩) hS (fun H locs hP hS => ?_)
  refine lv_lstore_n (lv' := [(2, .long v1), (0, .ref (X.1 1)), (1, .int a1)]) hx hb dX4_crackedFrom_11 rfl hl (by decide) rfl (fun ls hl => ?_)
  refine lv_lconst (v := 1) hx hb dX4_crackedFrom_12 (by decide) ?_
  refine lv_iload_n hx hb dX4_crackedFrom_13 rfl (lv_at hl 2 rfl) ?_
  refine lv_lshl hx hb dX4_crackedFrom_14 rfl ?_
  refine lv_topl (fun v2 ev2 => ?_)
  have h := gv_let_e ev2 h
  refine lv_lstore (lv' := [(4, .long v2), (2, .long v1), (0, .ref (X.1 1)), (1, .int a1)]) hx hb dX4_crackedFrom_15 hl (by decide) rfl (fun ls hl => ?_)
  refine lv_iconst (v := 0) hx hb dX4_crackedFrom_17 (by decide) ?_
  refine lv_istore (lv' := [(6, .int (0 : Int32)), (4, .long v2), (2, .long v1), (0, .ref (X.1 1)), (1, .int a1)]) hx hb dX4_crackedFrom_18 hl (by decide) rfl (fun ls hl => ?_)
  obtain ⟨q8, hq8, h⟩ := gv_bind_e h
  refine gv_loop_ind (Φ := fun q => ∀ (H : Heap) (locs : List Loc) (ls : Array Slot), gw_P X s0 H → va_S (gw_A X) s.heap H locs → lv_has ls 9 [(2, .long v1), (4, .long q.1), (6, .int q.2)] → W p l e rX4_crackedFrom s m args below meth c H locs 0 0 Q (F0 m 20 ls [])) (Ψ := fun q => ∀ (H : Heap) (locs : List Loc) (ls : Array Slot), gw_P X s0 H → va_S (gw_A X) s.heap H locs → lv_has ls 9 [(4, .long q.1)] → W p l e rX4_crackedFrom s m args below meth c H locs 0 0 Q (F0 m 60 ls [])) ?_ gv_N (v2, (0 : Int32)) q8 hq8 ?_ H locs ls hP hS (lv_sub hl [2, 1, 0] rfl)
  · intro q x h Kc Ke H locs ls hP hS hl
    obtain ⟨v3, v4⟩ := q
    have h : pX4_crackedFrom_L20 v1 v3 v4 = some x := h
    have hP : gw_P X s0 H := hP
    have hl : lv_has ls 9 [(2, .long v1), (4, .long v3), (6, .int v4)] := hl
    unfold pX4_crackedFrom_L20 at h
    refine lv_iload hx hb dX4_crackedFrom_20 (lv_at hl 2 rfl) ?_
    refine lv_bipush (v := 64) hx hb dX4_crackedFrom_22 (by decide) ?_
    refine lv_icmp_ge (tgt := 60) hx hb dX4_crackedFrom_24 (by decide) (fun hc => ?_) (fun hc => ?_)
    · have h := gv_pos hc h
      exact Ke _ (gv_inj h) _ _ _ hP hS (lv_sub hl [1] rfl)
    · have h := gv_neg hc h
      refine lv_lload hx hb dX4_crackedFrom_27 (lv_at hl 1 rfl) ?_
      refine lv_lload hx hb dX4_crackedFrom_29 (lv_at hl 1 rfl) ?_
      refine gv_rl (gv_runN (n := 1) (rest := [.long v3]) (host := "IceByEar") C0 (mX10_allBeside l X s0 v3) gX4_crackedFrom_X10_allBeside_n63 rfl ⟨rfl, rfl⟩ (by decide +kernel) ⟨by decide +kernel, by decide +kernel⟩ (by decide +kernel) ⟨by decide, by decide⟩ hP hS rfl hl.1 rfl (Nat.le_of_ble_eq_true rfl) dX4_crackedFrom_31 ⟨Nat.zero_le _, Nat.zero_le _⟩) hS (fun H locs hP hS => ?_)
      refine lv_lload_n hx hb dX4_crackedFrom_34 rfl (lv_at hl 0 rfl) ?_
      refine lv_land hx hb dX4_crackedFrom_35 ?_
      refine lv_lor hx hb dX4_crackedFrom_36 ?_
      refine lv_topl (fun v5 ev5 => ?_)
      have h := gv_let_e ev5 h
      refine lv_lstore (lv' := [(7, .long v5), (2, .long v1), (4, .long v3), (6, .int v4)]) hx hb dX4_crackedFrom_37 hl (by decide) rfl (fun ls hl => ?_)
      refine lv_lload hx hb dX4_crackedFrom_39 (lv_at hl 0 rfl) ?_
      refine lv_lload hx hb dX4_crackedFrom_41 (lv_at hl 2 rfl) ?_
      refine W.lcmp hx hb dX4_crackedFrom_43 ?_
      refine lv_if_ne (tgt := 50) hx hb dX4_crackedFrom_44 (by decide) (fun hc => ?_) (fun hc => ?_)
      · have h := gv_neg hc h
        refine lv_lload hx hb dX4_crackedFrom_50 (lv_at hl 0 rfl) ?_
        refine lv_lstore (lv' := [(4, .long v5), (7, .long v5), (2, .long v1), (6, .int v4)]) hx hb dX4_crackedFrom_52 hl (by decide) rfl (fun ls hl => ?_)
        obtain ⟨v6, ev6⟩ : ∃ y : Int32, y = (v4 + (1 : Int32)) := ⟨_, rfl⟩
        have h := gv_let_e ev6 h
        refine lv_iinc (v := v6) (lv' := [(6, .int v6), (4, .long v5), (7, .long v5), (2, .long v1)]) hx hb dX4_crackedFrom_54 hl (k := 3) rfl (by rw [ev6]; rfl) (by decide) rfl (fun ls hl => ?_)
        refine lv_goto (tgt := 20) hx hb dX4_crackedFrom_57 (by decide) ?_
        exact Kc _ (gv_inj h) _ _ _ hP hS (lv_sub hl [3, 1, 0] rfl)
      · have h := gv_pos hc h
        refine lv_goto (tgt := 60) hx hb dX4_crackedFrom_47 (by decide) ?_
        exact Ke _ (gv_inj h) _ _ _ hP hS (lv_sub hl [2] rfl)
  · obtain ⟨v7, v8⟩ := q8
    have h := gv_let_e (x := v7) rfl h
    have h := gv_let_e (x := v8) rfl h
    intro H locs ls hP hS hl
    have hP : gw_P X s0 H := hP
    have hl : lv_has ls 9 [(4, .long v7)] := hl
    refine lv_lload hx hb dX4_crackedFrom_60 (lv_at hl 0 rfl) ?_
    exact Kr _ _ _ _ _ (gv_inj h) hP hS dX4_crackedFrom_62
theorem mX4_crackedFrom (l : Launch) (X : gw_X) (s0 : gs_S) (a1 : Int32) {r : Int64} (h : pX4_crackedFrom a1 s0 = some r) : Met l yX4_crackedFrom wsX4_crackedFrom rX4_crackedFrom (gm_Pc X s0 [.ref (X.1 1), .int a1]) (gm_Ql X s0 r) 0 0 (gw_A X) :=
  gm_of RX4 (by decide) rfl rfl (Nat.le_of_ble_eq_true rfl) (fun p e s m below meth c ls C0 hP hl hS => tX4_crackedFrom C0 a1 s0 h (fun H locs ls pc r hr hP hS hd => by subst hr; exact gm_retl C0 hP hS hd) hP hS hl)
def pX10_breaks (a1 : Int32) (s0 : gs_S) : Option (Int32) := if (pX10_isWithin (a1.toInt64) (0 : Int32) (3 : Int32)) = 0 then some (-1 : Int32) else gv_bind (pX4_firstToBreak s0) (fun v1 => if 0 ≤ v1 then gv_bind (pX4_breakingPlace v1 s0) (fun v2 => gv_in v2 24 (gv_let (s0.1 9 v2.toNatClampNeg) (fun v4 => if a1 = (0 : Int32) then some v1 else if a1 = (1 : Int32) then some v4 else if a1 = (2 : Int32) then gv_bind (pX8_minute v1 v2 s0) (fun v5 => some v5) else gv_bind (pX4_crackedFrom v4 s0) (fun v6 => some (pJ13_bitCount_95d88 v6))))) else some (-4 : Int32))
def rX10_breaks : Room := { frames := 6, cells := 0, slots := 0, locals := 133 }
set_option maxHeartbeats 4000000 in
set_option maxRecDepth 100000 in
theorem tX10_breaks {p : Program} {l : Launch} {e : Env} {s : State} {m : MethodId} {args : Array Value} {below : List Frame} {meth : Method} {c : Code} {X : gw_X} {Q : State → Prop} (C0 : gm_At p s m args meth c X cX10_breaks 5 RX10 wsX10_breaks (some .int)) (a1 : Int32) (s0 : gs_S) {z : Int32} (h : pX10_breaks a1 s0 = some z) (Kr : ∀ (H : Heap) (locs : List Loc) (ls : Array Slot) (pc : Nat) (r : Int32), z = r → gw_P X s0 H → va_S (gw_A X) s.heap H locs → decode cX10_breaks pc = .ok (.ireturn, 1) → W p l e rX10_breaks s m args below meth c H locs 0 0 Q (F0 m pc ls [.int r])) {H : Heap} {locs : List Loc} {ls : Array Slot} (hP : gw_P X s0 H) (hS : va_S (gw_A X) s.heap H locs) (hl : lv_has ls 5 [(0, .ref (X.1 0)), (1, .int a1)]) : W p l e rX10_breaks s m args below meth c H locs 0 0 Q (F0 m 0 ls []) := by
  obtain ⟨hx, hb, hml, hown, hts, hr, hlocks, hC⟩ := id C0
  unfold pX10_breaks at h
  refine lv_iload_n hx hb dX10_breaks_0 rfl (lv_at hl 1 rfl) ?_
  refine lv_i2l hx hb dX10_breaks_1 rfl ?_
  refine lv_iconst (v := 0) hx hb dX10_breaks_2 (by decide) ?_
  refine lv_iconst (v := 3) hx hb dX10_breaks_3 (by decide) ?_
  refine gv_ri (gv_runS (n := 3) (rest := []) C0 (mX10_isWithin l X s0 (a1.toInt64) (0 : Int32) (3 : Int32)) gX10_breaks_X10_isWithin rfl ⟨rfl, rfl⟩ (by decide +kernel) ⟨by decide, by decide⟩ hP hS rfl hl.1 rfl (Nat.le_of_ble_eq_true rfl) dX10_breaks_4 ⟨Nat.zero_le _, Nat.zero_le _⟩) hS (fun H locs hP hS => ?_)
  refine lv_if_ne (tgt := 12) hx hb dX10_breaks_7 (by decide) (fun hc => ?_) (fun hc => ?_)
  · have h := gv_neg hc h
    refine lv_aload_n hx hb dX10_breaks_12 rfl (lv_at hl 0 rfl) ?_
    refine gv_get (ref := "IceByEar") (C := RX10) (T := TX10) (N := 8) (ci := 10) (v := .ref (X.1 1)) C0 (fun _ h9 => List.mem_cons_of_mem _ (List.mem_append_left _ (List.mem_append_left _ (List.mem_append_left _ (List.mem_append_left _ (List.mem_append_right _ h9)))))) hP 0 (gw_o10 X s0 gk_0.1) rfl 0 (by decide) (by decide +kernel) rfl rfl dX10_breaks_13 ?_
    obtain ⟨v1, hv1, h⟩ := gv_bind_e h
    refine gv_ri (gv_runV (n := 0) (rest := []) C0 (mX4_firstToBreak l X s0  hv1) gX10_breaks_X4_firstToBreak rfl ⟨rfl, rfl⟩ (by decide +kernel) ⟨by decide, by decide⟩ gk_1.1 (by decide) rfl hP hS rfl hl.1 rfl (Nat.le_of_ble_eq_true rfl) dX10_breaks_16 ⟨Nat.zero_le _, Nat.zero_le _⟩) hS (fun H locs hP hS => ?_)
    refine lv_istore_n (lv' := [(2, .int v1), (0, .ref (X.1 0)), (1, .int a1)]) hx hb dX10_breaks_19 rfl hl (by decide) rfl (fun ls hl => ?_)
    refine lv_iload_n hx hb dX10_breaks_20 rfl (lv_at hl 0 rfl) ?_
    refine lv_if_ge (tgt := 27) hx hb dX10_breaks_21 (by decide) (fun hc => ?_) (fun hc => ?_)
    · have h := gv_pos hc h
      refine lv_aload_n hx hb dX10_breaks_27 rfl (lv_at hl 1 rfl) ?_
      refine gv_get (ref := "IceByEar") (C := RX10) (T := TX10) (N := 8) (ci := 10) (v := .ref (X.1 1)) C0 (fun _ h9 => List.mem_cons_of_mem _ (List.mem_append_left _ (List.mem_append_left _ (List.mem_append_left _ (List.mem_append_left _ (List.mem_append_right _ h9)))))) hP 0 (gw_o10 X s0 gk_0.1) rfl 0 (by decide) (by decide +kernel) rfl rfl dX10_breaks_28 ?_
      refine lv_iload_n hx hb dX10_breaks_31 rfl (lv_at hl 0 rfl) ?_
      obtain ⟨v2, hv2, h⟩ := gv_bind_e h
      refine gv_ri (gv_runV (n := 1) (rest := []) C0 (mX4_breakingPlace l X s0 v1 hv2) gX10_breaks_X4_breakingPlace rfl ⟨rfl, rfl⟩ (by decide +kernel) ⟨by decide, by decide⟩ gk_1.1 (by decide) rfl hP hS rfl hl.1 rfl (Nat.le_of_ble_eq_true rfl) dX10_breaks_32 ⟨Nat.zero_le _, Nat.zero_le _⟩) hS (fun H locs hP hS => ?_)
      refine lv_istore_n (lv' := [(3, .int v2), (2, .int v1), (0, .ref (X.1 0)), (1, .int a1)]) hx hb dX10_breaks_35 rfl hl (by decide) rfl (fun ls hl => ?_)
      refine lv_aload_n hx hb dX10_breaks_36 rfl (lv_at hl 2 rfl) ?_
      refine gv_get (ref := "IceByEar") (C := RX10) (T := TX10) (N := 8) (ci := 10) (v := .ref (X.1 1)) C0 (fun _ h9 => List.mem_cons_of_mem _ (List.mem_append_left _ (List.mem_append_left _ (List.mem_append_left _ (List.mem_append_left _ (List.mem_append_right _ h9)))))) hP 0 (gw_o10 X s0 gk_0.1) rfl 0 (by decide) (by decide +kernel) rfl rfl dX10_breaks_37 ?_
      refine gv_get (ref := "IceByEar$Scene") (C := RX4) (T := TX4) (N := 6) (ci := 4) (v := .ref (X.1 8)) C0 (fun _ h9 => List.mem_cons_of_mem _ (List.mem_append_left _ (List.mem_append_left _ (List.mem_append_left _ (List.mem_append_right _ h9))))) hP 1 (gw_o4 X s0 gk_1.1) rfl 2 (by decide) (by decide +kernel) rfl rfl dX10_breaks_40 ?_
      refine gv_get (ref := "IceByEar$Way") (C := RX9) (T := TX9) (N := 2) (ci := 9) (v := .ref (X.1 9)) C0 (fun _ h9 => List.mem_cons_of_mem _ (List.mem_append_left _ (List.mem_append_left _ (List.mem_append_right _ h9)))) hP 8 (gw_o9 X s0 gk_8.1) rfl 0 (by decide) (by decide +kernel) rfl rfl dX10_breaks_43 ?_
      refine lv_iload_n hx hb dX10_breaks_46 rfl (lv_at hl 0 rfl) ?_
      obtain ⟨hin3, h⟩ := gv_in_e h
      refine gv_iald C0 hP 9 gk_9.1 gk_9.2 hin3 dX10_breaks_47 ?_
      refine lv_topi (fun v4 ev4 => ?_)
      have h := gv_let_e ev4 h
      refine lv_istore (lv' := [(4, .int v4), (3, .int v2), (2, .int v1), (0, .ref (X.1 0)), (1, .int a1)]) hx hb dX10_breaks_48 hl (by decide) rfl (fun ls hl => ?_)
      refine lv_iload_n hx hb dX10_breaks_50 rfl (lv_at hl 4 rfl) ?_
      by_cases hc : a1 = (0 : Int32)
      · have h := gv_pos hc h
        refine gv_tin (k := 0) (tgt := 76) hx hb dX10_breaks_51 hc (by decide) (by decide) rfl (by decide) ?_
        refine lv_iload_n hx hb dX10_breaks_76 rfl (lv_at hl 2 rfl) ?_
        exact Kr _ _ _ _ _ (gv_inj h) hP hS dX10_breaks_77
      · have h := gv_neg hc h
        have hd0 := hc
        by_cases hc : a1 = (1 : Int32)
        · have h := gv_pos hc h
          refine gv_tin (k := 1) (tgt := 78) hx hb dX10_breaks_51 hc (by decide) (by decide) rfl (by decide) ?_
          refine lv_iload hx hb dX10_breaks_78 (lv_at hl 0 rfl) ?_
          exact Kr _ _ _ _ _ (gv_inj h) hP hS dX10_breaks_80
        · have h := gv_neg hc h
          have hd1 := hc
          by_cases hc : a1 = (2 : Int32)
          · have h := gv_pos hc h
            refine gv_tin (k := 2) (tgt := 81) hx hb dX10_breaks_51 hc (by decide) (by decide) rfl (by decide) ?_
            refine lv_aload_n hx hb dX10_breaks_81 rfl (lv_at hl 3 rfl) ?_
            refine gv_get (ref := "IceByEar") (C := RX10) (T := TX10) (N := 8) (ci := 10) (v := .ref (X.1 1)) C0 (fun _ h9 => List.mem_cons_of_mem _ (List.mem_append_left _ (List.mem_append_left _ (List.mem_append_left _ (List.mem_append_left _ (List.mem_append_right _ h9)))))) hP 0 (gw_o10 X s0 gk_0.1) rfl 0 (by decide) (by decide +kernel) rfl rfl dX10_breaks_82 ?_
            refine gv_get (ref := "IceByEar$Scene") (C := RX4) (T := TX4) (N := 6) (ci := 4) (v := .ref (X.1 4)) C0 (fun _ h9 => List.mem_cons_of_mem _ (List.mem_append_left _ (List.mem_append_left _ (List.mem_append_left _ (List.mem_append_right _ h9))))) hP 1 (gw_o4 X s0 gk_1.1) rfl 1 (by decide) (by decide +kernel) rfl rfl dX10_breaks_85 ?_
            refine lv_iload_n hx hb dX10_breaks_88 rfl (lv_at hl 2 rfl) ?_
            refine lv_iload_n hx hb dX10_breaks_89 rfl (lv_at hl 1 rfl) ?_
            obtain ⟨v5, hv5, h⟩ := gv_bind_e h
            refine gv_ri (gv_runV (n := 2) (rest := []) C0 (mX8_minute l X s0 v1 v2 hv5) gX10_breaks_X8_minute rfl ⟨rfl, rfl⟩ (by decide +kernel) ⟨by decide, by decide⟩ gk_4.1 (by decide) rfl hP hS rfl hl.1 rfl (Nat.le_of_ble_eq_true rfl) dX10_breaks_90 ⟨Nat.zero_le _, Nat.zero_le _⟩) hS (fun H locs hP hS => ?_)
            exact Kr _ _ _ _ _ (gv_inj h) hP hS dX10_breaks_93
          · have h := gv_neg hc h
            have hd2 := hc
            refine lv_tableOut (tgt := 94) hx hb dX10_breaks_51 (by have n0 := lv_neT hd0 (show ((0 : Int32)).toInt = 0 by decide); have n1 := lv_neT hd1 (show ((1 : Int32)).toInt = 1 by decide); have n2 := lv_neT hd2 (show ((2 : Int32)).toInt = 2 by decide); omega) (by decide) ?_
            refine lv_aload_n hx hb dX10_breaks_94 rfl (lv_at hl 3 rfl) ?_
            refine gv_get (ref := "IceByEar") (C := RX10) (T := TX10) (N := 8) (ci := 10) (v := .ref (X.1 1)) C0 (fun _ h9 => List.mem_cons_of_mem _ (List.mem_append_left _ (List.mem_append_left _ (List.mem_append_left _ (List.mem_append_left _ (List.mem_append_right _ h9)))))) hP 0 (gw_o10 X s0 gk_0.1) rfl 0 (by decide) (by decide +kernel) rfl rfl dX10_breaks_95 ?_
            refine lv_iload hx hb dX10_breaks_98 (lv_at hl 0 rfl) ?_
            obtain ⟨v6, hv6, h⟩ := gv_bind_e h
            refine gv_rl (gv_runV (n := 1) (rest := []) C0 (mX4_crackedFrom l X s0 v4 hv6) gX10_breaks_X4_crackedFrom rfl ⟨rfl, rfl⟩ (by decide +kernel) ⟨by decide, by decide⟩ gk_1.1 (by decide) rfl hP hS rfl hl.1 rfl (Nat.le_of_ble_eq_true rfl) dX10_breaks_100 ⟨Nat.zero_le _, Nat.zero_le _⟩) hS (fun H locs hP hS => ?_)
            refine gv_ri (gv_runS (n := 1) (rest := []) C0 (mJ13_bitCount_95d88 l X s0 v6) gX10_breaks_J13_bitCount_95d88 rfl ⟨rfl, rfl⟩ (by decide +kernel) ⟨by decide, by decide⟩ hP hS rfl hl.1 rfl (Nat.le_of_ble_eq_true rfl) dX10_breaks_103 ⟨Nat.zero_le _, Nat.zero_le _⟩) hS (fun H locs hP hS => ?_)
            exact Kr _ _ _ _ _ (gv_inj h) hP hS dX10_breaks_106
    · have h := gv_neg hc h
      refine lv_bipush (v := -4) hx hb dX10_breaks_24 (by decide) ?_
      exact Kr _ _ _ _ _ (gv_inj h) hP hS dX10_breaks_26
  · have h := gv_pos hc h
    refine lv_iconst (v := -1) hx hb dX10_breaks_10 (by decide) ?_
    exact Kr _ _ _ _ _ (gv_inj h) hP hS dX10_breaks_11
theorem mX10_breaks (l : Launch) (X : gw_X) (s0 : gs_S) (a1 : Int32) {r : Int32} (h : pX10_breaks a1 s0 = some r) : Met l yX10_breaks wsX10_breaks rX10_breaks (gm_Pc X s0 [.ref (X.1 0), .int a1]) (gm_Qi X s0 r) 0 0 (gw_A X) :=
  gm_of RX10 (by decide) rfl rfl (Nat.le_of_ble_eq_true rfl) (fun p e s m below meth c ls C0 hP hl hS => tX10_breaks C0 a1 s0 h (fun H locs ls pc r hr hP hS hd => by subst hr; exact gm_reti C0 hP hS hd) hP hS hl)
def pX10_cracks (a1 : Int32) (s0 : gs_S) : Option (Int64) := if (pX10_isSquare (a1.toInt64)) = 0 then some (-1 : Int64) else gv_bind (pX4_crackedFrom a1 s0) (fun v1 => some v1)
def rX10_cracks : Room := { frames := 3, cells := 0, slots := 0, locals := 74 }
set_option maxHeartbeats 4000000 in
set_option maxRecDepth 100000 in
theorem tX10_cracks {p : Program} {l : Launch} {e : Env} {s : State} {m : MethodId} {args : Array Value} {below : List Frame} {meth : Method} {c : Code} {X : gw_X} {Q : State → Prop} (C0 : gm_At p s m args meth c X cX10_cracks 2 RX10 wsX10_cracks (some .long)) (a1 : Int32) (s0 : gs_S) {z : Int64} (h : pX10_cracks a1 s0 = some z) (Kr : ∀ (H : Heap) (locs : List Loc) (ls : Array Slot) (pc : Nat) (r : Int64), z = r → gw_P X s0 H → va_S (gw_A X) s.heap H locs → decode cX10_cracks pc = .ok (.lreturn, 1) → W p l e rX10_cracks s m args below meth c H locs 0 0 Q (F0 m pc ls [.long r])) {H : Heap} {locs : List Loc} {ls : Array Slot} (hP : gw_P X s0 H) (hS : va_S (gw_A X) s.heap H locs) (hl : lv_has ls 2 [(0, .ref (X.1 0)), (1, .int a1)]) : W p l e rX10_cracks s m args below meth c H locs 0 0 Q (F0 m 0 ls []) := by
  obtain ⟨hx, hb, hml, hown, hts, hr, hlocks, hC⟩ := id C0
  unfold pX10_cracks at h
  refine lv_iload_n hx hb dX10_cracks_0 rfl (lv_at hl 1 rfl) ?_
  refine lv_i2l hx hb dX10_cracks_1 rfl ?_
  refine gv_ri (gv_runS (n := 1) (rest := []) C0 (mX10_isSquare l X s0 (a1.toInt64)) gX10_cracks_X10_isSquare rfl ⟨rfl, rfl⟩ (by decide +kernel) ⟨by decide, by decide⟩ hP hS rfl hl.1 rfl (Nat.le_of_ble_eq_true rfl) dX10_cracks_2 ⟨Nat.zero_le _, Nat.zero_le _⟩) hS (fun H locs hP hS => ?_)
  refine lv_if_eq (tgt := 19) hx hb dX10_cracks_5 (by decide) (fun hc => ?_) (fun hc => ?_)
  · have h := gv_pos hc h
    refine lv_ldc2 (v := -1) hx hb hown (hts (.constantLong RX10 198 (-1)) (by decide +kernel)) dX10_cracks_19 ?_
    exact Kr _ _ _ _ _ (gv_inj h) hP hS dX10_cracks_22
  · have h := gv_neg hc h
    refine lv_aload_n hx hb dX10_cracks_8 rfl (lv_at hl 0 rfl) ?_
    refine gv_get (ref := "IceByEar") (C := RX10) (T := TX10) (N := 8) (ci := 10) (v := .ref (X.1 1)) C0 (fun _ h9 => List.mem_cons_of_mem _ (List.mem_append_left _ (List.mem_append_left _ (List.mem_append_right _ h9)))) hP 0 (gw_o10 X s0 gk_0.1) rfl 0 (by decide) (by decide +kernel) rfl rfl dX10_cracks_9 ?_
    refine lv_iload_n hx hb dX10_cracks_12 rfl (lv_at hl 1 rfl) ?_
    obtain ⟨v1, hv1, h⟩ := gv_bind_e h
    refine gv_rl (gv_runV (n := 1) (rest := []) C0 (mX4_crackedFrom l X s0 a1 hv1) gX10_cracks_X4_crackedFrom rfl ⟨rfl, rfl⟩ (by decide +kernel) ⟨by decide, by decide⟩ gk_1.1 (by decide) rfl hP hS rfl hl.1 rfl (Nat.le_of_ble_eq_true rfl) dX10_cracks_13 ⟨Nat.zero_le _, Nat.zero_le _⟩) hS (fun H locs hP hS => ?_)
    refine lv_goto (tgt := 22) hx hb dX10_cracks_16 (by decide) ?_
    exact Kr _ _ _ _ _ (gv_inj h) hP hS dX10_cracks_22
theorem mX10_cracks (l : Launch) (X : gw_X) (s0 : gs_S) (a1 : Int32) {r : Int64} (h : pX10_cracks a1 s0 = some r) : Met l yX10_cracks wsX10_cracks rX10_cracks (gm_Pc X s0 [.ref (X.1 0), .int a1]) (gm_Ql X s0 r) 0 0 (gw_A X) :=
  gm_of RX10 (by decide) rfl rfl (Nat.le_of_ble_eq_true rfl) (fun p e s m below meth c ls C0 hP hl hS => tX10_cracks C0 a1 s0 h (fun H locs ls pc r hr hP hS hd => by subst hr; exact gm_retl C0 hP hS hd) hP hS hl)
def pX2_melt_L2 (a1 : Int64) (v1 : Int32) (s2 : gs_S) : Option ((Int32 × gs_S) ⊕ (Int32 × gs_S)) := if (64 : Int32) ≤ v1 then some (.inr (v1, s2)) else if (lg_cmp (((a1.toUInt64 >>> (v1.toInt64.toUInt64 &&& Int64.toUInt64 63)).toInt64) &&& (1 : Int64)) (0 : Int64)) = 0 then gv_let (v1 + (1 : Int32)) (fun v3 => some (.inl (v3, s2))) else gv_bind (pX2_put v1 (0 : Int32) (0 : Int32) s2) (fun s4 => gv_let (v1 + (1 : Int32)) (fun v5 => some (.inl (v5, s4))))
def pX2_melt (a1 : Int64) (s0 : gs_S) : Option (gs_S) := gv_bind (gv_loop (fun q => pX2_melt_L2 a1 q.1 q.2) gv_N ((0 : Int32), s0)) (fun q => gv_let q.1 (fun v6 => gv_let q.2 (fun s7 => some s7)))
def rX2_melt : Room := { frames := 1, cells := 0, slots := 0, locals := 23 }
set_option maxHeartbeats 4000000 in
set_option maxRecDepth 100000 in
theorem tX2_melt {p : Program} {l : Launch} {e : Env} {s : State} {m : MethodId} {args : Array Value} {below : List Frame} {meth : Method} {c : Code} {X : gw_X} {Q : State → Prop} (C0 : gm_At p s m args meth c X cX2_melt 4 RX2 wsX2_melt none) (a1 : Int64) (s0 : gs_S) {z : gs_S} (h : pX2_melt a1 s0 = some z) (Kr : ∀ (H : Heap) (locs : List Loc) (ls : Array Slot) (pc : Nat) (τ : gs_S), z = τ → gw_P X τ H → va_S (gw_A X) s.heap H locs → decode cX2_melt pc = .ok (.return_, 1) → W p l e rX2_melt s m args below meth c H locs 0 0 Q (F0 m pc ls [])) {H : Heap} {locs : List Loc} {ls : Array Slot} (hP : gw_P X s0 H) (hS : va_S (gw_A X) s.heap H locs) (hl : lv_has ls 4 [(0, .ref (X.1 2)), (1, .long a1)]) : W p l e rX2_melt s m args below meth c H locs 0 0 Q (F0 m 0 ls []) := by
  obtain ⟨hx, hb, hml, hown, hts, hr, hlocks, hC⟩ := id C0
  unfold pX2_melt at h
  refine lv_iconst (v := 0) hx hb dX2_melt_0 (by decide) ?_
  refine lv_istore_n (lv' := [(3, .int (0 : Int32)), (0, .ref (X.1 2)), (1, .long a1)]) hx hb dX2_melt_1 rfl hl (by decide) rfl (fun ls hl => ?_)
  obtain ⟨q7, hq7, h⟩ := gv_bind_e h
  refine gv_loop_ind (Φ := fun q => ∀ (H : Heap) (locs : List Loc) (ls : Array Slot), gw_P X q.2 H → va_S (gw_A X) s.heap H locs → lv_has ls 4 [(0, .ref (X.1 2)), (1, .long a1), (3, .int q.1)] → W p l e rX2_melt s m args below meth c H locs 0 0 Q (F0 m 2 ls [])) (Ψ := fun q => ∀ (H : Heap) (locs : List Loc) (ls : Array Slot), gw_P X q.2 H → va_S (gw_A X) s.heap H locs → lv_has ls 4 [] → W p l e rX2_melt s m args below meth c H locs 0 0 Q (F0 m 31 ls [])) ?_ gv_N ((0 : Int32), s0) q7 hq7 ?_ H locs ls hP hS (lv_sub hl [1, 2, 0] rfl)
  · intro q x h Kc Ke H locs ls hP hS hl
    obtain ⟨v1, s2⟩ := q
    have h : pX2_melt_L2 a1 v1 s2 = some x := h
    have hP : gw_P X s2 H := hP
    have hl : lv_has ls 4 [(0, .ref (X.1 2)), (1, .long a1), (3, .int v1)] := hl
    unfold pX2_melt_L2 at h
    refine lv_iload_n hx hb dX2_melt_2 rfl (lv_at hl 2 rfl) ?_
    refine lv_bipush (v := 64) hx hb dX2_melt_3 (by decide) ?_
    refine lv_icmp_ge (tgt := 31) hx hb dX2_melt_5 (by decide) (fun hc => ?_) (fun hc => ?_)
    · have h := gv_pos hc h
      exact Ke _ (gv_inj h) _ _ _ hP hS (lv_sub hl [] rfl)
    · have h := gv_neg hc h
      refine lv_lload_n hx hb dX2_melt_8 rfl (lv_at hl 1 rfl) ?_
      refine lv_iload_n hx hb dX2_melt_9 rfl (lv_at hl 2 rfl) ?_
      refine lv_lushr hx hb dX2_melt_10 rfl ?_
      refine lv_lconst (v := 1) hx hb dX2_melt_11 (by decide) ?_
      refine lv_land hx hb dX2_melt_12 ?_
      refine lv_lconst (v := 0) hx hb dX2_melt_13 (by decide) ?_
      refine W.lcmp hx hb dX2_melt_14 ?_
      refine lv_if_eq (tgt := 25) hx hb dX2_melt_15 (by decide) (fun hc => ?_) (fun hc => ?_)
      · have h := gv_pos hc h
        obtain ⟨v3, ev3⟩ : ∃ y : Int32, y = (v1 + (1 : Int32)) := ⟨_, rfl⟩
        have h := gv_let_e ev3 h
        refine lv_iinc (v := v3) (lv' := [(3, .int v3), (0, .ref (X.1 2)), (1, .long a1)]) hx hb dX2_melt_25 hl (k := 2) rfl (by rw [ev3]; rfl) (by decide) rfl (fun ls hl => ?_)
        refine lv_goto (tgt := 2) hx hb dX2_melt_28 (by decide) ?_
        exact Kc _ (gv_inj h) _ _ _ hP hS (lv_sub hl [1, 2, 0] rfl)
      · have h := gv_neg hc h
        refine lv_aload_n hx hb dX2_melt_18 rfl (lv_at hl 0 rfl) ?_
        refine lv_iload_n hx hb dX2_melt_19 rfl (lv_at hl 2 rfl) ?_
        refine lv_iconst (v := 0) hx hb dX2_melt_20 (by decide) ?_
        refine lv_iconst (v := 0) hx hb dX2_melt_21 (by decide) ?_
        obtain ⟨s4, hs4, h⟩ := gv_bind_e h
        refine gv_rv (gv_runV (n := 3) (rest := []) C0 (mX2_put l X s2 v1 (0 : Int32) (0 : Int32) hs4) gX2_melt_X2_put rfl ⟨rfl, rfl⟩ (by decide +kernel) ⟨by decide, by decide⟩ gk_2.1 (by decide) rfl hP hS rfl hl.1 rfl (Nat.le_of_ble_eq_true rfl) dX2_melt_22 ⟨Nat.zero_le _, Nat.zero_le _⟩) hS (fun H locs hP hS => ?_)
        obtain ⟨v5, ev5⟩ : ∃ y : Int32, y = (v1 + (1 : Int32)) := ⟨_, rfl⟩
        have h := gv_let_e ev5 h
        refine lv_iinc (v := v5) (lv' := [(3, .int v5), (0, .ref (X.1 2)), (1, .long a1)]) hx hb dX2_melt_25 hl (k := 2) rfl (by rw [ev5]; rfl) (by decide) rfl (fun ls hl => ?_)
        refine lv_goto (tgt := 2) hx hb dX2_melt_28 (by decide) ?_
        exact Kc _ (gv_inj h) _ _ _ hP hS (lv_sub hl [1, 2, 0] rfl)
  · obtain ⟨v6, s7⟩ := q7
    have h := gv_let_e (x := v6) rfl h
    have h := gv_let_e (x := s7) rfl h
    intro H locs ls hP hS hl
    have hP : gw_P X s7 H := hP
    have hl : lv_has ls 4 [] := hl
    exact Kr _ _ _ _ _ (gv_inj h) hP hS dX2_melt_31
theorem mX2_melt (l : Launch) (X : gw_X) (s0 : gs_S) (a1 : Int64) {τ : gs_S} (h : pX2_melt a1 s0 = some τ) : Met l yX2_melt wsX2_melt rX2_melt (gm_Pc X s0 [.ref (X.1 2), .long a1]) (gm_Qv X τ) 0 0 (gw_A X) :=
  gm_of RX2 (by decide) rfl rfl (Nat.le_of_ble_eq_true rfl) (fun p e s m below meth c ls C0 hP hl hS => tX2_melt C0 a1 s0 h (fun H locs ls pc τ hr hP hS hd => by subst hr; exact gm_retv C0 hP hS hd) hP hS hl)
