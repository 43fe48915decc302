/-! THE TEXT "glcoe": String.charAt of it, through the JDK's own methods -/
def gs_chat (k : Int32) : Option Int32 := gv_in k 5 (some (gs_txt.getD k.toNatClampNeg 0))
theorem gs_ch_ok : ∀ j, j < 5 → ((gs_txt.getD j 0 &&& 255).toUInt32 % 65536).toInt32 = gs_txt.getD j 0 ∧ narrow .char (.int (gs_txt.getD j 0)) = .int (gs_txt.getD j 0) := by decide +kernel
section GT
variable {p : Program} {l : Launch} {e : Env} {R : Room} {s : State} {m : MethodId} {args : Array Value} {below : List Frame} {meth : Method} {c : Code} {H : Heap} {locs : List Loc} {cells slots : Nat} {Q : State → Prop}
variable {cc : ByteArray} {pc nL : Nat} {ls : Array Slot} {rest : List Value} {X : gw_X} {σ : gs_S} {own : String} {Ts : List Cond} {ret0 : Option FieldType}
variable {y : MethodName} {bytes : ByteArray} {maxL n index : Nat} {ret : Option FieldType} {ws ws' : List Cond} {rm : Room} {As st0 : List Value} {C : String}
theorem gv_runT {Qc : Array Value → State → Outcome → State → Prop} (C0 : gm_At p s m args meth c X cc nL own Ts ret0) {b : Nat} (hM : Met l y ws rm (gm_Pc X σ (.ref b :: As)) Qc 0 0 (gw_A X)) (hG : GoodIn Ts (wsV own index C y ws)) (hw : ws = Cond.code y bytes maxL ret :: ws') (hrm : rm.cells = 0 ∧ rm.slots = 0) (hd : y.cls = C ∧ y.cls ≠ "java/lang/invoke/MethodHandle" ∧ y.cls ≠ "java/lang/invoke/VarHandle" ∧ (parseMethodDescriptor y.desc).map (fun d => d.parameters.length) = some n) (hR : rm.frames + 1 ≤ R.frames ∧ 8 + (maxL + 11) + rm.locals ≤ R.locals)
    (hrecv : va_O C b (gw_A X) s s.heap) (hP : gw_P X σ H) (hS : va_S (gw_A X) s.heap H locs) (hn : As.length = n) (hl : ls.size = nL) (hst : st0 = As.reverse ++ .ref b :: rest) (hro : (rest.map fun v => v.category).sum ≤ 8) (hdg : decode cc pc = .ok (.invokevirtual index, 3)) (hf : cells ≤ R.cells ∧ slots ≤ R.slots) :
    va_Run p l e R s m args below meth c H locs cells slots 0 0 (F0 m pc ls st0) rest (Qc (Value.ref b :: As).toArray) (gw_A X) := by
  obtain ⟨hx, hb, hml, hown, hts, -, -, hC⟩ := C0
  obtain ⟨cell, h1, h2, h3, -⟩ := hrecv.kept hS.2.1
  exact va_runV (C := C) ⟨hx, hb, hml, hown, hts⟩ hM (cwV n hts hG hw hrm.1 hrm.2 hd hR) ⟨gm_blind X σ _, ⟨cell, h1, h2, h3⟩, fun U hU hW => ⟨rfl, by rw [hU]; exact hP, hC.go hW hU hS⟩⟩ rfl hn hl hst (lv_room hro) hdg hf
end GT
set_option maxHeartbeats 4000000 in
set_option maxRecDepth 100000 in
theorem mJ3_checkIndex (l : Launch) (X : gw_X) (s0 : gs_S) (i n : Int32) (v : Value) (hv : v = .null ∨ ∃ t, v = .ref t) (h0 : ¬ i < 0) (h1 : i < n) : Met l yJ3_checkIndex_8e157 wsJ3_checkIndex_8e157 { frames := 0, cells := 0, slots := 0, locals := 0 } (gm_Pc X s0 [.int i, .int n, v]) (gm_Qi X s0 i) 0 0 (gw_A X) := by
  refine gm_of RJ3 (by decide) rfl rfl (by rcases hv with rfl | ⟨t, rfl⟩ <;> exact Nat.le_of_ble_eq_true rfl) (fun p e s m below meth c ls C0 hP hl hS => ?_)
  obtain ⟨hx, hb, hml, hown, hts, hr, hlocks, hC⟩ := id C0
  have hl : lv_has ls 3 [(0, .int i), (1, .int n), (2, v)] := hl
  refine lv_iload_n hx hb dJ3_checkIndex_8e157_0 rfl (lv_at hl 0 rfl) ?_
  refine lv_if_lt (tgt := 9) hx hb dJ3_checkIndex_8e157_1 (by decide) (fun hc => absurd hc h0) (fun hc => ?_)
  refine lv_iload_n hx hb dJ3_checkIndex_8e157_4 rfl (lv_at hl 0 rfl) ?_
  refine lv_iload_n hx hb dJ3_checkIndex_8e157_5 rfl (lv_at hl 1 rfl) ?_
  refine lv_icmp_lt (tgt := 16) hx hb dJ3_checkIndex_8e157_6 (by decide) (fun hc => ?_) (fun hc => absurd h1 hc)
  refine lv_iload_n hx hb dJ3_checkIndex_8e157_16 rfl (lv_at hl 0 rfl) ?_
  exact gm_reti C0 hP hS dJ3_checkIndex_8e157_17
set_option maxHeartbeats 4000000 in
set_option maxRecDepth 100000 in
theorem mJ0_checkIndex (l : Launch) (X : gw_X) (s0 : gs_S) (i n : Int32) (h0 : ¬ i < 0) (h1 : i < n) : Met l yJ0_checkIndex_df160 wsJ0_checkIndex_df160 { frames := 1, cells := 0, slots := 0, locals := 30 } (gm_Pc X s0 [.int i, .int n]) (gm_Qv X s0) 0 0 (gw_A X) := by
  refine gm_of RJ0 (by decide) rfl rfl (Nat.le_of_ble_eq_true rfl) (fun p e s m below meth c ls C0 hP hl hS => ?_)
  obtain ⟨hx, hb, hml, hown, hts, hr, hlocks, hC⟩ := id C0
  have hl : lv_has ls 2 [(0, .int i), (1, .int n)] := hl
  refine lv_iload_n hx hb dJ0_checkIndex_df160_0 rfl (lv_at hl 0 rfl) ?_
  refine lv_iload_n hx hb dJ0_checkIndex_df160_1 rfl (lv_at hl 1 rfl) ?_
  have hz := hC.2.2.1.2.2.2.1
  rcases hz with hz | ⟨t, hz⟩
  · refine va_gets hx hb hz hS hown (hts (.fieldLink RJ0 1053 "jdk/internal/util/Preconditions" "SIOOBE_FORMATTER" "Ljava/util/function/BiFunction;") (by decide +kernel)) (fun _ h9 => h9) dJ0_checkIndex_df160_2 ?_
    refine gv_ri (gv_runS (n := 3) (rest := []) C0 (mJ3_checkIndex l X s0 i n .null (Or.inl rfl) h0 h1) gJ0_checkIndex_df160_J3_checkIndex_8e157 rfl ⟨rfl, rfl⟩ (by decide +kernel) ⟨by decide, by decide⟩ hP hS rfl hl.1 rfl (Nat.le_of_ble_eq_true rfl) dJ0_checkIndex_df160_5 ⟨Nat.zero_le _, Nat.zero_le _⟩) hS (fun H locs hP hS => ?_)
    refine lv_pop hx hb dJ0_checkIndex_df160_8 rfl ?_
    exact gm_retv C0 hP hS dJ0_checkIndex_df160_9
  · refine va_gets hx hb hz hS hown (hts (.fieldLink RJ0 1053 "jdk/internal/util/Preconditions" "SIOOBE_FORMATTER" "Ljava/util/function/BiFunction;") (by decide +kernel)) (fun _ h9 => h9) dJ0_checkIndex_df160_2 ?_
    refine gv_ri (gv_runS (n := 3) (rest := []) C0 (mJ3_checkIndex l X s0 i n (.ref t) (Or.inr ⟨t, rfl⟩) h0 h1) gJ0_checkIndex_df160_J3_checkIndex_8e157 rfl ⟨rfl, rfl⟩ (by decide +kernel) ⟨by decide, by decide⟩ hP hS rfl hl.1 rfl (Nat.le_of_ble_eq_true rfl) dJ0_checkIndex_df160_5 ⟨Nat.zero_le _, Nat.zero_le _⟩) hS (fun H locs hP hS => ?_)
    refine lv_pop hx hb dJ0_checkIndex_df160_8 rfl ?_
    exact gm_retv C0 hP hS dJ0_checkIndex_df160_9
set_option maxHeartbeats 4000000 in
set_option maxRecDepth 100000 in
theorem mJ1_charAt (l : Launch) (X : gw_X) (s0 : gs_S) (k : Int32) (hk : vp_in k 5) : Met l yJ1_charAt_3b067 wsJ1_charAt_3b067 { frames := 2, cells := 0, slots := 0, locals := 60 } (gm_Pc X s0 [.ref (X.1 85), .int k]) (gm_Qi X s0 (gs_txt.getD k.toNatClampNeg 0)) 0 0 (gw_A X) := by
  have hj : k.toNatClampNeg < 5 := Nat.not_le.mp fun q => hk (Or.inr q)
  have h0 : ¬ k < 0 := fun q => hk (Or.inl q)
  have h1 : k < 5 := by
    obtain ⟨j, hj2, e9⟩ := vp_in_of hk (by decide)
    rw [e9]
    exact (show ∀ j, j < 5 → nI j < 5 by decide +kernel) j hj2
  obtain ⟨e1, e2⟩ := gs_ch_ok _ hj
  refine gm_of RJ1 (by decide) rfl rfl (Nat.le_of_ble_eq_true rfl) (fun p e s m below meth c ls C0 hP hl hS => ?_)
  obtain ⟨hx, hb, hml, hown, hts, hr, hlocks, hC⟩ := id C0
  have hl : lv_has ls 2 [(0, .ref (X.1 85)), (1, .int k)] := hl
  have hT := hC.2.2.1.2.2.2.2.2.2.2.1
  refine lv_iload_n hx hb dJ1_charAt_3b067_0 rfl (lv_at hl 1 rfl) ?_
  refine lv_aload_n hx hb dJ1_charAt_3b067_1 rfl (lv_at hl 0 rfl) ?_
  refine va_tlen (v := 5) hx hb hT hS (by decide) dJ1_charAt_3b067_2 ?_
  refine gv_rv (gv_runS (n := 2) (rest := []) C0 (mJ0_checkIndex l X s0 k 5 h0 h1) gJ1_charAt_3b067_J0_checkIndex_df160 rfl ⟨rfl, rfl⟩ (by decide +kernel) ⟨by decide, by decide⟩ hP hS rfl hl.1 rfl (Nat.le_of_ble_eq_true rfl) dJ1_charAt_3b067_3 ⟨Nat.zero_le _, Nat.zero_le _⟩) hS (fun H locs hP hS => ?_)
  refine lv_aload_n hx hb dJ1_charAt_3b067_6 rfl (lv_at hl 0 rfl) ?_
  refine lv_iload_n hx hb dJ1_charAt_3b067_7 rfl (lv_at hl 1 rfl) ?_
  refine va_tb hx hb hT hS hk rfl dJ1_charAt_3b067_8 ?_
  refine lv_sipush (v := 255) hx hb dJ1_charAt_3b067_9 (by decide) ?_
  refine lv_iand hx hb dJ1_charAt_3b067_12 ?_
  refine lv_i2c hx hb dJ1_charAt_3b067_13 e1 ?_
  exact gm_retz e2 C0 hP hS dJ1_charAt_3b067_14
set_option maxHeartbeats 4000000 in
set_option maxRecDepth 100000 in
theorem mJ0_isLatin1 (l : Launch) (X : gw_X) (s0 : gs_S) : Met l yJ0_isLatin1_aae02 wsJ0_isLatin1_aae02 { frames := 0, cells := 0, slots := 0, locals := 0 } (gm_Pc X s0 [.ref (X.1 84)]) (gm_Qi X s0 1) 0 0 (gw_A X) := by
  refine gm_of RJ0 (by decide) rfl rfl (Nat.le_of_ble_eq_true rfl) (fun p e s m below meth c ls C0 hP hl hS => ?_)
  obtain ⟨hx, hb, hml, hown, hts, hr, hlocks, hC⟩ := id C0
  have hl : lv_has ls 1 [(0, .ref (X.1 84))] := hl
  refine va_gets hx hb hC.2.2.1.2.2.1 hS hown (hts (.fieldLink RJ0 38 "java/lang/String" "COMPACT_STRINGS" "Z") (by decide +kernel)) (fun _ h9 => h9) dJ0_isLatin1_aae02_0 ?_
  refine lv_if_eq (tgt := 17) hx hb dJ0_isLatin1_aae02_3 (by decide) (fun hc => absurd hc (by decide)) (fun hc => ?_)
  refine lv_aload_n hx hb dJ0_isLatin1_aae02_6 rfl (lv_at hl 0 rfl) ?_
  refine vk_getf hx hb hC.2.2.1.2.2.2.2.2.1 hS hown (hts (.fieldLink RJ0 15 "java/lang/String" "coder" "B") (by decide +kernel)) (fun _ h9 => h9) dJ0_isLatin1_aae02_7 ?_
  refine lv_if_ne (tgt := 17) hx hb dJ0_isLatin1_aae02_10 (by decide) (fun hc => absurd rfl hc) (fun hc => ?_)
  refine lv_iconst (v := 1) hx hb dJ0_isLatin1_aae02_13 (by decide) ?_
  refine lv_goto (tgt := 18) hx hb dJ0_isLatin1_aae02_14 (by decide) ?_
  exact gm_retz (by decide) C0 hP hS dJ0_isLatin1_aae02_18
set_option maxHeartbeats 4000000 in
set_option maxRecDepth 100000 in
theorem mJ0_charAt (l : Launch) (X : gw_X) (s0 : gs_S) (k : Int32) (hk : vp_in k 5) : Met l yJ0_charAt_5068e wsJ0_charAt_5068e { frames := 3, cells := 0, slots := 0, locals := 81 } (gm_Pc X s0 [.ref (X.1 84), .int k]) (gm_Qi X s0 (gs_txt.getD k.toNatClampNeg 0)) 0 0 (gw_A X) := by
  have hj : k.toNatClampNeg < 5 := Nat.not_le.mp fun q => hk (Or.inr q)
  obtain ⟨e1, e2⟩ := gs_ch_ok _ hj
  refine gm_of RJ0 (by decide) rfl rfl (Nat.le_of_ble_eq_true rfl) (fun p e s m below meth c ls C0 hP hl hS => ?_)
  obtain ⟨hx, hb, hml, hown, hts, hr, hlocks, hC⟩ := id C0
  have hl : lv_has ls 2 [(0, .ref (X.1 84)), (1, .int k)] := hl
  refine lv_aload_n hx hb dJ0_charAt_5068e_0 rfl (lv_at hl 0 rfl) ?_
  refine gv_ri (gv_runT (n := 0) (As := []) (rest := []) C0 (mJ0_isLatin1 l X s0) gJ0_charAt_5068e_J0_isLatin1_aae02 rfl ⟨rfl, rfl⟩ (by decide +kernel) ⟨by decide, by decide⟩ hC.2.2.1.2.2.2.2.1 hP hS rfl hl.1 rfl (Nat.le_of_ble_eq_true rfl) dJ0_charAt_5068e_1 ⟨Nat.zero_le _, Nat.zero_le _⟩) hS (fun H locs hP hS => ?_)
  refine lv_if_eq (tgt := 16) hx hb dJ0_charAt_5068e_4 (by decide) (fun hc => absurd hc (by decide)) (fun hc => ?_)
  refine lv_aload_n hx hb dJ0_charAt_5068e_7 rfl (lv_at hl 0 rfl) ?_
  refine vk_getf hx hb hC.2.2.1.2.2.2.2.2.2.1 hS hown (hts (.fieldLink RJ0 9 "java/lang/String" "value" "[B") (by decide +kernel)) (fun _ h9 => h9) dJ0_charAt_5068e_8 ?_
  refine lv_iload_n hx hb dJ0_charAt_5068e_11 rfl (lv_at hl 1 rfl) ?_
  refine gv_ri (gv_runS (n := 2) (rest := []) C0 (mJ1_charAt l X s0 k hk) gJ0_charAt_5068e_J1_charAt_3b067 rfl ⟨rfl, rfl⟩ (by decide +kernel) ⟨by decide, by decide⟩ hP hS rfl hl.1 rfl (Nat.le_of_ble_eq_true rfl) dJ0_charAt_5068e_12 ⟨Nat.zero_le _, Nat.zero_le _⟩) hS (fun H locs hP hS => ?_)
  exact gm_retz e2 C0 hP hS dJ0_charAt_5068e_15
section GTC
variable {p : Program} {l : Launch} {e : Env} {R : Room} {s : State} {m : MethodId} {args : Array Value} {below : List Frame} {meth : Method} {c : Code} {H : Heap} {locs : List Loc} {cells slots : Nat} {Q : State → Prop}
variable {cc : ByteArray} {pc nL : Nat} {ls : Array Slot} {rest : List Value} {X : gw_X} {σ : gs_S} {own : String} {Ts : List Cond} {ret0 : Option FieldType}
theorem gv_chat {index : Nat} {k r : Int32} (C0 : gm_At p s m args meth c X cc nL own Ts ret0) (hr : gs_chat k = some r) (hG : GoodIn Ts (wsV own index RJ0 yJ0_charAt_5068e wsJ0_charAt_5068e)) (hR : 4 ≤ R.frames ∧ 102 ≤ R.locals) (hP : gw_P X σ H) (hS : va_S (gw_A X) s.heap H locs) (hl : ls.size = nL) (hro : (rest.map fun v => v.category).sum ≤ 8) (hdg : decode cc pc = .ok (.invokevirtual index, 3)) (hf : cells ≤ R.cells ∧ slots ≤ R.slots)
    (kk : ∀ (H1 : Heap) (locs1 : List Loc), gw_P X σ H1 → va_S (gw_A X) s.heap H1 locs1 → W p l e R s m args below meth c H1 locs1 cells slots Q (F0 m (pc + 3) ls (.int r :: rest))) : W p l e R s m args below meth c H locs cells slots Q (F0 m pc ls (.int k :: .ref (X.1 84) :: rest)) := by
  obtain ⟨hk, h⟩ := gv_in_e hr
  obtain rfl := gv_inj h
  have hC : gw_C X s := C0.2.2.2.2.2.2.2
  exact gv_ri (gv_runT (n := 1) (As := [.int k]) (rest := rest) C0 (mJ0_charAt l X σ k hk) hG rfl ⟨rfl, rfl⟩ (by decide +kernel) ⟨hR.1, hR.2⟩ hC.2.2.1.2.2.2.2.1 hP hS rfl hl rfl hro hdg hf) hS kk
end GTC
