def pX11_readSleigh_J132 (a1 : Int32) (s19 : gs_S) : Option (Int32 × gs_S) := gv_in (a1 + (2 : Int32)) 64 (if (s19.1 73 (a1 + (2 : Int32)).toNatClampNeg) < 0 then some ((0 : Int32), s19) else some ((1 : Int32), s19))
def pX11_readSleigh (a1 : Int32) (s0 : gs_S) : Option (Int32 × gs_S) := gv_bind2 (pX11_readNumber (1 : Int32) (99 : Int32) s0) (fun v1 s2 => gv_in a1 64 (gv_let (gs_u s2 73 a1.toNatClampNeg v1) (fun s4 => gv_in a1 64 (if (s4.1 73 a1.toNatClampNeg) < 0 then some ((0 : Int32), s4) else gv_bind2 (pX11_nextByte s4) (fun v6 s7 => if v6 = (112 : Int32) then gv_let (gs_u s7 63 13 ((s7.1 63 13) + (1 : Int32))) (fun s8 => gv_bind2 (pX11_nextByte s8) (fun v9 s10 => gv_in (a1 + (1 : Int32)) 64 (gv_let (gs_u s10 73 (a1 + (1 : Int32)).toNatClampNeg (v9 - (48 : Int32))) (fun s12 => gv_in (a1 + (1 : Int32)) 64 (if (pX11_in ((s12.1 73 (a1 + (1 : Int32)).toNatClampNeg).toInt64) (1 : Int64) (9 : Int64)) = 0 then some ((0 : Int32), s12) else gv_let (gs_u s12 63 13 ((s12.1 63 13) + (1 : Int32))) (fun s14 => gv_in (a1 + (2 : Int32)) 64 (gv_let (gs_u s14 73 (a1 + (2 : Int32)).toNatClampNeg (0 : Int32)) (fun s16 => gv_bind2 (pX11_nextByte s16) (fun v17 s18 => if v17 = (109 : Int32) then gv_let (gs_u s18 63 13 ((s18.1 63 13) + (1 : Int32))) (fun s21 => gv_bind2 (pX11_readNumber (0 : Int32) (99 : Int32) s21) (fun v22 s23 => gv_in (a1 + (2 : Int32)) 64 (gv_let (gs_u s23 73 (a1 + (2 : Int32)).toNatClampNeg v22) (fun s25 => pX11_readSleigh_J132 a1 s25)))) else pX11_readSleigh_J132 a1 s18))))))))) else some ((0 : Int32), s7))))))
def rX11_readSleigh : Room := { frames := 2, cells := 0, slots := 0, locals := 49 }
set_option maxHeartbeats 4000000 in
set_option maxRecDepth 100000 in
theorem tX11_readSleigh {p : Program} {l : Launch} {e : Env} {s : State} {m : MethodId} {args : Array Value} {below : List Frame} {meth : Method} {c : Code} {X : gw_X} {Q : State → Prop} (C0 : gm_At p s m args meth c X cX11_readSleigh 2 RX11 wsX11_readSleigh (some .boolean)) (a1 : Int32) (s0 : gs_S) {z : Int32 × gs_S} (h : pX11_readSleigh a1 s0 = some z) (Kr : ∀ (H : Heap) (locs : List Loc) (ls : Array Slot) (pc : Nat) (r : Int32) (τ : gs_S), z = (r, τ) → narrow .boolean (.int r) = .int r → gw_P X τ H → va_S (gw_A X) s.heap H locs → decode cX11_readSleigh pc = .ok (.ireturn, 1) → W p l e rX11_readSleigh s m args below meth c H locs 0 0 Q (F0 m pc ls [.int r])) {H : Heap} {locs : List Loc} {ls : Array Slot} (hP : gw_P X s0 H) (hS : va_S (gw_A X) s.heap H locs) (hl : lv_has ls 2 [(0, .ref (X.1 63)), (1, .int a1)]) : W p l e rX11_readSleigh s m args below meth c H locs 0 0 Q (F0 m 0 ls []) := by
  obtain ⟨hx, hb, hml, hown, hts, hr, hlocks, hC⟩ := id C0
  unfold pX11_readSleigh at h
  refine lv_aload_n hx hb dX11_readSleigh_0 rfl (lv_at hl 0 rfl) ?_
  refine gv_get (ref := "IceByEarModel") (C := RX11) (T := TX11) (N := 28) (ci := 11) (v := .ref (X.1 73)) C0 (fun _ h9 => List.mem_cons_of_mem _ (List.mem_append_right _ h9)) hP 63 (gw_o11 X s0 gk_63.1) rfl 15 (by decide) (by decide +kernel) rfl rfl dX11_readSleigh_1 ?_
  refine lv_iload_n hx hb dX11_readSleigh_4 rfl (lv_at hl 1 rfl) ?_
  refine lv_aload_n hx hb dX11_readSleigh_5 rfl (lv_at hl 0 rfl) ?_
  refine lv_iconst (v := 1) hx hb dX11_readSleigh_6 (by decide) ?_
  refine lv_bipush (v := 99) hx hb dX11_readSleigh_7 (by decide) ?_
  obtain ⟨v1, s2, hv1, h⟩ := gv_bind2_e h
  refine gv_ri (gv_runV (n := 2) (rest := [.int a1, .ref (X.1 73)]) C0 (mX11_readNumber l X s0 (1 : Int32) (99 : Int32) hv1) gX11_readSleigh_X11_readNumber rfl ⟨rfl, rfl⟩ (by decide +kernel) ⟨by decide, by decide⟩ gk_63.1 (by decide) rfl hP hS rfl hl.1 rfl (Nat.le_of_ble_eq_true rfl) dX11_readSleigh_9 ⟨Nat.zero_le _, Nat.zero_le _⟩) hS (fun H locs hP hS => ?_)
  obtain ⟨hin3, h⟩ := gv_in_e h
  refine gv_iast C0 hP hS 73 gk_73.1 gk_73.2 hin3 dX11_readSleigh_12 (fun s4 H locs es4 hP hS => ?_)
  have h := gv_let_e es4 h
  refine lv_aload_n hx hb dX11_readSleigh_13 rfl (lv_at hl 0 rfl) ?_
  refine gv_get (ref := "IceByEarModel") (C := RX11) (T := TX11) (N := 28) (ci := 11) (v := .ref (X.1 73)) C0 (fun _ h9 => List.mem_cons_of_mem _ (List.mem_append_right _ h9)) hP 63 (gw_o11 X s4 gk_63.1) rfl 15 (by decide) (by decide +kernel) rfl rfl dX11_readSleigh_14 ?_
  refine lv_iload_n hx hb dX11_readSleigh_17 rfl (lv_at hl 1 rfl) ?_
  obtain ⟨hin5, h⟩ := gv_in_e h
  refine gv_iald C0 hP 73 gk_73.1 gk_73.2 hin5 dX11_readSleigh_18 ?_
  refine lv_if_lt (tgt := 31) hx hb dX11_readSleigh_19 (by decide) (fun hc => ?_) (fun hc => ?_)
  · have h := gv_pos hc h
    refine lv_iconst (v := 0) hx hb dX11_readSleigh_31 (by decide) ?_
    exact Kr _ _ _ _ _ _ (gv_inj h) (show narrow .boolean (.int (0 : Int32)) = .int (0 : Int32) by decide) hP hS dX11_readSleigh_32
  · have h := gv_neg hc h
    refine lv_aload_n hx hb dX11_readSleigh_22 rfl (lv_at hl 0 rfl) ?_
    obtain ⟨v6, s7, hv6, h⟩ := gv_bind2_e h
    refine gv_ri (gv_runV (n := 0) (rest := []) C0 (mX11_nextByte l X s4  hv6) gX11_readSleigh_X11_nextByte rfl ⟨rfl, rfl⟩ (by decide +kernel) ⟨by decide, by decide⟩ gk_63.1 (by decide) rfl hP hS rfl hl.1 rfl (Nat.le_of_ble_eq_true rfl) dX11_readSleigh_23 ⟨Nat.zero_le _, Nat.zero_le _⟩) hS (fun H locs hP hS => ?_)
    refine lv_bipush (v := 112) hx hb dX11_readSleigh_26 (by decide) ?_
    refine lv_icmp_eq (tgt := 33) hx hb dX11_readSleigh_28 (by decide) (fun hc => ?_) (fun hc => ?_)
    · have h := gv_pos hc h
      refine lv_aload_n hx hb dX11_readSleigh_33 rfl (lv_at hl 0 rfl) ?_
      refine lv_dup hx hb dX11_readSleigh_34 rfl ?_
      refine gv_get (ref := "IceByEarModel") (C := RX11) (T := TX11) (N := 28) (ci := 11) (v := .int (s7.1 63 13)) C0 (fun _ h9 => List.mem_cons_of_mem _ (List.mem_append_right _ h9)) hP 63 (gw_o11 X s7 gk_63.1) rfl 13 (by decide) (by decide +kernel) rfl rfl dX11_readSleigh_35 ?_
      refine lv_iconst (v := 1) hx hb dX11_readSleigh_38 (by decide) ?_
      refine lv_iadd hx hb dX11_readSleigh_39 ?_
      refine gv_put (ref := "IceByEarModel") (C := RX11) (T := TX11) (N := 28) (ci := 11) (v := .int ((s7.1 63 13) + (1 : Int32))) C0 (fun _ h9 => List.mem_cons_of_mem _ (List.mem_append_right _ h9)) tyX11 tyX11_ok nmX11 hP hS 63 (gw_o11 X s7 gk_63.1) rfl 13 (by decide) (by decide +kernel) rfl rfl (tyX11_ok 13 (by decide)) rfl rfl (Nat.le_of_ble_eq_true rfl) (gw_s11_13 gk_63.1 ((s7.1 63 13) + (1 : Int32))) dX11_readSleigh_40 (fun s8 H locs es8 hP hS => ?_)
      have h := gv_let_e es8 h
      refine lv_aload_n hx hb dX11_readSleigh_43 rfl (lv_at hl 0 rfl) ?_
      refine gv_get (ref := "IceByEarModel") (C := RX11) (T := TX11) (N := 28) (ci := 11) (v := .ref (X.1 73)) C0 (fun _ h9 => List.mem_cons_of_mem _ (List.mem_append_right _ h9)) hP 63 (gw_o11 X s8 gk_63.1) rfl 15 (by decide) (by decide +kernel) rfl rfl dX11_readSleigh_44 ?_
      refine lv_iload_n hx hb dX11_readSleigh_47 rfl (lv_at hl 1 rfl) ?_
      refine lv_iconst (v := 1) hx hb dX11_readSleigh_48 (by decide) ?_
      refine lv_iadd hx hb dX11_readSleigh_49 ?_
      refine lv_aload_n hx hb dX11_readSleigh_50 rfl (lv_at hl 0 rfl) ?_
      obtain ⟨v9, s10, hv9, h⟩ := gv_bind2_e h
      refine gv_ri (gv_runV (n := 0) (rest := [.int (a1 + (1 : Int32)), .ref (X.1 73)]) C0 (mX11_nextByte l X s8  hv9) gX11_readSleigh_X11_nextByte rfl ⟨rfl, rfl⟩ (by decide +kernel) ⟨by decide, by decide⟩ gk_63.1 (by decide) rfl hP hS rfl hl.1 rfl (Nat.le_of_ble_eq_true rfl) dX11_readSleigh_51 ⟨Nat.zero_le _, Nat.zero_le _⟩) hS (fun H locs hP hS => ?_)
      refine lv_bipush (v := 48) hx hb dX11_readSleigh_54 (by decide) ?_
      refine lv_isub hx hb dX11_readSleigh_56 ?_
      obtain ⟨hin11, h⟩ := gv_in_e h
      refine gv_iast C0 hP hS 73 gk_73.1 gk_73.2 hin11 dX11_readSleigh_57 (fun s12 H locs es12 hP hS => ?_)
      have h := gv_let_e es12 h
      refine lv_aload_n hx hb dX11_readSleigh_58 rfl (lv_at hl 0 rfl) ?_
      refine gv_get (ref := "IceByEarModel") (C := RX11) (T := TX11) (N := 28) (ci := 11) (v := .ref (X.1 73)) C0 (fun _ h9 => List.mem_cons_of_mem _ (List.mem_append_right _ h9)) hP 63 (gw_o11 X s12 gk_63.1) rfl 15 (by decide) (by decide +kernel) rfl rfl dX11_readSleigh_59 ?_
      refine lv_iload_n hx hb dX11_readSleigh_62 rfl (lv_at hl 1 rfl) ?_
      refine lv_iconst (v := 1) hx hb dX11_readSleigh_63 (by decide) ?_
      refine lv_iadd hx hb dX11_readSleigh_64 ?_
      obtain ⟨hin13, h⟩ := gv_in_e h
      refine gv_iald C0 hP 73 gk_73.1 gk_73.2 hin13 dX11_readSleigh_65 ?_
      refine lv_i2l hx hb dX11_readSleigh_66 rfl ?_
      refine lv_lconst (v := 1) hx hb dX11_readSleigh_67 (by decide) ?_
      refine lv_ldc2 (v := 9) hx hb hown (hts (.constantLong RX11 102 (9)) (by decide +kernel)) dX11_readSleigh_68 ?_
      refine gv_ri (gv_runS (n := 3) (rest := []) C0 (mX11_in l X s12 ((s12.1 73 (a1 + (1 : Int32)).toNatClampNeg).toInt64) (1 : Int64) (9 : Int64)) gX11_readSleigh_X11_in rfl ⟨rfl, rfl⟩ (by decide +kernel) ⟨by decide, by decide⟩ hP hS rfl hl.1 rfl (Nat.le_of_ble_eq_true rfl) dX11_readSleigh_71 ⟨Nat.zero_le _, Nat.zero_le _⟩) hS (fun H locs hP hS => ?_)
      refine lv_if_ne (tgt := 79) hx hb dX11_readSleigh_74 (by decide) (fun hc => ?_) (fun hc => ?_)
      · have h := gv_neg hc h
        refine lv_aload_n hx hb dX11_readSleigh_79 rfl (lv_at hl 0 rfl) ?_
        refine lv_dup hx hb dX11_readSleigh_80 rfl ?_
        refine gv_get (ref := "IceByEarModel") (C := RX11) (T := TX11) (N := 28) (ci := 11) (v := .int (s12.1 63 13)) C0 (fun _ h9 => List.mem_cons_of_mem _ (List.mem_append_right _ h9)) hP 63 (gw_o11 X s12 gk_63.1) rfl 13 (by decide) (by decide +kernel) rfl rfl dX11_readSleigh_81 ?_
        refine lv_iconst (v := 1) hx hb dX11_readSleigh_84 (by decide) ?_
        refine lv_iadd hx hb dX11_readSleigh_85 ?_
        refine gv_put (ref := "IceByEarModel") (C := RX11) (T := TX11) (N := 28) (ci := 11) (v := .int ((s12.1 63 13) + (1 : Int32))) C0 (fun _ h9 => List.mem_cons_of_mem _ (List.mem_append_right _ h9)) tyX11 tyX11_ok nmX11 hP hS 63 (gw_o11 X s12 gk_63.1) rfl 13 (by decide) (by decide +kernel) rfl rfl (tyX11_ok 13 (by decide)) rfl rfl (Nat.le_of_ble_eq_true rfl) (gw_s11_13 gk_63.1 ((s12.1 63 13) + (1 : Int32))) dX11_readSleigh_86 (fun s14 H locs es14 hP hS => ?_)
        have h := gv_let_e es14 h
        refine lv_aload_n hx hb dX11_readSleigh_89 rfl (lv_at hl 0 rfl) ?_
        refine gv_get (ref := "IceByEarModel") (C := RX11) (T := TX11) (N := 28) (ci := 11) (v := .ref (X.1 73)) C0 (fun _ h9 => List.mem_cons_of_mem _ (List.mem_append_right _ h9)) hP 63 (gw_o11 X s14 gk_63.1) rfl 15 (by decide) (by decide +kernel) rfl rfl dX11_readSleigh_90 ?_
        refine lv_iload_n hx hb dX11_readSleigh_93 rfl (lv_at hl 1 rfl) ?_
        refine lv_iconst (v := 2) hx hb dX11_readSleigh_94 (by decide) ?_
        refine lv_iadd hx hb dX11_readSleigh_95 ?_
        refine lv_iconst (v := 0) hx hb dX11_readSleigh_96 (by decide) ?_
        obtain ⟨hin15, h⟩ := gv_in_e h
        refine gv_iast C0 hP hS 73 gk_73.1 gk_73.2 hin15 dX11_readSleigh_97 (fun s16 H locs es16 hP hS => ?_)
        have h := gv_let_e es16 h
        refine lv_aload_n hx hb dX11_readSleigh_98 rfl (lv_at hl 0 rfl) ?_
        obtain ⟨v17, s18, hv17, h⟩ := gv_bind2_e h
        refine gv_ri (gv_runV (n := 0) (rest := []) C0 (mX11_nextByte l X s16  hv17) gX11_readSleigh_X11_nextByte rfl ⟨rfl, rfl⟩ (by decide +kernel) ⟨by decide, by decide⟩ gk_63.1 (by decide) rfl hP hS rfl hl.1 rfl (Nat.le_of_ble_eq_true rfl) dX11_readSleigh_99 ⟨Nat.zero_le _, Nat.zero_le _⟩) hS (fun H locs hP hS => ?_)
        refine lv_bipush (v := 109) hx hb dX11_readSleigh_102 (by decide) ?_
        have J132 : ∀ (s19 : gs_S) (H : Heap) (locs : List Loc) (ls : Array Slot), pX11_readSleigh_J132 a1 s19 = some z → gw_P X s19 H → va_S (gw_A X) s.heap H locs → lv_has ls 2 [(0, .ref (X.1 63)), (1, .int a1)] → W p l e rX11_readSleigh s m args below meth c H locs 0 0 Q (F0 m 132 ls []) := by
          intro s19 H locs ls h hP hS hl
          unfold pX11_readSleigh_J132 at h
          refine lv_aload_n hx hb dX11_readSleigh_132 rfl (lv_at hl 0 rfl) ?_
          refine gv_get (ref := "IceByEarModel") (C := RX11) (T := TX11) (N := 28) (ci := 11) (v := .ref (X.1 73)) C0 (fun _ h9 => List.mem_cons_of_mem _ (List.mem_append_right _ h9)) hP 63 (gw_o11 X s19 gk_63.1) rfl 15 (by decide) (by decide +kernel) rfl rfl dX11_readSleigh_133 ?_
          refine lv_iload_n hx hb dX11_readSleigh_136 rfl (lv_at hl 1 rfl) ?_
          refine lv_iconst (v := 2) hx hb dX11_readSleigh_137 (by decide) ?_
          refine lv_iadd hx hb dX11_readSleigh_138 ?_
          obtain ⟨hin20, h⟩ := gv_in_e h
          refine gv_iald C0 hP 73 gk_73.1 gk_73.2 hin20 dX11_readSleigh_139 ?_
          refine lv_if_lt (tgt := 147) hx hb dX11_readSleigh_140 (by decide) (fun hc => ?_) (fun hc => ?_)
          · have h := gv_pos hc h
            refine lv_iconst (v := 0) hx hb dX11_readSleigh_147 (by decide) ?_
            exact Kr _ _ _ _ _ _ (gv_inj h) (show narrow .boolean (.int (0 : Int32)) = .int (0 : Int32) by decide) hP hS dX11_readSleigh_148
          · have h := gv_neg hc h
            refine lv_iconst (v := 1) hx hb dX11_readSleigh_143 (by decide) ?_
            refine lv_goto (tgt := 148) hx hb dX11_readSleigh_144 (by decide) ?_
            exact Kr _ _ _ _ _ _ (gv_inj h) (show narrow .boolean (.int (1 : Int32)) = .int (1 : Int32) by decide) hP hS dX11_readSleigh_148
        refine lv_icmp_ne (tgt := 132) hx hb dX11_readSleigh_104 (by decide) (fun hc => ?_) (fun hc => ?_)
        · have h := gv_neg hc h
          exact J132 s18 _ _ _ h hP hS (lv_sub hl [0, 1] rfl)
        · have h := gv_pos hc h
          refine lv_aload_n hx hb dX11_readSleigh_107 rfl (lv_at hl 0 rfl) ?_
          refine lv_dup hx hb dX11_readSleigh_108 rfl ?_
          refine gv_get (ref := "IceByEarModel") (C := RX11) (T := TX11) (N := 28) (ci := 11) (v := .int (s18.1 63 13)) C0 (fun _ h9 => List.mem_cons_of_mem _ (List.mem_append_right _ h9)) hP 63 (gw_o11 X s18 gk_63.1) rfl 13 (by decide) (by decide +kernel) rfl rfl dX11_readSleigh_109 ?_
          refine lv_iconst (v := 1) hx hb dX11_readSleigh_112 (by decide) ?_
          refine lv_iadd hx hb dX11_readSleigh_113 ?_
          refine gv_put (ref := "IceByEarModel") (C := RX11) (T := TX11) (N := 28) (ci := 11) (v := .int ((s18.1 63 13) + (1 : Int32))) C0 (fun _ h9 => List.mem_cons_of_mem _ (List.mem_append_right _ h9)) tyX11 tyX11_ok nmX11 hP hS 63 (gw_o11 X s18 gk_63.1) rfl 13 (by decide) (by decide +kernel) rfl rfl (tyX11_ok 13 (by decide)) rfl rfl (Nat.le_of_ble_eq_true rfl) (gw_s11_13 gk_63.1 ((s18.1 63 13) + (1 : Int32))) dX11_readSleigh_114 (fun s21 H locs es21 hP hS => ?_)
          have h := gv_let_e es21 h
          refine lv_aload_n hx hb dX11_readSleigh_117 rfl (lv_at hl 0 rfl) ?_
          refine gv_get (ref := "IceByEarModel") (C := RX11) (T := TX11) (N := 28) (ci := 11) (v := .ref (X.1 73)) C0 (fun _ h9 => List.mem_cons_of_mem _ (List.mem_append_right _ h9)) hP 63 (gw_o11 X s21 gk_63.1) rfl 15 (by decide) (by decide +kernel) rfl rfl dX11_readSleigh_118 ?_
          refine lv_iload_n hx hb dX11_readSleigh_121 rfl (lv_at hl 1 rfl) ?_
          refine lv_iconst (v := 2) hx hb dX11_readSleigh_122 (by decide) ?_
          refine lv_iadd hx hb dX11_readSleigh_123 ?_
          refine lv_aload_n hx hb dX11_readSleigh_124 rfl (lv_at hl 0 rfl) ?_
          refine lv_iconst (v := 0) hx hb dX11_readSleigh_125 (by decide) ?_
          refine lv_bipush (v := 99) hx hb dX11_readSleigh_126 (by decide) ?_
          obtain ⟨v22, s23, hv22, h⟩ := gv_bind2_e h
          refine gv_ri (gv_runV (n := 2) (rest := [.int (a1 + (2 : Int32)), .ref (X.1 73)]) C0 (mX11_readNumber l X s21 (0 : Int32) (99 : Int32) hv22) gX11_readSleigh_X11_readNumber rfl ⟨rfl, rfl⟩ (by decide +kernel) ⟨by decide, by decide⟩ gk_63.1 (by decide) rfl hP hS rfl hl.1 rfl (Nat.le_of_ble_eq_true rfl) dX11_readSleigh_128 ⟨Nat.zero_le _, Nat.zero_le _⟩) hS (fun H locs hP hS => ?_)
          obtain ⟨hin24, h⟩ := gv_in_e h
          refine gv_iast C0 hP hS 73 gk_73.1 gk_73.2 hin24 dX11_readSleigh_131 (fun s25 H locs es25 hP hS => ?_)
          have h := gv_let_e es25 h
          exact J132 s25 _ _ _ h hP hS (lv_sub hl [0, 1] rfl)
      · have h := gv_pos hc h
        refine lv_iconst (v := 0) hx hb dX11_readSleigh_77 (by decide) ?_
        exact Kr _ _ _ _ _ _ (gv_inj h) (show narrow .boolean (.int (0 : Int32)) = .int (0 : Int32) by decide) hP hS dX11_readSleigh_78
    · have h := gv_neg hc h
      refine lv_iconst (v := 0) hx hb dX11_readSleigh_31 (by decide) ?_
      exact Kr _ _ _ _ _ _ (gv_inj h) (show narrow .boolean (.int (0 : Int32)) = .int (0 : Int32) by decide) hP hS dX11_readSleigh_32
theorem mX11_readSleigh (l : Launch) (X : gw_X) (s0 : gs_S) (a1 : Int32) {r : Int32} {τ : gs_S} (h : pX11_readSleigh a1 s0 = some (r, τ)) : Met l yX11_readSleigh wsX11_readSleigh rX11_readSleigh (gm_Pc X s0 [.ref (X.1 63), .int a1]) (gm_Qi X τ r) 0 0 (gw_A X) :=
  gm_of RX11 (by decide) rfl rfl (Nat.le_of_ble_eq_true rfl) (fun p e s m below meth c ls C0 hP hl hS => tX11_readSleigh C0 a1 s0 h (fun H locs ls pc r τ hr hn hP hS hd => by cases hr; exact gm_retz hn C0 hP hS hd) hP hS hl)
def pX11_readSleighs_L7  (v2 : Int32) (s3 : gs_S) : Option ((Int32 × gs_S) ⊕ ((Int32 × gs_S) ⊕ (Int32 × gs_S))) := if (6 : Int32) ≤ v2 then some (.inr (.inl (v2, s3))) else gv_bind2 (pX11_readSleigh ((3 : Int32) * v2) s3) (fun v4 s5 => if v4 = 0 then some (.inr (.inr ((0 : Int32), s5))) else gv_let (gs_u s5 63 14 (v2 + (1 : Int32))) (fun s6 => gv_bind2 (pX11_nextByte s6) (fun v7 s8 => if 0 ≤ v7 then if v7 = (44 : Int32) then if v2 = (5 : Int32) then some (.inr (.inr ((0 : Int32), s8))) else gv_let (gs_u s8 63 13 ((s8.1 63 13) + (1 : Int32))) (fun s9 => gv_let (v2 + (1 : Int32)) (fun v10 => some (.inl (v10, s9)))) else some (.inr (.inr ((0 : Int32), s8))) else some (.inr (.inr ((1 : Int32), s8))))))
def pX11_readSleighs  (s0 : gs_S) : Option (Int32 × gs_S) := gv_let (gs_u s0 63 13 (0 : Int32)) (fun s1 => gv_bret (gv_loop (fun q => pX11_readSleighs_L7 q.1 q.2) gv_N ((0 : Int32), s1)) (fun r => r) (fun q => gv_let q.1 (fun v11 => gv_let q.2 (fun s12 => some ((0 : Int32), s12)))))
def rX11_readSleighs : Room := { frames := 3, cells := 0, slots := 0, locals := 70 }
set_option maxHeartbeats 4000000 in
set_option maxRecDepth 100000 in
theorem tX11_readSleighs {p : Program} {l : Launch} {e : Env} {s : State} {m : MethodId} {args : Array Value} {below : List Frame} {meth : Method} {c : Code} {X : gw_X} {Q : State → Prop} (C0 : gm_At p s m args meth c X cX11_readSleighs 3 RX11 wsX11_readSleighs (some .boolean))  (s0 : gs_S) {z : Int32 × gs_S} (h : pX11_readSleighs s0 = some z) (Kr : ∀ (H : Heap) (locs : List Loc) (ls : Array Slot) (pc : Nat) (r : Int32) (τ : gs_S), z = (r, τ) → narrow .boolean (.int r) = .int r → gw_P X τ H → va_S (gw_A X) s.heap H locs → decode cX11_readSleighs pc = .ok (.ireturn, 1) → W p l e rX11_readSleighs s m args below meth c H locs 0 0 Q (F0 m pc ls [.int r])) {H : Heap} {locs : List Loc} {ls : Array Slot} (hP : gw_P X s0 H) (hS : va_S (gw_A X) s.heap H locs) (hl : lv_has ls 3 [(0, .ref (X.1 63))]) : W p l e rX11_readSleighs s m args below meth c H locs 0 0 Q (F0 m 0 ls []) := by
  obtain ⟨hx, hb, hml, hown, hts, hr, hlocks, hC⟩ := id C0
  unfold pX11_readSleighs at h
  refine lv_aload_n hx hb dX11_readSleighs_0 rfl (lv_at hl 0 rfl) ?_
  refine lv_iconst (v := 0) hx hb dX11_readSleighs_1 (by decide) ?_
  refine gv_put (ref := "IceByEarModel") (C := RX11) (T := TX11) (N := 28) (ci := 11) (v := .int (0 : Int32)) C0 (fun _ h9 => List.mem_cons_of_mem _ (List.mem_append_right _ h9)) tyX11 tyX11_ok nmX11 hP hS 63 (gw_o11 X s0 gk_63.1) rfl 13 (by decide) (by decide +kernel) rfl rfl (tyX11_ok 13 (by decide)) rfl rfl (Nat.le_of_ble_eq_true rfl) (gw_s11_13 gk_63.1 (0 : Int32)) dX11_readSleighs_2 (fun s1 H locs es1 hP hS => ?_)
  have h := gv_let_e es1 h
  refine lv_iconst (v := 0) hx hb dX11_readSleighs_5 (by decide) ?_
  refine lv_istore_n (lv' := [(1, .int (0 : Int32)), (0, .ref (X.1 63))]) hx hb dX11_readSleighs_6 rfl hl (by decide) rfl (fun ls hl => ?_)
  obtain ⟨q12, hq12, h1q12, h2q12⟩ := gv_bret_e h
  refine gv_loop_ind (Φ := fun q => ∀ (H : Heap) (locs : List Loc) (ls : Array Slot), gw_P X q.2 H → va_S (gw_A X) s.heap H locs → lv_has ls 3 [(0, .ref (X.1 63)), (1, .int q.1)] → W p l e rX11_readSleighs s m args below meth c H locs 0 0 Q (F0 m 7 ls [])) (Ψ := fun ex => (∀ q : Int32 × gs_S, ex = .inl q → ∀ (H : Heap) (locs : List Loc) (ls : Array Slot), gw_P X q.2 H → va_S (gw_A X) s.heap H locs → lv_has ls 3 [] → W p l e rX11_readSleighs s m args below meth c H locs 0 0 Q (F0 m 72 ls [])) ∧ (∀ r : Int32 × gs_S, ex = .inr r → ∀ (H : Heap) (locs : List Loc) (ls : Array Slot) (pc : Nat), narrow .boolean (.int r.1) = .int r.1 → gw_P X r.2 H → va_S (gw_A X) s.heap H locs → decode cX11_readSleighs pc = .ok (.ireturn, 1) → W p l e rX11_readSleighs s m args below meth c H locs 0 0 Q (F0 m pc ls [.int r.1]))) ?_ gv_N ((0 : Int32), s1) q12 hq12 ⟨?_, ?_⟩ H locs ls hP hS (lv_sub hl [1, 0] rfl)
  · intro q x h Kc Ke H locs ls hP hS hl
    obtain ⟨v2, s3⟩ := q
    have h : pX11_readSleighs_L7 v2 s3 = some x := h
    have hP : gw_P X s3 H := hP
    have hl : lv_has ls 3 [(0, .ref (X.1 63)), (1, .int v2)] := hl
    unfold pX11_readSleighs_L7 at h
    refine lv_iload_n hx hb dX11_readSleighs_7 rfl (lv_at hl 1 rfl) ?_
    refine lv_bipush (v := 6) hx hb dX11_readSleighs_8 (by decide) ?_
    refine lv_icmp_ge (tgt := 72) hx hb dX11_readSleighs_10 (by decide) (fun hc => ?_) (fun hc => ?_)
    · have h := gv_pos hc h
      exact (Ke _ (gv_inj h)).1 _ rfl _ _ _ hP hS (lv_sub hl [] rfl)
    · have h := gv_neg hc h
      refine lv_aload_n hx hb dX11_readSleighs_13 rfl (lv_at hl 0 rfl) ?_
      refine lv_iconst (v := 3) hx hb dX11_readSleighs_14 (by decide) ?_
      refine lv_iload_n hx hb dX11_readSleighs_15 rfl (lv_at hl 1 rfl) ?_
      refine lv_imul hx hb dX11_readSleighs_16 ?_
      obtain ⟨v4, s5, hv4, h⟩ := gv_bind2_e h
      refine gv_ri (gv_runV (n := 1) (rest := []) C0 (mX11_readSleigh l X s3 ((3 : Int32) * v2) hv4) gX11_readSleighs_X11_readSleigh rfl ⟨rfl, rfl⟩ (by decide +kernel) ⟨by decide, by decide⟩ gk_63.1 (by decide) rfl hP hS rfl hl.1 rfl (Nat.le_of_ble_eq_true rfl) dX11_readSleighs_17 ⟨Nat.zero_le _, Nat.zero_le _⟩) hS (fun H locs hP hS => ?_)
      refine lv_if_ne (tgt := 25) hx hb dX11_readSleighs_20 (by decide) (fun hc => ?_) (fun hc => ?_)
      · have h := gv_neg hc h
        refine lv_aload_n hx hb dX11_readSleighs_25 rfl (lv_at hl 0 rfl) ?_
        refine lv_iload_n hx hb dX11_readSleighs_26 rfl (lv_at hl 1 rfl) ?_
        refine lv_iconst (v := 1) hx hb dX11_readSleighs_27 (by decide) ?_
        refine lv_iadd hx hb dX11_readSleighs_28 ?_
        refine gv_put (ref := "IceByEarModel") (C := RX11) (T := TX11) (N := 28) (ci := 11) (v := .int (v2 + (1 : Int32))) C0 (fun _ h9 => List.mem_cons_of_mem _ (List.mem_append_right _ h9)) tyX11 tyX11_ok nmX11 hP hS 63 (gw_o11 X s5 gk_63.1) rfl 14 (by decide) (by decide +kernel) rfl rfl (tyX11_ok 14 (by decide)) rfl rfl (Nat.le_of_ble_eq_true rfl) (gw_s11_14 gk_63.1 (v2 + (1 : Int32))) dX11_readSleighs_29 (fun s6 H locs es6 hP hS => ?_)
        have h := gv_let_e es6 h
        refine lv_aload_n hx hb dX11_readSleighs_32 rfl (lv_at hl 0 rfl) ?_
        obtain ⟨v7, s8, hv7, h⟩ := gv_bind2_e h
        refine gv_ri (gv_runV (n := 0) (rest := []) C0 (mX11_nextByte l X s6  hv7) gX11_readSleighs_X11_nextByte rfl ⟨rfl, rfl⟩ (by decide +kernel) ⟨by decide, by decide⟩ gk_63.1 (by decide) rfl hP hS rfl hl.1 rfl (Nat.le_of_ble_eq_true rfl) dX11_readSleighs_33 ⟨Nat.zero_le _, Nat.zero_le _⟩) hS (fun H locs hP hS => ?_)
        refine lv_istore_n (lv' := [(2, .int v7), (0, .ref (X.1 63)), (1, .int v2)]) hx hb dX11_readSleighs_36 rfl hl (by decide) rfl (fun ls hl => ?_)
        refine lv_iload_n hx hb dX11_readSleighs_37 rfl (lv_at hl 0 rfl) ?_
        refine lv_if_ge (tgt := 43) hx hb dX11_readSleighs_38 (by decide) (fun hc => ?_) (fun hc => ?_)
        · have h := gv_pos hc h
          refine lv_iload_n hx hb dX11_readSleighs_43 rfl (lv_at hl 0 rfl) ?_
          refine lv_bipush (v := 44) hx hb dX11_readSleighs_44 (by decide) ?_
          refine lv_icmp_ne (tgt := 54) hx hb dX11_readSleighs_46 (by decide) (fun hc => ?_) (fun hc => ?_)
          · have h := gv_neg hc h
            refine lv_iconst (v := 0) hx hb dX11_readSleighs_54 (by decide) ?_
            exact (Ke _ (gv_inj h)).2 _ rfl _ _ _ _ (show narrow .boolean (.int (0 : Int32)) = .int (0 : Int32) by decide) hP hS dX11_readSleighs_55
          · have h := gv_pos hc h
            refine lv_iload_n hx hb dX11_readSleighs_49 rfl (lv_at hl 2 rfl) ?_
            refine lv_iconst (v := 5) hx hb dX11_readSleighs_50 (by decide) ?_
            refine lv_icmp_ne (tgt := 56) hx hb dX11_readSleighs_51 (by decide) (fun hc => ?_) (fun hc => ?_)
            · have h := gv_neg hc h
              refine lv_aload_n hx hb dX11_readSleighs_56 rfl (lv_at hl 1 rfl) ?_
              refine lv_dup hx hb dX11_readSleighs_57 rfl ?_
              refine gv_get (ref := "IceByEarModel") (C := RX11) (T := TX11) (N := 28) (ci := 11) (v := .int (s8.1 63 13)) C0 (fun _ h9 => List.mem_cons_of_mem _ (List.mem_append_right _ h9)) hP 63 (gw_o11 X s8 gk_63.1) rfl 13 (by decide) (by decide +kernel) rfl rfl dX11_readSleighs_58 ?_
              refine lv_iconst (v := 1) hx hb dX11_readSleighs_61 (by decide) ?_
              refine lv_iadd hx hb dX11_readSleighs_62 ?_
              refine gv_put (ref := "IceByEarModel") (C := RX11) (T := TX11) (N := 28) (ci := 11) (v := .int ((s8.1 63 13) + (1 : Int32))) C0 (fun _ h9 => List.mem_cons_of_mem _ (List.mem_append_right _ h9)) tyX11 tyX11_ok nmX11 hP hS 63 (gw_o11 X s8 gk_63.1) rfl 13 (by decide) (by decide +kernel) rfl rfl (tyX11_ok 13 (by decide)) rfl rfl (Nat.le_of_ble_eq_true rfl) (gw_s11_13 gk_63.1 ((s8.1 63 13) + (1 : Int32))) dX11_readSleighs_63 (fun s9 H locs es9 hP hS => ?_)
              have h := gv_let_e es9 h
              obtain ⟨v10, ev10⟩ : ∃ y : Int32, y = (v2 + (1 : Int32)) := ⟨_, rfl⟩
              have h := gv_let_e ev10 h
              refine lv_iinc (v := v10) (lv' := [(1, .int v10), (2, .int v7), (0, .ref (X.1 63))]) hx hb dX11_readSleighs_66 hl (k := 2) rfl (by rw [ev10]; rfl) (by decide) rfl (fun ls hl => ?_)
              refine lv_goto (tgt := 7) hx hb dX11_readSleighs_69 (by decide) ?_
              exact Kc _ (gv_inj h) _ _ _ hP hS (lv_sub hl [2, 0] rfl)
            · have h := gv_pos hc h
              refine lv_iconst (v := 0) hx hb dX11_readSleighs_54 (by decide) ?_
              exact (Ke _ (gv_inj h)).2 _ rfl _ _ _ _ (show narrow .boolean (.int (0 : Int32)) = .int (0 : Int32) by decide) hP hS dX11_readSleighs_55
        · have h := gv_neg hc h
          refine lv_iconst (v := 1) hx hb dX11_readSleighs_41 (by decide) ?_
          exact (Ke _ (gv_inj h)).2 _ rfl _ _ _ _ (show narrow .boolean (.int (1 : Int32)) = .int (1 : Int32) by decide) hP hS dX11_readSleighs_42
      · have h := gv_pos hc h
        refine lv_iconst (v := 0) hx hb dX11_readSleighs_23 (by decide) ?_
        exact (Ke _ (gv_inj h)).2 _ rfl _ _ _ _ (show narrow .boolean (.int (0 : Int32)) = .int (0 : Int32) by decide) hP hS dX11_readSleighs_24
  · intro q hex H locs ls hP hS hl
    have h := h1q12 q hex
    obtain ⟨v11, s12⟩ := q
    have h := gv_let_e (x := v11) rfl h
    have h := gv_let_e (x := s12) rfl h
    have hP : gw_P X s12 H := hP
    have hl : lv_has ls 3 [] := hl
    refine lv_iconst (v := 0) hx hb dX11_readSleighs_72 (by decide) ?_
    exact Kr _ _ _ _ _ _ (gv_inj h) (show narrow .boolean (.int (0 : Int32)) = .int (0 : Int32) by decide) hP hS dX11_readSleighs_73
  · intro r hex H locs ls pc hn hP hS hd
    exact Kr _ _ _ _ _ _ (h2q12 r hex).symm hn hP hS hd
theorem mX11_readSleighs (l : Launch) (X : gw_X) (s0 : gs_S)  {r : Int32} {τ : gs_S} (h : pX11_readSleighs s0 = some (r, τ)) : Met l yX11_readSleighs wsX11_readSleighs rX11_readSleighs (gm_Pc X s0 [.ref (X.1 63)]) (gm_Qi X τ r) 0 0 (gw_A X) :=
  gm_of RX11 (by decide) rfl rfl (Nat.le_of_ble_eq_true rfl) (fun p e s m below meth c ls C0 hP hl hS => tX11_readSleighs C0  s0 h (fun H locs ls pc r τ hr hn hP hS hd => by cases hr; exact gm_retz hn C0 hP hS hd) hP hS hl)
def pX11_sleighs_L41  (v6 : Int32) (s7 : gs_S) : Option ((Int32 × gs_S) ⊕ (Int32 × gs_S)) := if (s7.1 63 4) ≤ v6 then some (.inr (v6, s7)) else gv_in ((3 : Int32) * v6) 64 (gv_in v6 6 (gv_let (gs_u s7 65 v6.toNatClampNeg (s7.1 73 ((3 : Int32) * v6).toNatClampNeg)) (fun s10 => gv_in (((3 : Int32) * v6) + (1 : Int32)) 64 (gv_in v6 6 (gv_let (gs_u s10 66 v6.toNatClampNeg (s10.1 73 (((3 : Int32) * v6) + (1 : Int32)).toNatClampNeg)) (fun s13 => gv_in (((3 : Int32) * v6) + (2 : Int32)) 64 (gv_in v6 6 (gv_let (gs_u s13 67 v6.toNatClampNeg (s13.1 73 (((3 : Int32) * v6) + (2 : Int32)).toNatClampNeg)) (fun s16 => gv_let (v6 + (1 : Int32)) (fun v17 => some (.inl (v17, s16))))))))))))
def pX11_sleighs_J14 (v1 : Int32) (s3 : gs_S) : Option (Int32 × gs_S) := gv_let (gs_u s3 63 12 (0 : Int32)) (fun s4 => if v1 = 0 then some (((-20 : Int32) - (s4.1 63 13)), s4) else gv_let (gs_u s4 63 4 (s4.1 63 14)) (fun s5 => gv_bind (gv_loop (fun q => pX11_sleighs_L41 q.1 q.2) gv_N ((0 : Int32), s5)) (fun q => gv_let q.1 (fun v18 => gv_let q.2 (fun s19 => some ((s19.1 63 4), s19))))))
def pX11_sleighs  (s0 : gs_S) : Option (Int32 × gs_S) := gv_bind2 (pX11_readSleighs s0) (fun v1 s2 => if v1 = 0 then gv_bind2 (pX11_nextByte s2) (fun v21 s22 => pX11_sleighs_J14 v1 s22) else pX11_sleighs_J14 v1 s2)
def rX11_sleighs : Room := { frames := 4, cells := 0, slots := 0, locals := 92 }
set_option maxHeartbeats 4000000 in
set_option maxRecDepth 100000 in
theorem tX11_sleighs {p : Program} {l : Launch} {e : Env} {s : State} {m : MethodId} {args : Array Value} {below : List Frame} {meth : Method} {c : Code} {X : gw_X} {Q : State → Prop} (C0 : gm_At p s m args meth c X cX11_sleighs 3 RX11 wsX11_sleighs (some .int))  (s0 : gs_S) {z : Int32 × gs_S} (h : pX11_sleighs s0 = some z) (Kr : ∀ (H : Heap) (locs : List Loc) (ls : Array Slot) (pc : Nat) (r : Int32) (τ : gs_S), z = (r, τ) → gw_P X τ H → va_S (gw_A X) s.heap H locs → decode cX11_sleighs pc = .ok (.ireturn, 1) → W p l e rX11_sleighs s m args below meth c H locs 0 0 Q (F0 m pc ls [.int r])) {H : Heap} {locs : List Loc} {ls : Array Slot} (hP : gw_P X s0 H) (hS : va_S (gw_A X) s.heap H locs) (hl : lv_has ls 3 [(0, .ref (X.1 63))]) : W p l e rX11_sleighs s m args below meth c H locs 0 0 Q (F0 m 0 ls []) := by
  obtain ⟨hx, hb, hml, hown, hts, hr, hlocks, hC⟩ := id C0
  unfold pX11_sleighs at h
  refine lv_aload_n hx hb dX11_sleighs_0 rfl (lv_at hl 0 rfl) ?_
  obtain ⟨v1, s2, hv1, h⟩ := gv_bind2_e h
  refine gv_ri (gv_runV (n := 0) (rest := []) C0 (mX11_readSleighs l X s0  hv1) gX11_sleighs_X11_readSleighs rfl ⟨rfl, rfl⟩ (by decide +kernel) ⟨by decide, by decide⟩ gk_63.1 (by decide) rfl hP hS rfl hl.1 rfl (Nat.le_of_ble_eq_true rfl) dX11_sleighs_1 ⟨Nat.zero_le _, Nat.zero_le _⟩) hS (fun H locs hP hS => ?_)
  refine lv_istore_n (lv' := [(1, .int v1), (0, .ref (X.1 63))]) hx hb dX11_sleighs_4 rfl hl (by decide) rfl (fun ls hl => ?_)
  refine lv_iload_n hx hb dX11_sleighs_5 rfl (lv_at hl 0 rfl) ?_
  have J14 : ∀ (s3 : gs_S) (H : Heap) (locs : List Loc) (ls : Array Slot), pX11_sleighs_J14 v1 s3 = some z → gw_P X s3 H → va_S (gw_A X) s.heap H locs → lv_has ls 3 [(1, .int v1), (0, .ref (X.1 63))] → W p l e rX11_sleighs s m args below meth c H locs 0 0 Q (F0 m 14 ls []) := by
    intro s3 H locs ls h hP hS hl
    unfold pX11_sleighs_J14 at h
    refine lv_aload_n hx hb dX11_sleighs_14 rfl (lv_at hl 1 rfl) ?_
    refine lv_iconst (v := 0) hx hb dX11_sleighs_15 (by decide) ?_
    refine gv_put (ref := "IceByEarModel") (C := RX11) (T := TX11) (N := 28) (ci := 11) (v := .int (0 : Int32)) C0 (fun _ h9 => List.mem_cons_of_mem _ (List.mem_append_right _ h9)) tyX11 tyX11_ok nmX11 hP hS 63 (gw_o11 X s3 gk_63.1) rfl 12 (by decide) (by decide +kernel) rfl rfl (tyX11_ok 12 (by decide)) rfl rfl (Nat.le_of_ble_eq_true rfl) (gw_s11_12 gk_63.1 (0 : Int32)) dX11_sleighs_16 (fun s4 H locs es4 hP hS => ?_)
    have h := gv_let_e es4 h
    refine lv_iload_n hx hb dX11_sleighs_19 rfl (lv_at hl 0 rfl) ?_
    refine lv_if_ne (tgt := 31) hx hb dX11_sleighs_20 (by decide) (fun hc => ?_) (fun hc => ?_)
    · have h := gv_neg hc h
      refine lv_aload_n hx hb dX11_sleighs_31 rfl (lv_at hl 1 rfl) ?_
      refine lv_aload_n hx hb dX11_sleighs_32 rfl (lv_at hl 1 rfl) ?_
      refine gv_get (ref := "IceByEarModel") (C := RX11) (T := TX11) (N := 28) (ci := 11) (v := .int (s4.1 63 14)) C0 (fun _ h9 => List.mem_cons_of_mem _ (List.mem_append_right _ h9)) hP 63 (gw_o11 X s4 gk_63.1) rfl 14 (by decide) (by decide +kernel) rfl rfl dX11_sleighs_33 ?_
      refine gv_put (ref := "IceByEarModel") (C := RX11) (T := TX11) (N := 28) (ci := 11) (v := .int (s4.1 63 14)) C0 (fun _ h9 => List.mem_cons_of_mem _ (List.mem_append_right _ h9)) tyX11 tyX11_ok nmX11 hP hS 63 (gw_o11 X s4 gk_63.1) rfl 4 (by decide) (by decide +kernel) rfl rfl (tyX11_ok 4 (by decide)) rfl rfl (Nat.le_of_ble_eq_true rfl) (gw_s11_4 gk_63.1 (s4.1 63 14)) dX11_sleighs_36 (fun s5 H locs es5 hP hS => ?_)
      have h := gv_let_e es5 h
      refine lv_iconst (v := 0) hx hb dX11_sleighs_39 (by decide) ?_
      refine lv_istore_n (lv' := [(2, .int (0 : Int32)), (1, .int v1), (0, .ref (X.1 63))]) hx hb dX11_sleighs_40 rfl hl (by decide) rfl (fun ls hl => ?_)
      obtain ⟨q19, hq19, h⟩ := gv_bind_e h
      refine gv_loop_ind (Φ := fun q => ∀ (H : Heap) (locs : List Loc) (ls : Array Slot), gw_P X q.2 H → va_S (gw_A X) s.heap H locs → lv_has ls 3 [(0, .ref (X.1 63)), (2, .int q.1)] → W p l e rX11_sleighs s m args below meth c H locs 0 0 Q (F0 m 41 ls [])) (Ψ := fun q => ∀ (H : Heap) (locs : List Loc) (ls : Array Slot), gw_P X q.2 H → va_S (gw_A X) s.heap H locs → lv_has ls 3 [(0, .ref (X.1 63))] → W p l e rX11_sleighs s m args below meth c H locs 0 0 Q (F0 m 101 ls [])) ?_ gv_N ((0 : Int32), s5) q19 hq19 ?_ H locs ls hP hS (lv_sub hl [2, 0] rfl)
      · intro q x h Kc Ke H locs ls hP hS hl
        obtain ⟨v6, s7⟩ := q
        have h : pX11_sleighs_L41 v6 s7 = some x := h
        have hP : gw_P X s7 H := hP
        have hl : lv_has ls 3 [(0, .ref (X.1 63)), (2, .int v6)] := hl
        unfold pX11_sleighs_L41 at h
        refine lv_iload_n hx hb dX11_sleighs_41 rfl (lv_at hl 1 rfl) ?_
        refine lv_aload_n hx hb dX11_sleighs_42 rfl (lv_at hl 0 rfl) ?_
        refine gv_get (ref := "IceByEarModel") (C := RX11) (T := TX11) (N := 28) (ci := 11) (v := .int (s7.1 63 4)) C0 (fun _ h9 => List.mem_cons_of_mem _ (List.mem_append_right _ h9)) hP 63 (gw_o11 X s7 gk_63.1) rfl 4 (by decide) (by decide +kernel) rfl rfl dX11_sleighs_43 ?_
        refine lv_icmp_ge (tgt := 101) hx hb dX11_sleighs_46 (by decide) (fun hc => ?_) (fun hc => ?_)
        · have h := gv_pos hc h
          exact Ke _ (gv_inj h) _ _ _ hP hS (lv_sub hl [0] rfl)
        · have h := gv_neg hc h
          refine lv_aload_n hx hb dX11_sleighs_49 rfl (lv_at hl 0 rfl) ?_
          refine gv_get (ref := "IceByEarModel") (C := RX11) (T := TX11) (N := 28) (ci := 11) (v := .ref (X.1 65)) C0 (fun _ h9 => List.mem_cons_of_mem _ (List.mem_append_right _ h9)) hP 63 (gw_o11 X s7 gk_63.1) rfl 1 (by decide) (by decide +kernel) rfl rfl dX11_sleighs_50 ?_
          refine lv_iload_n hx hb dX11_sleighs_53 rfl (lv_at hl 1 rfl) ?_
          refine lv_aload_n hx hb dX11_sleighs_54 rfl (lv_at hl 0 rfl) ?_
          refine gv_get (ref := "IceByEarModel") (C := RX11) (T := TX11) (N := 28) (ci := 11) (v := .ref (X.1 73)) C0 (fun _ h9 => List.mem_cons_of_mem _ (List.mem_append_right _ h9)) hP 63 (gw_o11 X s7 gk_63.1) rfl 15 (by decide) (by decide +kernel) rfl rfl dX11_sleighs_55 ?_
          refine lv_iconst (v := 3) hx hb dX11_sleighs_58 (by decide) ?_
          refine lv_iload_n hx hb dX11_sleighs_59 rfl (lv_at hl 1 rfl) ?_
          refine lv_imul hx hb dX11_sleighs_60 ?_
          obtain ⟨hin8, h⟩ := gv_in_e h
          refine gv_iald C0 hP 73 gk_73.1 gk_73.2 hin8 dX11_sleighs_61 ?_
          obtain ⟨hin9, h⟩ := gv_in_e h
          refine gv_iast C0 hP hS 65 gk_65.1 gk_65.2 hin9 dX11_sleighs_62 (fun s10 H locs es10 hP hS => ?_)
          have h := gv_let_e es10 h
          refine lv_aload_n hx hb dX11_sleighs_63 rfl (lv_at hl 0 rfl) ?_
          refine gv_get (ref := "IceByEarModel") (C := RX11) (T := TX11) (N := 28) (ci := 11) (v := .ref (X.1 66)) C0 (fun _ h9 => List.mem_cons_of_mem _ (List.mem_append_right _ h9)) hP 63 (gw_o11 X s10 gk_63.1) rfl 2 (by decide) (by decide +kernel) rfl rfl dX11_sleighs_64 ?_
          refine lv_iload_n hx hb dX11_sleighs_67 rfl (lv_at hl 1 rfl) ?_
          refine lv_aload_n hx hb dX11_sleighs_68 rfl (lv_at hl 0 rfl) ?_
          refine gv_get (ref := "IceByEarModel") (C := RX11) (T := TX11) (N := 28) (ci := 11) (v := .ref (X.1 73)) C0 (fun _ h9 => List.mem_cons_of_mem _ (List.mem_append_right _ h9)) hP 63 (gw_o11 X s10 gk_63.1) rfl 15 (by decide) (by decide +kernel) rfl rfl dX11_sleighs_69 ?_
          refine lv_iconst (v := 3) hx hb dX11_sleighs_72 (by decide) ?_
          refine lv_iload_n hx hb dX11_sleighs_73 rfl (lv_at hl 1 rfl) ?_
          refine lv_imul hx hb dX11_sleighs_74 ?_
          refine lv_iconst (v := 1) hx hb dX11_sleighs_75 (by decide) ?_
          refine lv_iadd hx hb dX11_sleighs_76 ?_
          obtain ⟨hin11, h⟩ := gv_in_e h
          refine gv_iald C0 hP 73 gk_73.1 gk_73.2 hin11 dX11_sleighs_77 ?_
          obtain ⟨hin12, h⟩ := gv_in_e h
          refine gv_iast C0 hP hS 66 gk_66.1 gk_66.2 hin12 dX11_sleighs_78 (fun s13 H locs es13 hP hS => ?_)
          have h := gv_let_e es13 h
          refine lv_aload_n hx hb dX11_sleighs_79 rfl (lv_at hl 0 rfl) ?_
          refine gv_get (ref := "IceByEarModel") (C := RX11) (T := TX11) (N := 28) (ci := 11) (v := .ref (X.1 67)) C0 (fun _ h9 => List.mem_cons_of_mem _ (List.mem_append_right _ h9)) hP 63 (gw_o11 X s13 gk_63.1) rfl 3 (by decide) (by decide +kernel) rfl rfl dX11_sleighs_80 ?_
          refine lv_iload_n hx hb dX11_sleighs_83 rfl (lv_at hl 1 rfl) ?_
          refine lv_aload_n hx hb dX11_sleighs_84 rfl (lv_at hl 0 rfl) ?_
          refine gv_get (ref := "IceByEarModel") (C := RX11) (T := TX11) (N := 28) (ci := 11) (v := .ref (X.1 73)) C0 (fun _ h9 => List.mem_cons_of_mem _ (List.mem_append_right _ h9)) hP 63 (gw_o11 X s13 gk_63.1) rfl 15 (by decide) (by decide +kernel) rfl rfl dX11_sleighs_85 ?_
          refine lv_iconst (v := 3) hx hb dX11_sleighs_88 (by decide) ?_
          refine lv_iload_n hx hb dX11_sleighs_89 rfl (lv_at hl 1 rfl) ?_
          refine lv_imul hx hb dX11_sleighs_90 ?_
          refine lv_iconst (v := 2) hx hb dX11_sleighs_91 (by decide) ?_
          refine lv_iadd hx hb dX11_sleighs_92 ?_
          obtain ⟨hin14, h⟩ := gv_in_e h
          refine gv_iald C0 hP 73 gk_73.1 gk_73.2 hin14 dX11_sleighs_93 ?_
          obtain ⟨hin15, h⟩ := gv_in_e h
          refine gv_iast C0 hP hS 67 gk_67.1 gk_67.2 hin15 dX11_sleighs_94 (fun s16 H locs es16 hP hS => ?_)
          have h := gv_let_e es16 h
          obtain ⟨v17, ev17⟩ : ∃ y : Int32, y = (v6 + (1 : Int32)) := ⟨_, rfl⟩
          have h := gv_let_e ev17 h
          refine lv_iinc (v := v17) (lv' := [(2, .int v17), (0, .ref (X.1 63))]) hx hb dX11_sleighs_95 hl (k := 1) rfl (by rw [ev17]; rfl) (by decide) rfl (fun ls hl => ?_)
          refine lv_goto (tgt := 41) hx hb dX11_sleighs_98 (by decide) ?_
          exact Kc _ (gv_inj h) _ _ _ hP hS (lv_sub hl [1, 0] rfl)
      · obtain ⟨v18, s19⟩ := q19
        have h := gv_let_e (x := v18) rfl h
        have h := gv_let_e (x := s19) rfl h
        intro H locs ls hP hS hl
        have hP : gw_P X s19 H := hP
        have hl : lv_has ls 3 [(0, .ref (X.1 63))] := hl
        refine lv_aload_n hx hb dX11_sleighs_101 rfl (lv_at hl 0 rfl) ?_
        refine gv_get (ref := "IceByEarModel") (C := RX11) (T := TX11) (N := 28) (ci := 11) (v := .int (s19.1 63 4)) C0 (fun _ h9 => List.mem_cons_of_mem _ (List.mem_append_right _ h9)) hP 63 (gw_o11 X s19 gk_63.1) rfl 4 (by decide) (by decide +kernel) rfl rfl dX11_sleighs_102 ?_
        exact Kr _ _ _ _ _ _ (gv_inj h) hP hS dX11_sleighs_105
    · have h := gv_pos hc h
      refine lv_bipush (v := -20) hx hb dX11_sleighs_23 (by decide) ?_
      refine lv_aload_n hx hb dX11_sleighs_25 rfl (lv_at hl 1 rfl) ?_
      refine gv_get (ref := "IceByEarModel") (C := RX11) (T := TX11) (N := 28) (ci := 11) (v := .int (s4.1 63 13)) C0 (fun _ h9 => List.mem_cons_of_mem _ (List.mem_append_right _ h9)) hP 63 (gw_o11 X s4 gk_63.1) rfl 13 (by decide) (by decide +kernel) rfl rfl dX11_sleighs_26 ?_
      refine lv_isub hx hb dX11_sleighs_29 ?_
      exact Kr _ _ _ _ _ _ (gv_inj h) hP hS dX11_sleighs_30
  refine lv_if_ne (tgt := 14) hx hb dX11_sleighs_6 (by decide) (fun hc => ?_) (fun hc => ?_)
  · have h := gv_neg hc h
    exact J14 s2 _ _ _ h hP hS (lv_sub hl [0, 1] rfl)
  · have h := gv_pos hc h
    refine lv_aload_n hx hb dX11_sleighs_9 rfl (lv_at hl 1 rfl) ?_
    obtain ⟨v21, s22, hv21, h⟩ := gv_bind2_e h
    refine gv_ri (gv_runV (n := 0) (rest := []) C0 (mX11_nextByte l X s2  hv21) gX11_sleighs_X11_nextByte rfl ⟨rfl, rfl⟩ (by decide +kernel) ⟨by decide, by decide⟩ gk_63.1 (by decide) rfl hP hS rfl hl.1 rfl (Nat.le_of_ble_eq_true rfl) dX11_sleighs_10 ⟨Nat.zero_le _, Nat.zero_le _⟩) hS (fun H locs hP hS => ?_)
    refine lv_pop hx hb dX11_sleighs_13 rfl ?_
    exact J14 s22 _ _ _ h hP hS (lv_sub hl [0, 1] rfl)
theorem mX11_sleighs (l : Launch) (X : gw_X) (s0 : gs_S)  {r : Int32} {τ : gs_S} (h : pX11_sleighs s0 = some (r, τ)) : Met l yX11_sleighs wsX11_sleighs rX11_sleighs (gm_Pc X s0 [.ref (X.1 63)]) (gm_Qi X τ r) 0 0 (gw_A X) :=
  gm_of RX11 (by decide) rfl rfl (Nat.le_of_ble_eq_true rfl) (fun p e s m below meth c ls C0 hP hl hS => tX11_sleighs C0  s0 h (fun H locs ls pc r τ hr hP hS hd => by cases hr; exact gm_reti C0 hP hS hd) hP hS hl)
def pX11_sleigh (a1 : Int32) (a2 : Int32) (a3 : Int32) (s0 : gs_S) : Option (Int32 × gs_S) := if (pX11_in (a1.toInt64) (1 : Int64) (99 : Int64)) = 0 then some ((-1 : Int32), s0) else if (pX11_in (a2.toInt64) (1 : Int64) (9 : Int64)) = 0 then some ((-1 : Int32), s0) else if (pX11_in (a3.toInt64) (0 : Int64) (99 : Int64)) = 0 then some ((-1 : Int32), s0) else if (s0.1 63 4) = (6 : Int32) then some ((-3 : Int32), s0) else gv_in (s0.1 63 4) 6 (gv_let (gs_u s0 65 (s0.1 63 4).toNatClampNeg a1) (fun s2 => gv_in (s2.1 63 4) 6 (gv_let (gs_u s2 66 (s2.1 63 4).toNatClampNeg a2) (fun s4 => gv_in (s4.1 63 4) 6 (gv_let (gs_u s4 67 (s4.1 63 4).toNatClampNeg a3) (fun s6 => gv_let (gs_u s6 63 4 ((s6.1 63 4) + (1 : Int32))) (fun s7 => some (((s7.1 63 4) - (1 : Int32)), s7))))))))
def rX11_sleigh : Room := { frames := 1, cells := 0, slots := 0, locals := 25 }
set_option maxHeartbeats 4000000 in
set_option maxRecDepth 100000 in
theorem tX11_sleigh {p : Program} {l : Launch} {e : Env} {s : State} {m : MethodId} {args : Array Value} {below : List Frame} {meth : Method} {c : Code} {X : gw_X} {Q : State → Prop} (C0 : gm_At p s m args meth c X cX11_sleigh 4 RX11 wsX11_sleigh (some .int)) (a1 : Int32) (a2 : Int32) (a3 : Int32) (s0 : gs_S) {z : Int32 × gs_S} (h : pX11_sleigh a1 a2 a3 s0 = some z) (Kr : ∀ (H : Heap) (locs : List Loc) (ls : Array Slot) (pc : Nat) (r : Int32) (τ : gs_S), z = (r, τ) → gw_P X τ H → va_S (gw_A X) s.heap H locs → decode cX11_sleigh pc = .ok (.ireturn, 1) → W p l e rX11_sleigh s m args below meth c H locs 0 0 Q (F0 m pc ls [.int r])) {H : Heap} {locs : List Loc} {ls : Array Slot} (hP : gw_P X s0 H) (hS : va_S (gw_A X) s.heap H locs) (hl : lv_has ls 4 [(0, .ref (X.1 63)), (1, .int a1), (2, .int a2), (3, .int a3)]) : W p l e rX11_sleigh s m args below meth c H locs 0 0 Q (F0 m 0 ls []) := by
  obtain ⟨hx, hb, hml, hown, hts, hr, hlocks, hC⟩ := id C0
  unfold pX11_sleigh at h
  refine lv_iload_n hx hb dX11_sleigh_0 rfl (lv_at hl 1 rfl) ?_
  refine lv_i2l hx hb dX11_sleigh_1 rfl ?_
  refine lv_lconst (v := 1) hx hb dX11_sleigh_2 (by decide) ?_
  refine lv_ldc2 (v := 99) hx hb hown (hts (.constantLong RX11 110 (99)) (by decide +kernel)) dX11_sleigh_3 ?_
  refine gv_ri (gv_runS (n := 3) (rest := []) C0 (mX11_in l X s0 (a1.toInt64) (1 : Int64) (99 : Int64)) gX11_sleigh_X11_in rfl ⟨rfl, rfl⟩ (by decide +kernel) ⟨by decide, by decide⟩ hP hS rfl hl.1 rfl (Nat.le_of_ble_eq_true rfl) dX11_sleigh_6 ⟨Nat.zero_le _, Nat.zero_le _⟩) hS (fun H locs hP hS => ?_)
  refine lv_if_eq (tgt := 36) hx hb dX11_sleigh_9 (by decide) (fun hc => ?_) (fun hc => ?_)
  · have h := gv_pos hc h
    refine lv_iconst (v := -1) hx hb dX11_sleigh_36 (by decide) ?_
    exact Kr _ _ _ _ _ _ (gv_inj h) hP hS dX11_sleigh_37
  · have h := gv_neg hc h
    refine lv_iload_n hx hb dX11_sleigh_12 rfl (lv_at hl 2 rfl) ?_
    refine lv_i2l hx hb dX11_sleigh_13 rfl ?_
    refine lv_lconst (v := 1) hx hb dX11_sleigh_14 (by decide) ?_
    refine lv_ldc2 (v := 9) hx hb hown (hts (.constantLong RX11 102 (9)) (by decide +kernel)) dX11_sleigh_15 ?_
    refine gv_ri (gv_runS (n := 3) (rest := []) C0 (mX11_in l X s0 (a2.toInt64) (1 : Int64) (9 : Int64)) gX11_sleigh_X11_in rfl ⟨rfl, rfl⟩ (by decide +kernel) ⟨by decide, by decide⟩ hP hS rfl hl.1 rfl (Nat.le_of_ble_eq_true rfl) dX11_sleigh_18 ⟨Nat.zero_le _, Nat.zero_le _⟩) hS (fun H locs hP hS => ?_)
    refine lv_if_eq (tgt := 36) hx hb dX11_sleigh_21 (by decide) (fun hc => ?_) (fun hc => ?_)
    · have h := gv_pos hc h
      refine lv_iconst (v := -1) hx hb dX11_sleigh_36 (by decide) ?_
      exact Kr _ _ _ _ _ _ (gv_inj h) hP hS dX11_sleigh_37
    · have h := gv_neg hc h
      refine lv_iload_n hx hb dX11_sleigh_24 rfl (lv_at hl 3 rfl) ?_
      refine lv_i2l hx hb dX11_sleigh_25 rfl ?_
      refine lv_lconst (v := 0) hx hb dX11_sleigh_26 (by decide) ?_
      refine lv_ldc2 (v := 99) hx hb hown (hts (.constantLong RX11 110 (99)) (by decide +kernel)) dX11_sleigh_27 ?_
      refine gv_ri (gv_runS (n := 3) (rest := []) C0 (mX11_in l X s0 (a3.toInt64) (0 : Int64) (99 : Int64)) gX11_sleigh_X11_in rfl ⟨rfl, rfl⟩ (by decide +kernel) ⟨by decide, by decide⟩ hP hS rfl hl.1 rfl (Nat.le_of_ble_eq_true rfl) dX11_sleigh_30 ⟨Nat.zero_le _, Nat.zero_le _⟩) hS (fun H locs hP hS => ?_)
      refine lv_if_ne (tgt := 38) hx hb dX11_sleigh_33 (by decide) (fun hc => ?_) (fun hc => ?_)
      · have h := gv_neg hc h
        refine lv_aload_n hx hb dX11_sleigh_38 rfl (lv_at hl 0 rfl) ?_
        refine gv_get (ref := "IceByEarModel") (C := RX11) (T := TX11) (N := 28) (ci := 11) (v := .int (s0.1 63 4)) C0 (fun _ h9 => List.mem_cons_of_mem _ (List.mem_append_right _ h9)) hP 63 (gw_o11 X s0 gk_63.1) rfl 4 (by decide) (by decide +kernel) rfl rfl dX11_sleigh_39 ?_
        refine lv_bipush (v := 6) hx hb dX11_sleigh_42 (by decide) ?_
        refine lv_icmp_ne (tgt := 50) hx hb dX11_sleigh_44 (by decide) (fun hc => ?_) (fun hc => ?_)
        · have h := gv_neg hc h
          refine lv_aload_n hx hb dX11_sleigh_50 rfl (lv_at hl 0 rfl) ?_
          refine gv_get (ref := "IceByEarModel") (C := RX11) (T := TX11) (N := 28) (ci := 11) (v := .ref (X.1 65)) C0 (fun _ h9 => List.mem_cons_of_mem _ (List.mem_append_right _ h9)) hP 63 (gw_o11 X s0 gk_63.1) rfl 1 (by decide) (by decide +kernel) rfl rfl dX11_sleigh_51 ?_
          refine lv_aload_n hx hb dX11_sleigh_54 rfl (lv_at hl 0 rfl) ?_
          refine gv_get (ref := "IceByEarModel") (C := RX11) (T := TX11) (N := 28) (ci := 11) (v := .int (s0.1 63 4)) C0 (fun _ h9 => List.mem_cons_of_mem _ (List.mem_append_right _ h9)) hP 63 (gw_o11 X s0 gk_63.1) rfl 4 (by decide) (by decide +kernel) rfl rfl dX11_sleigh_55 ?_
          refine lv_iload_n hx hb dX11_sleigh_58 rfl (lv_at hl 1 rfl) ?_
          obtain ⟨hin1, h⟩ := gv_in_e h
          refine gv_iast C0 hP hS 65 gk_65.1 gk_65.2 hin1 dX11_sleigh_59 (fun s2 H locs es2 hP hS => ?_)
          have h := gv_let_e es2 h
          refine lv_aload_n hx hb dX11_sleigh_60 rfl (lv_at hl 0 rfl) ?_
          refine gv_get (ref := "IceByEarModel") (C := RX11) (T := TX11) (N := 28) (ci := 11) (v := .ref (X.1 66)) C0 (fun _ h9 => List.mem_cons_of_mem _ (List.mem_append_right _ h9)) hP 63 (gw_o11 X s2 gk_63.1) rfl 2 (by decide) (by decide +kernel) rfl rfl dX11_sleigh_61 ?_
          refine lv_aload_n hx hb dX11_sleigh_64 rfl (lv_at hl 0 rfl) ?_
          refine gv_get (ref := "IceByEarModel") (C := RX11) (T := TX11) (N := 28) (ci := 11) (v := .int (s2.1 63 4)) C0 (fun _ h9 => List.mem_cons_of_mem _ (List.mem_append_right _ h9)) hP 63 (gw_o11 X s2 gk_63.1) rfl 4 (by decide) (by decide +kernel) rfl rfl dX11_sleigh_65 ?_
          refine lv_iload_n hx hb dX11_sleigh_68 rfl (lv_at hl 2 rfl) ?_
          obtain ⟨hin3, h⟩ := gv_in_e h
          refine gv_iast C0 hP hS 66 gk_66.1 gk_66.2 hin3 dX11_sleigh_69 (fun s4 H locs es4 hP hS => ?_)
          have h := gv_let_e es4 h
          refine lv_aload_n hx hb dX11_sleigh_70 rfl (lv_at hl 0 rfl) ?_
          refine gv_get (ref := "IceByEarModel") (C := RX11) (T := TX11) (N := 28) (ci := 11) (v := .ref (X.1 67)) C0 (fun _ h9 => List.mem_cons_of_mem _ (List.mem_append_right _ h9)) hP 63 (gw_o11 X s4 gk_63.1) rfl 3 (by decide) (by decide +kernel) rfl rfl dX11_sleigh_71 ?_
          refine lv_aload_n hx hb dX11_sleigh_74 rfl (lv_at hl 0 rfl) ?_
          refine gv_get (ref := "IceByEarModel") (C := RX11) (T := TX11) (N := 28) (ci := 11) (v := .int (s4.1 63 4)) C0 (fun _ h9 => List.mem_cons_of_mem _ (List.mem_append_right _ h9)) hP 63 (gw_o11 X s4 gk_63.1) rfl 4 (by decide) (by decide +kernel) rfl rfl dX11_sleigh_75 ?_
          refine lv_iload_n hx hb dX11_sleigh_78 rfl (lv_at hl 3 rfl) ?_
          obtain ⟨hin5, h⟩ := gv_in_e h
          refine gv_iast C0 hP hS 67 gk_67.1 gk_67.2 hin5 dX11_sleigh_79 (fun s6 H locs es6 hP hS => ?_)
          have h := gv_let_e es6 h
          refine lv_aload_n hx hb dX11_sleigh_80 rfl (lv_at hl 0 rfl) ?_
          refine lv_dup hx hb dX11_sleigh_81 rfl ?_
          refine gv_get (ref := "IceByEarModel") (C := RX11) (T := TX11) (N := 28) (ci := 11) (v := .int (s6.1 63 4)) C0 (fun _ h9 => List.mem_cons_of_mem _ (List.mem_append_right _ h9)) hP 63 (gw_o11 X s6 gk_63.1) rfl 4 (by decide) (by decide +kernel) rfl rfl dX11_sleigh_82 ?_
          refine lv_iconst (v := 1) hx hb dX11_sleigh_85 (by decide) ?_
          refine lv_iadd hx hb dX11_sleigh_86 ?_
          refine gv_put (ref := "IceByEarModel") (C := RX11) (T := TX11) (N := 28) (ci := 11) (v := .int ((s6.1 63 4) + (1 : Int32))) C0 (fun _ h9 => List.mem_cons_of_mem _ (List.mem_append_right _ h9)) tyX11 tyX11_ok nmX11 hP hS 63 (gw_o11 X s6 gk_63.1) rfl 4 (by decide) (by decide +kernel) rfl rfl (tyX11_ok 4 (by decide)) rfl rfl (Nat.le_of_ble_eq_true rfl) (gw_s11_4 gk_63.1 ((s6.1 63 4) + (1 : Int32))) dX11_sleigh_87 (fun s7 H locs es7 hP hS => ?_)
          have h := gv_let_e es7 h
          refine lv_aload_n hx hb dX11_sleigh_90 rfl (lv_at hl 0 rfl) ?_
          refine gv_get (ref := "IceByEarModel") (C := RX11) (T := TX11) (N := 28) (ci := 11) (v := .int (s7.1 63 4)) C0 (fun _ h9 => List.mem_cons_of_mem _ (List.mem_append_right _ h9)) hP 63 (gw_o11 X s7 gk_63.1) rfl 4 (by decide) (by decide +kernel) rfl rfl dX11_sleigh_91 ?_
          refine lv_iconst (v := 1) hx hb dX11_sleigh_94 (by decide) ?_
          refine lv_isub hx hb dX11_sleigh_95 ?_
          exact Kr _ _ _ _ _ _ (gv_inj h) hP hS dX11_sleigh_96
        · have h := gv_pos hc h
          refine lv_bipush (v := -3) hx hb dX11_sleigh_47 (by decide) ?_
          exact Kr _ _ _ _ _ _ (gv_inj h) hP hS dX11_sleigh_49
      · have h := gv_pos hc h
        refine lv_iconst (v := -1) hx hb dX11_sleigh_36 (by decide) ?_
        exact Kr _ _ _ _ _ _ (gv_inj h) hP hS dX11_sleigh_37
theorem mX11_sleigh (l : Launch) (X : gw_X) (s0 : gs_S) (a1 : Int32) (a2 : Int32) (a3 : Int32) {r : Int32} {τ : gs_S} (h : pX11_sleigh a1 a2 a3 s0 = some (r, τ)) : Met l yX11_sleigh wsX11_sleigh rX11_sleigh (gm_Pc X s0 [.ref (X.1 63), .int a1, .int a2, .int a3]) (gm_Qi X τ r) 0 0 (gw_A X) :=
  gm_of RX11 (by decide) rfl rfl (Nat.le_of_ble_eq_true rfl) (fun p e s m below meth c ls C0 hP hl hS => tX11_sleigh C0 a1 a2 a3 s0 h (fun H locs ls pc r τ hr hP hS hd => by cases hr; exact gm_reti C0 hP hS hd) hP hS hl)
def pX11_home  (s0 : gs_S) : Option (Int32 × gs_S) := gv_let (s0.1 63 4) (fun v1 => gv_let (gs_u s0 63 4 (0 : Int32)) (fun s2 => some (v1, s2)))
def rX11_home : Room := { frames := 0, cells := 0, slots := 0, locals := 0 }
set_option maxHeartbeats 4000000 in
set_option maxRecDepth 100000 in
theorem tX11_home {p : Program} {l : Launch} {e : Env} {s : State} {m : MethodId} {args : Array Value} {below : List Frame} {meth : Method} {c : Code} {X : gw_X} {Q : State → Prop} (C0 : gm_At p s m args meth c X cX11_home 2 RX11 wsX11_home (some .int))  (s0 : gs_S) {z : Int32 × gs_S} (h : pX11_home s0 = some z) (Kr : ∀ (H : Heap) (locs : List Loc) (ls : Array Slot) (pc : Nat) (r : Int32) (τ : gs_S), z = (r, τ) → gw_P X τ H → va_S (gw_A X) s.heap H locs → decode cX11_home pc = .ok (.ireturn, 1) → W p l e rX11_home s m args below meth c H locs 0 0 Q (F0 m pc ls [.int r])) {H : Heap} {locs : List Loc} {ls : Array Slot} (hP : gw_P X s0 H) (hS : va_S (gw_A X) s.heap H locs) (hl : lv_has ls 2 [(0, .ref (X.1 63))]) : W p l e rX11_home s m args below meth c H locs 0 0 Q (F0 m 0 ls []) := by
  obtain ⟨hx, hb, hml, hown, hts, hr, hlocks, hC⟩ := id C0
  unfold pX11_home at h
  refine lv_aload_n hx hb dX11_home_0 rfl (lv_at hl 0 rfl) ?_
  refine gv_get (ref := "IceByEarModel") (C := RX11) (T := TX11) (N := 28) (ci := 11) (v := .int (s0.1 63 4)) C0 (fun _ h9 => List.mem_cons_of_mem _ (List.mem_append_right _ h9)) hP 63 (gw_o11 X s0 gk_63.1) rfl 4 (by decide) (by decide +kernel) rfl rfl dX11_home_1 ?_
  refine lv_topi (fun v1 ev1 => ?_)
  have h := gv_let_e ev1 h
  refine lv_istore_n (lv' := [(1, .int v1), (0, .ref (X.1 63))]) hx hb dX11_home_4 rfl hl (by decide) rfl (fun ls hl => ?_)
  refine lv_aload_n hx hb dX11_home_5 rfl (lv_at hl 1 rfl) ?_
  refine lv_iconst (v := 0) hx hb dX11_home_6 (by decide) ?_
  refine gv_put (ref := "IceByEarModel") (C := RX11) (T := TX11) (N := 28) (ci := 11) (v := .int (0 : Int32)) C0 (fun _ h9 => List.mem_cons_of_mem _ (List.mem_append_right _ h9)) tyX11 tyX11_ok nmX11 hP hS 63 (gw_o11 X s0 gk_63.1) rfl 4 (by decide) (by decide +kernel) rfl rfl (tyX11_ok 4 (by decide)) rfl rfl (Nat.le_of_ble_eq_true rfl) (gw_s11_4 gk_63.1 (0 : Int32)) dX11_home_7 (fun s2 H locs es2 hP hS => ?_)
  have h := gv_let_e es2 h
  refine lv_iload_n hx hb dX11_home_10 rfl (lv_at hl 0 rfl) ?_
  exact Kr _ _ _ _ _ _ (gv_inj h) hP hS dX11_home_11
theorem mX11_home (l : Launch) (X : gw_X) (s0 : gs_S)  {r : Int32} {τ : gs_S} (h : pX11_home s0 = some (r, τ)) : Met l yX11_home wsX11_home rX11_home (gm_Pc X s0 [.ref (X.1 63)]) (gm_Qi X τ r) 0 0 (gw_A X) :=
  gm_of RX11 (by decide) rfl rfl (Nat.le_of_ble_eq_true rfl) (fun p e s m below meth c ls C0 hP hl hS => tX11_home C0  s0 h (fun H locs ls pc r τ hr hP hS hd => by cases hr; exact gm_reti C0 hP hS hd) hP hS hl)
def pX11_nextTo (a0 : Int32) (a1 : Int32) : Int32 := if a1 = 0 then if (8 : Int32) ≤ a0 then (a0 - (8 : Int32)) else (-1 : Int32) else if a1 = (3 : Int32) then if a0 ≤ (55 : Int32) then (a0 + (8 : Int32)) else (-1 : Int32) else if a1 = (1 : Int32) then if (a0 - ((a0 / (8 : Int32)) * (8 : Int32))) = 0 then (-1 : Int32) else (a0 - (1 : Int32)) else if (a0 - ((a0 / (8 : Int32)) * (8 : Int32))) = (7 : Int32) then (-1 : Int32) else (a0 + (1 : Int32))
def rX11_nextTo : Room := { frames := 0, cells := 0, slots := 0, locals := 0 }
set_option maxHeartbeats 4000000 in
set_option maxRecDepth 100000 in
theorem tX11_nextTo {p : Program} {l : Launch} {e : Env} {s : State} {m : MethodId} {args : Array Value} {below : List Frame} {meth : Method} {c : Code} {X : gw_X} {Q : State → Prop} (C0 : gm_At p s m args meth c X cX11_nextTo 2 RX11 wsX11_nextTo (some .int)) (a0 : Int32) (a1 : Int32) (s0 : gs_S) {z : Int32} (h : pX11_nextTo a0 a1 = z) (Kr : ∀ (H : Heap) (locs : List Loc) (ls : Array Slot) (pc : Nat) (r : Int32), z = r → gw_P X s0 H → va_S (gw_A X) s.heap H locs → decode cX11_nextTo pc = .ok (.ireturn, 1) → W p l e rX11_nextTo s m args below meth c H locs 0 0 Q (F0 m pc ls [.int r])) {H : Heap} {locs : List Loc} {ls : Array Slot} (hP : gw_P X s0 H) (hS : va_S (gw_A X) s.heap H locs) (hl : lv_has ls 2 [(0, .int a0), (1, .int a1)]) : W p l e rX11_nextTo s m args below meth c H locs 0 0 Q (F0 m 0 ls []) := by
  obtain ⟨hx, hb, hml, hown, hts, hr, hlocks, hC⟩ := id C0
  unfold pX11_nextTo at h
  refine lv_iload_n hx hb dX11_nextTo_0 rfl (lv_at hl 1 rfl) ?_
  refine lv_if_ne (tgt := 19) hx hb dX11_nextTo_1 (by decide) (fun hc => ?_) (fun hc => ?_)
  · have h := gv_neg hc h
    refine lv_iload_n hx hb dX11_nextTo_19 rfl (lv_at hl 1 rfl) ?_
    refine lv_iconst (v := 3) hx hb dX11_nextTo_20 (by decide) ?_
    refine lv_icmp_ne (tgt := 39) hx hb dX11_nextTo_21 (by decide) (fun hc => ?_) (fun hc => ?_)
    · have h := gv_neg hc h
      refine lv_iload_n hx hb dX11_nextTo_39 rfl (lv_at hl 1 rfl) ?_
      refine lv_iconst (v := 1) hx hb dX11_nextTo_40 (by decide) ?_
      refine lv_icmp_ne (tgt := 61) hx hb dX11_nextTo_41 (by decide) (fun hc => ?_) (fun hc => ?_)
      · have h := gv_neg hc h
        refine lv_iload_n hx hb dX11_nextTo_61 rfl (lv_at hl 0 rfl) ?_
        refine lv_bipush (v := 8) hx hb dX11_nextTo_62 (by decide) ?_
        refine lv_irem hx hb dX11_nextTo_64 (by decide) ?_
        refine lv_bipush (v := 7) hx hb dX11_nextTo_65 (by decide) ?_
        refine lv_icmp_ne (tgt := 74) hx hb dX11_nextTo_67 (by decide) (fun hc => ?_) (fun hc => ?_)
        · have h := gv_neg hc h
          refine lv_iload_n hx hb dX11_nextTo_74 rfl (lv_at hl 0 rfl) ?_
          refine lv_iconst (v := 1) hx hb dX11_nextTo_75 (by decide) ?_
          refine lv_iadd hx hb dX11_nextTo_76 ?_
          exact Kr _ _ _ _ _ h.symm hP hS dX11_nextTo_77
        · have h := gv_pos hc h
          refine lv_iconst (v := -1) hx hb dX11_nextTo_70 (by decide) ?_
          refine lv_goto (tgt := 77) hx hb dX11_nextTo_71 (by decide) ?_
          exact Kr _ _ _ _ _ h.symm hP hS dX11_nextTo_77
      · have h := gv_pos hc h
        refine lv_iload_n hx hb dX11_nextTo_44 rfl (lv_at hl 0 rfl) ?_
        refine lv_bipush (v := 8) hx hb dX11_nextTo_45 (by decide) ?_
        refine lv_irem hx hb dX11_nextTo_47 (by decide) ?_
        refine lv_if_ne (tgt := 55) hx hb dX11_nextTo_48 (by decide) (fun hc => ?_) (fun hc => ?_)
        · have h := gv_neg hc h
          refine lv_iload_n hx hb dX11_nextTo_55 rfl (lv_at hl 0 rfl) ?_
          refine lv_iconst (v := 1) hx hb dX11_nextTo_56 (by decide) ?_
          refine lv_isub hx hb dX11_nextTo_57 ?_
          refine lv_goto (tgt := 77) hx hb dX11_nextTo_58 (by decide) ?_
          exact Kr _ _ _ _ _ h.symm hP hS dX11_nextTo_77
        · have h := gv_pos hc h
          refine lv_iconst (v := -1) hx hb dX11_nextTo_51 (by decide) ?_
          refine lv_goto (tgt := 77) hx hb dX11_nextTo_52 (by decide) ?_
          exact Kr _ _ _ _ _ h.symm hP hS dX11_nextTo_77
    · have h := gv_pos hc h
      refine lv_iload_n hx hb dX11_nextTo_24 rfl (lv_at hl 0 rfl) ?_
      refine lv_bipush (v := 55) hx hb dX11_nextTo_25 (by decide) ?_
      refine lv_icmp_le (tgt := 34) hx hb dX11_nextTo_27 (by decide) (fun hc => ?_) (fun hc => ?_)
      · have h := gv_pos hc h
        refine lv_iload_n hx hb dX11_nextTo_34 rfl (lv_at hl 0 rfl) ?_
        refine lv_bipush (v := 8) hx hb dX11_nextTo_35 (by decide) ?_
        refine lv_iadd hx hb dX11_nextTo_37 ?_
        exact Kr _ _ _ _ _ h.symm hP hS dX11_nextTo_38
      · have h := gv_neg hc h
        refine lv_iconst (v := -1) hx hb dX11_nextTo_30 (by decide) ?_
        refine lv_goto (tgt := 38) hx hb dX11_nextTo_31 (by decide) ?_
        exact Kr _ _ _ _ _ h.symm hP hS dX11_nextTo_38
  · have h := gv_pos hc h
    refine lv_iload_n hx hb dX11_nextTo_4 rfl (lv_at hl 0 rfl) ?_
    refine lv_bipush (v := 8) hx hb dX11_nextTo_5 (by decide) ?_
    refine lv_icmp_ge (tgt := 14) hx hb dX11_nextTo_7 (by decide) (fun hc => ?_) (fun hc => ?_)
    · have h := gv_pos hc h
      refine lv_iload_n hx hb dX11_nextTo_14 rfl (lv_at hl 0 rfl) ?_
      refine lv_bipush (v := 8) hx hb dX11_nextTo_15 (by decide) ?_
      refine lv_isub hx hb dX11_nextTo_17 ?_
      exact Kr _ _ _ _ _ h.symm hP hS dX11_nextTo_18
    · have h := gv_neg hc h
      refine lv_iconst (v := -1) hx hb dX11_nextTo_10 (by decide) ?_
      refine lv_goto (tgt := 18) hx hb dX11_nextTo_11 (by decide) ?_
      exact Kr _ _ _ _ _ h.symm hP hS dX11_nextTo_18
theorem mX11_nextTo (l : Launch) (X : gw_X) (s0 : gs_S) (a0 : Int32) (a1 : Int32) : Met l yX11_nextTo wsX11_nextTo rX11_nextTo (gm_Pc X s0 [.int a0, .int a1]) (gm_Qi X s0 (pX11_nextTo a0 a1)) 0 0 (gw_A X) :=
  gm_of RX11 (by decide) rfl rfl (Nat.le_of_ble_eq_true rfl) (fun p e s m below meth c ls C0 hP hl hS => tX11_nextTo C0 a0 a1 s0 rfl (fun H locs ls pc r hr hP hS hd => by subst hr; exact gm_reti C0 hP hS hd) hP hS hl)
def pX11_areNext_J22 (v2 : Int32)  : Option ((Int32 × Int32) ⊕ (Int32 × Int32)) := gv_let (v2 + (1 : Int32)) (fun v3 => some (.inl ((1 : Int32), v3)))
def pX11_areNext_L4 (a0 : Int32) (a1 : Int32) (v1 : Int32) (v2 : Int32) : Option ((Int32 × Int32) ⊕ (Int32 × Int32)) := if (4 : Int32) ≤ v2 then some (.inr (v1, v2)) else if v1 = 0 then if (pX11_nextTo a0 v2) = a1 then pX11_areNext_J22 v2 else gv_let (v2 + (1 : Int32)) (fun v4 => some (.inl ((0 : Int32), v4))) else pX11_areNext_J22 v2
def pX11_areNext (a0 : Int32) (a1 : Int32) : Option (Int32) := gv_bind (gv_loop (fun q => pX11_areNext_L4 a0 a1 q.1 q.2) gv_N ((0 : Int32), (0 : Int32))) (fun q => gv_let q.1 (fun v5 => gv_let q.2 (fun v6 => gv_bo v5 (some v5))))
def rX11_areNext : Room := { frames := 1, cells := 0, slots := 0, locals := 21 }
set_option maxHeartbeats 4000000 in
set_option maxRecDepth 100000 in
theorem tX11_areNext {p : Program} {l : Launch} {e : Env} {s : State} {m : MethodId} {args : Array Value} {below : List Frame} {meth : Method} {c : Code} {X : gw_X} {Q : State → Prop} (C0 : gm_At p s m args meth c X cX11_areNext 4 RX11 wsX11_areNext (some .boolean)) (a0 : Int32) (a1 : Int32) (s0 : gs_S) {z : Int32} (h : pX11_areNext a0 a1 = some z) (Kr : ∀ (H : Heap) (locs : List Loc) (ls : Array Slot) (pc : Nat) (r : Int32), z = r → narrow .boolean (.int r) = .int r → gw_P X s0 H → va_S (gw_A X) s.heap H locs → decode cX11_areNext pc = .ok (.ireturn, 1) → W p l e rX11_areNext s m args below meth c H locs 0 0 Q (F0 m pc ls [.int r])) {H : Heap} {locs : List Loc} {ls : Array Slot} (hP : gw_P X s0 H) (hS : va_S (gw_A X) s.heap H locs) (hl : lv_has ls 4 [(0, .int a0), (1, .int a1)]) : W p l e rX11_areNext s m args below meth c H locs 0 0 Q (F0 m 0 ls []) := by
  obtain ⟨hx, hb, hml, hown, hts, hr, hlocks, hC⟩ := id C0
  unfold pX11_areNext at h
  refine lv_iconst (v := 0) hx hb dX11_areNext_0 (by decide) ?_
  refine lv_istore_n (lv' := [(2, .int (0 : Int32)), (0, .int a0), (1, .int a1)]) hx hb dX11_areNext_1 rfl hl (by decide) rfl (fun ls hl => ?_)
  refine lv_iconst (v := 0) hx hb dX11_areNext_2 (by decide) ?_
  refine lv_istore_n (lv' := [(3, .int (0 : Int32)), (2, .int (0 : Int32)), (0, .int a0), (1, .int a1)]) hx hb dX11_areNext_3 rfl hl (by decide) rfl (fun ls hl => ?_)
  obtain ⟨q7, hq7, h⟩ := gv_bind_e h
  refine gv_loop_ind (Φ := fun q => ∀ (H : Heap) (locs : List Loc) (ls : Array Slot), gw_P X s0 H → va_S (gw_A X) s.heap H locs → lv_has ls 4 [(0, .int a0), (1, .int a1), (2, .int q.1), (3, .int q.2)] → W p l e rX11_areNext s m args below meth c H locs 0 0 Q (F0 m 4 ls [])) (Ψ := fun q => ∀ (H : Heap) (locs : List Loc) (ls : Array Slot), gw_P X s0 H → va_S (gw_A X) s.heap H locs → lv_has ls 4 [(2, .int q.1)] → W p l e rX11_areNext s m args below meth c H locs 0 0 Q (F0 m 34 ls [])) ?_ gv_N ((0 : Int32), (0 : Int32)) q7 hq7 ?_ H locs ls hP hS (lv_sub hl [2, 3, 1, 0] rfl)
  · intro q x h Kc Ke H locs ls hP hS hl
    obtain ⟨v1, v2⟩ := q
    have h : pX11_areNext_L4 a0 a1 v1 v2 = some x := h
    have hP : gw_P X s0 H := hP
    have hl : lv_has ls 4 [(0, .int a0), (1, .int a1), (2, .int v1), (3, .int v2)] := hl
    unfold pX11_areNext_L4 at h
    refine lv_iload_n hx hb dX11_areNext_4 rfl (lv_at hl 3 rfl) ?_
    refine lv_iconst (v := 4) hx hb dX11_areNext_5 (by decide) ?_
    refine lv_icmp_ge (tgt := 34) hx hb dX11_areNext_6 (by decide) (fun hc => ?_) (fun hc => ?_)
    · have h := gv_pos hc h
      exact Ke _ (gv_inj h) _ _ _ hP hS (lv_sub hl [2] rfl)
    · have h := gv_neg hc h
      refine lv_iload_n hx hb dX11_areNext_9 rfl (lv_at hl 2 rfl) ?_
      have J22 : ∀  (H : Heap) (locs : List Loc) (ls : Array Slot), pX11_areNext_J22 v2 = some x → gw_P X s0 H → va_S (gw_A X) s.heap H locs → lv_has ls 4 [(0, .int a0), (1, .int a1), (3, .int v2)] → W p l e rX11_areNext s m args below meth c H locs 0 0 Q (F0 m 22 ls []) := by
        intro  H locs ls h hP hS hl
        unfold pX11_areNext_J22 at h
        refine lv_iconst (v := 1) hx hb dX11_areNext_22 (by decide) ?_
        refine lv_goto (tgt := 27) hx hb dX11_areNext_23 (by decide) ?_
        refine lv_istore_n (lv' := [(2, .int (1 : Int32)), (0, .int a0), (1, .int a1), (3, .int v2)]) hx hb dX11_areNext_27 rfl hl (by decide) rfl (fun ls hl => ?_)
        obtain ⟨v3, ev3⟩ : ∃ y : Int32, y = (v2 + (1 : Int32)) := ⟨_, rfl⟩
        have h := gv_let_e ev3 h
        refine lv_iinc (v := v3) (lv' := [(3, .int v3), (2, .int (1 : Int32)), (0, .int a0), (1, .int a1)]) hx hb dX11_areNext_28 hl (k := 3) rfl (by rw [ev3]; rfl) (by decide) rfl (fun ls hl => ?_)
        refine lv_goto (tgt := 4) hx hb dX11_areNext_31 (by decide) ?_
        exact Kc _ (gv_inj h) _ _ _ hP hS (lv_sub hl [2, 3, 1, 0] rfl)
      refine lv_if_ne (tgt := 22) hx hb dX11_areNext_10 (by decide) (fun hc => ?_) (fun hc => ?_)
      · have h := gv_neg hc h
        exact J22  _ _ _ h hP hS (lv_sub hl [0, 1, 3] rfl)
      · have h := gv_pos hc h
        refine lv_iload_n hx hb dX11_areNext_13 rfl (lv_at hl 0 rfl) ?_
        refine lv_iload_n hx hb dX11_areNext_14 rfl (lv_at hl 3 rfl) ?_
        refine gv_ri (gv_runS (n := 2) (rest := []) C0 (mX11_nextTo l X s0 a0 v2) gX11_areNext_X11_nextTo rfl ⟨rfl, rfl⟩ (by decide +kernel) ⟨by decide, by decide⟩ hP hS rfl hl.1 rfl (Nat.le_of_ble_eq_true rfl) dX11_areNext_15 ⟨Nat.zero_le _, Nat.zero_le _⟩) hS (fun H locs hP hS => ?_)
        refine lv_iload_n hx hb dX11_areNext_18 rfl (lv_at hl 1 rfl) ?_
        refine lv_icmp_ne (tgt := 26) hx hb dX11_areNext_19 (by decide) (fun hc => ?_) (fun hc => ?_)
        · have h := gv_neg hc h
          refine lv_iconst (v := 0) hx hb dX11_areNext_26 (by decide) ?_
          refine lv_istore_n (lv' := [(2, .int (0 : Int32)), (0, .int a0), (1, .int a1), (3, .int v2)]) hx hb dX11_areNext_27 rfl hl (by decide) rfl (fun ls hl => ?_)
          obtain ⟨v4, ev4⟩ : ∃ y : Int32, y = (v2 + (1 : Int32)) := ⟨_, rfl⟩
          have h := gv_let_e ev4 h
          refine lv_iinc (v := v4) (lv' := [(3, .int v4), (2, .int (0 : Int32)), (0, .int a0), (1, .int a1)]) hx hb dX11_areNext_28 hl (k := 3) rfl (by rw [ev4]; rfl) (by decide) rfl (fun ls hl => ?_)
          refine lv_goto (tgt := 4) hx hb dX11_areNext_31 (by decide) ?_
          exact Kc _ (gv_inj h) _ _ _ hP hS (lv_sub hl [2, 3, 1, 0] rfl)
        · have h := gv_pos hc h
          exact J22  _ _ _ h hP hS (lv_sub hl [0, 1, 3] rfl)
  · obtain ⟨v5, v6⟩ := q7
    have h := gv_let_e (x := v5) rfl h
    have h := gv_let_e (x := v6) rfl h
    intro H locs ls hP hS hl
    have hP : gw_P X s0 H := hP
    have hl : lv_has ls 4 [(2, .int v5)] := hl
    refine lv_iload_n hx hb dX11_areNext_34 rfl (lv_at hl 0 rfl) ?_
    obtain ⟨hbo7, h⟩ := gv_bo_e h
    exact Kr _ _ _ _ _ (gv_inj h) hbo7 hP hS dX11_areNext_35
theorem mX11_areNext (l : Launch) (X : gw_X) (s0 : gs_S) (a0 : Int32) (a1 : Int32) {r : Int32} (h : pX11_areNext a0 a1 = some r) : Met l yX11_areNext wsX11_areNext rX11_areNext (gm_Pc X s0 [.int a0, .int a1]) (gm_Qi X s0 r) 0 0 (gw_A X) :=
  gm_of RX11 (by decide) rfl rfl (Nat.le_of_ble_eq_true rfl) (fun p e s m below meth c ls C0 hP hl hS => tX11_areNext C0 a0 a1 s0 h (fun H locs ls pc r hr hn hP hS hd => by subst hr; exact gm_retz hn C0 hP hS hd) hP hS hl)
def pX11_step_J38 (s0 : gs_S) (a1 : Int32)  : Option (Int32 × gs_S) := if (s0.1 63 6) = (24 : Int32) then some ((-3 : Int32), s0) else gv_in (s0.1 63 6) 24 (gv_let (gs_u s0 68 (s0.1 63 6).toNatClampNeg a1) (fun s2 => gv_let (gs_u s2 63 6 ((s2.1 63 6) + (1 : Int32))) (fun s3 => some ((s3.1 63 6), s3))))
def pX11_step (a1 : Int32) (s0 : gs_S) : Option (Int32 × gs_S) := if (pX11_isSquare (a1.toInt64)) = 0 then some ((-1 : Int32), s0) else if (s0.1 63 6) ≤ 0 then pX11_step_J38 s0 a1 else gv_in ((s0.1 63 6) - (1 : Int32)) 24 (gv_bind (pX11_areNext (s0.1 68 ((s0.1 63 6) - (1 : Int32)).toNatClampNeg) a1) (fun v5 => if v5 = 0 then some ((-2 : Int32), s0) else pX11_step_J38 s0 a1))
def rX11_step : Room := { frames := 2, cells := 0, slots := 0, locals := 46 }
set_option maxHeartbeats 4000000 in
set_option maxRecDepth 100000 in
theorem tX11_step {p : Program} {l : Launch} {e : Env} {s : State} {m : MethodId} {args : Array Value} {below : List Frame} {meth : Method} {c : Code} {X : gw_X} {Q : State → Prop} (C0 : gm_At p s m args meth c X cX11_step 2 RX11 wsX11_step (some .int)) (a1 : Int32) (s0 : gs_S) {z : Int32 × gs_S} (h : pX11_step a1 s0 = some z) (Kr : ∀ (H : Heap) (locs : List Loc) (ls : Array Slot) (pc : Nat) (r : Int32) (τ : gs_S), z = (r, τ) → gw_P X τ H → va_S (gw_A X) s.heap H locs → decode cX11_step pc = .ok (.ireturn, 1) → W p l e rX11_step s m args below meth c H locs 0 0 Q (F0 m pc ls [.int r])) {H : Heap} {locs : List Loc} {ls : Array Slot} (hP : gw_P X s0 H) (hS : va_S (gw_A X) s.heap H locs) (hl : lv_has ls 2 [(0, .ref (X.1 63)), (1, .int a1)]) : W p l e rX11_step s m args below meth c H locs 0 0 Q (F0 m 0 ls []) := by
  obtain ⟨hx, hb, hml, hown, hts, hr, hlocks, hC⟩ := id C0
  unfold pX11_step at h
  refine lv_iload_n hx hb dX11_step_0 rfl (lv_at hl 1 rfl) ?_
  refine lv_i2l hx hb dX11_step_1 rfl ?_
  refine gv_ri (gv_runS (n := 1) (rest := []) C0 (mX11_isSquare l X s0 (a1.toInt64)) gX11_step_X11_isSquare rfl ⟨rfl, rfl⟩ (by decide +kernel) ⟨by decide, by decide⟩ hP hS rfl hl.1 rfl (Nat.le_of_ble_eq_true rfl) dX11_step_2 ⟨Nat.zero_le _, Nat.zero_le _⟩) hS (fun H locs hP hS => ?_)
  refine lv_if_ne (tgt := 10) hx hb dX11_step_5 (by decide) (fun hc => ?_) (fun hc => ?_)
  · have h := gv_neg hc h
    refine lv_aload_n hx hb dX11_step_10 rfl (lv_at hl 0 rfl) ?_
    refine gv_get (ref := "IceByEarModel") (C := RX11) (T := TX11) (N := 28) (ci := 11) (v := .int (s0.1 63 6)) C0 (fun _ h9 => List.mem_cons_of_mem _ (List.mem_append_right _ h9)) hP 63 (gw_o11 X s0 gk_63.1) rfl 6 (by decide) (by decide +kernel) rfl rfl dX11_step_11 ?_
    have J38 : ∀  (H : Heap) (locs : List Loc) (ls : Array Slot), pX11_step_J38 s0 a1 = some z → gw_P X s0 H → va_S (gw_A X) s.heap H locs → lv_has ls 2 [(0, .ref (X.1 63)), (1, .int a1)] → W p l e rX11_step s m args below meth c H locs 0 0 Q (F0 m 38 ls []) := by
      intro  H locs ls h hP hS hl
      unfold pX11_step_J38 at h
      refine lv_aload_n hx hb dX11_step_38 rfl (lv_at hl 0 rfl) ?_
      refine gv_get (ref := "IceByEarModel") (C := RX11) (T := TX11) (N := 28) (ci := 11) (v := .int (s0.1 63 6)) C0 (fun _ h9 => List.mem_cons_of_mem _ (List.mem_append_right _ h9)) hP 63 (gw_o11 X s0 gk_63.1) rfl 6 (by decide) (by decide +kernel) rfl rfl dX11_step_39 ?_
      refine lv_bipush (v := 24) hx hb dX11_step_42 (by decide) ?_
      refine lv_icmp_ne (tgt := 50) hx hb dX11_step_44 (by decide) (fun hc => ?_) (fun hc => ?_)
      · have h := gv_neg hc h
        refine lv_aload_n hx hb dX11_step_50 rfl (lv_at hl 0 rfl) ?_
        refine gv_get (ref := "IceByEarModel") (C := RX11) (T := TX11) (N := 28) (ci := 11) (v := .ref (X.1 68)) C0 (fun _ h9 => List.mem_cons_of_mem _ (List.mem_append_right _ h9)) hP 63 (gw_o11 X s0 gk_63.1) rfl 5 (by decide) (by decide +kernel) rfl rfl dX11_step_51 ?_
        refine lv_aload_n hx hb dX11_step_54 rfl (lv_at hl 0 rfl) ?_
        refine gv_get (ref := "IceByEarModel") (C := RX11) (T := TX11) (N := 28) (ci := 11) (v := .int (s0.1 63 6)) C0 (fun _ h9 => List.mem_cons_of_mem _ (List.mem_append_right _ h9)) hP 63 (gw_o11 X s0 gk_63.1) rfl 6 (by decide) (by decide +kernel) rfl rfl dX11_step_55 ?_
        refine lv_iload_n hx hb dX11_step_58 rfl (lv_at hl 1 rfl) ?_
        obtain ⟨hin1, h⟩ := gv_in_e h
        refine gv_iast C0 hP hS 68 gk_68.1 gk_68.2 hin1 dX11_step_59 (fun s2 H locs es2 hP hS => ?_)
        have h := gv_let_e es2 h
        refine lv_aload_n hx hb dX11_step_60 rfl (lv_at hl 0 rfl) ?_
        refine lv_dup hx hb dX11_step_61 rfl ?_
        refine gv_get (ref := "IceByEarModel") (C := RX11) (T := TX11) (N := 28) (ci := 11) (v := .int (s2.1 63 6)) C0 (fun _ h9 => List.mem_cons_of_mem _ (List.mem_append_right _ h9)) hP 63 (gw_o11 X s2 gk_63.1) rfl 6 (by decide) (by decide +kernel) rfl rfl dX11_step_62 ?_
        refine lv_iconst (v := 1) hx hb dX11_step_65 (by decide) ?_
        refine lv_iadd hx hb dX11_step_66 ?_
        refine gv_put (ref := "IceByEarModel") (C := RX11) (T := TX11) (N := 28) (ci := 11) (v := .int ((s2.1 63 6) + (1 : Int32))) C0 (fun _ h9 => List.mem_cons_of_mem _ (List.mem_append_right _ h9)) tyX11 tyX11_ok nmX11 hP hS 63 (gw_o11 X s2 gk_63.1) rfl 6 (by decide) (by decide +kernel) rfl rfl (tyX11_ok 6 (by decide)) rfl rfl (Nat.le_of_ble_eq_true rfl) (gw_s11_6 gk_63.1 ((s2.1 63 6) + (1 : Int32))) dX11_step_67 (fun s3 H locs es3 hP hS => ?_)
        have h := gv_let_e es3 h
        refine lv_aload_n hx hb dX11_step_70 rfl (lv_at hl 0 rfl) ?_
        refine gv_get (ref := "IceByEarModel") (C := RX11) (T := TX11) (N := 28) (ci := 11) (v := .int (s3.1 63 6)) C0 (fun _ h9 => List.mem_cons_of_mem _ (List.mem_append_right _ h9)) hP 63 (gw_o11 X s3 gk_63.1) rfl 6 (by decide) (by decide +kernel) rfl rfl dX11_step_71 ?_
        exact Kr _ _ _ _ _ _ (gv_inj h) hP hS dX11_step_74
      · have h := gv_pos hc h
        refine lv_bipush (v := -3) hx hb dX11_step_47 (by decide) ?_
        exact Kr _ _ _ _ _ _ (gv_inj h) hP hS dX11_step_49
    refine lv_if_le (tgt := 38) hx hb dX11_step_14 (by decide) (fun hc => ?_) (fun hc => ?_)
    · have h := gv_pos hc h
      exact J38  _ _ _ h hP hS (lv_sub hl [0, 1] rfl)
    · have h := gv_neg hc h
      refine lv_aload_n hx hb dX11_step_17 rfl (lv_at hl 0 rfl) ?_
      refine gv_get (ref := "IceByEarModel") (C := RX11) (T := TX11) (N := 28) (ci := 11) (v := .ref (X.1 68)) C0 (fun _ h9 => List.mem_cons_of_mem _ (List.mem_append_right _ h9)) hP 63 (gw_o11 X s0 gk_63.1) rfl 5 (by decide) (by decide +kernel) rfl rfl dX11_step_18 ?_
      refine lv_aload_n hx hb dX11_step_21 rfl (lv_at hl 0 rfl) ?_
      refine gv_get (ref := "IceByEarModel") (C := RX11) (T := TX11) (N := 28) (ci := 11) (v := .int (s0.1 63 6)) C0 (fun _ h9 => List.mem_cons_of_mem _ (List.mem_append_right _ h9)) hP 63 (gw_o11 X s0 gk_63.1) rfl 6 (by decide) (by decide +kernel) rfl rfl dX11_step_22 ?_
      refine lv_iconst (v := 1) hx hb dX11_step_25 (by decide) ?_
      refine lv_isub hx hb dX11_step_26 ?_
      obtain ⟨hin4, h⟩ := gv_in_e h
      refine gv_iald C0 hP 68 gk_68.1 gk_68.2 hin4 dX11_step_27 ?_
      refine lv_iload_n hx hb dX11_step_28 rfl (lv_at hl 1 rfl) ?_
      obtain ⟨v5, hv5, h⟩ := gv_bind_e h
      refine gv_ri (gv_runS (n := 2) (rest := []) C0 (mX11_areNext l X s0 (s0.1 68 ((s0.1 63 6) - (1 : Int32)).toNatClampNeg) a1 hv5) gX11_step_X11_areNext rfl ⟨rfl, rfl⟩ (by decide +kernel) ⟨by decide, by decide⟩ hP hS rfl hl.1 rfl (Nat.le_of_ble_eq_true rfl) dX11_step_29 ⟨Nat.zero_le _, Nat.zero_le _⟩) hS (fun H locs hP hS => ?_)
      refine lv_if_ne (tgt := 38) hx hb dX11_step_32 (by decide) (fun hc => ?_) (fun hc => ?_)
      · have h := gv_neg hc h
        exact J38  _ _ _ h hP hS (lv_sub hl [0, 1] rfl)
      · have h := gv_pos hc h
        refine lv_bipush (v := -2) hx hb dX11_step_35 (by decide) ?_
        exact Kr _ _ _ _ _ _ (gv_inj h) hP hS dX11_step_37
  · have h := gv_pos hc h
    refine lv_iconst (v := -1) hx hb dX11_step_8 (by decide) ?_
    exact Kr _ _ _ _ _ _ (gv_inj h) hP hS dX11_step_9
theorem mX11_step (l : Launch) (X : gw_X) (s0 : gs_S) (a1 : Int32) {r : Int32} {τ : gs_S} (h : pX11_step a1 s0 = some (r, τ)) : Met l yX11_step wsX11_step rX11_step (gm_Pc X s0 [.ref (X.1 63), .int a1]) (gm_Qi X τ r) 0 0 (gw_A X) :=
  gm_of RX11 (by decide) rfl rfl (Nat.le_of_ble_eq_true rfl) (fun p e s m below meth c ls C0 hP hl hS => tX11_step C0 a1 s0 h (fun H locs ls pc r τ hr hP hS hd => by cases hr; exact gm_reti C0 hP hS hd) hP hS hl)
def pX11_back (a1 : Int32) (s0 : gs_S) : Option (Int32 × gs_S) := if (pX11_in (a1.toInt64) (1 : Int64) (24 : Int64)) = 0 then some ((-1 : Int32), s0) else if a1 ≤ (s0.1 63 6) then gv_let (gs_u s0 63 6 ((s0.1 63 6) - a1)) (fun s1 => some ((s1.1 63 6), s1)) else some ((-2 : Int32), s0)
def rX11_back : Room := { frames := 1, cells := 0, slots := 0, locals := 25 }
set_option maxHeartbeats 4000000 in
set_option maxRecDepth 100000 in
theorem tX11_back {p : Program} {l : Launch} {e : Env} {s : State} {m : MethodId} {args : Array Value} {below : List Frame} {meth : Method} {c : Code} {X : gw_X} {Q : State → Prop} (C0 : gm_At p s m args meth c X cX11_back 2 RX11 wsX11_back (some .int)) (a1 : Int32) (s0 : gs_S) {z : Int32 × gs_S} (h : pX11_back a1 s0 = some z) (Kr : ∀ (H : Heap) (locs : List Loc) (ls : Array Slot) (pc : Nat) (r : Int32) (τ : gs_S), z = (r, τ) → gw_P X τ H → va_S (gw_A X) s.heap H locs → decode cX11_back pc = .ok (.ireturn, 1) → W p l e rX11_back s m args below meth c H locs 0 0 Q (F0 m pc ls [.int r])) {H : Heap} {locs : List Loc} {ls : Array Slot} (hP : gw_P X s0 H) (hS : va_S (gw_A X) s.heap H locs) (hl : lv_has ls 2 [(0, .ref (X.1 63)), (1, .int a1)]) : W p l e rX11_back s m args below meth c H locs 0 0 Q (F0 m 0 ls []) := by
  obtain ⟨hx, hb, hml, hown, hts, hr, hlocks, hC⟩ := id C0
  unfold pX11_back at h
  refine lv_iload_n hx hb dX11_back_0 rfl (lv_at hl 1 rfl) ?_
  refine lv_i2l hx hb dX11_back_1 rfl ?_
  refine lv_lconst (v := 1) hx hb dX11_back_2 (by decide) ?_
  refine lv_ldc2 (v := 24) hx hb hown (hts (.constantLong RX11 174 (24)) (by decide +kernel)) dX11_back_3 ?_
  refine gv_ri (gv_runS (n := 3) (rest := []) C0 (mX11_in l X s0 (a1.toInt64) (1 : Int64) (24 : Int64)) gX11_back_X11_in rfl ⟨rfl, rfl⟩ (by decide +kernel) ⟨by decide, by decide⟩ hP hS rfl hl.1 rfl (Nat.le_of_ble_eq_true rfl) dX11_back_6 ⟨Nat.zero_le _, Nat.zero_le _⟩) hS (fun H locs hP hS => ?_)
  refine lv_if_ne (tgt := 14) hx hb dX11_back_9 (by decide) (fun hc => ?_) (fun hc => ?_)
  · have h := gv_neg hc h
    refine lv_iload_n hx hb dX11_back_14 rfl (lv_at hl 1 rfl) ?_
    refine lv_aload_n hx hb dX11_back_15 rfl (lv_at hl 0 rfl) ?_
    refine gv_get (ref := "IceByEarModel") (C := RX11) (T := TX11) (N := 28) (ci := 11) (v := .int (s0.1 63 6)) C0 (fun _ h9 => List.mem_cons_of_mem _ (List.mem_append_right _ h9)) hP 63 (gw_o11 X s0 gk_63.1) rfl 6 (by decide) (by decide +kernel) rfl rfl dX11_back_16 ?_
    refine lv_icmp_le (tgt := 25) hx hb dX11_back_19 (by decide) (fun hc => ?_) (fun hc => ?_)
    · have h := gv_pos hc h
      refine lv_aload_n hx hb dX11_back_25 rfl (lv_at hl 0 rfl) ?_
      refine lv_dup hx hb dX11_back_26 rfl ?_
      refine gv_get (ref := "IceByEarModel") (C := RX11) (T := TX11) (N := 28) (ci := 11) (v := .int (s0.1 63 6)) C0 (fun _ h9 => List.mem_cons_of_mem _ (List.mem_append_right _ h9)) hP 63 (gw_o11 X s0 gk_63.1) rfl 6 (by decide) (by decide +kernel) rfl rfl dX11_back_27 ?_
      refine lv_iload_n hx hb dX11_back_30 rfl (lv_at hl 1 rfl) ?_
      refine lv_isub hx hb dX11_back_31 ?_
      refine gv_put (ref := "IceByEarModel") (C := RX11) (T := TX11) (N := 28) (ci := 11) (v := .int ((s0.1 63 6) - a1)) C0 (fun _ h9 => List.mem_cons_of_mem _ (List.mem_append_right _ h9)) tyX11 tyX11_ok nmX11 hP hS 63 (gw_o11 X s0 gk_63.1) rfl 6 (by decide) (by decide +kernel) rfl rfl (tyX11_ok 6 (by decide)) rfl rfl (Nat.le_of_ble_eq_true rfl) (gw_s11_6 gk_63.1 ((s0.1 63 6) - a1)) dX11_back_32 (fun s1 H locs es1 hP hS => ?_)
      have h := gv_let_e es1 h
      refine lv_aload_n hx hb dX11_back_35 rfl (lv_at hl 0 rfl) ?_
      refine gv_get (ref := "IceByEarModel") (C := RX11) (T := TX11) (N := 28) (ci := 11) (v := .int (s1.1 63 6)) C0 (fun _ h9 => List.mem_cons_of_mem _ (List.mem_append_right _ h9)) hP 63 (gw_o11 X s1 gk_63.1) rfl 6 (by decide) (by decide +kernel) rfl rfl dX11_back_36 ?_
      exact Kr _ _ _ _ _ _ (gv_inj h) hP hS dX11_back_39
    · have h := gv_neg hc h
      refine lv_bipush (v := -2) hx hb dX11_back_22 (by decide) ?_
      exact Kr _ _ _ _ _ _ (gv_inj h) hP hS dX11_back_24
  · have h := gv_pos hc h
    refine lv_iconst (v := -1) hx hb dX11_back_12 (by decide) ?_
    exact Kr _ _ _ _ _ _ (gv_inj h) hP hS dX11_back_13
theorem mX11_back (l : Launch) (X : gw_X) (s0 : gs_S) (a1 : Int32) {r : Int32} {τ : gs_S} (h : pX11_back a1 s0 = some (r, τ)) : Met l yX11_back wsX11_back rX11_back (gm_Pc X s0 [.ref (X.1 63), .int a1]) (gm_Qi X τ r) 0 0 (gw_A X) :=
  gm_of RX11 (by decide) rfl rfl (Nat.le_of_ble_eq_true rfl) (fun p e s m below meth c ls C0 hP hl hS => tX11_back C0 a1 s0 h (fun H locs ls pc r τ hr hP hS hd => by cases hr; exact gm_reti C0 hP hS hd) hP hS hl)
def pX11_minuteAt (a1 : Int32) (a2 : Int32) (s0 : gs_S) : Option (Int32) := gv_in a1 6 (gv_in a1 6 (some ((s0.1 67 a1.toNatClampNeg) + (a2 * ((10 : Int32) - (s0.1 66 a1.toNatClampNeg))))))
def rX11_minuteAt : Room := { frames := 0, cells := 0, slots := 0, locals := 0 }
set_option maxHeartbeats 4000000 in
set_option maxRecDepth 100000 in
theorem tX11_minuteAt {p : Program} {l : Launch} {e : Env} {s : State} {m : MethodId} {args : Array Value} {below : List Frame} {meth : Method} {c : Code} {X : gw_X} {Q : State → Prop} (C0 : gm_At p s m args meth c X cX11_minuteAt 3 RX11 wsX11_minuteAt (some .int)) (a1 : Int32) (a2 : Int32) (s0 : gs_S) {z : Int32} (h : pX11_minuteAt a1 a2 s0 = some z) (Kr : ∀ (H : Heap) (locs : List Loc) (ls : Array Slot) (pc : Nat) (r : Int32), z = r → gw_P X s0 H → va_S (gw_A X) s.heap H locs → decode cX11_minuteAt pc = .ok (.ireturn, 1) → W p l e rX11_minuteAt s m args below meth c H locs 0 0 Q (F0 m pc ls [.int r])) {H : Heap} {locs : List Loc} {ls : Array Slot} (hP : gw_P X s0 H) (hS : va_S (gw_A X) s.heap H locs) (hl : lv_has ls 3 [(0, .ref (X.1 63)), (1, .int a1), (2, .int a2)]) : W p l e rX11_minuteAt s m args below meth c H locs 0 0 Q (F0 m 0 ls []) := by
  obtain ⟨hx, hb, hml, hown, hts, hr, hlocks, hC⟩ := id C0
  unfold pX11_minuteAt at h
  refine lv_aload_n hx hb dX11_minuteAt_0 rfl (lv_at hl 0 rfl) ?_
  refine gv_get (ref := "IceByEarModel") (C := RX11) (T := TX11) (N := 28) (ci := 11) (v := .ref (X.1 67)) C0 (fun _ h9 => List.mem_cons_of_mem _ (List.mem_append_right _ h9)) hP 63 (gw_o11 X s0 gk_63.1) rfl 3 (by decide) (by decide +kernel) rfl rfl dX11_minuteAt_1 ?_
  refine lv_iload_n hx hb dX11_minuteAt_4 rfl (lv_at hl 1 rfl) ?_
  obtain ⟨hin1, h⟩ := gv_in_e h
  refine gv_iald C0 hP 67 gk_67.1 gk_67.2 hin1 dX11_minuteAt_5 ?_
  refine lv_iload_n hx hb dX11_minuteAt_6 rfl (lv_at hl 2 rfl) ?_
  refine lv_bipush (v := 10) hx hb dX11_minuteAt_7 (by decide) ?_
  refine lv_aload_n hx hb dX11_minuteAt_9 rfl (lv_at hl 0 rfl) ?_
  refine gv_get (ref := "IceByEarModel") (C := RX11) (T := TX11) (N := 28) (ci := 11) (v := .ref (X.1 66)) C0 (fun _ h9 => List.mem_cons_of_mem _ (List.mem_append_right _ h9)) hP 63 (gw_o11 X s0 gk_63.1) rfl 2 (by decide) (by decide +kernel) rfl rfl dX11_minuteAt_10 ?_
  refine lv_iload_n hx hb dX11_minuteAt_13 rfl (lv_at hl 1 rfl) ?_
  obtain ⟨hin2, h⟩ := gv_in_e h
  refine gv_iald C0 hP 66 gk_66.1 gk_66.2 hin2 dX11_minuteAt_14 ?_
  refine lv_isub hx hb dX11_minuteAt_15 ?_
  refine lv_imul hx hb dX11_minuteAt_16 ?_
  refine lv_iadd hx hb dX11_minuteAt_17 ?_
  exact Kr _ _ _ _ _ (gv_inj h) hP hS dX11_minuteAt_18
theorem mX11_minuteAt (l : Launch) (X : gw_X) (s0 : gs_S) (a1 : Int32) (a2 : Int32) {r : Int32} (h : pX11_minuteAt a1 a2 s0 = some r) : Met l yX11_minuteAt wsX11_minuteAt rX11_minuteAt (gm_Pc X s0 [.ref (X.1 63), .int a1, .int a2]) (gm_Qi X s0 r) 0 0 (gw_A X) :=
  gm_of RX11 (by decide) rfl rfl (Nat.le_of_ble_eq_true rfl) (fun p e s m below meth c ls C0 hP hl hS => tX11_minuteAt C0 a1 a2 s0 h (fun H locs ls pc r hr hP hS hd => by subst hr; exact gm_reti C0 hP hS hd) hP hS hl)
def pX11_needAt_J66 (v8 : Int32) (v5 : Int32) (v6 : Int32) (s0 : gs_S)  : Option ((Int32 × Int32) ⊕ ((Int32 × Int32) ⊕ (Int32))) := if v8 ≤ 0 then gv_let (v5 + (0 : Int32)) (fun v9 => gv_let (v6 + (1 : Int32)) (fun v10 => some (.inl (v9, v10)))) else gv_in v6 6 (gv_in v6 6 (gv_nz ((10 : Int32) * v8) (gv_let (v5 + (((s0.1 65 v6.toNatClampNeg) * (s0.1 66 v6.toNatClampNeg)) / ((10 : Int32) * v8))) (fun v14 => gv_let (v6 + (1 : Int32)) (fun v15 => some (.inl (v14, v15)))))))
def pX11_needAt_L31 (s0 : gs_S) (a2 : Int32) (v4 : Int32) (a1 : Int32) (v5 : Int32) (v6 : Int32) : Option ((Int32 × Int32) ⊕ ((Int32 × Int32) ⊕ (Int32))) := if (s0.1 63 4) ≤ v6 then some (.inr (.inl (v5, v6))) else gv_bind (pX11_minuteAt v6 a2 s0) (fun v7 => gv_let (v4 - v7) (fun v8 => if v8 = 0 then if a1 ≤ v6 then pX11_needAt_J66 v8 v5 v6 s0 else some (.inr (.inr (-2 : Int32))) else pX11_needAt_J66 v8 v5 v6 s0))
def pX11_needAt (a1 : Int32) (a2 : Int32) (s0 : gs_S) : Option (Int32) := gv_in a1 6 (gv_in a1 6 (gv_let (((s0.1 65 a1.toNatClampNeg) * ((10 : Int32) + (s0.1 66 a1.toNatClampNeg))) / (10 : Int32)) (fun v3 => gv_bind (pX11_minuteAt a1 a2 s0) (fun v4 => gv_bret (gv_loop (fun q => pX11_needAt_L31 s0 a2 v4 a1 q.1 q.2) gv_N (v3, (0 : Int32))) (fun r => r) (fun q => gv_let q.1 (fun v16 => gv_let q.2 (fun v17 => some v16)))))))
def rX11_needAt : Room := { frames := 1, cells := 0, slots := 0, locals := 22 }
set_option maxHeartbeats 4000000 in
set_option maxRecDepth 100000 in
theorem tX11_needAt {p : Program} {l : Launch} {e : Env} {s : State} {m : MethodId} {args : Array Value} {below : List Frame} {meth : Method} {c : Code} {X : gw_X} {Q : State → Prop} (C0 : gm_At p s m args meth c X cX11_needAt 7 RX11 wsX11_needAt (some .int)) (a1 : Int32) (a2 : Int32) (s0 : gs_S) {z : Int32} (h : pX11_needAt a1 a2 s0 = some z) (Kr : ∀ (H : Heap) (locs : List Loc) (ls : Array Slot) (pc : Nat) (r : Int32), z = r → gw_P X s0 H → va_S (gw_A X) s.heap H locs → decode cX11_needAt pc = .ok (.ireturn, 1) → W p l e rX11_needAt s m args below meth c H locs 0 0 Q (F0 m pc ls [.int r])) {H : Heap} {locs : List Loc} {ls : Array Slot} (hP : gw_P X s0 H) (hS : va_S (gw_A X) s.heap H locs) (hl : lv_has ls 7 [(0, .ref (X.1 63)), (1, .int a1), (2, .int a2)]) : W p l e rX11_needAt s m args below meth c H locs 0 0 Q (F0 m 0 ls []) := by
  obtain ⟨hx, hb, hml, hown, hts, hr, hlocks, hC⟩ := id C0
  unfold pX11_needAt at h
  refine lv_aload_n hx hb dX11_needAt_0 rfl (lv_at hl 0 rfl) ?_
  refine gv_get (ref := "IceByEarModel") (C := RX11) (T := TX11) (N := 28) (ci := 11) (v := .ref (X.1 65)) C0 (fun _ h9 => List.mem_cons_of_mem _ (List.mem_append_right _ h9)) hP 63 (gw_o11 X s0 gk_63.1) rfl 1 (by decide) (by decide +kernel) rfl rfl dX11_needAt_1 ?_
  refine lv_iload_n hx hb dX11_needAt_4 rfl (lv_at hl 1 rfl) ?_
  obtain ⟨hin1, h⟩ := gv_in_e h
  refine gv_iald C0 hP 65 gk_65.1 gk_65.2 hin1 dX11_needAt_5 ?_
  refine lv_bipush (v := 10) hx hb dX11_needAt_6 (by decide) ?_
  refine lv_aload_n hx hb dX11_needAt_8 rfl (lv_at hl 0 rfl) ?_
  refine gv_get (ref := "IceByEarModel") (C := RX11) (T := TX11) (N := 28) (ci := 11) (v := .ref (X.1 66)) C0 (fun _ h9 => List.mem_cons_of_mem _ (List.mem_append_right _ h9)) hP 63 (gw_o11 X s0 gk_63.1) rfl 2 (by decide) (by decide +kernel) rfl rfl dX11_needAt_9 ?_
  refine lv_iload_n hx hb dX11_needAt_12 rfl (lv_at hl 1 rfl) ?_
  obtain ⟨hin2, h⟩ := gv_in_e h
  refine gv_iald C0 hP 66 gk_66.1 gk_66.2 hin2 dX11_needAt_13 ?_
  refine lv_iadd hx hb dX11_needAt_14 ?_
  refine lv_imul hx hb dX11_needAt_15 ?_
  refine lv_bipush (v := 10) hx hb dX11_needAt_16 (by decide) ?_
  refine lv_idiv hx hb dX11_needAt_18 (by decide) ?_
  refine lv_topi (fun v3 ev3 => ?_)
  have h := gv_let_e ev3 h
  refine lv_istore_n (lv' := [(3, .int v3), (0, .ref (X.1 63)), (1, .int a1), (2, .int a2)]) hx hb dX11_needAt_19 rfl hl (by decide) rfl (fun ls hl => ?_)
  refine lv_aload_n hx hb dX11_needAt_20 rfl (lv_at hl 1 rfl) ?_
  refine lv_iload_n hx hb dX11_needAt_21 rfl (lv_at hl 2 rfl) ?_
  refine lv_iload_n hx hb dX11_needAt_22 rfl (lv_at hl 3 rfl) ?_
  obtain ⟨v4, hv4, h⟩ := gv_bind_e h
  refine gv_ri (gv_runV (n := 2) (rest := []) C0 (mX11_minuteAt l X s0 a1 a2 hv4) gX11_needAt_X11_minuteAt rfl ⟨rfl, rfl⟩ (by decide +kernel) ⟨by decide, by decide⟩ gk_63.1 (by decide) rfl hP hS rfl hl.1 rfl (Nat.le_of_ble_eq_true rfl) dX11_needAt_23 ⟨Nat.zero_le _, Nat.zero_le _⟩) hS (fun H locs hP hS => ?_)
  refine lv_istore (lv' := [(4, .int v4), (3, .int v3), (0, .ref (X.1 63)), (1, .int a1), (2, .int a2)]) hx hb dX11_needAt_26 hl (by decide) rfl (fun ls hl => ?_)
  refine lv_iconst (v := 0) hx hb dX11_needAt_28 (by decide) ?_
  refine lv_istore (lv' := [(5, .int (0 : Int32)), (4, .int v4), (3, .int v3), (0, .ref (X.1 63)), (1, .int a1), (2, .int a2)]) hx hb dX11_needAt_29 hl (by decide) rfl (fun ls hl => ?_)
  obtain ⟨q17, hq17, h1q17, h2q17⟩ := gv_bret_e h
  refine gv_loop_ind (Φ := fun q => ∀ (H : Heap) (locs : List Loc) (ls : Array Slot), gw_P X s0 H → va_S (gw_A X) s.heap H locs → lv_has ls 7 [(4, .int v4), (0, .ref (X.1 63)), (1, .int a1), (2, .int a2), (3, .int q.1), (5, .int q.2)] → W p l e rX11_needAt s m args below meth c H locs 0 0 Q (F0 m 31 ls [])) (Ψ := fun ex => (∀ q : Int32 × Int32, ex = .inl q → ∀ (H : Heap) (locs : List Loc) (ls : Array Slot), gw_P X s0 H → va_S (gw_A X) s.heap H locs → lv_has ls 7 [(3, .int q.1)] → W p l e rX11_needAt s m args below meth c H locs 0 0 Q (F0 m 105 ls [])) ∧ (∀ r : Int32, ex = .inr r → ∀ (H : Heap) (locs : List Loc) (ls : Array Slot) (pc : Nat), gw_P X s0 H → va_S (gw_A X) s.heap H locs → decode cX11_needAt pc = .ok (.ireturn, 1) → W p l e rX11_needAt s m args below meth c H locs 0 0 Q (F0 m pc ls [.int r]))) ?_ gv_N (v3, (0 : Int32)) q17 hq17 ⟨?_, ?_⟩ H locs ls hP hS (lv_sub hl [1, 3, 4, 5, 2, 0] rfl)
  · intro q x h Kc Ke H locs ls hP hS hl
    obtain ⟨v5, v6⟩ := q
    have h : pX11_needAt_L31 s0 a2 v4 a1 v5 v6 = some x := h
    have hP : gw_P X s0 H := hP
    have hl : lv_has ls 7 [(4, .int v4), (0, .ref (X.1 63)), (1, .int a1), (2, .int a2), (3, .int v5), (5, .int v6)] := hl
    unfold pX11_needAt_L31 at h
    refine lv_iload hx hb dX11_needAt_31 (lv_at hl 5 rfl) ?_
    refine lv_aload_n hx hb dX11_needAt_33 rfl (lv_at hl 1 rfl) ?_
    refine gv_get (ref := "IceByEarModel") (C := RX11) (T := TX11) (N := 28) (ci := 11) (v := .int (s0.1 63 4)) C0 (fun _ h9 => List.mem_cons_of_mem _ (List.mem_append_right _ h9)) hP 63 (gw_o11 X s0 gk_63.1) rfl 4 (by decide) (by decide +kernel) rfl rfl dX11_needAt_34 ?_
    refine lv_icmp_ge (tgt := 105) hx hb dX11_needAt_37 (by decide) (fun hc => ?_) (fun hc => ?_)
    · have h := gv_pos hc h
      exact (Ke _ (gv_inj h)).1 _ rfl _ _ _ hP hS (lv_sub hl [4] rfl)
    · have h := gv_neg hc h
      refine lv_iload hx hb dX11_needAt_40 (lv_at hl 0 rfl) ?_
      refine lv_aload_n hx hb dX11_needAt_42 rfl (lv_at hl 1 rfl) ?_
      refine lv_iload hx hb dX11_needAt_43 (lv_at hl 5 rfl) ?_
      refine lv_iload_n hx hb dX11_needAt_45 rfl (lv_at hl 3 rfl) ?_
      obtain ⟨v7, hv7, h⟩ := gv_bind_e h
      refine gv_ri (gv_runV (n := 2) (rest := [.int v4]) C0 (mX11_minuteAt l X s0 v6 a2 hv7) gX11_needAt_X11_minuteAt rfl ⟨rfl, rfl⟩ (by decide +kernel) ⟨by decide, by decide⟩ gk_63.1 (by decide) rfl hP hS rfl hl.1 rfl (Nat.le_of_ble_eq_true rfl) dX11_needAt_46 ⟨Nat.zero_le _, Nat.zero_le _⟩) hS (fun H locs hP hS => ?_)
      refine lv_isub hx hb dX11_needAt_49 ?_
      refine lv_topi (fun v8 ev8 => ?_)
      have h := gv_let_e ev8 h
      refine lv_istore (lv' := [(6, .int v8), (4, .int v4), (0, .ref (X.1 63)), (1, .int a1), (2, .int a2), (3, .int v5), (5, .int v6)]) hx hb dX11_needAt_50 hl (by decide) rfl (fun ls hl => ?_)
      refine lv_iload hx hb dX11_needAt_52 (lv_at hl 0 rfl) ?_
      have J66 : ∀  (H : Heap) (locs : List Loc) (ls : Array Slot), pX11_needAt_J66 v8 v5 v6 s0 = some x → gw_P X s0 H → va_S (gw_A X) s.heap H locs → lv_has ls 7 [(6, .int v8), (4, .int v4), (0, .ref (X.1 63)), (1, .int a1), (2, .int a2), (3, .int v5), (5, .int v6)] → W p l e rX11_needAt s m args below meth c H locs 0 0 Q (F0 m 66 ls []) := by
        intro  H locs ls h hP hS hl
        unfold pX11_needAt_J66 at h
        refine lv_iload_n hx hb dX11_needAt_66 rfl (lv_at hl 5 rfl) ?_
        refine lv_iload hx hb dX11_needAt_67 (lv_at hl 0 rfl) ?_
        refine lv_if_le (tgt := 96) hx hb dX11_needAt_69 (by decide) (fun hc => ?_) (fun hc => ?_)
        · have h := gv_pos hc h
          refine lv_iconst (v := 0) hx hb dX11_needAt_96 (by decide) ?_
          refine lv_iadd hx hb dX11_needAt_97 ?_
          refine lv_topi (fun v9 ev9 => ?_)
          have h := gv_let_e ev9 h
          refine lv_istore_n (lv' := [(3, .int v9), (6, .int v8), (4, .int v4), (0, .ref (X.1 63)), (1, .int a1), (2, .int a2), (5, .int v6)]) hx hb dX11_needAt_98 rfl hl (by decide) rfl (fun ls hl => ?_)
          obtain ⟨v10, ev10⟩ : ∃ y : Int32, y = (v6 + (1 : Int32)) := ⟨_, rfl⟩
          have h := gv_let_e ev10 h
          refine lv_iinc (v := v10) (lv' := [(5, .int v10), (3, .int v9), (6, .int v8), (4, .int v4), (0, .ref (X.1 63)), (1, .int a1), (2, .int a2)]) hx hb dX11_needAt_99 hl (k := 6) rfl (by rw [ev10]; rfl) (by decide) rfl (fun ls hl => ?_)
          refine lv_goto (tgt := 31) hx hb dX11_needAt_102 (by decide) ?_
          exact Kc _ (gv_inj h) _ _ _ hP hS (lv_sub hl [3, 4, 5, 6, 1, 0] rfl)
        · have h := gv_neg hc h
          refine lv_aload_n hx hb dX11_needAt_72 rfl (lv_at hl 2 rfl) ?_
          refine gv_get (ref := "IceByEarModel") (C := RX11) (T := TX11) (N := 28) (ci := 11) (v := .ref (X.1 65)) C0 (fun _ h9 => List.mem_cons_of_mem _ (List.mem_append_right _ h9)) hP 63 (gw_o11 X s0 gk_63.1) rfl 1 (by decide) (by decide +kernel) rfl rfl dX11_needAt_73 ?_
          refine lv_iload hx hb dX11_needAt_76 (lv_at hl 6 rfl) ?_
          obtain ⟨hin11, h⟩ := gv_in_e h
          refine gv_iald C0 hP 65 gk_65.1 gk_65.2 hin11 dX11_needAt_78 ?_
          refine lv_aload_n hx hb dX11_needAt_79 rfl (lv_at hl 2 rfl) ?_
          refine gv_get (ref := "IceByEarModel") (C := RX11) (T := TX11) (N := 28) (ci := 11) (v := .ref (X.1 66)) C0 (fun _ h9 => List.mem_cons_of_mem _ (List.mem_append_right _ h9)) hP 63 (gw_o11 X s0 gk_63.1) rfl 2 (by decide) (by decide +kernel) rfl rfl dX11_needAt_80 ?_
          refine lv_iload hx hb dX11_needAt_83 (lv_at hl 6 rfl) ?_
          obtain ⟨hin12, h⟩ := gv_in_e h
          refine gv_iald C0 hP 66 gk_66.1 gk_66.2 hin12 dX11_needAt_85 ?_
          refine lv_imul hx hb dX11_needAt_86 ?_
          refine lv_bipush (v := 10) hx hb dX11_needAt_87 (by decide) ?_
          refine lv_iload hx hb dX11_needAt_89 (lv_at hl 0 rfl) ?_
          refine lv_imul hx hb dX11_needAt_91 ?_
          obtain ⟨hnz13, h⟩ := gv_nz_e h
          refine lv_idiv hx hb dX11_needAt_92 hnz13 ?_
          refine lv_goto (tgt := 97) hx hb dX11_needAt_93 (by decide) ?_
          refine lv_iadd hx hb dX11_needAt_97 ?_
          refine lv_topi (fun v14 ev14 => ?_)
          have h := gv_let_e ev14 h
          refine lv_istore_n (lv' := [(3, .int v14), (6, .int v8), (4, .int v4), (0, .ref (X.1 63)), (1, .int a1), (2, .int a2), (5, .int v6)]) hx hb dX11_needAt_98 rfl hl (by decide) rfl (fun ls hl => ?_)
          obtain ⟨v15, ev15⟩ : ∃ y : Int32, y = (v6 + (1 : Int32)) := ⟨_, rfl⟩
          have h := gv_let_e ev15 h
          refine lv_iinc (v := v15) (lv' := [(5, .int v15), (3, .int v14), (6, .int v8), (4, .int v4), (0, .ref (X.1 63)), (1, .int a1), (2, .int a2)]) hx hb dX11_needAt_99 hl (k := 6) rfl (by rw [ev15]; rfl) (by decide) rfl (fun ls hl => ?_)
          refine lv_goto (tgt := 31) hx hb dX11_needAt_102 (by decide) ?_
          exact Kc _ (gv_inj h) _ _ _ hP hS (lv_sub hl [3, 4, 5, 6, 1, 0] rfl)
      refine lv_if_ne (tgt := 66) hx hb dX11_needAt_54 (by decide) (fun hc => ?_) (fun hc => ?_)
      · have h := gv_neg hc h
        exact J66  _ _ _ h hP hS (lv_sub hl [0, 1, 2, 3, 4, 5, 6] rfl)
      · have h := gv_pos hc h
        refine lv_iload hx hb dX11_needAt_57 (lv_at hl 6 rfl) ?_
        refine lv_iload_n hx hb dX11_needAt_59 rfl (lv_at hl 3 rfl) ?_
        refine lv_icmp_ge (tgt := 66) hx hb dX11_needAt_60 (by decide) (fun hc => ?_) (fun hc => ?_)
        · have h := gv_pos hc h
          exact J66  _ _ _ h hP hS (lv_sub hl [0, 1, 2, 3, 4, 5, 6] rfl)
        · have h := gv_neg hc h
          refine lv_bipush (v := -2) hx hb dX11_needAt_63 (by decide) ?_
          exact (Ke _ (gv_inj h)).2 _ rfl _ _ _ _ hP hS dX11_needAt_65
  · intro q hex H locs ls hP hS hl
    have h := h1q17 q hex
    obtain ⟨v16, v17⟩ := q
    have h := gv_let_e (x := v16) rfl h
    have h := gv_let_e (x := v17) rfl h
    have hP : gw_P X s0 H := hP
    have hl : lv_has ls 7 [(3, .int v16)] := hl
    refine lv_iload_n hx hb dX11_needAt_105 rfl (lv_at hl 0 rfl) ?_
    exact Kr _ _ _ _ _ (gv_inj h) hP hS dX11_needAt_106
  · intro r hex H locs ls pc hP hS hd
    exact Kr _ _ _ _ _ (h2q17 r hex).symm hP hS hd
theorem mX11_needAt (l : Launch) (X : gw_X) (s0 : gs_S) (a1 : Int32) (a2 : Int32) {r : Int32} (h : pX11_needAt a1 a2 s0 = some r) : Met l yX11_needAt wsX11_needAt rX11_needAt (gm_Pc X s0 [.ref (X.1 63), .int a1, .int a2]) (gm_Qi X s0 r) 0 0 (gw_A X) :=
  gm_of RX11 (by decide) rfl rfl (Nat.le_of_ble_eq_true rfl) (fun p e s m below meth c ls C0 hP hl hS => tX11_needAt C0 a1 a2 s0 h (fun H locs ls pc r hr hP hS hd => by subst hr; exact gm_reti C0 hP hS hd) hP hS hl)
def pX11_need (a1 : Int32) (a2 : Int32) (s0 : gs_S) : Option (Int32) := if (pX11_in (a1.toInt64) (0 : Int64) (((s0.1 63 4) - (1 : Int32)).toInt64)) = 0 then some (-1 : Int32) else if (pX11_in (a2.toInt64) (0 : Int64) (((s0.1 63 6) - (1 : Int32)).toInt64)) = 0 then some (-1 : Int32) else gv_bind (pX11_needAt a1 a2 s0) (fun v1 => some v1)
def rX11_need : Room := { frames := 2, cells := 0, slots := 0, locals := 48 }
set_option maxHeartbeats 4000000 in
set_option maxRecDepth 100000 in
theorem tX11_need {p : Program} {l : Launch} {e : Env} {s : State} {m : MethodId} {args : Array Value} {below : List Frame} {meth : Method} {c : Code} {X : gw_X} {Q : State → Prop} (C0 : gm_At p s m args meth c X cX11_need 3 RX11 wsX11_need (some .int)) (a1 : Int32) (a2 : Int32) (s0 : gs_S) {z : Int32} (h : pX11_need a1 a2 s0 = some z) (Kr : ∀ (H : Heap) (locs : List Loc) (ls : Array Slot) (pc : Nat) (r : Int32), z = r → gw_P X s0 H → va_S (gw_A X) s.heap H locs → decode cX11_need pc = .ok (.ireturn, 1) → W p l e rX11_need s m args below meth c H locs 0 0 Q (F0 m pc ls [.int r])) {H : Heap} {locs : List Loc} {ls : Array Slot} (hP : gw_P X s0 H) (hS : va_S (gw_A X) s.heap H locs) (hl : lv_has ls 3 [(0, .ref (X.1 63)), (1, .int a1), (2, .int a2)]) : W p l e rX11_need s m args below meth c H locs 0 0 Q (F0 m 0 ls []) := by
  obtain ⟨hx, hb, hml, hown, hts, hr, hlocks, hC⟩ := id C0
  unfold pX11_need at h
  refine lv_iload_n hx hb dX11_need_0 rfl (lv_at hl 1 rfl) ?_
  refine lv_i2l hx hb dX11_need_1 rfl ?_
  refine lv_lconst (v := 0) hx hb dX11_need_2 (by decide) ?_
  refine lv_aload_n hx hb dX11_need_3 rfl (lv_at hl 0 rfl) ?_
  refine gv_get (ref := "IceByEarModel") (C := RX11) (T := TX11) (N := 28) (ci := 11) (v := .int (s0.1 63 4)) C0 (fun _ h9 => List.mem_cons_of_mem _ (List.mem_append_right _ h9)) hP 63 (gw_o11 X s0 gk_63.1) rfl 4 (by decide) (by decide +kernel) rfl rfl dX11_need_4 ?_
  refine lv_iconst (v := 1) hx hb dX11_need_7 (by decide) ?_
  refine lv_isub hx hb dX11_need_8 ?_
  refine lv_i2l hx hb dX11_need_9 rfl ?_
  refine gv_ri (gv_runS (n := 3) (rest := []) C0 (mX11_in l X s0 (a1.toInt64) (0 : Int64) (((s0.1 63 4) - (1 : Int32)).toInt64)) gX11_need_X11_in rfl ⟨rfl, rfl⟩ (by decide +kernel) ⟨by decide, by decide⟩ hP hS rfl hl.1 rfl (Nat.le_of_ble_eq_true rfl) dX11_need_10 ⟨Nat.zero_le _, Nat.zero_le _⟩) hS (fun H locs hP hS => ?_)
  refine lv_if_eq (tgt := 41) hx hb dX11_need_13 (by decide) (fun hc => ?_) (fun hc => ?_)
  · have h := gv_pos hc h
    refine lv_iconst (v := -1) hx hb dX11_need_41 (by decide) ?_
    exact Kr _ _ _ _ _ (gv_inj h) hP hS dX11_need_42
  · have h := gv_neg hc h
    refine lv_iload_n hx hb dX11_need_16 rfl (lv_at hl 2 rfl) ?_
    refine lv_i2l hx hb dX11_need_17 rfl ?_
    refine lv_lconst (v := 0) hx hb dX11_need_18 (by decide) ?_
    refine lv_aload_n hx hb dX11_need_19 rfl (lv_at hl 0 rfl) ?_
    refine gv_get (ref := "IceByEarModel") (C := RX11) (T := TX11) (N := 28) (ci := 11) (v := .int (s0.1 63 6)) C0 (fun _ h9 => List.mem_cons_of_mem _ (List.mem_append_right _ h9)) hP 63 (gw_o11 X s0 gk_63.1) rfl 6 (by decide) (by decide +kernel) rfl rfl dX11_need_20 ?_
    refine lv_iconst (v := 1) hx hb dX11_need_23 (by decide) ?_
    refine lv_isub hx hb dX11_need_24 ?_
    refine lv_i2l hx hb dX11_need_25 rfl ?_
    refine gv_ri (gv_runS (n := 3) (rest := []) C0 (mX11_in l X s0 (a2.toInt64) (0 : Int64) (((s0.1 63 6) - (1 : Int32)).toInt64)) gX11_need_X11_in rfl ⟨rfl, rfl⟩ (by decide +kernel) ⟨by decide, by decide⟩ hP hS rfl hl.1 rfl (Nat.le_of_ble_eq_true rfl) dX11_need_26 ⟨Nat.zero_le _, Nat.zero_le _⟩) hS (fun H locs hP hS => ?_)
    refine lv_if_eq (tgt := 41) hx hb dX11_need_29 (by decide) (fun hc => ?_) (fun hc => ?_)
    · have h := gv_pos hc h
      refine lv_iconst (v := -1) hx hb dX11_need_41 (by decide) ?_
      exact Kr _ _ _ _ _ (gv_inj h) hP hS dX11_need_42
    · have h := gv_neg hc h
      refine lv_aload_n hx hb dX11_need_32 rfl (lv_at hl 0 rfl) ?_
      refine lv_iload_n hx hb dX11_need_33 rfl (lv_at hl 1 rfl) ?_
      refine lv_iload_n hx hb dX11_need_34 rfl (lv_at hl 2 rfl) ?_
      obtain ⟨v1, hv1, h⟩ := gv_bind_e h
      refine gv_ri (gv_runV (n := 2) (rest := []) C0 (mX11_needAt l X s0 a1 a2 hv1) gX11_need_X11_needAt rfl ⟨rfl, rfl⟩ (by decide +kernel) ⟨by decide, by decide⟩ gk_63.1 (by decide) rfl hP hS rfl hl.1 rfl (Nat.le_of_ble_eq_true rfl) dX11_need_35 ⟨Nat.zero_le _, Nat.zero_le _⟩) hS (fun H locs hP hS => ?_)
      refine lv_goto (tgt := 42) hx hb dX11_need_38 (by decide) ?_
      exact Kr _ _ _ _ _ (gv_inj h) hP hS dX11_need_42
theorem mX11_need (l : Launch) (X : gw_X) (s0 : gs_S) (a1 : Int32) (a2 : Int32) {r : Int32} (h : pX11_need a1 a2 s0 = some r) : Met l yX11_need wsX11_need rX11_need (gm_Pc X s0 [.ref (X.1 63), .int a1, .int a2]) (gm_Qi X s0 r) 0 0 (gw_A X) :=
  gm_of RX11 (by decide) rfl rfl (Nat.le_of_ble_eq_true rfl) (fun p e s m below meth c ls C0 hP hl hS => tX11_need C0 a1 a2 s0 h (fun H locs ls pc r hr hP hS hd => by subst hr; exact gm_reti C0 hP hS hd) hP hS hl)
def pX11_reach (a1 : Int32) (a2 : Int32) (s0 : gs_S) : Option (gs_S) := gv_in a1 64 (if 0 ≤ (s0.1 75 a1.toNatClampNeg) then some s0 else gv_in a1 64 (gv_let (gs_u s0 75 a1.toNatClampNeg a2) (fun s3 => gv_in (s3.1 63 18) 64 (gv_let (gs_u s3 74 (s3.1 63 18).toNatClampNeg a1) (fun s5 => gv_let (gs_u s5 63 18 ((s5.1 63 18) + (1 : Int32))) (fun s6 => some s6))))))
def rX11_reach : Room := { frames := 0, cells := 0, slots := 0, locals := 0 }
set_option maxHeartbeats 4000000 in
set_option maxRecDepth 100000 in
theorem tX11_reach {p : Program} {l : Launch} {e : Env} {s : State} {m : MethodId} {args : Array Value} {below : List Frame} {meth : Method} {c : Code} {X : gw_X} {Q : State → Prop} (C0 : gm_At p s m args meth c X cX11_reach 3 RX11 wsX11_reach none) (a1 : Int32) (a2 : Int32) (s0 : gs_S) {z : gs_S} (h : pX11_reach a1 a2 s0 = some z) (Kr : ∀ (H : Heap) (locs : List Loc) (ls : Array Slot) (pc : Nat) (τ : gs_S), z = τ → gw_P X τ H → va_S (gw_A X) s.heap H locs → decode cX11_reach pc = .ok (.return_, 1) → W p l e rX11_reach s m args below meth c H locs 0 0 Q (F0 m pc ls [])) {H : Heap} {locs : List Loc} {ls : Array Slot} (hP : gw_P X s0 H) (hS : va_S (gw_A X) s.heap H locs) (hl : lv_has ls 3 [(0, .ref (X.1 63)), (1, .int a1), (2, .int a2)]) : W p l e rX11_reach s m args below meth c H locs 0 0 Q (F0 m 0 ls []) := by
  obtain ⟨hx, hb, hml, hown, hts, hr, hlocks, hC⟩ := id C0
  unfold pX11_reach at h
  refine lv_aload_n hx hb dX11_reach_0 rfl (lv_at hl 0 rfl) ?_
  refine gv_get (ref := "IceByEarModel") (C := RX11) (T := TX11) (N := 28) (ci := 11) (v := .ref (X.1 75)) C0 (fun _ h9 => List.mem_cons_of_mem _ (List.mem_append_right _ h9)) hP 63 (gw_o11 X s0 gk_63.1) rfl 17 (by decide) (by decide +kernel) rfl rfl dX11_reach_1 ?_
  refine lv_iload_n hx hb dX11_reach_4 rfl (lv_at hl 1 rfl) ?_
  obtain ⟨hin1, h⟩ := gv_in_e h
  refine gv_iald C0 hP 75 gk_75.1 gk_75.2 hin1 dX11_reach_5 ?_
  refine lv_if_ge (tgt := 36) hx hb dX11_reach_6 (by decide) (fun hc => ?_) (fun hc => ?_)
  · have h := gv_pos hc h
    exact Kr _ _ _ _ _ (gv_inj h) hP hS dX11_reach_36
  · have h := gv_neg hc h
    refine lv_aload_n hx hb dX11_reach_9 rfl (lv_at hl 0 rfl) ?_
    refine gv_get (ref := "IceByEarModel") (C := RX11) (T := TX11) (N := 28) (ci := 11) (v := .ref (X.1 75)) C0 (fun _ h9 => List.mem_cons_of_mem _ (List.mem_append_right _ h9)) hP 63 (gw_o11 X s0 gk_63.1) rfl 17 (by decide) (by decide +kernel) rfl rfl dX11_reach_10 ?_
    refine lv_iload_n hx hb dX11_reach_13 rfl (lv_at hl 1 rfl) ?_
    refine lv_iload_n hx hb dX11_reach_14 rfl (lv_at hl 2 rfl) ?_
    obtain ⟨hin2, h⟩ := gv_in_e h
    refine gv_iast C0 hP hS 75 gk_75.1 gk_75.2 hin2 dX11_reach_15 (fun s3 H locs es3 hP hS => ?_)
    have h := gv_let_e es3 h
    refine lv_aload_n hx hb dX11_reach_16 rfl (lv_at hl 0 rfl) ?_
    refine gv_get (ref := "IceByEarModel") (C := RX11) (T := TX11) (N := 28) (ci := 11) (v := .ref (X.1 74)) C0 (fun _ h9 => List.mem_cons_of_mem _ (List.mem_append_right _ h9)) hP 63 (gw_o11 X s3 gk_63.1) rfl 16 (by decide) (by decide +kernel) rfl rfl dX11_reach_17 ?_
    refine lv_aload_n hx hb dX11_reach_20 rfl (lv_at hl 0 rfl) ?_
    refine gv_get (ref := "IceByEarModel") (C := RX11) (T := TX11) (N := 28) (ci := 11) (v := .int (s3.1 63 18)) C0 (fun _ h9 => List.mem_cons_of_mem _ (List.mem_append_right _ h9)) hP 63 (gw_o11 X s3 gk_63.1) rfl 18 (by decide) (by decide +kernel) rfl rfl dX11_reach_21 ?_
    refine lv_iload_n hx hb dX11_reach_24 rfl (lv_at hl 1 rfl) ?_
    obtain ⟨hin4, h⟩ := gv_in_e h
    refine gv_iast C0 hP hS 74 gk_74.1 gk_74.2 hin4 dX11_reach_25 (fun s5 H locs es5 hP hS => ?_)
    have h := gv_let_e es5 h
    refine lv_aload_n hx hb dX11_reach_26 rfl (lv_at hl 0 rfl) ?_
    refine lv_dup hx hb dX11_reach_27 rfl ?_
    refine gv_get (ref := "IceByEarModel") (C := RX11) (T := TX11) (N := 28) (ci := 11) (v := .int (s5.1 63 18)) C0 (fun _ h9 => List.mem_cons_of_mem _ (List.mem_append_right _ h9)) hP 63 (gw_o11 X s5 gk_63.1) rfl 18 (by decide) (by decide +kernel) rfl rfl dX11_reach_28 ?_
    refine lv_iconst (v := 1) hx hb dX11_reach_31 (by decide) ?_
    refine lv_iadd hx hb dX11_reach_32 ?_
    refine gv_put (ref := "IceByEarModel") (C := RX11) (T := TX11) (N := 28) (ci := 11) (v := .int ((s5.1 63 18) + (1 : Int32))) C0 (fun _ h9 => List.mem_cons_of_mem _ (List.mem_append_right _ h9)) tyX11 tyX11_ok nmX11 hP hS 63 (gw_o11 X s5 gk_63.1) rfl 18 (by decide) (by decide +kernel) rfl rfl (tyX11_ok 18 (by decide)) rfl rfl (Nat.le_of_ble_eq_true rfl) (gw_s11_18 gk_63.1 ((s5.1 63 18) + (1 : Int32))) dX11_reach_33 (fun s6 H locs es6 hP hS => ?_)
    have h := gv_let_e es6 h
    exact Kr _ _ _ _ _ (gv_inj h) hP hS dX11_reach_36
theorem mX11_reach (l : Launch) (X : gw_X) (s0 : gs_S) (a1 : Int32) (a2 : Int32) {τ : gs_S} (h : pX11_reach a1 a2 s0 = some τ) : Met l yX11_reach wsX11_reach rX11_reach (gm_Pc X s0 [.ref (X.1 63), .int a1, .int a2]) (gm_Qv X τ) 0 0 (gw_A X) :=
  gm_of RX11 (by decide) rfl rfl (Nat.le_of_ble_eq_true rfl) (fun p e s m below meth c ls C0 hP hl hS => tX11_reach C0 a1 a2 s0 h (fun H locs ls pc τ hr hP hS hd => by subst hr; exact gm_retv C0 hP hS hd) hP hS hl)
def pX11_beginAt_L2  (v1 : Int32) (s2 : gs_S) : Option ((Int32 × gs_S) ⊕ (Int32 × gs_S)) := if (64 : Int32) ≤ v1 then some (.inr (v1, s2)) else gv_in v1 64 (gv_let (gs_u s2 75 v1.toNatClampNeg (-1 : Int32)) (fun s4 => gv_let (v1 + (1 : Int32)) (fun v5 => some (.inl (v5, s4)))))
def pX11_beginAt (a1 : Int32) (s0 : gs_S) : Option (gs_S) := gv_bind (gv_loop (fun q => pX11_beginAt_L2 q.1 q.2) gv_N ((0 : Int32), s0)) (fun q => gv_let q.1 (fun v6 => gv_let q.2 (fun s7 => gv_let (gs_u s7 63 18 (0 : Int32)) (fun s8 => gv_bind (pX11_reach a1 (0 : Int32) s8) (fun s9 => some s9)))))
def rX11_beginAt : Room := { frames := 1, cells := 0, slots := 0, locals := 22 }
set_option maxHeartbeats 4000000 in
set_option maxRecDepth 100000 in
theorem tX11_beginAt {p : Program} {l : Launch} {e : Env} {s : State} {m : MethodId} {args : Array Value} {below : List Frame} {meth : Method} {c : Code} {X : gw_X} {Q : State → Prop} (C0 : gm_At p s m args meth c X cX11_beginAt 3 RX11 wsX11_beginAt none) (a1 : Int32) (s0 : gs_S) {z : gs_S} (h : pX11_beginAt a1 s0 = some z) (Kr : ∀ (H : Heap) (locs : List Loc) (ls : Array Slot) (pc : Nat) (τ : gs_S), z = τ → gw_P X τ H → va_S (gw_A X) s.heap H locs → decode cX11_beginAt pc = .ok (.return_, 1) → W p l e rX11_beginAt s m args below meth c H locs 0 0 Q (F0 m pc ls [])) {H : Heap} {locs : List Loc} {ls : Array Slot} (hP : gw_P X s0 H) (hS : va_S (gw_A X) s.heap H locs) (hl : lv_has ls 3 [(0, .ref (X.1 63)), (1, .int a1)]) : W p l e rX11_beginAt s m args below meth c H locs 0 0 Q (F0 m 0 ls []) := by
  obtain ⟨hx, hb, hml, hown, hts, hr, hlocks, hC⟩ := id C0
  unfold pX11_beginAt at h
  refine lv_iconst (v := 0) hx hb dX11_beginAt_0 (by decide) ?_
  refine lv_istore_n (lv' := [(2, .int (0 : Int32)), (0, .ref (X.1 63)), (1, .int a1)]) hx hb dX11_beginAt_1 rfl hl (by decide) rfl (fun ls hl => ?_)
  obtain ⟨q9, hq9, h⟩ := gv_bind_e h
  refine gv_loop_ind (Φ := fun q => ∀ (H : Heap) (locs : List Loc) (ls : Array Slot), gw_P X q.2 H → va_S (gw_A X) s.heap H locs → lv_has ls 3 [(0, .ref (X.1 63)), (1, .int a1), (2, .int q.1)] → W p l e rX11_beginAt s m args below meth c H locs 0 0 Q (F0 m 2 ls [])) (Ψ := fun q => ∀ (H : Heap) (locs : List Loc) (ls : Array Slot), gw_P X q.2 H → va_S (gw_A X) s.heap H locs → lv_has ls 3 [(0, .ref (X.1 63)), (1, .int a1)] → W p l e rX11_beginAt s m args below meth c H locs 0 0 Q (F0 m 21 ls [])) ?_ gv_N ((0 : Int32), s0) q9 hq9 ?_ H locs ls hP hS (lv_sub hl [1, 2, 0] rfl)
  · intro q x h Kc Ke H locs ls hP hS hl
    obtain ⟨v1, s2⟩ := q
    have h : pX11_beginAt_L2 v1 s2 = some x := h
    have hP : gw_P X s2 H := hP
    have hl : lv_has ls 3 [(0, .ref (X.1 63)), (1, .int a1), (2, .int v1)] := hl
    unfold pX11_beginAt_L2 at h
    refine lv_iload_n hx hb dX11_beginAt_2 rfl (lv_at hl 2 rfl) ?_
    refine lv_bipush (v := 64) hx hb dX11_beginAt_3 (by decide) ?_
    refine lv_icmp_ge (tgt := 21) hx hb dX11_beginAt_5 (by decide) (fun hc => ?_) (fun hc => ?_)
    · have h := gv_pos hc h
      exact Ke _ (gv_inj h) _ _ _ hP hS (lv_sub hl [0, 1] rfl)
    · have h := gv_neg hc h
      refine lv_aload_n hx hb dX11_beginAt_8 rfl (lv_at hl 0 rfl) ?_
      refine gv_get (ref := "IceByEarModel") (C := RX11) (T := TX11) (N := 28) (ci := 11) (v := .ref (X.1 75)) C0 (fun _ h9 => List.mem_cons_of_mem _ (List.mem_append_right _ h9)) hP 63 (gw_o11 X s2 gk_63.1) rfl 17 (by decide) (by decide +kernel) rfl rfl dX11_beginAt_9 ?_
      refine lv_iload_n hx hb dX11_beginAt_12 rfl (lv_at hl 2 rfl) ?_
      refine lv_iconst (v := -1) hx hb dX11_beginAt_13 (by decide) ?_
      obtain ⟨hin3, h⟩ := gv_in_e h
      refine gv_iast C0 hP hS 75 gk_75.1 gk_75.2 hin3 dX11_beginAt_14 (fun s4 H locs es4 hP hS => ?_)
      have h := gv_let_e es4 h
      obtain ⟨v5, ev5⟩ : ∃ y : Int32, y = (v1 + (1 : Int32)) := ⟨_, rfl⟩
      have h := gv_let_e ev5 h
      refine lv_iinc (v := v5) (lv' := [(2, .int v5), (0, .ref (X.1 63)), (1, .int a1)]) hx hb dX11_beginAt_15 hl (k := 2) rfl (by rw [ev5]; rfl) (by decide) rfl (fun ls hl => ?_)
      refine lv_goto (tgt := 2) hx hb dX11_beginAt_18 (by decide) ?_
      exact Kc _ (gv_inj h) _ _ _ hP hS (lv_sub hl [1, 2, 0] rfl)
  · obtain ⟨v6, s7⟩ := q9
    have h := gv_let_e (x := v6) rfl h
    have h := gv_let_e (x := s7) rfl h
    intro H locs ls hP hS hl
    have hP : gw_P X s7 H := hP
    have hl : lv_has ls 3 [(0, .ref (X.1 63)), (1, .int a1)] := hl
    refine lv_aload_n hx hb dX11_beginAt_21 rfl (lv_at hl 0 rfl) ?_
    refine lv_iconst (v := 0) hx hb dX11_beginAt_22 (by decide) ?_
    refine gv_put (ref := "IceByEarModel") (C := RX11) (T := TX11) (N := 28) (ci := 11) (v := .int (0 : Int32)) C0 (fun _ h9 => List.mem_cons_of_mem _ (List.mem_append_right _ h9)) tyX11 tyX11_ok nmX11 hP hS 63 (gw_o11 X s7 gk_63.1) rfl 18 (by decide) (by decide +kernel) rfl rfl (tyX11_ok 18 (by decide)) rfl rfl (Nat.le_of_ble_eq_true rfl) (gw_s11_18 gk_63.1 (0 : Int32)) dX11_beginAt_23 (fun s8 H locs es8 hP hS => ?_)
    have h := gv_let_e es8 h
    refine lv_aload_n hx hb dX11_beginAt_26 rfl (lv_at hl 0 rfl) ?_
    refine lv_iload_n hx hb dX11_beginAt_27 rfl (lv_at hl 1 rfl) ?_
    refine lv_iconst (v := 0) hx hb dX11_beginAt_28 (by decide) ?_
    obtain ⟨s9, hs9, h⟩ := gv_bind_e h
    refine gv_rv (gv_runV (n := 2) (rest := []) C0 (mX11_reach l X s8 a1 (0 : Int32) hs9) gX11_beginAt_X11_reach rfl ⟨rfl, rfl⟩ (by decide +kernel) ⟨by decide, by decide⟩ gk_63.1 (by decide) rfl hP hS rfl hl.1 rfl (Nat.le_of_ble_eq_true rfl) dX11_beginAt_29 ⟨Nat.zero_le _, Nat.zero_le _⟩) hS (fun H locs hP hS => ?_)
    exact Kr _ _ _ _ _ (gv_inj h) hP hS dX11_beginAt_32
theorem mX11_beginAt (l : Launch) (X : gw_X) (s0 : gs_S) (a1 : Int32) {τ : gs_S} (h : pX11_beginAt a1 s0 = some τ) : Met l yX11_beginAt wsX11_beginAt rX11_beginAt (gm_Pc X s0 [.ref (X.1 63), .int a1]) (gm_Qv X τ) 0 0 (gw_A X) :=
  gm_of RX11 (by decide) rfl rfl (Nat.le_of_ble_eq_true rfl) (fun p e s m below meth c ls C0 hP hl hS => tX11_beginAt C0 a1 s0 h (fun H locs ls pc τ hr hP hS hd => by subst hr; exact gm_retv C0 hP hS hd) hP hS hl)
def pX11_crackFrom_L17 (v2 : Int32) (v4 : Int32) (s5 : gs_S) : Option ((Int32 × gs_S) ⊕ (Int32 × gs_S)) := if (4 : Int32) ≤ v4 then some (.inr (v4, s5)) else gv_in v2 64 (gv_let (pX11_nextTo (s5.1 74 v2.toNatClampNeg) v4) (fun v7 => if v7 < 0 then gv_let (v4 + (1 : Int32)) (fun v8 => some (.inl (v8, s5))) else gv_in v7 320 (if (s5.1 69 (0 : Int32).toNatClampNeg) ≤ (s5.1 64 v7.toNatClampNeg) then gv_let (v4 + (1 : Int32)) (fun v11 => some (.inl (v11, s5))) else gv_bind (pX11_reach v7 (1 : Int32) s5) (fun s12 => gv_let (v4 + (1 : Int32)) (fun v13 => some (.inl (v13, s12)))))))
def pX11_crackFrom_L7  (v2 : Int32) (s3 : gs_S) : Option ((Int32 × gs_S) ⊕ (Int32 × gs_S)) := if (s3.1 63 18) ≤ v2 then some (.inr (v2, s3)) else gv_bind (gv_loop (fun q => pX11_crackFrom_L17 v2 q.1 q.2) gv_N ((0 : Int32), s3)) (fun q => gv_let q.1 (fun v14 => gv_let q.2 (fun s15 => gv_let (v2 + (1 : Int32)) (fun v16 => some (.inl (v16, s15))))))
def pX11_crackFrom (a1 : Int32) (s0 : gs_S) : Option (Int32 × gs_S) := gv_bind (pX11_beginAt a1 s0) (fun s1 => gv_bind (gv_loop (fun q => pX11_crackFrom_L7 q.1 q.2) gv_N ((0 : Int32), s1)) (fun q => gv_let q.1 (fun v18 => gv_let q.2 (fun s19 => some ((s19.1 63 18), s19)))))
def rX11_crackFrom : Room := { frames := 2, cells := 0, slots := 0, locals := 44 }
set_option maxHeartbeats 4000000 in
set_option maxRecDepth 100000 in
theorem tX11_crackFrom {p : Program} {l : Launch} {e : Env} {s : State} {m : MethodId} {args : Array Value} {below : List Frame} {meth : Method} {c : Code} {X : gw_X} {Q : State → Prop} (C0 : gm_At p s m args meth c X cX11_crackFrom 5 RX11 wsX11_crackFrom (some .int)) (a1 : Int32) (s0 : gs_S) {z : Int32 × gs_S} (h : pX11_crackFrom a1 s0 = some z) (Kr : ∀ (H : Heap) (locs : List Loc) (ls : Array Slot) (pc : Nat) (r : Int32) (τ : gs_S), z = (r, τ) → gw_P X τ H → va_S (gw_A X) s.heap H locs → decode cX11_crackFrom pc = .ok (.ireturn, 1) → W p l e rX11_crackFrom s m args below meth c H locs 0 0 Q (F0 m pc ls [.int r])) {H : Heap} {locs : List Loc} {ls : Array Slot} (hP : gw_P X s0 H) (hS : va_S (gw_A X) s.heap H locs) (hl : lv_has ls 5 [(0, .ref (X.1 63)), (1, .int a1)]) : W p l e rX11_crackFrom s m args below meth c H locs 0 0 Q (F0 m 0 ls []) := by
  obtain ⟨hx, hb, hml, hown, hts, hr, hlocks, hC⟩ := id C0
  unfold pX11_crackFrom at h
  refine lv_aload_n hx hb dX11_crackFrom_0 rfl (lv_at hl 0 rfl) ?_
  refine lv_iload_n hx hb dX11_crackFrom_1 rfl (lv_at hl 1 rfl) ?_
  obtain ⟨s1, hs1, h⟩ := gv_bind_e h
  refine gv_rv (gv_runV (n := 1) (rest := []) C0 (mX11_beginAt l X s0 a1 hs1) gX11_crackFrom_X11_beginAt rfl ⟨rfl, rfl⟩ (by decide +kernel) ⟨by decide, by decide⟩ gk_63.1 (by decide) rfl hP hS rfl hl.1 rfl (Nat.le_of_ble_eq_true rfl) dX11_crackFrom_2 ⟨Nat.zero_le _, Nat.zero_le _⟩) hS (fun H locs hP hS => ?_)
  refine lv_iconst (v := 0) hx hb dX11_crackFrom_5 (by decide) ?_
  refine lv_istore_n (lv' := [(2, .int (0 : Int32)), (0, .ref (X.1 63)), (1, .int a1)]) hx hb dX11_crackFrom_6 rfl hl (by decide) rfl (fun ls hl => ?_)
  obtain ⟨q19, hq19, h⟩ := gv_bind_e h
  refine gv_loop_ind (Φ := fun q => ∀ (H : Heap) (locs : List Loc) (ls : Array Slot), gw_P X q.2 H → va_S (gw_A X) s.heap H locs → lv_has ls 5 [(0, .ref (X.1 63)), (2, .int q.1)] → W p l e rX11_crackFrom s m args below meth c H locs 0 0 Q (F0 m 7 ls [])) (Ψ := fun q => ∀ (H : Heap) (locs : List Loc) (ls : Array Slot), gw_P X q.2 H → va_S (gw_A X) s.heap H locs → lv_has ls 5 [(0, .ref (X.1 63))] → W p l e rX11_crackFrom s m args below meth c H locs 0 0 Q (F0 m 74 ls [])) ?_ gv_N ((0 : Int32), s1) q19 hq19 ?_ H locs ls hP hS (lv_sub hl [1, 0] rfl)
  · intro q x h Kc Ke H locs ls hP hS hl
    obtain ⟨v2, s3⟩ := q
    have h : pX11_crackFrom_L7 v2 s3 = some x := h
    have hP : gw_P X s3 H := hP
    have hl : lv_has ls 5 [(0, .ref (X.1 63)), (2, .int v2)] := hl
    unfold pX11_crackFrom_L7 at h
    refine lv_iload_n hx hb dX11_crackFrom_7 rfl (lv_at hl 1 rfl) ?_
    refine lv_aload_n hx hb dX11_crackFrom_8 rfl (lv_at hl 0 rfl) ?_
    refine gv_get (ref := "IceByEarModel") (C := RX11) (T := TX11) (N := 28) (ci := 11) (v := .int (s3.1 63 18)) C0 (fun _ h9 => List.mem_cons_of_mem _ (List.mem_append_right _ h9)) hP 63 (gw_o11 X s3 gk_63.1) rfl 18 (by decide) (by decide +kernel) rfl rfl dX11_crackFrom_9 ?_
    refine lv_icmp_ge (tgt := 74) hx hb dX11_crackFrom_12 (by decide) (fun hc => ?_) (fun hc => ?_)
    · have h := gv_pos hc h
      exact Ke _ (gv_inj h) _ _ _ hP hS (lv_sub hl [0] rfl)
    · have h := gv_neg hc h
      refine lv_iconst (v := 0) hx hb dX11_crackFrom_15 (by decide) ?_
      refine lv_istore_n (lv' := [(3, .int (0 : Int32)), (0, .ref (X.1 63)), (2, .int v2)]) hx hb dX11_crackFrom_16 rfl hl (by decide) rfl (fun ls hl => ?_)
      obtain ⟨q16, hq16, h⟩ := gv_bind_e h
      refine gv_loop_ind (Φ := fun q => ∀ (H : Heap) (locs : List Loc) (ls : Array Slot), gw_P X q.2 H → va_S (gw_A X) s.heap H locs → lv_has ls 5 [(0, .ref (X.1 63)), (2, .int v2), (3, .int q.1)] → W p l e rX11_crackFrom s m args below meth c H locs 0 0 Q (F0 m 17 ls [])) (Ψ := fun q => ∀ (H : Heap) (locs : List Loc) (ls : Array Slot), gw_P X q.2 H → va_S (gw_A X) s.heap H locs → lv_has ls 5 [(0, .ref (X.1 63)), (2, .int v2)] → W p l e rX11_crackFrom s m args below meth c H locs 0 0 Q (F0 m 68 ls [])) ?_ gv_N ((0 : Int32), s3) q16 hq16 ?_ H locs ls hP hS (lv_sub hl [1, 2, 0] rfl)
      · intro q x h Kc Ke H locs ls hP hS hl
        obtain ⟨v4, s5⟩ := q
        have h : pX11_crackFrom_L17 v2 v4 s5 = some x := h
        have hP : gw_P X s5 H := hP
        have hl : lv_has ls 5 [(0, .ref (X.1 63)), (2, .int v2), (3, .int v4)] := hl
        unfold pX11_crackFrom_L17 at h
        refine lv_iload_n hx hb dX11_crackFrom_17 rfl (lv_at hl 2 rfl) ?_
        refine lv_iconst (v := 4) hx hb dX11_crackFrom_18 (by decide) ?_
        refine lv_icmp_ge (tgt := 68) hx hb dX11_crackFrom_19 (by decide) (fun hc => ?_) (fun hc => ?_)
        · have h := gv_pos hc h
          exact Ke _ (gv_inj h) _ _ _ hP hS (lv_sub hl [0, 1] rfl)
        · have h := gv_neg hc h
          refine lv_aload_n hx hb dX11_crackFrom_22 rfl (lv_at hl 0 rfl) ?_
          refine gv_get (ref := "IceByEarModel") (C := RX11) (T := TX11) (N := 28) (ci := 11) (v := .ref (X.1 74)) C0 (fun _ h9 => List.mem_cons_of_mem _ (List.mem_append_right _ h9)) hP 63 (gw_o11 X s5 gk_63.1) rfl 16 (by decide) (by decide +kernel) rfl rfl dX11_crackFrom_23 ?_
          refine lv_iload_n hx hb dX11_crackFrom_26 rfl (lv_at hl 1 rfl) ?_
          obtain ⟨hin6, h⟩ := gv_in_e h
          refine gv_iald C0 hP 74 gk_74.1 gk_74.2 hin6 dX11_crackFrom_27 ?_
          refine lv_iload_n hx hb dX11_crackFrom_28 rfl (lv_at hl 2 rfl) ?_
          refine gv_ri (gv_runS (n := 2) (rest := []) C0 (mX11_nextTo l X s5 (s5.1 74 v2.toNatClampNeg) v4) gX11_crackFrom_X11_nextTo rfl ⟨rfl, rfl⟩ (by decide +kernel) ⟨by decide, by decide⟩ hP hS rfl hl.1 rfl (Nat.le_of_ble_eq_true rfl) dX11_crackFrom_29 ⟨Nat.zero_le _, Nat.zero_le _⟩) hS (fun H locs hP hS => ?_)
          refine lv_topi (fun v7 ev7 => ?_)
          have h := gv_let_e ev7 h
          refine lv_istore (lv' := [(4, .int v7), (0, .ref (X.1 63)), (2, .int v2), (3, .int v4)]) hx hb dX11_crackFrom_32 hl (by decide) rfl (fun ls hl => ?_)
          refine lv_iload hx hb dX11_crackFrom_34 (lv_at hl 0 rfl) ?_
          refine lv_if_lt (tgt := 62) hx hb dX11_crackFrom_36 (by decide) (fun hc => ?_) (fun hc => ?_)
          · have h := gv_pos hc h
            obtain ⟨v8, ev8⟩ : ∃ y : Int32, y = (v4 + (1 : Int32)) := ⟨_, rfl⟩
            have h := gv_let_e ev8 h
            refine lv_iinc (v := v8) (lv' := [(3, .int v8), (4, .int v7), (0, .ref (X.1 63)), (2, .int v2)]) hx hb dX11_crackFrom_62 hl (k := 3) rfl (by rw [ev8]; rfl) (by decide) rfl (fun ls hl => ?_)
            refine lv_goto (tgt := 17) hx hb dX11_crackFrom_65 (by decide) ?_
            exact Kc _ (gv_inj h) _ _ _ hP hS (lv_sub hl [2, 3, 0] rfl)
          · have h := gv_neg hc h
            refine lv_aload_n hx hb dX11_crackFrom_39 rfl (lv_at hl 1 rfl) ?_
            refine gv_get (ref := "IceByEarModel") (C := RX11) (T := TX11) (N := 28) (ci := 11) (v := .ref (X.1 64)) C0 (fun _ h9 => List.mem_cons_of_mem _ (List.mem_append_right _ h9)) hP 63 (gw_o11 X s5 gk_63.1) rfl 0 (by decide) (by decide +kernel) rfl rfl dX11_crackFrom_40 ?_
            refine lv_iload hx hb dX11_crackFrom_43 (lv_at hl 0 rfl) ?_
            obtain ⟨hin9, h⟩ := gv_in_e h
            refine gv_iald C0 hP 64 gk_64.1 gk_64.2 hin9 dX11_crackFrom_45 ?_
            refine lv_aload_n hx hb dX11_crackFrom_46 rfl (lv_at hl 1 rfl) ?_
            refine gv_get (ref := "IceByEarModel") (C := RX11) (T := TX11) (N := 28) (ci := 11) (v := .ref (X.1 69)) C0 (fun _ h9 => List.mem_cons_of_mem _ (List.mem_append_right _ h9)) hP 63 (gw_o11 X s5 gk_63.1) rfl 7 (by decide) (by decide +kernel) rfl rfl dX11_crackFrom_47 ?_
            refine lv_iconst (v := 0) hx hb dX11_crackFrom_50 (by decide) ?_
            refine gv_iald C0 hP 69 gk_69.1 gk_69.2 (show ¬ ((0 : Int32) < 0 ∨ 2 ≤ (0 : Int32).toNatClampNeg) by decide) dX11_crackFrom_51 ?_
            refine lv_icmp_ge (tgt := 62) hx hb dX11_crackFrom_52 (by decide) (fun hc => ?_) (fun hc => ?_)
            · have h := gv_pos hc h
              obtain ⟨v11, ev11⟩ : ∃ y : Int32, y = (v4 + (1 : Int32)) := ⟨_, rfl⟩
              have h := gv_let_e ev11 h
              refine lv_iinc (v := v11) (lv' := [(3, .int v11), (4, .int v7), (0, .ref (X.1 63)), (2, .int v2)]) hx hb dX11_crackFrom_62 hl (k := 3) rfl (by rw [ev11]; rfl) (by decide) rfl (fun ls hl => ?_)
              refine lv_goto (tgt := 17) hx hb dX11_crackFrom_65 (by decide) ?_
              exact Kc _ (gv_inj h) _ _ _ hP hS (lv_sub hl [2, 3, 0] rfl)
            · have h := gv_neg hc h
              refine lv_aload_n hx hb dX11_crackFrom_55 rfl (lv_at hl 1 rfl) ?_
              refine lv_iload hx hb dX11_crackFrom_56 (lv_at hl 0 rfl) ?_
              refine lv_iconst (v := 1) hx hb dX11_crackFrom_58 (by decide) ?_
              obtain ⟨s12, hs12, h⟩ := gv_bind_e h
              refine gv_rv (gv_runV (n := 2) (rest := []) C0 (mX11_reach l X s5 v7 (1 : Int32) hs12) gX11_crackFrom_X11_reach rfl ⟨rfl, rfl⟩ (by decide +kernel) ⟨by decide, by decide⟩ gk_63.1 (by decide) rfl hP hS rfl hl.1 rfl (Nat.le_of_ble_eq_true rfl) dX11_crackFrom_59 ⟨Nat.zero_le _, Nat.zero_le _⟩) hS (fun H locs hP hS => ?_)
              obtain ⟨v13, ev13⟩ : ∃ y : Int32, y = (v4 + (1 : Int32)) := ⟨_, rfl⟩
              have h := gv_let_e ev13 h
              refine lv_iinc (v := v13) (lv' := [(3, .int v13), (4, .int v7), (0, .ref (X.1 63)), (2, .int v2)]) hx hb dX11_crackFrom_62 hl (k := 3) rfl (by rw [ev13]; rfl) (by decide) rfl (fun ls hl => ?_)
              refine lv_goto (tgt := 17) hx hb dX11_crackFrom_65 (by decide) ?_
              exact Kc _ (gv_inj h) _ _ _ hP hS (lv_sub hl [2, 3, 0] rfl)
      · obtain ⟨v14, s15⟩ := q16
        have h := gv_let_e (x := v14) rfl h
        have h := gv_let_e (x := s15) rfl h
        intro H locs ls hP hS hl
        have hP : gw_P X s15 H := hP
        have hl : lv_has ls 5 [(0, .ref (X.1 63)), (2, .int v2)] := hl
        obtain ⟨v16, ev16⟩ : ∃ y : Int32, y = (v2 + (1 : Int32)) := ⟨_, rfl⟩
        have h := gv_let_e ev16 h
        refine lv_iinc (v := v16) (lv' := [(2, .int v16), (0, .ref (X.1 63))]) hx hb dX11_crackFrom_68 hl (k := 1) rfl (by rw [ev16]; rfl) (by decide) rfl (fun ls hl => ?_)
        refine lv_goto (tgt := 7) hx hb dX11_crackFrom_71 (by decide) ?_
        exact Kc _ (gv_inj h) _ _ _ hP hS (lv_sub hl [1, 0] rfl)
  · obtain ⟨v18, s19⟩ := q19
    have h := gv_let_e (x := v18) rfl h
    have h := gv_let_e (x := s19) rfl h
    intro H locs ls hP hS hl
    have hP : gw_P X s19 H := hP
    have hl : lv_has ls 5 [(0, .ref (X.1 63))] := hl
    refine lv_aload_n hx hb dX11_crackFrom_74 rfl (lv_at hl 0 rfl) ?_
    refine gv_get (ref := "IceByEarModel") (C := RX11) (T := TX11) (N := 28) (ci := 11) (v := .int (s19.1 63 18)) C0 (fun _ h9 => List.mem_cons_of_mem _ (List.mem_append_right _ h9)) hP 63 (gw_o11 X s19 gk_63.1) rfl 18 (by decide) (by decide +kernel) rfl rfl dX11_crackFrom_75 ?_
    exact Kr _ _ _ _ _ _ (gv_inj h) hP hS dX11_crackFrom_78
theorem mX11_crackFrom (l : Launch) (X : gw_X) (s0 : gs_S) (a1 : Int32) {r : Int32} {τ : gs_S} (h : pX11_crackFrom a1 s0 = some (r, τ)) : Met l yX11_crackFrom wsX11_crackFrom rX11_crackFrom (gm_Pc X s0 [.ref (X.1 63), .int a1]) (gm_Qi X τ r) 0 0 (gw_A X) :=
  gm_of RX11 (by decide) rfl rfl (Nat.le_of_ble_eq_true rfl) (fun p e s m below meth c ls C0 hP hl hS => tX11_crackFrom C0 a1 s0 h (fun H locs ls pc r τ hr hP hS hd => by cases hr; exact gm_reti C0 hP hS hd) hP hS hl)
def pX11_breaks_J108 (v10 : Int32) (s0 : gs_S) (v5 : Int32)  : Option ((Int32 × Int32 × Int32 × Int32) ⊕ (Int32 × Int32 × Int32 × Int32)) := gv_in v10 24 (gv_let (s0.1 68 v10.toNatClampNeg) (fun v15 => gv_bind (pX11_minuteAt v5 v10 s0) (fun v16 => gv_let (v10 + (-1 : Int32)) (fun v17 => some (.inl (v5, v15, v16, v17))))))
def pX11_breaks_J84 (v10 : Int32) (v7 : Int32) (v8 : Int32) (v9 : Int32) (s0 : gs_S) (v5 : Int32) (v12 : Int32) : Option ((Int32 × Int32 × Int32 × Int32) ⊕ (Int32 × Int32 × Int32 × Int32)) := if v12 = 0 then gv_let (v10 + (-1 : Int32)) (fun v13 => some (.inl (v7, v8, v9, v13))) else if v7 < 0 then pX11_breaks_J108 v10 s0 v5 else gv_bind (pX11_minuteAt v5 v10 s0) (fun v18 => if v9 < v18 then gv_let (v10 + (-1 : Int32)) (fun v19 => some (.inl (v7, v8, v9, v19))) else pX11_breaks_J108 v10 s0 v5)
def pX11_breaks_J79 (v10 : Int32) (v7 : Int32) (v8 : Int32) (v9 : Int32) (s0 : gs_S) (v5 : Int32)  : Option ((Int32 × Int32 × Int32 × Int32) ⊕ (Int32 × Int32 × Int32 × Int32)) := pX11_breaks_J84 v10 v7 v8 v9 s0 v5 (1 : Int32)
def pX11_breaks_L43 (v5 : Int32) (s0 : gs_S) (v7 : Int32) (v8 : Int32) (v9 : Int32) (v10 : Int32) : Option ((Int32 × Int32 × Int32 × Int32) ⊕ (Int32 × Int32 × Int32 × Int32)) := if v10 < 0 then some (.inr (v7, v8, v9, v10)) else gv_bind (pX11_needAt v5 v10 s0) (fun v11 => if v11 < 0 then pX11_breaks_J79 v10 v7 v8 v9 s0 v5 else gv_in v10 24 (gv_bind (pX11_bears (s0.1 68 v10.toNatClampNeg) s0) (fun v21 => if v11 ≤ v21 then pX11_breaks_J84 v10 v7 v8 v9 s0 v5 (0 : Int32) else pX11_breaks_J79 v10 v7 v8 v9 s0 v5)))
def pX11_breaks_L30 (s0 : gs_S) (v2 : Int32) (v3 : Int32) (v4 : Int32) (v5 : Int32) : Option ((Int32 × Int32 × Int32 × Int32) ⊕ (Int32 × Int32 × Int32 × Int32)) := if v5 < 0 then some (.inr (v2, v3, v4, v5)) else gv_let ((s0.1 63 6) - (1 : Int32)) (fun v6 => gv_bind (gv_loop (fun q => pX11_breaks_L43 v5 s0 q.1 q.2.1 q.2.2.1 q.2.2.2) gv_N (v2, v3, v4, v6)) (fun q => gv_let q.1 (fun v22 => gv_let q.2.1 (fun v23 => gv_let q.2.2.1 (fun v24 => gv_let q.2.2.2 (fun v25 => gv_let (v5 + (-1 : Int32)) (fun v26 => some (.inl (v22, v23, v24, v26)))))))))
def pX11_breaks (a1 : Int32) (s0 : gs_S) : Option (Int32 × gs_S) := if (pX11_in (a1.toInt64) (0 : Int64) (3 : Int64)) = 0 then some ((-1 : Int32), s0) else gv_let ((s0.1 63 4) - (1 : Int32)) (fun v1 => gv_bind (gv_loop (fun q => pX11_breaks_L30 s0 q.1 q.2.1 q.2.2.1 q.2.2.2) gv_N ((-4 : Int32), (0 : Int32), (0 : Int32), v1)) (fun q => gv_let q.1 (fun v28 => gv_let q.2.1 (fun v29 => gv_let q.2.2.1 (fun v30 => gv_let q.2.2.2 (fun v31 => if 0 ≤ v28 then if a1 = 0 then some (v28, s0) else if a1 = (1 : Int32) then some (v29, s0) else if a1 = (2 : Int32) then some (v30, s0) else gv_bind2 (pX11_crackFrom v29 s0) (fun v32 s33 => some (v32, s33)) else some ((-4 : Int32), s0)))))))
def rX11_breaks : Room := { frames := 3, cells := 0, slots := 0, locals := 68 }
set_option maxHeartbeats 4000000 in
set_option maxRecDepth 100000 in
theorem tX11_breaks {p : Program} {l : Launch} {e : Env} {s : State} {m : MethodId} {args : Array Value} {below : List Frame} {meth : Method} {c : Code} {X : gw_X} {Q : State → Prop} (C0 : gm_At p s m args meth c X cX11_breaks 9 RX11 wsX11_breaks (some .int)) (a1 : Int32) (s0 : gs_S) {z : Int32 × gs_S} (h : pX11_breaks a1 s0 = some z) (Kr : ∀ (H : Heap) (locs : List Loc) (ls : Array Slot) (pc : Nat) (r : Int32) (τ : gs_S), z = (r, τ) → gw_P X τ H → va_S (gw_A X) s.heap H locs → decode cX11_breaks pc = .ok (.ireturn, 1) → W p l e rX11_breaks s m args below meth c H locs 0 0 Q (F0 m pc ls [.int r])) {H : Heap} {locs : List Loc} {ls : Array Slot} (hP : gw_P X s0 H) (hS : va_S (gw_A X) s.heap H locs) (hl : lv_has ls 9 [(0, .ref (X.1 63)), (1, .int a1)]) : W p l e rX11_breaks s m args below meth c H locs 0 0 Q (F0 m 0 ls []) := by
  obtain ⟨hx, hb, hml, hown, hts, hr, hlocks, hC⟩ := id C0
  unfold pX11_breaks at h
  refine lv_iload_n hx hb dX11_breaks_0 rfl (lv_at hl 1 rfl) ?_
  refine lv_i2l hx hb dX11_breaks_1 rfl ?_
  refine lv_lconst (v := 0) hx hb dX11_breaks_2 (by decide) ?_
  refine lv_ldc2 (v := 3) hx hb hown (hts (.constantLong RX11 182 (3)) (by decide +kernel)) dX11_breaks_3 ?_
  refine gv_ri (gv_runS (n := 3) (rest := []) C0 (mX11_in l X s0 (a1.toInt64) (0 : Int64) (3 : Int64)) gX11_breaks_X11_in rfl ⟨rfl, rfl⟩ (by decide +kernel) ⟨by decide, by decide⟩ hP hS rfl hl.1 rfl (Nat.le_of_ble_eq_true rfl) dX11_breaks_6 ⟨Nat.zero_le _, Nat.zero_le _⟩) hS (fun H locs hP hS => ?_)
  refine lv_if_ne (tgt := 14) hx hb dX11_breaks_9 (by decide) (fun hc => ?_) (fun hc => ?_)
  · have h := gv_neg hc h
    refine lv_bipush (v := -4) hx hb dX11_breaks_14 (by decide) ?_
    refine lv_istore_n (lv' := [(2, .int (-4 : Int32)), (0, .ref (X.1 63)), (1, .int a1)]) hx hb dX11_breaks_16 rfl hl (by decide) rfl (fun ls hl => ?_)
    refine lv_iconst (v := 0) hx hb dX11_breaks_17 (by decide) ?_
    refine lv_istore_n (lv' := [(3, .int (0 : Int32)), (2, .int (-4 : Int32)), (0, .ref (X.1 63)), (1, .int a1)]) hx hb dX11_breaks_18 rfl hl (by decide) rfl (fun ls hl => ?_)
    refine lv_iconst (v := 0) hx hb dX11_breaks_19 (by decide) ?_
    refine lv_istore (lv' := [(4, .int (0 : Int32)), (3, .int (0 : Int32)), (2, .int (-4 : Int32)), (0, .ref (X.1 63)), (1, .int a1)]) hx hb dX11_breaks_20 hl (by decide) rfl (fun ls hl => ?_)
    refine lv_aload_n hx hb dX11_breaks_22 rfl (lv_at hl 3 rfl) ?_
    refine gv_get (ref := "IceByEarModel") (C := RX11) (T := TX11) (N := 28) (ci := 11) (v := .int (s0.1 63 4)) C0 (fun _ h9 => List.mem_cons_of_mem _ (List.mem_append_right _ h9)) hP 63 (gw_o11 X s0 gk_63.1) rfl 4 (by decide) (by decide +kernel) rfl rfl dX11_breaks_23 ?_
    refine lv_iconst (v := 1) hx hb dX11_breaks_26 (by decide) ?_
    refine lv_isub hx hb dX11_breaks_27 ?_
    refine lv_topi (fun v1 ev1 => ?_)
    have h := gv_let_e ev1 h
    refine lv_istore (lv' := [(5, .int v1), (4, .int (0 : Int32)), (3, .int (0 : Int32)), (2, .int (-4 : Int32)), (0, .ref (X.1 63)), (1, .int a1)]) hx hb dX11_breaks_28 hl (by decide) rfl (fun ls hl => ?_)
    obtain ⟨q33, hq33, h⟩ := gv_bind_e h
    refine gv_loop_ind (Φ := fun q => ∀ (H : Heap) (locs : List Loc) (ls : Array Slot), gw_P X s0 H → va_S (gw_A X) s.heap H locs → lv_has ls 9 [(0, .ref (X.1 63)), (1, .int a1), (2, .int q.1), (3, .int q.2.1), (4, .int q.2.2.1), (5, .int q.2.2.2)] → W p l e rX11_breaks s m args below meth c H locs 0 0 Q (F0 m 30 ls [])) (Ψ := fun q => ∀ (H : Heap) (locs : List Loc) (ls : Array Slot), gw_P X s0 H → va_S (gw_A X) s.heap H locs → lv_has ls 9 [(0, .ref (X.1 63)), (1, .int a1), (2, .int q.1), (3, .int q.2.1), (4, .int q.2.2.1)] → W p l e rX11_breaks s m args below meth c H locs 0 0 Q (F0 m 141 ls [])) ?_ gv_N ((-4 : Int32), (0 : Int32), (0 : Int32), v1) q33 hq33 ?_ H locs ls hP hS (lv_sub hl [4, 5, 3, 2, 1, 0] rfl)
    · intro q x h Kc Ke H locs ls hP hS hl
      obtain ⟨v2, v3, v4, v5⟩ := q
      have h : pX11_breaks_L30 s0 v2 v3 v4 v5 = some x := h
      have hP : gw_P X s0 H := hP
      have hl : lv_has ls 9 [(0, .ref (X.1 63)), (1, .int a1), (2, .int v2), (3, .int v3), (4, .int v4), (5, .int v5)] := hl
      unfold pX11_breaks_L30 at h
      refine lv_iload hx hb dX11_breaks_30 (lv_at hl 5 rfl) ?_
      refine lv_if_lt (tgt := 141) hx hb dX11_breaks_32 (by decide) (fun hc => ?_) (fun hc => ?_)
      · have h := gv_pos hc h
        exact Ke _ (gv_inj h) _ _ _ hP hS (lv_sub hl [0, 1, 2, 3, 4] rfl)
      · have h := gv_neg hc h
        refine lv_aload_n hx hb dX11_breaks_35 rfl (lv_at hl 0 rfl) ?_
        refine gv_get (ref := "IceByEarModel") (C := RX11) (T := TX11) (N := 28) (ci := 11) (v := .int (s0.1 63 6)) C0 (fun _ h9 => List.mem_cons_of_mem _ (List.mem_append_right _ h9)) hP 63 (gw_o11 X s0 gk_63.1) rfl 6 (by decide) (by decide +kernel) rfl rfl dX11_breaks_36 ?_
        refine lv_iconst (v := 1) hx hb dX11_breaks_39 (by decide) ?_
        refine lv_isub hx hb dX11_breaks_40 ?_
        refine lv_topi (fun v6 ev6 => ?_)
        have h := gv_let_e ev6 h
        refine lv_istore (lv' := [(6, .int v6), (0, .ref (X.1 63)), (1, .int a1), (2, .int v2), (3, .int v3), (4, .int v4), (5, .int v5)]) hx hb dX11_breaks_41 hl (by decide) rfl (fun ls hl => ?_)
        obtain ⟨q26, hq26, h⟩ := gv_bind_e h
        refine gv_loop_ind (Φ := fun q => ∀ (H : Heap) (locs : List Loc) (ls : Array Slot), gw_P X s0 H → va_S (gw_A X) s.heap H locs → lv_has ls 9 [(0, .ref (X.1 63)), (1, .int a1), (5, .int v5), (2, .int q.1), (3, .int q.2.1), (4, .int q.2.2.1), (6, .int q.2.2.2)] → W p l e rX11_breaks s m args below meth c H locs 0 0 Q (F0 m 43 ls [])) (Ψ := fun q => ∀ (H : Heap) (locs : List Loc) (ls : Array Slot), gw_P X s0 H → va_S (gw_A X) s.heap H locs → lv_has ls 9 [(0, .ref (X.1 63)), (1, .int a1), (5, .int v5), (2, .int q.1), (3, .int q.2.1), (4, .int q.2.2.1)] → W p l e rX11_breaks s m args below meth c H locs 0 0 Q (F0 m 135 ls [])) ?_ gv_N (v2, v3, v4, v6) q26 hq26 ?_ H locs ls hP hS (lv_sub hl [1, 2, 6, 3, 4, 5, 0] rfl)
        · intro q x h Kc Ke H locs ls hP hS hl
          obtain ⟨v7, v8, v9, v10⟩ := q
          have h : pX11_breaks_L43 v5 s0 v7 v8 v9 v10 = some x := h
          have hP : gw_P X s0 H := hP
          have hl : lv_has ls 9 [(0, .ref (X.1 63)), (1, .int a1), (5, .int v5), (2, .int v7), (3, .int v8), (4, .int v9), (6, .int v10)] := hl
          unfold pX11_breaks_L43 at h
          refine lv_iload hx hb dX11_breaks_43 (lv_at hl 6 rfl) ?_
          refine lv_if_lt (tgt := 135) hx hb dX11_breaks_45 (by decide) (fun hc => ?_) (fun hc => ?_)
          · have h := gv_pos hc h
            exact Ke _ (gv_inj h) _ _ _ hP hS (lv_sub hl [0, 1, 2, 3, 4, 5] rfl)
          · have h := gv_neg hc h
            refine lv_aload_n hx hb dX11_breaks_48 rfl (lv_at hl 0 rfl) ?_
            refine lv_iload hx hb dX11_breaks_49 (lv_at hl 2 rfl) ?_
            refine lv_iload hx hb dX11_breaks_51 (lv_at hl 6 rfl) ?_
            obtain ⟨v11, hv11, h⟩ := gv_bind_e h
            refine gv_ri (gv_runV (n := 2) (rest := []) C0 (mX11_needAt l X s0 v5 v10 hv11) gX11_breaks_X11_needAt rfl ⟨rfl, rfl⟩ (by decide +kernel) ⟨by decide, by decide⟩ gk_63.1 (by decide) rfl hP hS rfl hl.1 rfl (Nat.le_of_ble_eq_true rfl) dX11_breaks_53 ⟨Nat.zero_le _, Nat.zero_le _⟩) hS (fun H locs hP hS => ?_)
            refine lv_istore (lv' := [(7, .int v11), (0, .ref (X.1 63)), (1, .int a1), (5, .int v5), (2, .int v7), (3, .int v8), (4, .int v9), (6, .int v10)]) hx hb dX11_breaks_56 hl (by decide) rfl (fun ls hl => ?_)
            refine lv_iload hx hb dX11_breaks_58 (lv_at hl 0 rfl) ?_
            have J84 : ∀ (v12 : Int32) (H : Heap) (locs : List Loc) (ls : Array Slot), pX11_breaks_J84 v10 v7 v8 v9 s0 v5 v12 = some x → gw_P X s0 H → va_S (gw_A X) s.heap H locs → lv_has ls 9 [(0, .ref (X.1 63)), (1, .int a1), (5, .int v5), (2, .int v7), (3, .int v8), (4, .int v9), (6, .int v10)] → W p l e rX11_breaks s m args below meth c H locs 0 0 Q (F0 m 84 ls [.int v12]) := by
              intro v12 H locs ls h hP hS hl
              unfold pX11_breaks_J84 at h
              refine lv_istore (lv' := [(8, .int v12), (0, .ref (X.1 63)), (1, .int a1), (5, .int v5), (2, .int v7), (3, .int v8), (4, .int v9), (6, .int v10)]) hx hb dX11_breaks_84 hl (by decide) rfl (fun ls hl => ?_)
              refine lv_iload hx hb dX11_breaks_86 (lv_at hl 0 rfl) ?_
              refine lv_if_eq (tgt := 129) hx hb dX11_breaks_88 (by decide) (fun hc => ?_) (fun hc => ?_)
              · have h := gv_pos hc h
                obtain ⟨v13, ev13⟩ : ∃ y : Int32, y = (v10 + (-1 : Int32)) := ⟨_, rfl⟩
                have h := gv_let_e ev13 h
                refine lv_iinc (v := v13) (lv' := [(6, .int v13), (8, .int v12), (0, .ref (X.1 63)), (1, .int a1), (5, .int v5), (2, .int v7), (3, .int v8), (4, .int v9)]) hx hb dX11_breaks_129 hl (k := 7) rfl (by rw [ev13]; rfl) (by decide) rfl (fun ls hl => ?_)
                refine lv_goto (tgt := 43) hx hb dX11_breaks_132 (by decide) ?_
                exact Kc _ (gv_inj h) _ _ _ hP hS (lv_sub hl [2, 3, 4, 5, 6, 7, 0] rfl)
              · have h := gv_neg hc h
                refine lv_iload_n hx hb dX11_breaks_91 rfl (lv_at hl 4 rfl) ?_
                have J108 : ∀  (H : Heap) (locs : List Loc) (ls : Array Slot), pX11_breaks_J108 v10 s0 v5 = some x → gw_P X s0 H → va_S (gw_A X) s.heap H locs → lv_has ls 9 [(0, .ref (X.1 63)), (1, .int a1), (5, .int v5), (6, .int v10)] → W p l e rX11_breaks s m args below meth c H locs 0 0 Q (F0 m 108 ls []) := by
                  intro  H locs ls h hP hS hl
                  unfold pX11_breaks_J108 at h
                  refine lv_iload hx hb dX11_breaks_108 (lv_at hl 2 rfl) ?_
                  refine lv_istore_n (lv' := [(2, .int v5), (0, .ref (X.1 63)), (1, .int a1), (5, .int v5), (6, .int v10)]) hx hb dX11_breaks_110 rfl hl (by decide) rfl (fun ls hl => ?_)
                  refine lv_aload_n hx hb dX11_breaks_111 rfl (lv_at hl 1 rfl) ?_
                  refine gv_get (ref := "IceByEarModel") (C := RX11) (T := TX11) (N := 28) (ci := 11) (v := .ref (X.1 68)) C0 (fun _ h9 => List.mem_cons_of_mem _ (List.mem_append_right _ h9)) hP 63 (gw_o11 X s0 gk_63.1) rfl 5 (by decide) (by decide +kernel) rfl rfl dX11_breaks_112 ?_
                  refine lv_iload hx hb dX11_breaks_115 (lv_at hl 4 rfl) ?_
                  obtain ⟨hin14, h⟩ := gv_in_e h
                  refine gv_iald C0 hP 68 gk_68.1 gk_68.2 hin14 dX11_breaks_117 ?_
                  refine lv_topi (fun v15 ev15 => ?_)
                  have h := gv_let_e ev15 h
                  refine lv_istore_n (lv' := [(3, .int v15), (2, .int v5), (0, .ref (X.1 63)), (1, .int a1), (5, .int v5), (6, .int v10)]) hx hb dX11_breaks_118 rfl hl (by decide) rfl (fun ls hl => ?_)
                  refine lv_aload_n hx hb dX11_breaks_119 rfl (lv_at hl 2 rfl) ?_
                  refine lv_iload hx hb dX11_breaks_120 (lv_at hl 4 rfl) ?_
                  refine lv_iload hx hb dX11_breaks_122 (lv_at hl 5 rfl) ?_
                  obtain ⟨v16, hv16, h⟩ := gv_bind_e h
                  refine gv_ri (gv_runV (n := 2) (rest := []) C0 (mX11_minuteAt l X s0 v5 v10 hv16) gX11_breaks_X11_minuteAt rfl ⟨rfl, rfl⟩ (by decide +kernel) ⟨by decide, by decide⟩ gk_63.1 (by decide) rfl hP hS rfl hl.1 rfl (Nat.le_of_ble_eq_true rfl) dX11_breaks_124 ⟨Nat.zero_le _, Nat.zero_le _⟩) hS (fun H locs hP hS => ?_)
                  refine lv_istore (lv' := [(4, .int v16), (3, .int v15), (2, .int v5), (0, .ref (X.1 63)), (1, .int a1), (5, .int v5), (6, .int v10)]) hx hb dX11_breaks_127 hl (by decide) rfl (fun ls hl => ?_)
                  obtain ⟨v17, ev17⟩ : ∃ y : Int32, y = (v10 + (-1 : Int32)) := ⟨_, rfl⟩
                  have h := gv_let_e ev17 h
                  refine lv_iinc (v := v17) (lv' := [(6, .int v17), (4, .int v16), (3, .int v15), (2, .int v5), (0, .ref (X.1 63)), (1, .int a1), (5, .int v5)]) hx hb dX11_breaks_129 hl (k := 6) rfl (by rw [ev17]; rfl) (by decide) rfl (fun ls hl => ?_)
                  refine lv_goto (tgt := 43) hx hb dX11_breaks_132 (by decide) ?_
                  exact Kc _ (gv_inj h) _ _ _ hP hS (lv_sub hl [4, 5, 6, 3, 2, 1, 0] rfl)
                refine lv_if_lt (tgt := 108) hx hb dX11_breaks_92 (by decide) (fun hc => ?_) (fun hc => ?_)
                · have h := gv_pos hc h
                  exact J108  _ _ _ h hP hS (lv_sub hl [1, 2, 3, 7] rfl)
                · have h := gv_neg hc h
                  refine lv_aload_n hx hb dX11_breaks_95 rfl (lv_at hl 1 rfl) ?_
                  refine lv_iload hx hb dX11_breaks_96 (lv_at hl 3 rfl) ?_
                  refine lv_iload hx hb dX11_breaks_98 (lv_at hl 7 rfl) ?_
                  obtain ⟨v18, hv18, h⟩ := gv_bind_e h
                  refine gv_ri (gv_runV (n := 2) (rest := []) C0 (mX11_minuteAt l X s0 v5 v10 hv18) gX11_breaks_X11_minuteAt rfl ⟨rfl, rfl⟩ (by decide +kernel) ⟨by decide, by decide⟩ gk_63.1 (by decide) rfl hP hS rfl hl.1 rfl (Nat.le_of_ble_eq_true rfl) dX11_breaks_100 ⟨Nat.zero_le _, Nat.zero_le _⟩) hS (fun H locs hP hS => ?_)
                  refine lv_iload hx hb dX11_breaks_103 (lv_at hl 6 rfl) ?_
                  refine lv_icmp_gt (tgt := 129) hx hb dX11_breaks_105 (by decide) (fun hc => ?_) (fun hc => ?_)
                  · have h := gv_pos hc h
                    obtain ⟨v19, ev19⟩ : ∃ y : Int32, y = (v10 + (-1 : Int32)) := ⟨_, rfl⟩
                    have h := gv_let_e ev19 h
                    refine lv_iinc (v := v19) (lv' := [(6, .int v19), (8, .int v12), (0, .ref (X.1 63)), (1, .int a1), (5, .int v5), (2, .int v7), (3, .int v8), (4, .int v9)]) hx hb dX11_breaks_129 hl (k := 7) rfl (by rw [ev19]; rfl) (by decide) rfl (fun ls hl => ?_)
                    refine lv_goto (tgt := 43) hx hb dX11_breaks_132 (by decide) ?_
                    exact Kc _ (gv_inj h) _ _ _ hP hS (lv_sub hl [2, 3, 4, 5, 6, 7, 0] rfl)
                  · have h := gv_neg hc h
                    exact J108  _ _ _ h hP hS (lv_sub hl [1, 2, 3, 7] rfl)
            have J79 : ∀  (H : Heap) (locs : List Loc) (ls : Array Slot), pX11_breaks_J79 v10 v7 v8 v9 s0 v5 = some x → gw_P X s0 H → va_S (gw_A X) s.heap H locs → lv_has ls 9 [(0, .ref (X.1 63)), (1, .int a1), (5, .int v5), (2, .int v7), (3, .int v8), (4, .int v9), (6, .int v10)] → W p l e rX11_breaks s m args below meth c H locs 0 0 Q (F0 m 79 ls []) := by
              intro  H locs ls h hP hS hl
              unfold pX11_breaks_J79 at h
              refine lv_iconst (v := 1) hx hb dX11_breaks_79 (by decide) ?_
              refine lv_goto (tgt := 84) hx hb dX11_breaks_80 (by decide) ?_
              exact J84 (1 : Int32) _ _ _ h hP hS (lv_sub hl [0, 1, 2, 3, 4, 5, 6] rfl)
            refine lv_if_lt (tgt := 79) hx hb dX11_breaks_60 (by decide) (fun hc => ?_) (fun hc => ?_)
            · have h := gv_pos hc h
              exact J79  _ _ _ h hP hS (lv_sub hl [1, 2, 3, 4, 5, 6, 7] rfl)
            · have h := gv_neg hc h
              refine lv_iload hx hb dX11_breaks_63 (lv_at hl 0 rfl) ?_
              refine lv_aload_n hx hb dX11_breaks_65 rfl (lv_at hl 1 rfl) ?_
              refine lv_aload_n hx hb dX11_breaks_66 rfl (lv_at hl 1 rfl) ?_
              refine gv_get (ref := "IceByEarModel") (C := RX11) (T := TX11) (N := 28) (ci := 11) (v := .ref (X.1 68)) C0 (fun _ h9 => List.mem_cons_of_mem _ (List.mem_append_right _ h9)) hP 63 (gw_o11 X s0 gk_63.1) rfl 5 (by decide) (by decide +kernel) rfl rfl dX11_breaks_67 ?_
              refine lv_iload hx hb dX11_breaks_70 (lv_at hl 7 rfl) ?_
              obtain ⟨hin20, h⟩ := gv_in_e h
              refine gv_iald C0 hP 68 gk_68.1 gk_68.2 hin20 dX11_breaks_72 ?_
              obtain ⟨v21, hv21, h⟩ := gv_bind_e h
              refine gv_ri (gv_runV (n := 1) (rest := [.int v11]) C0 (mX11_bears l X s0 (s0.1 68 v10.toNatClampNeg) hv21) gX11_breaks_X11_bears rfl ⟨rfl, rfl⟩ (by decide +kernel) ⟨by decide, by decide⟩ gk_63.1 (by decide) rfl hP hS rfl hl.1 rfl (Nat.le_of_ble_eq_true rfl) dX11_breaks_73 ⟨Nat.zero_le _, Nat.zero_le _⟩) hS (fun H locs hP hS => ?_)
              refine lv_icmp_le (tgt := 83) hx hb dX11_breaks_76 (by decide) (fun hc => ?_) (fun hc => ?_)
              · have h := gv_pos hc h
                refine lv_iconst (v := 0) hx hb dX11_breaks_83 (by decide) ?_
                exact J84 (0 : Int32) _ _ _ h hP hS (lv_sub hl [1, 2, 3, 4, 5, 6, 7] rfl)
              · have h := gv_neg hc h
                exact J79  _ _ _ h hP hS (lv_sub hl [1, 2, 3, 4, 5, 6, 7] rfl)
        · obtain ⟨v22, v23, v24, v25⟩ := q26
          have h := gv_let_e (x := v22) rfl h
          have h := gv_let_e (x := v23) rfl h
          have h := gv_let_e (x := v24) rfl h
          have h := gv_let_e (x := v25) rfl h
          intro H locs ls hP hS hl
          have hP : gw_P X s0 H := hP
          have hl : lv_has ls 9 [(0, .ref (X.1 63)), (1, .int a1), (5, .int v5), (2, .int v22), (3, .int v23), (4, .int v24)] := hl
          obtain ⟨v26, ev26⟩ : ∃ y : Int32, y = (v5 + (-1 : Int32)) := ⟨_, rfl⟩
          have h := gv_let_e ev26 h
          refine lv_iinc (v := v26) (lv' := [(5, .int v26), (0, .ref (X.1 63)), (1, .int a1), (2, .int v22), (3, .int v23), (4, .int v24)]) hx hb dX11_breaks_135 hl (k := 2) rfl (by rw [ev26]; rfl) (by decide) rfl (fun ls hl => ?_)
          refine lv_goto (tgt := 30) hx hb dX11_breaks_138 (by decide) ?_
          exact Kc _ (gv_inj h) _ _ _ hP hS (lv_sub hl [1, 2, 3, 4, 5, 0] rfl)
    · obtain ⟨v28, v29, v30, v31⟩ := q33
      have h := gv_let_e (x := v28) rfl h
      have h := gv_let_e (x := v29) rfl h
      have h := gv_let_e (x := v30) rfl h
      have h := gv_let_e (x := v31) rfl h
      intro H locs ls hP hS hl
      have hP : gw_P X s0 H := hP
      have hl : lv_has ls 9 [(0, .ref (X.1 63)), (1, .int a1), (2, .int v28), (3, .int v29), (4, .int v30)] := hl
      refine lv_iload_n hx hb dX11_breaks_141 rfl (lv_at hl 2 rfl) ?_
      refine lv_if_ge (tgt := 150) hx hb dX11_breaks_142 (by decide) (fun hc => ?_) (fun hc => ?_)
      · have h := gv_pos hc h
        refine lv_iload_n hx hb dX11_breaks_150 rfl (lv_at hl 1 rfl) ?_
        refine lv_if_ne (tgt := 158) hx hb dX11_breaks_151 (by decide) (fun hc => ?_) (fun hc => ?_)
        · have h := gv_neg hc h
          refine lv_iload_n hx hb dX11_breaks_158 rfl (lv_at hl 1 rfl) ?_
          refine lv_iconst (v := 1) hx hb dX11_breaks_159 (by decide) ?_
          refine lv_icmp_ne (tgt := 167) hx hb dX11_breaks_160 (by decide) (fun hc => ?_) (fun hc => ?_)
          · have h := gv_neg hc h
            refine lv_iload_n hx hb dX11_breaks_167 rfl (lv_at hl 1 rfl) ?_
            refine lv_iconst (v := 2) hx hb dX11_breaks_168 (by decide) ?_
            refine lv_icmp_ne (tgt := 177) hx hb dX11_breaks_169 (by decide) (fun hc => ?_) (fun hc => ?_)
            · have h := gv_neg hc h
              refine lv_aload_n hx hb dX11_breaks_177 rfl (lv_at hl 0 rfl) ?_
              refine lv_iload_n hx hb dX11_breaks_178 rfl (lv_at hl 3 rfl) ?_
              obtain ⟨v32, s33, hv32, h⟩ := gv_bind2_e h
              refine gv_ri (gv_runV (n := 1) (rest := []) C0 (mX11_crackFrom l X s0 v29 hv32) gX11_breaks_X11_crackFrom rfl ⟨rfl, rfl⟩ (by decide +kernel) ⟨by decide, by decide⟩ gk_63.1 (by decide) rfl hP hS rfl hl.1 rfl (Nat.le_of_ble_eq_true rfl) dX11_breaks_179 ⟨Nat.zero_le _, Nat.zero_le _⟩) hS (fun H locs hP hS => ?_)
              exact Kr _ _ _ _ _ _ (gv_inj h) hP hS dX11_breaks_182
            · have h := gv_pos hc h
              refine lv_iload hx hb dX11_breaks_172 (lv_at hl 4 rfl) ?_
              refine lv_goto (tgt := 182) hx hb dX11_breaks_174 (by decide) ?_
              exact Kr _ _ _ _ _ _ (gv_inj h) hP hS dX11_breaks_182
          · have h := gv_pos hc h
            refine lv_iload_n hx hb dX11_breaks_163 rfl (lv_at hl 3 rfl) ?_
            refine lv_goto (tgt := 182) hx hb dX11_breaks_164 (by decide) ?_
            exact Kr _ _ _ _ _ _ (gv_inj h) hP hS dX11_breaks_182
        · have h := gv_pos hc h
          refine lv_iload_n hx hb dX11_breaks_154 rfl (lv_at hl 2 rfl) ?_
          refine lv_goto (tgt := 182) hx hb dX11_breaks_155 (by decide) ?_
          exact Kr _ _ _ _ _ _ (gv_inj h) hP hS dX11_breaks_182
      · have h := gv_neg hc h
        refine lv_bipush (v := -4) hx hb dX11_breaks_145 (by decide) ?_
        refine lv_goto (tgt := 182) hx hb dX11_breaks_147 (by decide) ?_
        exact Kr _ _ _ _ _ _ (gv_inj h) hP hS dX11_breaks_182
  · have h := gv_pos hc h
    refine lv_iconst (v := -1) hx hb dX11_breaks_12 (by decide) ?_
    exact Kr _ _ _ _ _ _ (gv_inj h) hP hS dX11_breaks_13
theorem mX11_breaks (l : Launch) (X : gw_X) (s0 : gs_S) (a1 : Int32) {r : Int32} {τ : gs_S} (h : pX11_breaks a1 s0 = some (r, τ)) : Met l yX11_breaks wsX11_breaks rX11_breaks (gm_Pc X s0 [.ref (X.1 63), .int a1]) (gm_Qi X τ r) 0 0 (gw_A X) :=
  gm_of RX11 (by decide) rfl rfl (Nat.le_of_ble_eq_true rfl) (fun p e s m below meth c ls C0 hP hl hS => tX11_breaks C0 a1 s0 h (fun H locs ls pc r τ hr hP hS hd => by cases hr; exact gm_reti C0 hP hS hd) hP hS hl)
def pX11_cracks_L23 (s2 : gs_S) (v3 : Int64) (v4 : Int32) : Option ((Int64 × Int32) ⊕ (Int64 × Int32)) := if (s2.1 63 18) ≤ v4 then some (.inr (v3, v4)) else gv_in v4 64 (gv_let (v3 ||| ((1 : Int64) <<< ((s2.1 74 v4.toNatClampNeg).toInt64 &&& 63))) (fun v6 => gv_let (v4 + (1 : Int32)) (fun v7 => some (.inl (v6, v7)))))
def pX11_cracks (a1 : Int32) (s0 : gs_S) : Option (Int64 × gs_S) := if (pX11_isSquare (a1.toInt64)) = 0 then some ((-1 : Int64), s0) else gv_bind2 (pX11_crackFrom a1 s0) (fun v1 s2 => gv_bind (gv_loop (fun q => pX11_cracks_L23 s2 q.1 q.2) gv_N ((0 : Int64), (0 : Int32))) (fun q => gv_let q.1 (fun v8 => gv_let q.2 (fun v9 => some (v8, s2)))))
def rX11_cracks : Room := { frames := 3, cells := 0, slots := 0, locals := 68 }
set_option maxHeartbeats 4000000 in
set_option maxRecDepth 100000 in
theorem tX11_cracks {p : Program} {l : Launch} {e : Env} {s : State} {m : MethodId} {args : Array Value} {below : List Frame} {meth : Method} {c : Code} {X : gw_X} {Q : State → Prop} (C0 : gm_At p s m args meth c X cX11_cracks 5 RX11 wsX11_cracks (some .long)) (a1 : Int32) (s0 : gs_S) {z : Int64 × gs_S} (h : pX11_cracks a1 s0 = some z) (Kr : ∀ (H : Heap) (locs : List Loc) (ls : Array Slot) (pc : Nat) (r : Int64) (τ : gs_S), z = (r, τ) → gw_P X τ H → va_S (gw_A X) s.heap H locs → decode cX11_cracks pc = .ok (.lreturn, 1) → W p l e rX11_cracks s m args below meth c H locs 0 0 Q (F0 m pc ls [.long r])) {H : Heap} {locs : List Loc} {ls : Array Slot} (hP : gw_P X s0 H) (hS : va_S (gw_A X) s.heap H locs) (hl : lv_has ls 5 [(0, .ref (X.1 63)), (1, .int a1)]) : W p l e rX11_cracks s m args below meth c H locs 0 0 Q (F0 m 0 ls []) := by
  obtain ⟨hx, hb, hml, hown, hts, hr, hlocks, hC⟩ := id C0
  unfold pX11_cracks at h
  refine lv_iload_n hx hb dX11_cracks_0 rfl (lv_at hl 1 rfl) ?_
  refine lv_i2l hx hb dX11_cracks_1 rfl ?_
  refine gv_ri (gv_runS (n := 1) (rest := []) C0 (mX11_isSquare l X s0 (a1.toInt64)) gX11_cracks_X11_isSquare rfl ⟨rfl, rfl⟩ (by decide +kernel) ⟨by decide, by decide⟩ hP hS rfl hl.1 rfl (Nat.le_of_ble_eq_true rfl) dX11_cracks_2 ⟨Nat.zero_le _, Nat.zero_le _⟩) hS (fun H locs hP hS => ?_)
  refine lv_if_ne (tgt := 12) hx hb dX11_cracks_5 (by decide) (fun hc => ?_) (fun hc => ?_)
  · have h := gv_neg hc h
    refine lv_aload_n hx hb dX11_cracks_12 rfl (lv_at hl 0 rfl) ?_
    refine lv_iload_n hx hb dX11_cracks_13 rfl (lv_at hl 1 rfl) ?_
    obtain ⟨v1, s2, hv1, h⟩ := gv_bind2_e h
    refine gv_ri (gv_runV (n := 1) (rest := []) C0 (mX11_crackFrom l X s0 a1 hv1) gX11_cracks_X11_crackFrom rfl ⟨rfl, rfl⟩ (by decide +kernel) ⟨by decide, by decide⟩ gk_63.1 (by decide) rfl hP hS rfl hl.1 rfl (Nat.le_of_ble_eq_true rfl) dX11_cracks_14 ⟨Nat.zero_le _, Nat.zero_le _⟩) hS (fun H locs hP hS => ?_)
    refine lv_pop hx hb dX11_cracks_17 rfl ?_
    refine lv_lconst (v := 0) hx hb dX11_cracks_18 (by decide) ?_
    refine lv_lstore_n (lv' := [(2, .long (0 : Int64)), (0, .ref (X.1 63)), (1, .int a1)]) hx hb dX11_cracks_19 rfl hl (by decide) rfl (fun ls hl => ?_)
    refine lv_iconst (v := 0) hx hb dX11_cracks_20 (by decide) ?_
    refine lv_istore (lv' := [(4, .int (0 : Int32)), (2, .long (0 : Int64)), (0, .ref (X.1 63)), (1, .int a1)]) hx hb dX11_cracks_21 hl (by decide) rfl (fun ls hl => ?_)
    obtain ⟨q9, hq9, h⟩ := gv_bind_e h
    refine gv_loop_ind (Φ := fun q => ∀ (H : Heap) (locs : List Loc) (ls : Array Slot), gw_P X s2 H → va_S (gw_A X) s.heap H locs → lv_has ls 5 [(0, .ref (X.1 63)), (2, .long q.1), (4, .int q.2)] → W p l e rX11_cracks s m args below meth c H locs 0 0 Q (F0 m 23 ls [])) (Ψ := fun q => ∀ (H : Heap) (locs : List Loc) (ls : Array Slot), gw_P X s2 H → va_S (gw_A X) s.heap H locs → lv_has ls 5 [(2, .long q.1)] → W p l e rX11_cracks s m args below meth c H locs 0 0 Q (F0 m 50 ls [])) ?_ gv_N ((0 : Int64), (0 : Int32)) q9 hq9 ?_ H locs ls hP hS (lv_sub hl [2, 1, 0] rfl)
    · intro q x h Kc Ke H locs ls hP hS hl
      obtain ⟨v3, v4⟩ := q
      have h : pX11_cracks_L23 s2 v3 v4 = some x := h
      have hP : gw_P X s2 H := hP
      have hl : lv_has ls 5 [(0, .ref (X.1 63)), (2, .long v3), (4, .int v4)] := hl
      unfold pX11_cracks_L23 at h
      refine lv_iload hx hb dX11_cracks_23 (lv_at hl 2 rfl) ?_
      refine lv_aload_n hx hb dX11_cracks_25 rfl (lv_at hl 0 rfl) ?_
      refine gv_get (ref := "IceByEarModel") (C := RX11) (T := TX11) (N := 28) (ci := 11) (v := .int (s2.1 63 18)) C0 (fun _ h9 => List.mem_cons_of_mem _ (List.mem_append_right _ h9)) hP 63 (gw_o11 X s2 gk_63.1) rfl 18 (by decide) (by decide +kernel) rfl rfl dX11_cracks_26 ?_
      refine lv_icmp_ge (tgt := 50) hx hb dX11_cracks_29 (by decide) (fun hc => ?_) (fun hc => ?_)
      · have h := gv_pos hc h
        exact Ke _ (gv_inj h) _ _ _ hP hS (lv_sub hl [1] rfl)
      · have h := gv_neg hc h
        refine lv_lload_n hx hb dX11_cracks_32 rfl (lv_at hl 1 rfl) ?_
        refine lv_lconst (v := 1) hx hb dX11_cracks_33 (by decide) ?_
        refine lv_aload_n hx hb dX11_cracks_34 rfl (lv_at hl 0 rfl) ?_
        refine gv_get (ref := "IceByEarModel") (C := RX11) (T := TX11) (N := 28) (ci := 11) (v := .ref (X.1 74)) C0 (fun _ h9 => List.mem_cons_of_mem _ (List.mem_append_right _ h9)) hP 63 (gw_o11 X s2 gk_63.1) rfl 16 (by decide) (by decide +kernel) rfl rfl dX11_cracks_35 ?_
        refine lv_iload hx hb dX11_cracks_38 (lv_at hl 2 rfl) ?_
        obtain ⟨hin5, h⟩ := gv_in_e h
        refine gv_iald C0 hP 74 gk_74.1 gk_74.2 hin5 dX11_cracks_40 ?_
        refine lv_lshl hx hb dX11_cracks_41 rfl ?_
        refine lv_lor hx hb dX11_cracks_42 ?_
        refine lv_topl (fun v6 ev6 => ?_)
        have h := gv_let_e ev6 h
        refine lv_lstore_n (lv' := [(2, .long v6), (0, .ref (X.1 63)), (4, .int v4)]) hx hb dX11_cracks_43 rfl hl (by decide) rfl (fun ls hl => ?_)
        obtain ⟨v7, ev7⟩ : ∃ y : Int32, y = (v4 + (1 : Int32)) := ⟨_, rfl⟩
        have h := gv_let_e ev7 h
        refine lv_iinc (v := v7) (lv' := [(4, .int v7), (2, .long v6), (0, .ref (X.1 63))]) hx hb dX11_cracks_44 hl (k := 2) rfl (by rw [ev7]; rfl) (by decide) rfl (fun ls hl => ?_)
        refine lv_goto (tgt := 23) hx hb dX11_cracks_47 (by decide) ?_
        exact Kc _ (gv_inj h) _ _ _ hP hS (lv_sub hl [2, 1, 0] rfl)
    · obtain ⟨v8, v9⟩ := q9
      have h := gv_let_e (x := v8) rfl h
      have h := gv_let_e (x := v9) rfl h
      intro H locs ls hP hS hl
      have hP : gw_P X s2 H := hP
      have hl : lv_has ls 5 [(2, .long v8)] := hl
      refine lv_lload_n hx hb dX11_cracks_50 rfl (lv_at hl 0 rfl) ?_
      exact Kr _ _ _ _ _ _ (gv_inj h) hP hS dX11_cracks_51
  · have h := gv_pos hc h
    refine lv_ldc2 (v := -1) hx hb hown (hts (.constantLong RX11 197 (-1)) (by decide +kernel)) dX11_cracks_8 ?_
    exact Kr _ _ _ _ _ _ (gv_inj h) hP hS dX11_cracks_11
theorem mX11_cracks (l : Launch) (X : gw_X) (s0 : gs_S) (a1 : Int32) {r : Int64} {τ : gs_S} (h : pX11_cracks a1 s0 = some (r, τ)) : Met l yX11_cracks wsX11_cracks rX11_cracks (gm_Pc X s0 [.ref (X.1 63), .int a1]) (gm_Ql X τ r) 0 0 (gw_A X) :=
  gm_of RX11 (by decide) rfl rfl (Nat.le_of_ble_eq_true rfl) (fun p e s m below meth c ls C0 hP hl hS => tX11_cracks C0 a1 s0 h (fun H locs ls pc r τ hr hP hS hd => by cases hr; exact gm_retl C0 hP hS hd) hP hS hl)
def pX11_crack_L18 (v1 : Int32) (v3 : Int32) (s4 : gs_S) : Option ((Int32 × gs_S) ⊕ (Int32 × gs_S)) := if v1 ≤ v3 then some (.inr (v3, s4)) else gv_in v3 64 (gv_in (s4.1 74 v3.toNatClampNeg) 320 (gv_let (gs_u s4 64 (s4.1 74 v3.toNatClampNeg).toNatClampNeg (0 : Int32)) (fun s7 => gv_let (v3 + (1 : Int32)) (fun v8 => some (.inl (v8, s7))))))
def pX11_crack (a1 : Int32) (s0 : gs_S) : Option (Int32 × gs_S) := if (pX11_isSquare (a1.toInt64)) = 0 then some ((-1 : Int32), s0) else gv_bind2 (pX11_crackFrom a1 s0) (fun v1 s2 => gv_bind (gv_loop (fun q => pX11_crack_L18 v1 q.1 q.2) gv_N ((0 : Int32), s2)) (fun q => gv_let q.1 (fun v9 => gv_let q.2 (fun s10 => some (v1, s10)))))
def rX11_crack : Room := { frames := 3, cells := 0, slots := 0, locals := 68 }
set_option maxHeartbeats 4000000 in
set_option maxRecDepth 100000 in
theorem tX11_crack {p : Program} {l : Launch} {e : Env} {s : State} {m : MethodId} {args : Array Value} {below : List Frame} {meth : Method} {c : Code} {X : gw_X} {Q : State → Prop} (C0 : gm_At p s m args meth c X cX11_crack 4 RX11 wsX11_crack (some .int)) (a1 : Int32) (s0 : gs_S) {z : Int32 × gs_S} (h : pX11_crack a1 s0 = some z) (Kr : ∀ (H : Heap) (locs : List Loc) (ls : Array Slot) (pc : Nat) (r : Int32) (τ : gs_S), z = (r, τ) → gw_P X τ H → va_S (gw_A X) s.heap H locs → decode cX11_crack pc = .ok (.ireturn, 1) → W p l e rX11_crack s m args below meth c H locs 0 0 Q (F0 m pc ls [.int r])) {H : Heap} {locs : List Loc} {ls : Array Slot} (hP : gw_P X s0 H) (hS : va_S (gw_A X) s.heap H locs) (hl : lv_has ls 4 [(0, .ref (X.1 63)), (1, .int a1)]) : W p l e rX11_crack s m args below meth c H locs 0 0 Q (F0 m 0 ls []) := by
  obtain ⟨hx, hb, hml, hown, hts, hr, hlocks, hC⟩ := id C0
  unfold pX11_crack at h
  refine lv_iload_n hx hb dX11_crack_0 rfl (lv_at hl 1 rfl) ?_
  refine lv_i2l hx hb dX11_crack_1 rfl ?_
  refine gv_ri (gv_runS (n := 1) (rest := []) C0 (mX11_isSquare l X s0 (a1.toInt64)) gX11_crack_X11_isSquare rfl ⟨rfl, rfl⟩ (by decide +kernel) ⟨by decide, by decide⟩ hP hS rfl hl.1 rfl (Nat.le_of_ble_eq_true rfl) dX11_crack_2 ⟨Nat.zero_le _, Nat.zero_le _⟩) hS (fun H locs hP hS => ?_)
  refine lv_if_ne (tgt := 10) hx hb dX11_crack_5 (by decide) (fun hc => ?_) (fun hc => ?_)
  · have h := gv_neg hc h
    refine lv_aload_n hx hb dX11_crack_10 rfl (lv_at hl 0 rfl) ?_
    refine lv_iload_n hx hb dX11_crack_11 rfl (lv_at hl 1 rfl) ?_
    obtain ⟨v1, s2, hv1, h⟩ := gv_bind2_e h
    refine gv_ri (gv_runV (n := 1) (rest := []) C0 (mX11_crackFrom l X s0 a1 hv1) gX11_crack_X11_crackFrom rfl ⟨rfl, rfl⟩ (by decide +kernel) ⟨by decide, by decide⟩ gk_63.1 (by decide) rfl hP hS rfl hl.1 rfl (Nat.le_of_ble_eq_true rfl) dX11_crack_12 ⟨Nat.zero_le _, Nat.zero_le _⟩) hS (fun H locs hP hS => ?_)
    refine lv_istore_n (lv' := [(2, .int v1), (0, .ref (X.1 63)), (1, .int a1)]) hx hb dX11_crack_15 rfl hl (by decide) rfl (fun ls hl => ?_)
    refine lv_iconst (v := 0) hx hb dX11_crack_16 (by decide) ?_
    refine lv_istore_n (lv' := [(3, .int (0 : Int32)), (2, .int v1), (0, .ref (X.1 63)), (1, .int a1)]) hx hb dX11_crack_17 rfl hl (by decide) rfl (fun ls hl => ?_)
    obtain ⟨q10, hq10, h⟩ := gv_bind_e h
    refine gv_loop_ind (Φ := fun q => ∀ (H : Heap) (locs : List Loc) (ls : Array Slot), gw_P X q.2 H → va_S (gw_A X) s.heap H locs → lv_has ls 4 [(2, .int v1), (0, .ref (X.1 63)), (3, .int q.1)] → W p l e rX11_crack s m args below meth c H locs 0 0 Q (F0 m 18 ls [])) (Ψ := fun q => ∀ (H : Heap) (locs : List Loc) (ls : Array Slot), gw_P X q.2 H → va_S (gw_A X) s.heap H locs → lv_has ls 4 [(2, .int v1)] → W p l e rX11_crack s m args below meth c H locs 0 0 Q (F0 m 41 ls [])) ?_ gv_N ((0 : Int32), s2) q10 hq10 ?_ H locs ls hP hS (lv_sub hl [1, 2, 0] rfl)
    · intro q x h Kc Ke H locs ls hP hS hl
      obtain ⟨v3, s4⟩ := q
      have h : pX11_crack_L18 v1 v3 s4 = some x := h
      have hP : gw_P X s4 H := hP
      have hl : lv_has ls 4 [(2, .int v1), (0, .ref (X.1 63)), (3, .int v3)] := hl
      unfold pX11_crack_L18 at h
      refine lv_iload_n hx hb dX11_crack_18 rfl (lv_at hl 2 rfl) ?_
      refine lv_iload_n hx hb dX11_crack_19 rfl (lv_at hl 0 rfl) ?_
      refine lv_icmp_ge (tgt := 41) hx hb dX11_crack_20 (by decide) (fun hc => ?_) (fun hc => ?_)
      · have h := gv_pos hc h
        exact Ke _ (gv_inj h) _ _ _ hP hS (lv_sub hl [0] rfl)
      · have h := gv_neg hc h
        refine lv_aload_n hx hb dX11_crack_23 rfl (lv_at hl 1 rfl) ?_
        refine gv_get (ref := "IceByEarModel") (C := RX11) (T := TX11) (N := 28) (ci := 11) (v := .ref (X.1 64)) C0 (fun _ h9 => List.mem_cons_of_mem _ (List.mem_append_right _ h9)) hP 63 (gw_o11 X s4 gk_63.1) rfl 0 (by decide) (by decide +kernel) rfl rfl dX11_crack_24 ?_
        refine lv_aload_n hx hb dX11_crack_27 rfl (lv_at hl 1 rfl) ?_
        refine gv_get (ref := "IceByEarModel") (C := RX11) (T := TX11) (N := 28) (ci := 11) (v := .ref (X.1 74)) C0 (fun _ h9 => List.mem_cons_of_mem _ (List.mem_append_right _ h9)) hP 63 (gw_o11 X s4 gk_63.1) rfl 16 (by decide) (by decide +kernel) rfl rfl dX11_crack_28 ?_
        refine lv_iload_n hx hb dX11_crack_31 rfl (lv_at hl 2 rfl) ?_
        obtain ⟨hin5, h⟩ := gv_in_e h
        refine gv_iald C0 hP 74 gk_74.1 gk_74.2 hin5 dX11_crack_32 ?_
        refine lv_iconst (v := 0) hx hb dX11_crack_33 (by decide) ?_
        obtain ⟨hin6, h⟩ := gv_in_e h
        refine gv_iast C0 hP hS 64 gk_64.1 gk_64.2 hin6 dX11_crack_34 (fun s7 H locs es7 hP hS => ?_)
        have h := gv_let_e es7 h
        obtain ⟨v8, ev8⟩ : ∃ y : Int32, y = (v3 + (1 : Int32)) := ⟨_, rfl⟩
        have h := gv_let_e ev8 h
        refine lv_iinc (v := v8) (lv' := [(3, .int v8), (2, .int v1), (0, .ref (X.1 63))]) hx hb dX11_crack_35 hl (k := 2) rfl (by rw [ev8]; rfl) (by decide) rfl (fun ls hl => ?_)
        refine lv_goto (tgt := 18) hx hb dX11_crack_38 (by decide) ?_
        exact Kc _ (gv_inj h) _ _ _ hP hS (lv_sub hl [1, 2, 0] rfl)
    · obtain ⟨v9, s10⟩ := q10
      have h := gv_let_e (x := v9) rfl h
      have h := gv_let_e (x := s10) rfl h
      intro H locs ls hP hS hl
      have hP : gw_P X s10 H := hP
      have hl : lv_has ls 4 [(2, .int v1)] := hl
      refine lv_iload_n hx hb dX11_crack_41 rfl (lv_at hl 0 rfl) ?_
      exact Kr _ _ _ _ _ _ (gv_inj h) hP hS dX11_crack_42
  · have h := gv_pos hc h
    refine lv_iconst (v := -1) hx hb dX11_crack_8 (by decide) ?_
    exact Kr _ _ _ _ _ _ (gv_inj h) hP hS dX11_crack_9
theorem mX11_crack (l : Launch) (X : gw_X) (s0 : gs_S) (a1 : Int32) {r : Int32} {τ : gs_S} (h : pX11_crack a1 s0 = some (r, τ)) : Met l yX11_crack wsX11_crack rX11_crack (gm_Pc X s0 [.ref (X.1 63), .int a1]) (gm_Qi X τ r) 0 0 (gw_A X) :=
  gm_of RX11 (by decide) rfl rfl (Nat.le_of_ble_eq_true rfl) (fun p e s m below meth c ls C0 hP hl hS => tX11_crack C0 a1 s0 h (fun H locs ls pc r τ hr hP hS hd => by cases hr; exact gm_reti C0 hP hS hd) hP hS hl)
