def pX11_go_L69 (a4 : Int32) (v2 : Int32) (s0 : gs_S) (v3 : Int32) : Option ((Int32) ⊕ ((Int32) ⊕ (Int32 × gs_S))) := if a4 ≤ v3 then some (.inr (.inl v3)) else gv_in (v2 + v3) 96 (if (pX11_isSquare (s0.2 83 (v2 + v3).toNatClampNeg)) = 0 then some (.inr (.inr ((-2 : Int32), s0))) else if v3 ≤ 0 then gv_let (v3 + (1 : Int32)) (fun v5 => some (.inl v5)) else gv_in ((v2 + v3) - (1 : Int32)) 96 (gv_in (v2 + v3) 96 (gv_bind (pX11_areNext ((s0.2 83 ((v2 + v3) - (1 : Int32)).toNatClampNeg).toInt32) ((s0.2 83 (v2 + v3).toNatClampNeg).toInt32)) (fun v8 => if v8 = 0 then some (.inr (.inr ((-2 : Int32), s0))) else gv_let (v3 + (1 : Int32)) (fun v9 => some (.inl v9))))))
def pX11_go_L145 (a4 : Int32) (v2 : Int32) (v12 : Int32) (s13 : gs_S) : Option ((Int32 × gs_S) ⊕ (Int32 × gs_S)) := if a4 ≤ v12 then some (.inr (v12, s13)) else gv_in (v2 + v12) 96 (gv_in v12 24 (gv_let (gs_u s13 68 v12.toNatClampNeg ((s13.2 83 (v2 + v12).toNatClampNeg).toInt32)) (fun s16 => gv_let (v12 + (1 : Int32)) (fun v17 => some (.inl (v17, s16))))))
def pX11_go (a1 : Int32) (a2 : Int32) (a3 : Int32) (a4 : Int32) (s0 : gs_S) : Option (Int32 × gs_S) := if (pX11_in (a1.toInt64) (0 : Int64) (3 : Int64)) = 0 then some ((-1 : Int32), s0) else if (pX11_in (a2.toInt64) (1 : Int64) (2 : Int64)) = 0 then some ((-1 : Int32), s0) else if (pX11_in (a4.toInt64) (1 : Int64) (24 : Int64)) = 0 then some ((-1 : Int32), s0) else gv_bind (pX11_lacksRow a1 a2 a3 a4 s0) (fun v1 => if 0 ≤ v1 then gv_let (((24 : Int32) * a1) + a3) (fun v2 => gv_bret (gv_loop (fun q => pX11_go_L69 a4 v2 s0 q) gv_N (0 : Int32)) (fun r => r) (fun q => gv_let q (fun v10 => gv_let (gs_u s0 63 6 a4) (fun s11 => gv_bind (gv_loop (fun q => pX11_go_L145 a4 v2 q.1 q.2) gv_N ((0 : Int32), s11)) (fun q => gv_let q.1 (fun v18 => gv_let q.2 (fun s19 => some (a4, s19)))))))) else some (v1, s0))
def rX11_go : Room := { frames := 2, cells := 0, slots := 0, locals := 49 }
set_option maxHeartbeats 4000000 in
set_option maxRecDepth 100000 in
theorem tX11_go {p : Program} {l : Launch} {e : Env} {s : State} {m : MethodId} {args : Array Value} {below : List Frame} {meth : Method} {c : Code} {X : gw_X} {Q : State → Prop} (C0 : gm_At p s m args meth c X cX11_go 8 RX11 wsX11_go (some .int)) (a1 : Int32) (a2 : Int32) (a3 : Int32) (a4 : Int32) (s0 : gs_S) {z : Int32 × gs_S} (h : pX11_go a1 a2 a3 a4 s0 = some z) (Kr : ∀ (H : Heap) (locs : List Loc) (ls : Array Slot) (pc : Nat) (r : Int32) (τ : gs_S), z = (r, τ) → gw_P X τ H → va_S (gw_A X) s.heap H locs → decode cX11_go pc = .ok (.ireturn, 1) → W p l e rX11_go s m args below meth c H locs 0 0 Q (F0 m pc ls [.int r])) {H : Heap} {locs : List Loc} {ls : Array Slot} (hP : gw_P X s0 H) (hS : va_S (gw_A X) s.heap H locs) (hl : lv_has ls 8 [(0, .ref (X.1 63)), (1, .int a1), (2, .int a2), (3, .int a3), (4, .int a4)]) : W p l e rX11_go s m args below meth c H locs 0 0 Q (F0 m 0 ls []) := by
  obtain ⟨hx, hb, hml, hown, hts, hr, hlocks, hC⟩ := id C0
  unfold pX11_go at h
  refine lv_iload_n hx hb dX11_go_0 rfl (lv_at hl 1 rfl) ?_
  refine lv_i2l hx hb dX11_go_1 rfl ?_
  refine lv_lconst (v := 0) hx hb dX11_go_2 (by decide) ?_
  refine lv_ldc2 (v := 3) hx hb hown (hts (.constantLong RX11 182 (3)) (by decide +kernel)) dX11_go_3 ?_
  refine gv_ri (gv_runS (n := 3) (rest := []) C0 (mX11_in l X s0 (a1.toInt64) (0 : Int64) (3 : Int64)) gX11_go_X11_in rfl ⟨rfl, rfl⟩ (by decide +kernel) ⟨by decide, by decide⟩ hP hS rfl hl.1 rfl (Nat.le_of_ble_eq_true rfl) dX11_go_6 ⟨Nat.zero_le _, Nat.zero_le _⟩) hS (fun H locs hP hS => ?_)
  refine lv_if_eq (tgt := 37) hx hb dX11_go_9 (by decide) (fun hc => ?_) (fun hc => ?_)
  · have h := gv_pos hc h
    refine lv_iconst (v := -1) hx hb dX11_go_37 (by decide) ?_
    exact Kr _ _ _ _ _ _ (gv_inj h) hP hS dX11_go_38
  · have h := gv_neg hc h
    refine lv_iload_n hx hb dX11_go_12 rfl (lv_at hl 2 rfl) ?_
    refine lv_i2l hx hb dX11_go_13 rfl ?_
    refine lv_lconst (v := 1) hx hb dX11_go_14 (by decide) ?_
    refine lv_ldc2 (v := 2) hx hb hown (hts (.constantLong RX11 240 (2)) (by decide +kernel)) dX11_go_15 ?_
    refine gv_ri (gv_runS (n := 3) (rest := []) C0 (mX11_in l X s0 (a2.toInt64) (1 : Int64) (2 : Int64)) gX11_go_X11_in rfl ⟨rfl, rfl⟩ (by decide +kernel) ⟨by decide, by decide⟩ hP hS rfl hl.1 rfl (Nat.le_of_ble_eq_true rfl) dX11_go_18 ⟨Nat.zero_le _, Nat.zero_le _⟩) hS (fun H locs hP hS => ?_)
    refine lv_if_eq (tgt := 37) hx hb dX11_go_21 (by decide) (fun hc => ?_) (fun hc => ?_)
    · have h := gv_pos hc h
      refine lv_iconst (v := -1) hx hb dX11_go_37 (by decide) ?_
      exact Kr _ _ _ _ _ _ (gv_inj h) hP hS dX11_go_38
    · have h := gv_neg hc h
      refine lv_iload hx hb dX11_go_24 (lv_at hl 4 rfl) ?_
      refine lv_i2l hx hb dX11_go_26 rfl ?_
      refine lv_lconst (v := 1) hx hb dX11_go_27 (by decide) ?_
      refine lv_ldc2 (v := 24) hx hb hown (hts (.constantLong RX11 174 (24)) (by decide +kernel)) dX11_go_28 ?_
      refine gv_ri (gv_runS (n := 3) (rest := []) C0 (mX11_in l X s0 (a4.toInt64) (1 : Int64) (24 : Int64)) gX11_go_X11_in rfl ⟨rfl, rfl⟩ (by decide +kernel) ⟨by decide, by decide⟩ hP hS rfl hl.1 rfl (Nat.le_of_ble_eq_true rfl) dX11_go_31 ⟨Nat.zero_le _, Nat.zero_le _⟩) hS (fun H locs hP hS => ?_)
      refine lv_if_ne (tgt := 39) hx hb dX11_go_34 (by decide) (fun hc => ?_) (fun hc => ?_)
      · have h := gv_neg hc h
        refine lv_aload_n hx hb dX11_go_39 rfl (lv_at hl 0 rfl) ?_
        refine lv_iload_n hx hb dX11_go_40 rfl (lv_at hl 1 rfl) ?_
        refine lv_iload_n hx hb dX11_go_41 rfl (lv_at hl 2 rfl) ?_
        refine lv_iload_n hx hb dX11_go_42 rfl (lv_at hl 3 rfl) ?_
        refine lv_iload hx hb dX11_go_43 (lv_at hl 4 rfl) ?_
        obtain ⟨v1, hv1, h⟩ := gv_bind_e h
        refine gv_ri (gv_runV (n := 4) (rest := []) C0 (mX11_lacksRow l X s0 a1 a2 a3 a4 hv1) gX11_go_X11_lacksRow rfl ⟨rfl, rfl⟩ (by decide +kernel) ⟨by decide, by decide⟩ gk_63.1 (by decide) rfl hP hS rfl hl.1 rfl (Nat.le_of_ble_eq_true rfl) dX11_go_45 ⟨Nat.zero_le _, Nat.zero_le _⟩) hS (fun H locs hP hS => ?_)
        refine lv_istore (lv' := [(5, .int v1), (0, .ref (X.1 63)), (1, .int a1), (2, .int a2), (3, .int a3), (4, .int a4)]) hx hb dX11_go_48 hl (by decide) rfl (fun ls hl => ?_)
        refine lv_iload hx hb dX11_go_50 (lv_at hl 0 rfl) ?_
        refine lv_if_ge (tgt := 58) hx hb dX11_go_52 (by decide) (fun hc => ?_) (fun hc => ?_)
        · have h := gv_pos hc h
          refine lv_bipush (v := 24) hx hb dX11_go_58 (by decide) ?_
          refine lv_iload_n hx hb dX11_go_60 rfl (lv_at hl 2 rfl) ?_
          refine lv_imul hx hb dX11_go_61 ?_
          refine lv_iload_n hx hb dX11_go_62 rfl (lv_at hl 4 rfl) ?_
          refine lv_iadd hx hb dX11_go_63 ?_
          refine lv_topi (fun v2 ev2 => ?_)
          have h := gv_let_e ev2 h
          refine lv_istore (lv' := [(6, .int v2), (5, .int v1), (0, .ref (X.1 63)), (1, .int a1), (2, .int a2), (3, .int a3), (4, .int a4)]) hx hb dX11_go_64 hl (by decide) rfl (fun ls hl => ?_)
          refine lv_iconst (v := 0) hx hb dX11_go_66 (by decide) ?_
          refine lv_istore (lv' := [(7, .int (0 : Int32)), (6, .int v2), (5, .int v1), (0, .ref (X.1 63)), (1, .int a1), (2, .int a2), (3, .int a3), (4, .int a4)]) hx hb dX11_go_67 hl (by decide) rfl (fun ls hl => ?_)
          obtain ⟨q20, hq20, h1q20, h2q20⟩ := gv_bret_e h
          refine gv_loop_ind (Φ := fun q => ∀ (H : Heap) (locs : List Loc) (ls : Array Slot), gw_P X s0 H → va_S (gw_A X) s.heap H locs → lv_has ls 8 [(6, .int v2), (0, .ref (X.1 63)), (4, .int a4), (7, .int q)] → W p l e rX11_go s m args below meth c H locs 0 0 Q (F0 m 69 ls [])) (Ψ := fun ex => (∀ q : Int32, ex = .inl q → ∀ (H : Heap) (locs : List Loc) (ls : Array Slot), gw_P X s0 H → va_S (gw_A X) s.heap H locs → lv_has ls 8 [(6, .int v2), (0, .ref (X.1 63)), (4, .int a4)] → W p l e rX11_go s m args below meth c H locs 0 0 Q (F0 m 136 ls [])) ∧ (∀ r : Int32 × gs_S, ex = .inr r → ∀ (H : Heap) (locs : List Loc) (ls : Array Slot) (pc : Nat), gw_P X r.2 H → va_S (gw_A X) s.heap H locs → decode cX11_go pc = .ok (.ireturn, 1) → W p l e rX11_go s m args below meth c H locs 0 0 Q (F0 m pc ls [.int r.1]))) ?_ gv_N (0 : Int32) q20 hq20 ⟨?_, ?_⟩ H locs ls hP hS (lv_sub hl [1, 3, 7, 0] rfl)
          · intro q x h Kc Ke H locs ls hP hS hl
            obtain ⟨v3, eq_q⟩ : ∃ y, y = q := ⟨_, rfl⟩
            subst eq_q
            have h : pX11_go_L69 a4 v2 s0 v3 = some x := h
            have hP : gw_P X s0 H := hP
            have hl : lv_has ls 8 [(6, .int v2), (0, .ref (X.1 63)), (4, .int a4), (7, .int v3)] := hl
            unfold pX11_go_L69 at h
            refine lv_iload hx hb dX11_go_69 (lv_at hl 3 rfl) ?_
            refine lv_iload hx hb dX11_go_71 (lv_at hl 2 rfl) ?_
            refine lv_icmp_ge (tgt := 136) hx hb dX11_go_73 (by decide) (fun hc => ?_) (fun hc => ?_)
            · have h := gv_pos hc h
              exact (Ke _ (gv_inj h)).1 _ rfl _ _ _ hP hS (lv_sub hl [0, 1, 2] rfl)
            · have h := gv_neg hc h
              refine lv_aload_n hx hb dX11_go_76 rfl (lv_at hl 1 rfl) ?_
              refine gv_get (ref := "IceByEarModel") (C := RX11) (T := TX11) (N := 28) (ci := 11) (v := .ref (X.1 83)) C0 (fun _ h9 => List.mem_cons_of_mem _ (List.mem_append_right _ h9)) hP 63 (gw_o11 X s0 gk_63.1) rfl 27 (by decide) (by decide +kernel) rfl rfl dX11_go_77 ?_
              refine lv_iload hx hb dX11_go_80 (lv_at hl 0 rfl) ?_
              refine lv_iload hx hb dX11_go_82 (lv_at hl 3 rfl) ?_
              refine lv_iadd hx hb dX11_go_84 ?_
              obtain ⟨hin4, h⟩ := gv_in_e h
              refine gv_lald C0 hP 83 gk_83.1 gk_83.2 hin4 dX11_go_85 ?_
              refine gv_ri (gv_runS (n := 1) (rest := []) C0 (mX11_isSquare l X s0 (s0.2 83 (v2 + v3).toNatClampNeg)) gX11_go_X11_isSquare rfl ⟨rfl, rfl⟩ (by decide +kernel) ⟨by decide, by decide⟩ hP hS rfl hl.1 rfl (Nat.le_of_ble_eq_true rfl) dX11_go_86 ⟨Nat.zero_le _, Nat.zero_le _⟩) hS (fun H locs hP hS => ?_)
              refine lv_if_eq (tgt := 127) hx hb dX11_go_89 (by decide) (fun hc => ?_) (fun hc => ?_)
              · have h := gv_pos hc h
                refine lv_bipush (v := -2) hx hb dX11_go_127 (by decide) ?_
                exact (Ke _ (gv_inj h)).2 _ rfl _ _ _ _ hP hS dX11_go_129
              · have h := gv_neg hc h
                refine lv_iload hx hb dX11_go_92 (lv_at hl 3 rfl) ?_
                refine lv_if_le (tgt := 130) hx hb dX11_go_94 (by decide) (fun hc => ?_) (fun hc => ?_)
                · have h := gv_pos hc h
                  obtain ⟨v5, ev5⟩ : ∃ y : Int32, y = (v3 + (1 : Int32)) := ⟨_, rfl⟩
                  have h := gv_let_e ev5 h
                  refine lv_iinc (v := v5) (lv' := [(7, .int v5), (6, .int v2), (0, .ref (X.1 63)), (4, .int a4)]) hx hb dX11_go_130 hl (k := 3) rfl (by rw [ev5]; rfl) (by decide) rfl (fun ls hl => ?_)
                  refine lv_goto (tgt := 69) hx hb dX11_go_133 (by decide) ?_
                  exact Kc _ (gv_inj h) _ _ _ hP hS (lv_sub hl [1, 2, 3, 0] rfl)
                · have h := gv_neg hc h
                  refine lv_aload_n hx hb dX11_go_97 rfl (lv_at hl 1 rfl) ?_
                  refine gv_get (ref := "IceByEarModel") (C := RX11) (T := TX11) (N := 28) (ci := 11) (v := .ref (X.1 83)) C0 (fun _ h9 => List.mem_cons_of_mem _ (List.mem_append_right _ h9)) hP 63 (gw_o11 X s0 gk_63.1) rfl 27 (by decide) (by decide +kernel) rfl rfl dX11_go_98 ?_
                  refine lv_iload hx hb dX11_go_101 (lv_at hl 0 rfl) ?_
                  refine lv_iload hx hb dX11_go_103 (lv_at hl 3 rfl) ?_
                  refine lv_iadd hx hb dX11_go_105 ?_
                  refine lv_iconst (v := 1) hx hb dX11_go_106 (by decide) ?_
                  refine lv_isub hx hb dX11_go_107 ?_
                  obtain ⟨hin6, h⟩ := gv_in_e h
                  refine gv_lald C0 hP 83 gk_83.1 gk_83.2 hin6 dX11_go_108 ?_
                  refine lv_l2i hx hb dX11_go_109 rfl ?_
                  refine lv_aload_n hx hb dX11_go_110 rfl (lv_at hl 1 rfl) ?_
                  refine gv_get (ref := "IceByEarModel") (C := RX11) (T := TX11) (N := 28) (ci := 11) (v := .ref (X.1 83)) C0 (fun _ h9 => List.mem_cons_of_mem _ (List.mem_append_right _ h9)) hP 63 (gw_o11 X s0 gk_63.1) rfl 27 (by decide) (by decide +kernel) rfl rfl dX11_go_111 ?_
                  refine lv_iload hx hb dX11_go_114 (lv_at hl 0 rfl) ?_
                  refine lv_iload hx hb dX11_go_116 (lv_at hl 3 rfl) ?_
                  refine lv_iadd hx hb dX11_go_118 ?_
                  obtain ⟨hin7, h⟩ := gv_in_e h
                  refine gv_lald C0 hP 83 gk_83.1 gk_83.2 hin7 dX11_go_119 ?_
                  refine lv_l2i hx hb dX11_go_120 rfl ?_
                  obtain ⟨v8, hv8, h⟩ := gv_bind_e h
                  refine gv_ri (gv_runS (n := 2) (rest := []) C0 (mX11_areNext l X s0 ((s0.2 83 ((v2 + v3) - (1 : Int32)).toNatClampNeg).toInt32) ((s0.2 83 (v2 + v3).toNatClampNeg).toInt32) hv8) gX11_go_X11_areNext rfl ⟨rfl, rfl⟩ (by decide +kernel) ⟨by decide, by decide⟩ hP hS rfl hl.1 rfl (Nat.le_of_ble_eq_true rfl) dX11_go_121 ⟨Nat.zero_le _, Nat.zero_le _⟩) hS (fun H locs hP hS => ?_)
                  refine lv_if_ne (tgt := 130) hx hb dX11_go_124 (by decide) (fun hc => ?_) (fun hc => ?_)
                  · have h := gv_neg hc h
                    obtain ⟨v9, ev9⟩ : ∃ y : Int32, y = (v3 + (1 : Int32)) := ⟨_, rfl⟩
                    have h := gv_let_e ev9 h
                    refine lv_iinc (v := v9) (lv' := [(7, .int v9), (6, .int v2), (0, .ref (X.1 63)), (4, .int a4)]) hx hb dX11_go_130 hl (k := 3) rfl (by rw [ev9]; rfl) (by decide) rfl (fun ls hl => ?_)
                    refine lv_goto (tgt := 69) hx hb dX11_go_133 (by decide) ?_
                    exact Kc _ (gv_inj h) _ _ _ hP hS (lv_sub hl [1, 2, 3, 0] rfl)
                  · have h := gv_pos hc h
                    refine lv_bipush (v := -2) hx hb dX11_go_127 (by decide) ?_
                    exact (Ke _ (gv_inj h)).2 _ rfl _ _ _ _ hP hS dX11_go_129
          · intro q hex H locs ls hP hS hl
            have h := h1q20 q hex
            obtain ⟨v10, eq_q⟩ : ∃ y, y = q := ⟨_, rfl⟩
            subst eq_q
            have h := gv_let_e (x := v10) rfl h
            have hP : gw_P X s0 H := hP
            have hl : lv_has ls 8 [(6, .int v2), (0, .ref (X.1 63)), (4, .int a4)] := hl
            refine lv_aload_n hx hb dX11_go_136 rfl (lv_at hl 1 rfl) ?_
            refine lv_iload hx hb dX11_go_137 (lv_at hl 2 rfl) ?_
            refine gv_put (ref := "IceByEarModel") (C := RX11) (T := TX11) (N := 28) (ci := 11) (v := .int a4) C0 (fun _ h9 => List.mem_cons_of_mem _ (List.mem_append_right _ h9)) tyX11 tyX11_ok nmX11 hP hS 63 (gw_o11 X s0 gk_63.1) rfl 6 (by decide) (by decide +kernel) rfl rfl (tyX11_ok 6 (by decide)) rfl rfl (Nat.le_of_ble_eq_true rfl) (gw_s11_6 gk_63.1 a4) dX11_go_139 (fun s11 H locs es11 hP hS => ?_)
            have h := gv_let_e es11 h
            refine lv_iconst (v := 0) hx hb dX11_go_142 (by decide) ?_
            refine lv_istore (lv' := [(7, .int (0 : Int32)), (6, .int v2), (0, .ref (X.1 63)), (4, .int a4)]) hx hb dX11_go_143 hl (by decide) rfl (fun ls hl => ?_)
            obtain ⟨q19, hq19, h⟩ := gv_bind_e h
            refine gv_loop_ind (Φ := fun q => ∀ (H : Heap) (locs : List Loc) (ls : Array Slot), gw_P X q.2 H → va_S (gw_A X) s.heap H locs → lv_has ls 8 [(6, .int v2), (0, .ref (X.1 63)), (4, .int a4), (7, .int q.1)] → W p l e rX11_go s m args below meth c H locs 0 0 Q (F0 m 145 ls [])) (Ψ := fun q => ∀ (H : Heap) (locs : List Loc) (ls : Array Slot), gw_P X q.2 H → va_S (gw_A X) s.heap H locs → lv_has ls 8 [(4, .int a4)] → W p l e rX11_go s m args below meth c H locs 0 0 Q (F0 m 176 ls [])) ?_ gv_N ((0 : Int32), s11) q19 hq19 ?_ H locs ls hP hS (lv_sub hl [1, 2, 3, 0] rfl)
            · intro q x h Kc Ke H locs ls hP hS hl
              obtain ⟨v12, s13⟩ := q
              have h : pX11_go_L145 a4 v2 v12 s13 = some x := h
              have hP : gw_P X s13 H := hP
              have hl : lv_has ls 8 [(6, .int v2), (0, .ref (X.1 63)), (4, .int a4), (7, .int v12)] := hl
              unfold pX11_go_L145 at h
              refine lv_iload hx hb dX11_go_145 (lv_at hl 3 rfl) ?_
              refine lv_iload hx hb dX11_go_147 (lv_at hl 2 rfl) ?_
              refine lv_icmp_ge (tgt := 176) hx hb dX11_go_149 (by decide) (fun hc => ?_) (fun hc => ?_)
              · have h := gv_pos hc h
                exact Ke _ (gv_inj h) _ _ _ hP hS (lv_sub hl [2] rfl)
              · have h := gv_neg hc h
                refine lv_aload_n hx hb dX11_go_152 rfl (lv_at hl 1 rfl) ?_
                refine gv_get (ref := "IceByEarModel") (C := RX11) (T := TX11) (N := 28) (ci := 11) (v := .ref (X.1 68)) C0 (fun _ h9 => List.mem_cons_of_mem _ (List.mem_append_right _ h9)) hP 63 (gw_o11 X s13 gk_63.1) rfl 5 (by decide) (by decide +kernel) rfl rfl dX11_go_153 ?_
                refine lv_iload hx hb dX11_go_156 (lv_at hl 3 rfl) ?_
                refine lv_aload_n hx hb dX11_go_158 rfl (lv_at hl 1 rfl) ?_
                refine gv_get (ref := "IceByEarModel") (C := RX11) (T := TX11) (N := 28) (ci := 11) (v := .ref (X.1 83)) C0 (fun _ h9 => List.mem_cons_of_mem _ (List.mem_append_right _ h9)) hP 63 (gw_o11 X s13 gk_63.1) rfl 27 (by decide) (by decide +kernel) rfl rfl dX11_go_159 ?_
                refine lv_iload hx hb dX11_go_162 (lv_at hl 0 rfl) ?_
                refine lv_iload hx hb dX11_go_164 (lv_at hl 3 rfl) ?_
                refine lv_iadd hx hb dX11_go_166 ?_
                obtain ⟨hin14, h⟩ := gv_in_e h
                refine gv_lald C0 hP 83 gk_83.1 gk_83.2 hin14 dX11_go_167 ?_
                refine lv_l2i hx hb dX11_go_168 rfl ?_
                obtain ⟨hin15, h⟩ := gv_in_e h
                refine gv_iast C0 hP hS 68 gk_68.1 gk_68.2 hin15 dX11_go_169 (fun s16 H locs es16 hP hS => ?_)
                have h := gv_let_e es16 h
                obtain ⟨v17, ev17⟩ : ∃ y : Int32, y = (v12 + (1 : Int32)) := ⟨_, rfl⟩
                have h := gv_let_e ev17 h
                refine lv_iinc (v := v17) (lv' := [(7, .int v17), (6, .int v2), (0, .ref (X.1 63)), (4, .int a4)]) hx hb dX11_go_170 hl (k := 3) rfl (by rw [ev17]; rfl) (by decide) rfl (fun ls hl => ?_)
                refine lv_goto (tgt := 145) hx hb dX11_go_173 (by decide) ?_
                exact Kc _ (gv_inj h) _ _ _ hP hS (lv_sub hl [1, 2, 3, 0] rfl)
            · obtain ⟨v18, s19⟩ := q19
              have h := gv_let_e (x := v18) rfl h
              have h := gv_let_e (x := s19) rfl h
              intro H locs ls hP hS hl
              have hP : gw_P X s19 H := hP
              have hl : lv_has ls 8 [(4, .int a4)] := hl
              refine lv_iload hx hb dX11_go_176 (lv_at hl 0 rfl) ?_
              exact Kr _ _ _ _ _ _ (gv_inj h) hP hS dX11_go_178
          · intro r hex H locs ls pc hP hS hd
            exact Kr _ _ _ _ _ _ (h2q20 r hex).symm hP hS hd
        · have h := gv_neg hc h
          refine lv_iload hx hb dX11_go_55 (lv_at hl 0 rfl) ?_
          exact Kr _ _ _ _ _ _ (gv_inj h) hP hS dX11_go_57
      · have h := gv_pos hc h
        refine lv_iconst (v := -1) hx hb dX11_go_37 (by decide) ?_
        exact Kr _ _ _ _ _ _ (gv_inj h) hP hS dX11_go_38
theorem mX11_go (l : Launch) (X : gw_X) (s0 : gs_S) (a1 : Int32) (a2 : Int32) (a3 : Int32) (a4 : Int32) {r : Int32} {τ : gs_S} (h : pX11_go a1 a2 a3 a4 s0 = some (r, τ)) : Met l yX11_go wsX11_go rX11_go (gm_Pc X s0 [.ref (X.1 63), .int a1, .int a2, .int a3, .int a4]) (gm_Qi X τ r) 0 0 (gw_A X) :=
  gm_of RX11 (by decide) rfl rfl (Nat.le_of_ble_eq_true rfl) (fun p e s m below meth c ls C0 hP hl hS => tX11_go C0 a1 a2 a3 a4 s0 h (fun H locs ls pc r τ hr hP hS hd => by cases hr; exact gm_reti C0 hP hS hd) hP hS hl)
def pX11_film_J78 (a2 : Int32) (a3 : Int32) (v3 : Int32) (s4 : gs_S) (v2 : Int32) (v6 : Int32) : Option ((Int32 × Int32 × gs_S) ⊕ (Int32 × Int32 × gs_S)) := gv_in ((((24 : Int32) * a2) + a3) + v3) 96 (gv_let (gs_ul s4 83 ((((24 : Int32) * a2) + a3) + v3).toNatClampNeg (v6.toInt64)) (fun s8 => gv_let (v2 + v6) (fun v9 => gv_let (v3 + (1 : Int32)) (fun v10 => some (.inl (v9, v10, s8))))))
def pX11_film_L51 (a1 : Int32) (a2 : Int32) (a3 : Int32) (v2 : Int32) (v3 : Int32) (s4 : gs_S) : Option ((Int32 × Int32 × gs_S) ⊕ (Int32 × Int32 × gs_S)) := if (8 : Int32) ≤ v3 then some (.inr (v2, v3, s4)) else gv_in (((8 : Int32) * a1) + v3) 320 (if (s4.1 64 (((8 : Int32) * a1) + v3).toNatClampNeg) ≤ 0 then pX11_film_J78 a2 a3 v3 s4 v2 (0 : Int32) else pX11_film_J78 a2 a3 v3 s4 v2 (1 : Int32))
def pX11_film (a1 : Int32) (a2 : Int32) (a3 : Int32) (s0 : gs_S) : Option (Int32 × gs_S) := if (pX11_in (a1.toInt64) (0 : Int64) (7 : Int64)) = 0 then some ((-1 : Int32), s0) else if (pX11_in (a2.toInt64) (0 : Int64) (3 : Int64)) = 0 then some ((-1 : Int32), s0) else gv_bind (pX11_lacksRow a2 (0 : Int32) a3 (8 : Int32) s0) (fun v1 => if 0 ≤ v1 then gv_bind (gv_loop (fun q => pX11_film_L51 a1 a2 a3 q.1 q.2.1 q.2.2) gv_N ((0 : Int32), (0 : Int32), s0)) (fun q => gv_let q.1 (fun v11 => gv_let q.2.1 (fun v12 => gv_let q.2.2 (fun s13 => some (v11, s13))))) else some (v1, s0))
def rX11_film : Room := { frames := 2, cells := 0, slots := 0, locals := 49 }
set_option maxHeartbeats 4000000 in
set_option maxRecDepth 100000 in
theorem tX11_film {p : Program} {l : Launch} {e : Env} {s : State} {m : MethodId} {args : Array Value} {below : List Frame} {meth : Method} {c : Code} {X : gw_X} {Q : State → Prop} (C0 : gm_At p s m args meth c X cX11_film 8 RX11 wsX11_film (some .int)) (a1 : Int32) (a2 : Int32) (a3 : Int32) (s0 : gs_S) {z : Int32 × gs_S} (h : pX11_film a1 a2 a3 s0 = some z) (Kr : ∀ (H : Heap) (locs : List Loc) (ls : Array Slot) (pc : Nat) (r : Int32) (τ : gs_S), z = (r, τ) → gw_P X τ H → va_S (gw_A X) s.heap H locs → decode cX11_film pc = .ok (.ireturn, 1) → W p l e rX11_film s m args below meth c H locs 0 0 Q (F0 m pc ls [.int r])) {H : Heap} {locs : List Loc} {ls : Array Slot} (hP : gw_P X s0 H) (hS : va_S (gw_A X) s.heap H locs) (hl : lv_has ls 8 [(0, .ref (X.1 63)), (1, .int a1), (2, .int a2), (3, .int a3)]) : W p l e rX11_film s m args below meth c H locs 0 0 Q (F0 m 0 ls []) := by
  obtain ⟨hx, hb, hml, hown, hts, hr, hlocks, hC⟩ := id C0
  unfold pX11_film at h
  refine lv_iload_n hx hb dX11_film_0 rfl (lv_at hl 1 rfl) ?_
  refine lv_i2l hx hb dX11_film_1 rfl ?_
  refine lv_lconst (v := 0) hx hb dX11_film_2 (by decide) ?_
  refine lv_ldc2 (v := 7) hx hb hown (hts (.constantLong RX11 249 (7)) (by decide +kernel)) dX11_film_3 ?_
  refine gv_ri (gv_runS (n := 3) (rest := []) C0 (mX11_in l X s0 (a1.toInt64) (0 : Int64) (7 : Int64)) gX11_film_X11_in rfl ⟨rfl, rfl⟩ (by decide +kernel) ⟨by decide, by decide⟩ hP hS rfl hl.1 rfl (Nat.le_of_ble_eq_true rfl) dX11_film_6 ⟨Nat.zero_le _, Nat.zero_le _⟩) hS (fun H locs hP hS => ?_)
  refine lv_if_eq (tgt := 24) hx hb dX11_film_9 (by decide) (fun hc => ?_) (fun hc => ?_)
  · have h := gv_pos hc h
    refine lv_iconst (v := -1) hx hb dX11_film_24 (by decide) ?_
    exact Kr _ _ _ _ _ _ (gv_inj h) hP hS dX11_film_25
  · have h := gv_neg hc h
    refine lv_iload_n hx hb dX11_film_12 rfl (lv_at hl 2 rfl) ?_
    refine lv_i2l hx hb dX11_film_13 rfl ?_
    refine lv_lconst (v := 0) hx hb dX11_film_14 (by decide) ?_
    refine lv_ldc2 (v := 3) hx hb hown (hts (.constantLong RX11 182 (3)) (by decide +kernel)) dX11_film_15 ?_
    refine gv_ri (gv_runS (n := 3) (rest := []) C0 (mX11_in l X s0 (a2.toInt64) (0 : Int64) (3 : Int64)) gX11_film_X11_in rfl ⟨rfl, rfl⟩ (by decide +kernel) ⟨by decide, by decide⟩ hP hS rfl hl.1 rfl (Nat.le_of_ble_eq_true rfl) dX11_film_18 ⟨Nat.zero_le _, Nat.zero_le _⟩) hS (fun H locs hP hS => ?_)
    refine lv_if_ne (tgt := 26) hx hb dX11_film_21 (by decide) (fun hc => ?_) (fun hc => ?_)
    · have h := gv_neg hc h
      refine lv_aload_n hx hb dX11_film_26 rfl (lv_at hl 0 rfl) ?_
      refine lv_iload_n hx hb dX11_film_27 rfl (lv_at hl 2 rfl) ?_
      refine lv_iconst (v := 0) hx hb dX11_film_28 (by decide) ?_
      refine lv_iload_n hx hb dX11_film_29 rfl (lv_at hl 3 rfl) ?_
      refine lv_bipush (v := 8) hx hb dX11_film_30 (by decide) ?_
      obtain ⟨v1, hv1, h⟩ := gv_bind_e h
      refine gv_ri (gv_runV (n := 4) (rest := []) C0 (mX11_lacksRow l X s0 a2 (0 : Int32) a3 (8 : Int32) hv1) gX11_film_X11_lacksRow rfl ⟨rfl, rfl⟩ (by decide +kernel) ⟨by decide, by decide⟩ gk_63.1 (by decide) rfl hP hS rfl hl.1 rfl (Nat.le_of_ble_eq_true rfl) dX11_film_32 ⟨Nat.zero_le _, Nat.zero_le _⟩) hS (fun H locs hP hS => ?_)
      refine lv_istore (lv' := [(4, .int v1), (0, .ref (X.1 63)), (1, .int a1), (2, .int a2), (3, .int a3)]) hx hb dX11_film_35 hl (by decide) rfl (fun ls hl => ?_)
      refine lv_iload hx hb dX11_film_37 (lv_at hl 0 rfl) ?_
      refine lv_if_ge (tgt := 45) hx hb dX11_film_39 (by decide) (fun hc => ?_) (fun hc => ?_)
      · have h := gv_pos hc h
        refine lv_iconst (v := 0) hx hb dX11_film_45 (by decide) ?_
        refine lv_istore (lv' := [(5, .int (0 : Int32)), (4, .int v1), (0, .ref (X.1 63)), (1, .int a1), (2, .int a2), (3, .int a3)]) hx hb dX11_film_46 hl (by decide) rfl (fun ls hl => ?_)
        refine lv_iconst (v := 0) hx hb dX11_film_48 (by decide) ?_
        refine lv_istore (lv' := [(6, .int (0 : Int32)), (5, .int (0 : Int32)), (4, .int v1), (0, .ref (X.1 63)), (1, .int a1), (2, .int a2), (3, .int a3)]) hx hb dX11_film_49 hl (by decide) rfl (fun ls hl => ?_)
        obtain ⟨q13, hq13, h⟩ := gv_bind_e h
        refine gv_loop_ind (Φ := fun q => ∀ (H : Heap) (locs : List Loc) (ls : Array Slot), gw_P X q.2.2 H → va_S (gw_A X) s.heap H locs → lv_has ls 8 [(0, .ref (X.1 63)), (1, .int a1), (2, .int a2), (3, .int a3), (5, .int q.1), (6, .int q.2.1)] → W p l e rX11_film s m args below meth c H locs 0 0 Q (F0 m 51 ls [])) (Ψ := fun q => ∀ (H : Heap) (locs : List Loc) (ls : Array Slot), gw_P X q.2.2 H → va_S (gw_A X) s.heap H locs → lv_has ls 8 [(5, .int q.1)] → W p l e rX11_film s m args below meth c H locs 0 0 Q (F0 m 110 ls [])) ?_ gv_N ((0 : Int32), (0 : Int32), s0) q13 hq13 ?_ H locs ls hP hS (lv_sub hl [3, 4, 5, 6, 1, 0] rfl)
        · intro q x h Kc Ke H locs ls hP hS hl
          obtain ⟨v2, v3, s4⟩ := q
          have h : pX11_film_L51 a1 a2 a3 v2 v3 s4 = some x := h
          have hP : gw_P X s4 H := hP
          have hl : lv_has ls 8 [(0, .ref (X.1 63)), (1, .int a1), (2, .int a2), (3, .int a3), (5, .int v2), (6, .int v3)] := hl
          unfold pX11_film_L51 at h
          refine lv_iload hx hb dX11_film_51 (lv_at hl 5 rfl) ?_
          refine lv_bipush (v := 8) hx hb dX11_film_53 (by decide) ?_
          refine lv_icmp_ge (tgt := 110) hx hb dX11_film_55 (by decide) (fun hc => ?_) (fun hc => ?_)
          · have h := gv_pos hc h
            exact Ke _ (gv_inj h) _ _ _ hP hS (lv_sub hl [4] rfl)
          · have h := gv_neg hc h
            refine lv_aload_n hx hb dX11_film_58 rfl (lv_at hl 0 rfl) ?_
            refine gv_get (ref := "IceByEarModel") (C := RX11) (T := TX11) (N := 28) (ci := 11) (v := .ref (X.1 64)) C0 (fun _ h9 => List.mem_cons_of_mem _ (List.mem_append_right _ h9)) hP 63 (gw_o11 X s4 gk_63.1) rfl 0 (by decide) (by decide +kernel) rfl rfl dX11_film_59 ?_
            refine lv_bipush (v := 8) hx hb dX11_film_62 (by decide) ?_
            refine lv_iload_n hx hb dX11_film_64 rfl (lv_at hl 1 rfl) ?_
            refine lv_imul hx hb dX11_film_65 ?_
            refine lv_iload hx hb dX11_film_66 (lv_at hl 5 rfl) ?_
            refine lv_iadd hx hb dX11_film_68 ?_
            obtain ⟨hin5, h⟩ := gv_in_e h
            refine gv_iald C0 hP 64 gk_64.1 gk_64.2 hin5 dX11_film_69 ?_
            have J78 : ∀ (v6 : Int32) (H : Heap) (locs : List Loc) (ls : Array Slot), pX11_film_J78 a2 a3 v3 s4 v2 v6 = some x → gw_P X s4 H → va_S (gw_A X) s.heap H locs → lv_has ls 8 [(0, .ref (X.1 63)), (1, .int a1), (2, .int a2), (3, .int a3), (5, .int v2), (6, .int v3)] → W p l e rX11_film s m args below meth c H locs 0 0 Q (F0 m 78 ls [.int v6]) := by
              intro v6 H locs ls h hP hS hl
              unfold pX11_film_J78 at h
              refine lv_istore (lv' := [(7, .int v6), (0, .ref (X.1 63)), (1, .int a1), (2, .int a2), (3, .int a3), (5, .int v2), (6, .int v3)]) hx hb dX11_film_78 hl (by decide) rfl (fun ls hl => ?_)
              refine lv_aload_n hx hb dX11_film_80 rfl (lv_at hl 1 rfl) ?_
              refine gv_get (ref := "IceByEarModel") (C := RX11) (T := TX11) (N := 28) (ci := 11) (v := .ref (X.1 83)) C0 (fun _ h9 => List.mem_cons_of_mem _ (List.mem_append_right _ h9)) hP 63 (gw_o11 X s4 gk_63.1) rfl 27 (by decide) (by decide +kernel) rfl rfl dX11_film_81 ?_
              refine lv_bipush (v := 24) hx hb dX11_film_84 (by decide) ?_
              refine lv_iload_n hx hb dX11_film_86 rfl (lv_at hl 3 rfl) ?_
              refine lv_imul hx hb dX11_film_87 ?_
              refine lv_iload_n hx hb dX11_film_88 rfl (lv_at hl 4 rfl) ?_
              refine lv_iadd hx hb dX11_film_89 ?_
              refine lv_iload hx hb dX11_film_90 (lv_at hl 6 rfl) ?_
              refine lv_iadd hx hb dX11_film_92 ?_
              refine lv_iload hx hb dX11_film_93 (lv_at hl 0 rfl) ?_
              refine lv_i2l hx hb dX11_film_95 rfl ?_
              obtain ⟨hin7, h⟩ := gv_in_e h
              refine gv_last C0 hP hS 83 gk_83.1 gk_83.2 hin7 dX11_film_96 (fun s8 H locs es8 hP hS => ?_)
              have h := gv_let_e es8 h
              refine lv_iload hx hb dX11_film_97 (lv_at hl 5 rfl) ?_
              refine lv_iload hx hb dX11_film_99 (lv_at hl 0 rfl) ?_
              refine lv_iadd hx hb dX11_film_101 ?_
              refine lv_topi (fun v9 ev9 => ?_)
              have h := gv_let_e ev9 h
              refine lv_istore (lv' := [(5, .int v9), (7, .int v6), (0, .ref (X.1 63)), (1, .int a1), (2, .int a2), (3, .int a3), (6, .int v3)]) hx hb dX11_film_102 hl (by decide) rfl (fun ls hl => ?_)
              obtain ⟨v10, ev10⟩ : ∃ y : Int32, y = (v3 + (1 : Int32)) := ⟨_, rfl⟩
              have h := gv_let_e ev10 h
              refine lv_iinc (v := v10) (lv' := [(6, .int v10), (5, .int v9), (7, .int v6), (0, .ref (X.1 63)), (1, .int a1), (2, .int a2), (3, .int a3)]) hx hb dX11_film_104 hl (k := 6) rfl (by rw [ev10]; rfl) (by decide) rfl (fun ls hl => ?_)
              refine lv_goto (tgt := 51) hx hb dX11_film_107 (by decide) ?_
              exact Kc _ (gv_inj h) _ _ _ hP hS (lv_sub hl [3, 4, 5, 6, 1, 0] rfl)
            refine lv_if_le (tgt := 77) hx hb dX11_film_70 (by decide) (fun hc => ?_) (fun hc => ?_)
            · have h := gv_pos hc h
              refine lv_iconst (v := 0) hx hb dX11_film_77 (by decide) ?_
              exact J78 (0 : Int32) _ _ _ h hP hS (lv_sub hl [0, 1, 2, 3, 4, 5] rfl)
            · have h := gv_neg hc h
              refine lv_iconst (v := 1) hx hb dX11_film_73 (by decide) ?_
              refine lv_goto (tgt := 78) hx hb dX11_film_74 (by decide) ?_
              exact J78 (1 : Int32) _ _ _ h hP hS (lv_sub hl [0, 1, 2, 3, 4, 5] rfl)
        · obtain ⟨v11, v12, s13⟩ := q13
          have h := gv_let_e (x := v11) rfl h
          have h := gv_let_e (x := v12) rfl h
          have h := gv_let_e (x := s13) rfl h
          intro H locs ls hP hS hl
          have hP : gw_P X s13 H := hP
          have hl : lv_has ls 8 [(5, .int v11)] := hl
          refine lv_iload hx hb dX11_film_110 (lv_at hl 0 rfl) ?_
          exact Kr _ _ _ _ _ _ (gv_inj h) hP hS dX11_film_112
      · have h := gv_neg hc h
        refine lv_iload hx hb dX11_film_42 (lv_at hl 0 rfl) ?_
        exact Kr _ _ _ _ _ _ (gv_inj h) hP hS dX11_film_44
    · have h := gv_pos hc h
      refine lv_iconst (v := -1) hx hb dX11_film_24 (by decide) ?_
      exact Kr _ _ _ _ _ _ (gv_inj h) hP hS dX11_film_25
theorem mX11_film (l : Launch) (X : gw_X) (s0 : gs_S) (a1 : Int32) (a2 : Int32) (a3 : Int32) {r : Int32} {τ : gs_S} (h : pX11_film a1 a2 a3 s0 = some (r, τ)) : Met l yX11_film wsX11_film rX11_film (gm_Pc X s0 [.ref (X.1 63), .int a1, .int a2, .int a3]) (gm_Qi X τ r) 0 0 (gw_A X) :=
  gm_of RX11 (by decide) rfl rfl (Nat.le_of_ble_eq_true rfl) (fun p e s m below meth c ls C0 hP hl hS => tX11_film C0 a1 a2 a3 s0 h (fun H locs ls pc r τ hr hP hS hd => by cases hr; exact gm_reti C0 hP hS hd) hP hS hl)
