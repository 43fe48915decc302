def pX11_bearNow_L2  (v1 : Int32) (s2 : gs_S) : Option ((Int32 × gs_S) ⊕ (Int32 × gs_S)) := if (64 : Int32) ≤ v1 then some (.inr (v1, s2)) else gv_bind (pX11_bears v1 s2) (fun v3 => gv_in v1 64 (gv_let (gs_u s2 76 v1.toNatClampNeg v3) (fun s5 => gv_let (v1 + (1 : Int32)) (fun v6 => some (.inl (v6, s5))))))
def pX11_bearNow  (s0 : gs_S) : Option (gs_S) := gv_bind (gv_loop (fun q => pX11_bearNow_L2 q.1 q.2) gv_N ((0 : Int32), s0)) (fun q => gv_let q.1 (fun v7 => gv_let q.2 (fun s8 => some s8)))
def rX11_bearNow : Room := { frames := 3, cells := 0, slots := 0, locals := 62 }
set_option maxHeartbeats 4000000 in
set_option maxRecDepth 100000 in
theorem tX11_bearNow {p : Program} {l : Launch} {e : Env} {s : State} {m : MethodId} {args : Array Value} {below : List Frame} {meth : Method} {c : Code} {X : gw_X} {Q : State → Prop} (C0 : gm_At p s m args meth c X cX11_bearNow 2 RX11 wsX11_bearNow none)  (s0 : gs_S) {z : gs_S} (h : pX11_bearNow s0 = some z) (Kr : ∀ (H : Heap) (locs : List Loc) (ls : Array Slot) (pc : Nat) (τ : gs_S), z = τ → gw_P X τ H → va_S (gw_A X) s.heap H locs → decode cX11_bearNow pc = .ok (.return_, 1) → W p l e rX11_bearNow s m args below meth c H locs 0 0 Q (F0 m pc ls [])) {H : Heap} {locs : List Loc} {ls : Array Slot} (hP : gw_P X s0 H) (hS : va_S (gw_A X) s.heap H locs) (hl : lv_has ls 2 [(0, .ref (X.1 63))]) : W p l e rX11_bearNow s m args below meth c H locs 0 0 Q (F0 m 0 ls []) := by
  obtain ⟨hx, hb, hml, hown, hts, hr, hlocks, hC⟩ := id C0
  unfold pX11_bearNow at h
  refine lv_iconst (v := 0) hx hb dX11_bearNow_0 (by decide) ?_
  refine lv_istore_n (lv' := [(1, .int (0 : Int32)), (0, .ref (X.1 63))]) hx hb dX11_bearNow_1 rfl hl (by decide) rfl (fun ls hl => ?_)
  obtain ⟨q8, hq8, h⟩ := gv_bind_e h
  refine gv_loop_ind (Φ := fun q => ∀ (H : Heap) (locs : List Loc) (ls : Array Slot), gw_P X q.2 H → va_S (gw_A X) s.heap H locs → lv_has ls 2 [(0, .ref (X.1 63)), (1, .int q.1)] → W p l e rX11_bearNow s m args below meth c H locs 0 0 Q (F0 m 2 ls [])) (Ψ := fun q => ∀ (H : Heap) (locs : List Loc) (ls : Array Slot), gw_P X q.2 H → va_S (gw_A X) s.heap H locs → lv_has ls 2 [] → W p l e rX11_bearNow s m args below meth c H locs 0 0 Q (F0 m 25 ls [])) ?_ gv_N ((0 : Int32), s0) q8 hq8 ?_ H locs ls hP hS (lv_sub hl [1, 0] rfl)
  · intro q x h Kc Ke H locs ls hP hS hl
    obtain ⟨v1, s2⟩ := q
    have h : pX11_bearNow_L2 v1 s2 = some x := h
    have hP : gw_P X s2 H := hP
    have hl : lv_has ls 2 [(0, .ref (X.1 63)), (1, .int v1)] := hl
    unfold pX11_bearNow_L2 at h
    refine lv_iload_n hx hb dX11_bearNow_2 rfl (lv_at hl 1 rfl) ?_
    refine lv_bipush (v := 64) hx hb dX11_bearNow_3 (by decide) ?_
    refine lv_icmp_ge (tgt := 25) hx hb dX11_bearNow_5 (by decide) (fun hc => ?_) (fun hc => ?_)
    · have h := gv_pos hc h
      exact Ke _ (gv_inj h) _ _ _ hP hS (lv_sub hl [] rfl)
    · have h := gv_neg hc h
      refine lv_aload_n hx hb dX11_bearNow_8 rfl (lv_at hl 0 rfl) ?_
      refine gv_get (ref := "IceByEarModel") (C := RX11) (T := TX11) (N := 28) (ci := 11) (v := .ref (X.1 76)) C0 (fun _ h9 => List.mem_cons_of_mem _ (List.mem_append_right _ h9)) hP 63 (gw_o11 X s2 gk_63.1) rfl 19 (by decide) (by decide +kernel) rfl rfl dX11_bearNow_9 ?_
      refine lv_iload_n hx hb dX11_bearNow_12 rfl (lv_at hl 1 rfl) ?_
      refine lv_aload_n hx hb dX11_bearNow_13 rfl (lv_at hl 0 rfl) ?_
      refine lv_iload_n hx hb dX11_bearNow_14 rfl (lv_at hl 1 rfl) ?_
      obtain ⟨v3, hv3, h⟩ := gv_bind_e h
      refine gv_ri (gv_runV (n := 1) (rest := [.int v1, .ref (X.1 76)]) C0 (mX11_bears l X s2 v1 hv3) gX11_bearNow_X11_bears rfl ⟨rfl, rfl⟩ (by decide +kernel) ⟨by decide, by decide⟩ gk_63.1 (by decide) rfl hP hS rfl hl.1 rfl (Nat.le_of_ble_eq_true rfl) dX11_bearNow_15 ⟨Nat.zero_le _, Nat.zero_le _⟩) hS (fun H locs hP hS => ?_)
      obtain ⟨hin4, h⟩ := gv_in_e h
      refine gv_iast C0 hP hS 76 gk_76.1 gk_76.2 hin4 dX11_bearNow_18 (fun s5 H locs es5 hP hS => ?_)
      have h := gv_let_e es5 h
      obtain ⟨v6, ev6⟩ : ∃ y : Int32, y = (v1 + (1 : Int32)) := ⟨_, rfl⟩
      have h := gv_let_e ev6 h
      refine lv_iinc (v := v6) (lv' := [(1, .int v6), (0, .ref (X.1 63))]) hx hb dX11_bearNow_19 hl (k := 1) rfl (by rw [ev6]; rfl) (by decide) rfl (fun ls hl => ?_)
      refine lv_goto (tgt := 2) hx hb dX11_bearNow_22 (by decide) ?_
      exact Kc _ (gv_inj h) _ _ _ hP hS (lv_sub hl [1, 0] rfl)
  · obtain ⟨v7, s8⟩ := q8
    have h := gv_let_e (x := v7) rfl h
    have h := gv_let_e (x := s8) rfl h
    intro H locs ls hP hS hl
    have hP : gw_P X s8 H := hP
    have hl : lv_has ls 2 [] := hl
    exact Kr _ _ _ _ _ (gv_inj h) hP hS dX11_bearNow_25
theorem mX11_bearNow (l : Launch) (X : gw_X) (s0 : gs_S)  {τ : gs_S} (h : pX11_bearNow s0 = some τ) : Met l yX11_bearNow wsX11_bearNow rX11_bearNow (gm_Pc X s0 [.ref (X.1 63)]) (gm_Qv X τ) 0 0 (gw_A X) :=
  gm_of RX11 (by decide) rfl rfl (Nat.le_of_ble_eq_true rfl) (fun p e s m below meth c ls C0 hP hl hS => tX11_bearNow C0  s0 h (fun H locs ls pc τ hr hP hS hd => by subst hr; exact gm_retv C0 hP hS hd) hP hS hl)
def pX11_needBy (a0 : Int32) (a1 : Int32) : Int32 := ((a0 * ((10 : Int32) + a1)) / (10 : Int32))
def rX11_needBy : Room := { frames := 0, cells := 0, slots := 0, locals := 0 }
set_option maxHeartbeats 4000000 in
set_option maxRecDepth 100000 in
theorem tX11_needBy {p : Program} {l : Launch} {e : Env} {s : State} {m : MethodId} {args : Array Value} {below : List Frame} {meth : Method} {c : Code} {X : gw_X} {Q : State → Prop} (C0 : gm_At p s m args meth c X cX11_needBy 2 RX11 wsX11_needBy (some .int)) (a0 : Int32) (a1 : Int32) (s0 : gs_S) {z : Int32} (h : pX11_needBy a0 a1 = z) (Kr : ∀ (H : Heap) (locs : List Loc) (ls : Array Slot) (pc : Nat) (r : Int32), z = r → gw_P X s0 H → va_S (gw_A X) s.heap H locs → decode cX11_needBy pc = .ok (.ireturn, 1) → W p l e rX11_needBy s m args below meth c H locs 0 0 Q (F0 m pc ls [.int r])) {H : Heap} {locs : List Loc} {ls : Array Slot} (hP : gw_P X s0 H) (hS : va_S (gw_A X) s.heap H locs) (hl : lv_has ls 2 [(0, .int a0), (1, .int a1)]) : W p l e rX11_needBy s m args below meth c H locs 0 0 Q (F0 m 0 ls []) := by
  obtain ⟨hx, hb, hml, hown, hts, hr, hlocks, hC⟩ := id C0
  unfold pX11_needBy at h
  refine lv_iload_n hx hb dX11_needBy_0 rfl (lv_at hl 0 rfl) ?_
  refine lv_bipush (v := 10) hx hb dX11_needBy_1 (by decide) ?_
  refine lv_iload_n hx hb dX11_needBy_3 rfl (lv_at hl 1 rfl) ?_
  refine lv_iadd hx hb dX11_needBy_4 ?_
  refine lv_imul hx hb dX11_needBy_5 ?_
  refine lv_bipush (v := 10) hx hb dX11_needBy_6 (by decide) ?_
  refine lv_idiv hx hb dX11_needBy_8 (by decide) ?_
  exact Kr _ _ _ _ _ h.symm hP hS dX11_needBy_9
theorem mX11_needBy (l : Launch) (X : gw_X) (s0 : gs_S) (a0 : Int32) (a1 : Int32) : Met l yX11_needBy wsX11_needBy rX11_needBy (gm_Pc X s0 [.int a0, .int a1]) (gm_Qi X s0 (pX11_needBy a0 a1)) 0 0 (gw_A X) :=
  gm_of RX11 (by decide) rfl rfl (Nat.le_of_ble_eq_true rfl) (fun p e s m below meth c ls C0 hP hl hS => tX11_needBy C0 a0 a1 s0 rfl (fun H locs ls pc r hr hP hS hd => by subst hr; exact gm_reti C0 hP hS hd) hP hS hl)
def pX11_roadSize_L32 (v3 : Int32) (a3 : Int32) (v5 : Int32) (s6 : gs_S) : Option ((Int32 × gs_S) ⊕ (Int32 × gs_S)) := if (4 : Int32) ≤ v5 then some (.inr (v5, s6)) else gv_in v3 64 (gv_let (pX11_nextTo (s6.1 74 v3.toNatClampNeg) v5) (fun v8 => if v8 < 0 then gv_let (v5 + (1 : Int32)) (fun v9 => some (.inl (v9, s6))) else gv_in v8 64 (if (s6.1 76 v8.toNatClampNeg) < a3 then gv_let (v5 + (1 : Int32)) (fun v11 => some (.inl (v11, s6))) else gv_in v3 64 (gv_in (s6.1 74 v3.toNatClampNeg) 64 (gv_bind (pX11_reach v8 ((s6.1 75 (s6.1 74 v3.toNatClampNeg).toNatClampNeg) + (1 : Int32)) s6) (fun s14 => gv_let (v5 + (1 : Int32)) (fun v15 => some (.inl (v15, s14)))))))))
def pX11_roadSize_L20 (a3 : Int32) (v3 : Int32) (s4 : gs_S) : Option ((Int32 × gs_S) ⊕ (Int32 × gs_S)) := if (s4.1 63 18) ≤ v3 then some (.inr (v3, s4)) else gv_bind (gv_loop (fun q => pX11_roadSize_L32 v3 a3 q.1 q.2) gv_N ((0 : Int32), s4)) (fun q => gv_let q.1 (fun v16 => gv_let q.2 (fun s17 => gv_let (v3 + (1 : Int32)) (fun v18 => some (.inl (v18, s17))))))
def pX11_roadSize (a1 : Int32) (a2 : Int32) (a3 : Int32) (s0 : gs_S) : Option (Int32 × gs_S) := gv_bind (pX11_beginAt a2 s0) (fun s1 => gv_in a2 64 (if a3 ≤ (s1.1 76 a2.toNatClampNeg) then gv_bind (gv_loop (fun q => pX11_roadSize_L20 a3 q.1 q.2) gv_N ((0 : Int32), s1)) (fun q => gv_let q.1 (fun v20 => gv_let q.2 (fun s21 => gv_in a1 64 (some (((s21.1 75 a1.toNatClampNeg) + (1 : Int32)), s21))))) else some ((0 : Int32), s1)))
def rX11_roadSize : Room := { frames := 2, cells := 0, slots := 0, locals := 44 }
set_option maxHeartbeats 4000000 in
set_option maxRecDepth 100000 in
theorem tX11_roadSize {p : Program} {l : Launch} {e : Env} {s : State} {m : MethodId} {args : Array Value} {below : List Frame} {meth : Method} {c : Code} {X : gw_X} {Q : State → Prop} (C0 : gm_At p s m args meth c X cX11_roadSize 7 RX11 wsX11_roadSize (some .int)) (a1 : Int32) (a2 : Int32) (a3 : Int32) (s0 : gs_S) {z : Int32 × gs_S} (h : pX11_roadSize a1 a2 a3 s0 = some z) (Kr : ∀ (H : Heap) (locs : List Loc) (ls : Array Slot) (pc : Nat) (r : Int32) (τ : gs_S), z = (r, τ) → gw_P X τ H → va_S (gw_A X) s.heap H locs → decode cX11_roadSize pc = .ok (.ireturn, 1) → W p l e rX11_roadSize s m args below meth c H locs 0 0 Q (F0 m pc ls [.int r])) {H : Heap} {locs : List Loc} {ls : Array Slot} (hP : gw_P X s0 H) (hS : va_S (gw_A X) s.heap H locs) (hl : lv_has ls 7 [(0, .ref (X.1 63)), (1, .int a1), (2, .int a2), (3, .int a3)]) : W p l e rX11_roadSize s m args below meth c H locs 0 0 Q (F0 m 0 ls []) := by
  obtain ⟨hx, hb, hml, hown, hts, hr, hlocks, hC⟩ := id C0
  unfold pX11_roadSize at h
  refine lv_aload_n hx hb dX11_roadSize_0 rfl (lv_at hl 0 rfl) ?_
  refine lv_iload_n hx hb dX11_roadSize_1 rfl (lv_at hl 2 rfl) ?_
  obtain ⟨s1, hs1, h⟩ := gv_bind_e h
  refine gv_rv (gv_runV (n := 1) (rest := []) C0 (mX11_beginAt l X s0 a2 hs1) gX11_roadSize_X11_beginAt rfl ⟨rfl, rfl⟩ (by decide +kernel) ⟨by decide, by decide⟩ gk_63.1 (by decide) rfl hP hS rfl hl.1 rfl (Nat.le_of_ble_eq_true rfl) dX11_roadSize_2 ⟨Nat.zero_le _, Nat.zero_le _⟩) hS (fun H locs hP hS => ?_)
  refine lv_aload_n hx hb dX11_roadSize_5 rfl (lv_at hl 0 rfl) ?_
  refine gv_get (ref := "IceByEarModel") (C := RX11) (T := TX11) (N := 28) (ci := 11) (v := .ref (X.1 76)) C0 (fun _ h9 => List.mem_cons_of_mem _ (List.mem_append_right _ h9)) hP 63 (gw_o11 X s1 gk_63.1) rfl 19 (by decide) (by decide +kernel) rfl rfl dX11_roadSize_6 ?_
  refine lv_iload_n hx hb dX11_roadSize_9 rfl (lv_at hl 2 rfl) ?_
  obtain ⟨hin2, h⟩ := gv_in_e h
  refine gv_iald C0 hP 76 gk_76.1 gk_76.2 hin2 dX11_roadSize_10 ?_
  refine lv_iload_n hx hb dX11_roadSize_11 rfl (lv_at hl 3 rfl) ?_
  refine lv_icmp_ge (tgt := 17) hx hb dX11_roadSize_12 (by decide) (fun hc => ?_) (fun hc => ?_)
  · have h := gv_pos hc h
    refine lv_iconst (v := 0) hx hb dX11_roadSize_17 (by decide) ?_
    refine lv_istore (lv' := [(4, .int (0 : Int32)), (0, .ref (X.1 63)), (1, .int a1), (2, .int a2), (3, .int a3)]) hx hb dX11_roadSize_18 hl (by decide) rfl (fun ls hl => ?_)
    obtain ⟨q22, hq22, h⟩ := gv_bind_e h
    refine gv_loop_ind (Φ := fun q => ∀ (H : Heap) (locs : List Loc) (ls : Array Slot), gw_P X q.2 H → va_S (gw_A X) s.heap H locs → lv_has ls 7 [(0, .ref (X.1 63)), (1, .int a1), (3, .int a3), (4, .int q.1)] → W p l e rX11_roadSize s m args below meth c H locs 0 0 Q (F0 m 20 ls [])) (Ψ := fun q => ∀ (H : Heap) (locs : List Loc) (ls : Array Slot), gw_P X q.2 H → va_S (gw_A X) s.heap H locs → lv_has ls 7 [(0, .ref (X.1 63)), (1, .int a1)] → W p l e rX11_roadSize s m args below meth c H locs 0 0 Q (F0 m 100 ls [])) ?_ gv_N ((0 : Int32), s1) q22 hq22 ?_ H locs ls hP hS (lv_sub hl [1, 2, 4, 0] rfl)
    · intro q x h Kc Ke H locs ls hP hS hl
      obtain ⟨v3, s4⟩ := q
      have h : pX11_roadSize_L20 a3 v3 s4 = some x := h
      have hP : gw_P X s4 H := hP
      have hl : lv_has ls 7 [(0, .ref (X.1 63)), (1, .int a1), (3, .int a3), (4, .int v3)] := hl
      unfold pX11_roadSize_L20 at h
      refine lv_iload hx hb dX11_roadSize_20 (lv_at hl 3 rfl) ?_
      refine lv_aload_n hx hb dX11_roadSize_22 rfl (lv_at hl 0 rfl) ?_
      refine gv_get (ref := "IceByEarModel") (C := RX11) (T := TX11) (N := 28) (ci := 11) (v := .int (s4.1 63 18)) C0 (fun _ h9 => List.mem_cons_of_mem _ (List.mem_append_right _ h9)) hP 63 (gw_o11 X s4 gk_63.1) rfl 18 (by decide) (by decide +kernel) rfl rfl dX11_roadSize_23 ?_
      refine lv_icmp_ge (tgt := 100) hx hb dX11_roadSize_26 (by decide) (fun hc => ?_) (fun hc => ?_)
      · have h := gv_pos hc h
        exact Ke _ (gv_inj h) _ _ _ hP hS (lv_sub hl [0, 1] rfl)
      · have h := gv_neg hc h
        refine lv_iconst (v := 0) hx hb dX11_roadSize_29 (by decide) ?_
        refine lv_istore (lv' := [(5, .int (0 : Int32)), (0, .ref (X.1 63)), (1, .int a1), (3, .int a3), (4, .int v3)]) hx hb dX11_roadSize_30 hl (by decide) rfl (fun ls hl => ?_)
        obtain ⟨q18, hq18, h⟩ := gv_bind_e h
        refine gv_loop_ind (Φ := fun q => ∀ (H : Heap) (locs : List Loc) (ls : Array Slot), gw_P X q.2 H → va_S (gw_A X) s.heap H locs → lv_has ls 7 [(0, .ref (X.1 63)), (1, .int a1), (3, .int a3), (4, .int v3), (5, .int q.1)] → W p l e rX11_roadSize s m args below meth c H locs 0 0 Q (F0 m 32 ls [])) (Ψ := fun q => ∀ (H : Heap) (locs : List Loc) (ls : Array Slot), gw_P X q.2 H → va_S (gw_A X) s.heap H locs → lv_has ls 7 [(0, .ref (X.1 63)), (1, .int a1), (3, .int a3), (4, .int v3)] → W p l e rX11_roadSize s m args below meth c H locs 0 0 Q (F0 m 94 ls [])) ?_ gv_N ((0 : Int32), s4) q18 hq18 ?_ H locs ls hP hS (lv_sub hl [1, 2, 3, 4, 0] rfl)
        · intro q x h Kc Ke H locs ls hP hS hl
          obtain ⟨v5, s6⟩ := q
          have h : pX11_roadSize_L32 v3 a3 v5 s6 = some x := h
          have hP : gw_P X s6 H := hP
          have hl : lv_has ls 7 [(0, .ref (X.1 63)), (1, .int a1), (3, .int a3), (4, .int v3), (5, .int v5)] := hl
          unfold pX11_roadSize_L32 at h
          refine lv_iload hx hb dX11_roadSize_32 (lv_at hl 4 rfl) ?_
          refine lv_iconst (v := 4) hx hb dX11_roadSize_34 (by decide) ?_
          refine lv_icmp_ge (tgt := 94) hx hb dX11_roadSize_35 (by decide) (fun hc => ?_) (fun hc => ?_)
          · have h := gv_pos hc h
            exact Ke _ (gv_inj h) _ _ _ hP hS (lv_sub hl [0, 1, 2, 3] rfl)
          · have h := gv_neg hc h
            refine lv_aload_n hx hb dX11_roadSize_38 rfl (lv_at hl 0 rfl) ?_
            refine gv_get (ref := "IceByEarModel") (C := RX11) (T := TX11) (N := 28) (ci := 11) (v := .ref (X.1 74)) C0 (fun _ h9 => List.mem_cons_of_mem _ (List.mem_append_right _ h9)) hP 63 (gw_o11 X s6 gk_63.1) rfl 16 (by decide) (by decide +kernel) rfl rfl dX11_roadSize_39 ?_
            refine lv_iload hx hb dX11_roadSize_42 (lv_at hl 3 rfl) ?_
            obtain ⟨hin7, h⟩ := gv_in_e h
            refine gv_iald C0 hP 74 gk_74.1 gk_74.2 hin7 dX11_roadSize_44 ?_
            refine lv_iload hx hb dX11_roadSize_45 (lv_at hl 4 rfl) ?_
            refine gv_ri (gv_runS (n := 2) (rest := []) C0 (mX11_nextTo l X s6 (s6.1 74 v3.toNatClampNeg) v5) gX11_roadSize_X11_nextTo rfl ⟨rfl, rfl⟩ (by decide +kernel) ⟨by decide, by decide⟩ hP hS rfl hl.1 rfl (Nat.le_of_ble_eq_true rfl) dX11_roadSize_47 ⟨Nat.zero_le _, Nat.zero_le _⟩) hS (fun H locs hP hS => ?_)
            refine lv_topi (fun v8 ev8 => ?_)
            have h := gv_let_e ev8 h
            refine lv_istore (lv' := [(6, .int v8), (0, .ref (X.1 63)), (1, .int a1), (3, .int a3), (4, .int v3), (5, .int v5)]) hx hb dX11_roadSize_50 hl (by decide) rfl (fun ls hl => ?_)
            refine lv_iload hx hb dX11_roadSize_52 (lv_at hl 0 rfl) ?_
            refine lv_if_lt (tgt := 88) hx hb dX11_roadSize_54 (by decide) (fun hc => ?_) (fun hc => ?_)
            · have h := gv_pos hc h
              obtain ⟨v9, ev9⟩ : ∃ y : Int32, y = (v5 + (1 : Int32)) := ⟨_, rfl⟩
              have h := gv_let_e ev9 h
              refine lv_iinc (v := v9) (lv' := [(5, .int v9), (6, .int v8), (0, .ref (X.1 63)), (1, .int a1), (3, .int a3), (4, .int v3)]) hx hb dX11_roadSize_88 hl (k := 5) rfl (by rw [ev9]; rfl) (by decide) rfl (fun ls hl => ?_)
              refine lv_goto (tgt := 32) hx hb dX11_roadSize_91 (by decide) ?_
              exact Kc _ (gv_inj h) _ _ _ hP hS (lv_sub hl [2, 3, 4, 5, 0] rfl)
            · have h := gv_neg hc h
              refine lv_aload_n hx hb dX11_roadSize_57 rfl (lv_at hl 1 rfl) ?_
              refine gv_get (ref := "IceByEarModel") (C := RX11) (T := TX11) (N := 28) (ci := 11) (v := .ref (X.1 76)) C0 (fun _ h9 => List.mem_cons_of_mem _ (List.mem_append_right _ h9)) hP 63 (gw_o11 X s6 gk_63.1) rfl 19 (by decide) (by decide +kernel) rfl rfl dX11_roadSize_58 ?_
              refine lv_iload hx hb dX11_roadSize_61 (lv_at hl 0 rfl) ?_
              obtain ⟨hin10, h⟩ := gv_in_e h
              refine gv_iald C0 hP 76 gk_76.1 gk_76.2 hin10 dX11_roadSize_63 ?_
              refine lv_iload_n hx hb dX11_roadSize_64 rfl (lv_at hl 3 rfl) ?_
              refine lv_icmp_lt (tgt := 88) hx hb dX11_roadSize_65 (by decide) (fun hc => ?_) (fun hc => ?_)
              · have h := gv_pos hc h
                obtain ⟨v11, ev11⟩ : ∃ y : Int32, y = (v5 + (1 : Int32)) := ⟨_, rfl⟩
                have h := gv_let_e ev11 h
                refine lv_iinc (v := v11) (lv' := [(5, .int v11), (6, .int v8), (0, .ref (X.1 63)), (1, .int a1), (3, .int a3), (4, .int v3)]) hx hb dX11_roadSize_88 hl (k := 5) rfl (by rw [ev11]; rfl) (by decide) rfl (fun ls hl => ?_)
                refine lv_goto (tgt := 32) hx hb dX11_roadSize_91 (by decide) ?_
                exact Kc _ (gv_inj h) _ _ _ hP hS (lv_sub hl [2, 3, 4, 5, 0] rfl)
              · have h := gv_neg hc h
                refine lv_aload_n hx hb dX11_roadSize_68 rfl (lv_at hl 1 rfl) ?_
                refine lv_iload hx hb dX11_roadSize_69 (lv_at hl 0 rfl) ?_
                refine lv_aload_n hx hb dX11_roadSize_71 rfl (lv_at hl 1 rfl) ?_
                refine gv_get (ref := "IceByEarModel") (C := RX11) (T := TX11) (N := 28) (ci := 11) (v := .ref (X.1 75)) C0 (fun _ h9 => List.mem_cons_of_mem _ (List.mem_append_right _ h9)) hP 63 (gw_o11 X s6 gk_63.1) rfl 17 (by decide) (by decide +kernel) rfl rfl dX11_roadSize_72 ?_
                refine lv_aload_n hx hb dX11_roadSize_75 rfl (lv_at hl 1 rfl) ?_
                refine gv_get (ref := "IceByEarModel") (C := RX11) (T := TX11) (N := 28) (ci := 11) (v := .ref (X.1 74)) C0 (fun _ h9 => List.mem_cons_of_mem _ (List.mem_append_right _ h9)) hP 63 (gw_o11 X s6 gk_63.1) rfl 16 (by decide) (by decide +kernel) rfl rfl dX11_roadSize_76 ?_
                refine lv_iload hx hb dX11_roadSize_79 (lv_at hl 4 rfl) ?_
                obtain ⟨hin12, h⟩ := gv_in_e h
                refine gv_iald C0 hP 74 gk_74.1 gk_74.2 hin12 dX11_roadSize_81 ?_
                obtain ⟨hin13, h⟩ := gv_in_e h
                refine gv_iald C0 hP 75 gk_75.1 gk_75.2 hin13 dX11_roadSize_82 ?_
                refine lv_iconst (v := 1) hx hb dX11_roadSize_83 (by decide) ?_
                refine lv_iadd hx hb dX11_roadSize_84 ?_
                obtain ⟨s14, hs14, h⟩ := gv_bind_e h
                refine gv_rv (gv_runV (n := 2) (rest := []) C0 (mX11_reach l X s6 v8 ((s6.1 75 (s6.1 74 v3.toNatClampNeg).toNatClampNeg) + (1 : Int32)) hs14) gX11_roadSize_X11_reach rfl ⟨rfl, rfl⟩ (by decide +kernel) ⟨by decide, by decide⟩ gk_63.1 (by decide) rfl hP hS rfl hl.1 rfl (Nat.le_of_ble_eq_true rfl) dX11_roadSize_85 ⟨Nat.zero_le _, Nat.zero_le _⟩) hS (fun H locs hP hS => ?_)
                obtain ⟨v15, ev15⟩ : ∃ y : Int32, y = (v5 + (1 : Int32)) := ⟨_, rfl⟩
                have h := gv_let_e ev15 h
                refine lv_iinc (v := v15) (lv' := [(5, .int v15), (6, .int v8), (0, .ref (X.1 63)), (1, .int a1), (3, .int a3), (4, .int v3)]) hx hb dX11_roadSize_88 hl (k := 5) rfl (by rw [ev15]; rfl) (by decide) rfl (fun ls hl => ?_)
                refine lv_goto (tgt := 32) hx hb dX11_roadSize_91 (by decide) ?_
                exact Kc _ (gv_inj h) _ _ _ hP hS (lv_sub hl [2, 3, 4, 5, 0] rfl)
        · obtain ⟨v16, s17⟩ := q18
          have h := gv_let_e (x := v16) rfl h
          have h := gv_let_e (x := s17) rfl h
          intro H locs ls hP hS hl
          have hP : gw_P X s17 H := hP
          have hl : lv_has ls 7 [(0, .ref (X.1 63)), (1, .int a1), (3, .int a3), (4, .int v3)] := hl
          obtain ⟨v18, ev18⟩ : ∃ y : Int32, y = (v3 + (1 : Int32)) := ⟨_, rfl⟩
          have h := gv_let_e ev18 h
          refine lv_iinc (v := v18) (lv' := [(4, .int v18), (0, .ref (X.1 63)), (1, .int a1), (3, .int a3)]) hx hb dX11_roadSize_94 hl (k := 3) rfl (by rw [ev18]; rfl) (by decide) rfl (fun ls hl => ?_)
          refine lv_goto (tgt := 20) hx hb dX11_roadSize_97 (by decide) ?_
          exact Kc _ (gv_inj h) _ _ _ hP hS (lv_sub hl [1, 2, 3, 0] rfl)
    · obtain ⟨v20, s21⟩ := q22
      have h := gv_let_e (x := v20) rfl h
      have h := gv_let_e (x := s21) rfl h
      intro H locs ls hP hS hl
      have hP : gw_P X s21 H := hP
      have hl : lv_has ls 7 [(0, .ref (X.1 63)), (1, .int a1)] := hl
      refine lv_aload_n hx hb dX11_roadSize_100 rfl (lv_at hl 0 rfl) ?_
      refine gv_get (ref := "IceByEarModel") (C := RX11) (T := TX11) (N := 28) (ci := 11) (v := .ref (X.1 75)) C0 (fun _ h9 => List.mem_cons_of_mem _ (List.mem_append_right _ h9)) hP 63 (gw_o11 X s21 gk_63.1) rfl 17 (by decide) (by decide +kernel) rfl rfl dX11_roadSize_101 ?_
      refine lv_iload_n hx hb dX11_roadSize_104 rfl (lv_at hl 1 rfl) ?_
      obtain ⟨hin22, h⟩ := gv_in_e h
      refine gv_iald C0 hP 75 gk_75.1 gk_75.2 hin22 dX11_roadSize_105 ?_
      refine lv_iconst (v := 1) hx hb dX11_roadSize_106 (by decide) ?_
      refine lv_iadd hx hb dX11_roadSize_107 ?_
      exact Kr _ _ _ _ _ _ (gv_inj h) hP hS dX11_roadSize_108
  · have h := gv_neg hc h
    refine lv_iconst (v := 0) hx hb dX11_roadSize_15 (by decide) ?_
    exact Kr _ _ _ _ _ _ (gv_inj h) hP hS dX11_roadSize_16
theorem mX11_roadSize (l : Launch) (X : gw_X) (s0 : gs_S) (a1 : Int32) (a2 : Int32) (a3 : Int32) {r : Int32} {τ : gs_S} (h : pX11_roadSize a1 a2 a3 s0 = some (r, τ)) : Met l yX11_roadSize wsX11_roadSize rX11_roadSize (gm_Pc X s0 [.ref (X.1 63), .int a1, .int a2, .int a3]) (gm_Qi X τ r) 0 0 (gw_A X) :=
  gm_of RX11 (by decide) rfl rfl (Nat.le_of_ble_eq_true rfl) (fun p e s m below meth c ls C0 hP hl hS => tX11_roadSize C0 a1 a2 a3 s0 h (fun H locs ls pc r τ hr hP hS hd => by cases hr; exact gm_reti C0 hP hS hd) hP hS hl)
def pX11_isRoad (a0 : Int32) (a1 : Int32) (a2 : Int32) (a3 : Int32) : Int32 := if (pX11_isSquare (a0.toInt64)) = 0 then (0 : Int32) else if (pX11_isSquare (a1.toInt64)) = 0 then (0 : Int32) else if (pX11_in (a2.toInt64) (1 : Int64) (99 : Int64)) = 0 then (0 : Int32) else if (pX11_in (a3.toInt64) (1 : Int64) (9 : Int64)) = 0 then (0 : Int32) else (1 : Int32)
def rX11_isRoad : Room := { frames := 2, cells := 0, slots := 0, locals := 46 }
set_option maxHeartbeats 4000000 in
set_option maxRecDepth 100000 in
theorem tX11_isRoad {p : Program} {l : Launch} {e : Env} {s : State} {m : MethodId} {args : Array Value} {below : List Frame} {meth : Method} {c : Code} {X : gw_X} {Q : State → Prop} (C0 : gm_At p s m args meth c X cX11_isRoad 4 RX11 wsX11_isRoad (some .boolean)) (a0 : Int32) (a1 : Int32) (a2 : Int32) (a3 : Int32) (s0 : gs_S) {z : Int32} (h : pX11_isRoad a0 a1 a2 a3 = z) (Kr : ∀ (H : Heap) (locs : List Loc) (ls : Array Slot) (pc : Nat) (r : Int32), z = r → narrow .boolean (.int r) = .int r → gw_P X s0 H → va_S (gw_A X) s.heap H locs → decode cX11_isRoad pc = .ok (.ireturn, 1) → W p l e rX11_isRoad s m args below meth c H locs 0 0 Q (F0 m pc ls [.int r])) {H : Heap} {locs : List Loc} {ls : Array Slot} (hP : gw_P X s0 H) (hS : va_S (gw_A X) s.heap H locs) (hl : lv_has ls 4 [(0, .int a0), (1, .int a1), (2, .int a2), (3, .int a3)]) : W p l e rX11_isRoad s m args below meth c H locs 0 0 Q (F0 m 0 ls []) := by
  obtain ⟨hx, hb, hml, hown, hts, hr, hlocks, hC⟩ := id C0
  unfold pX11_isRoad at h
  refine lv_iload_n hx hb dX11_isRoad_0 rfl (lv_at hl 0 rfl) ?_
  refine lv_i2l hx hb dX11_isRoad_1 rfl ?_
  refine gv_ri (gv_runS (n := 1) (rest := []) C0 (mX11_isSquare l X s0 (a0.toInt64)) gX11_isRoad_X11_isSquare rfl ⟨rfl, rfl⟩ (by decide +kernel) ⟨by decide, by decide⟩ hP hS rfl hl.1 rfl (Nat.le_of_ble_eq_true rfl) dX11_isRoad_2 ⟨Nat.zero_le _, Nat.zero_le _⟩) hS (fun H locs hP hS => ?_)
  refine lv_if_eq (tgt := 44) hx hb dX11_isRoad_5 (by decide) (fun hc => ?_) (fun hc => ?_)
  · have h := gv_pos hc h
    refine lv_iconst (v := 0) hx hb dX11_isRoad_44 (by decide) ?_
    exact Kr _ _ _ _ _ h.symm (show narrow .boolean (.int (0 : Int32)) = .int (0 : Int32) by decide) hP hS dX11_isRoad_45
  · have h := gv_neg hc h
    refine lv_iload_n hx hb dX11_isRoad_8 rfl (lv_at hl 1 rfl) ?_
    refine lv_i2l hx hb dX11_isRoad_9 rfl ?_
    refine gv_ri (gv_runS (n := 1) (rest := []) C0 (mX11_isSquare l X s0 (a1.toInt64)) gX11_isRoad_X11_isSquare rfl ⟨rfl, rfl⟩ (by decide +kernel) ⟨by decide, by decide⟩ hP hS rfl hl.1 rfl (Nat.le_of_ble_eq_true rfl) dX11_isRoad_10 ⟨Nat.zero_le _, Nat.zero_le _⟩) hS (fun H locs hP hS => ?_)
    refine lv_if_eq (tgt := 44) hx hb dX11_isRoad_13 (by decide) (fun hc => ?_) (fun hc => ?_)
    · have h := gv_pos hc h
      refine lv_iconst (v := 0) hx hb dX11_isRoad_44 (by decide) ?_
      exact Kr _ _ _ _ _ h.symm (show narrow .boolean (.int (0 : Int32)) = .int (0 : Int32) by decide) hP hS dX11_isRoad_45
    · have h := gv_neg hc h
      refine lv_iload_n hx hb dX11_isRoad_16 rfl (lv_at hl 2 rfl) ?_
      refine lv_i2l hx hb dX11_isRoad_17 rfl ?_
      refine lv_lconst (v := 1) hx hb dX11_isRoad_18 (by decide) ?_
      refine lv_ldc2 (v := 99) hx hb hown (hts (.constantLong RX11 110 (99)) (by decide +kernel)) dX11_isRoad_19 ?_
      refine gv_ri (gv_runS (n := 3) (rest := []) C0 (mX11_in l X s0 (a2.toInt64) (1 : Int64) (99 : Int64)) gX11_isRoad_X11_in rfl ⟨rfl, rfl⟩ (by decide +kernel) ⟨by decide, by decide⟩ hP hS rfl hl.1 rfl (Nat.le_of_ble_eq_true rfl) dX11_isRoad_22 ⟨Nat.zero_le _, Nat.zero_le _⟩) hS (fun H locs hP hS => ?_)
      refine lv_if_eq (tgt := 44) hx hb dX11_isRoad_25 (by decide) (fun hc => ?_) (fun hc => ?_)
      · have h := gv_pos hc h
        refine lv_iconst (v := 0) hx hb dX11_isRoad_44 (by decide) ?_
        exact Kr _ _ _ _ _ h.symm (show narrow .boolean (.int (0 : Int32)) = .int (0 : Int32) by decide) hP hS dX11_isRoad_45
      · have h := gv_neg hc h
        refine lv_iload_n hx hb dX11_isRoad_28 rfl (lv_at hl 3 rfl) ?_
        refine lv_i2l hx hb dX11_isRoad_29 rfl ?_
        refine lv_lconst (v := 1) hx hb dX11_isRoad_30 (by decide) ?_
        refine lv_ldc2 (v := 9) hx hb hown (hts (.constantLong RX11 102 (9)) (by decide +kernel)) dX11_isRoad_31 ?_
        refine gv_ri (gv_runS (n := 3) (rest := []) C0 (mX11_in l X s0 (a3.toInt64) (1 : Int64) (9 : Int64)) gX11_isRoad_X11_in rfl ⟨rfl, rfl⟩ (by decide +kernel) ⟨by decide, by decide⟩ hP hS rfl hl.1 rfl (Nat.le_of_ble_eq_true rfl) dX11_isRoad_34 ⟨Nat.zero_le _, Nat.zero_le _⟩) hS (fun H locs hP hS => ?_)
        refine lv_if_eq (tgt := 44) hx hb dX11_isRoad_37 (by decide) (fun hc => ?_) (fun hc => ?_)
        · have h := gv_pos hc h
          refine lv_iconst (v := 0) hx hb dX11_isRoad_44 (by decide) ?_
          exact Kr _ _ _ _ _ h.symm (show narrow .boolean (.int (0 : Int32)) = .int (0 : Int32) by decide) hP hS dX11_isRoad_45
        · have h := gv_neg hc h
          refine lv_iconst (v := 1) hx hb dX11_isRoad_40 (by decide) ?_
          refine lv_goto (tgt := 45) hx hb dX11_isRoad_41 (by decide) ?_
          exact Kr _ _ _ _ _ h.symm (show narrow .boolean (.int (1 : Int32)) = .int (1 : Int32) by decide) hP hS dX11_isRoad_45
theorem mX11_isRoad (l : Launch) (X : gw_X) (s0 : gs_S) (a0 : Int32) (a1 : Int32) (a2 : Int32) (a3 : Int32) : Met l yX11_isRoad wsX11_isRoad rX11_isRoad (gm_Pc X s0 [.int a0, .int a1, .int a2, .int a3]) (gm_Qi X s0 (pX11_isRoad a0 a1 a2 a3)) 0 0 (gw_A X) :=
  gm_of RX11 (by decide) rfl rfl (Nat.le_of_ble_eq_true rfl) (fun p e s m below meth c ls C0 hP hl hS => tX11_isRoad C0 a0 a1 a2 a3 s0 rfl (fun H locs ls pc r hr hn hP hS hd => by subst hr; exact gm_retz hn C0 hP hS hd) hP hS hl)
theorem bX11_isRoad (a0 : Int32) (a1 : Int32) (a2 : Int32) (a3 : Int32) : narrow .boolean (.int (pX11_isRoad a0 a1 a2 a3)) = .int (pX11_isRoad a0 a1 a2 a3) := by
  unfold pX11_isRoad
  repeat' split
  all_goals first | rfl | exact bX11_in _ _ _ | exact bX11_isSquare _
def pX11_road_L80 (v4 : Int32) (s3 : gs_S) (v6 : Int32) (v7 : Int32) : Option ((Int32 × Int32) ⊕ (Int32 × Int32)) := if v7 < 0 then some (.inr (v6, v7)) else gv_let (pX11_nextTo v4 v7) (fun v8 => if v8 < 0 then gv_let (v7 + (-1 : Int32)) (fun v9 => some (.inl (v6, v9))) else gv_in v8 64 (if (s3.1 75 v8.toNatClampNeg) < 0 then gv_let (v7 + (-1 : Int32)) (fun v11 => some (.inl (v6, v11))) else gv_in v8 64 (gv_in v4 64 (if (s3.1 75 v8.toNatClampNeg) = ((s3.1 75 v4.toNatClampNeg) - (1 : Int32)) then gv_let (v7 + (-1 : Int32)) (fun v15 => some (.inl (v8, v15))) else gv_let (v7 + (-1 : Int32)) (fun v14 => some (.inl (v6, v14)))))))
def pX11_road_L67 (a5 : Int32) (s3 : gs_S) (v4 : Int32) (v5 : Int32) : Option ((Int32 × Int32) ⊕ (Int32 × Int32)) := if a5 ≤ v5 then some (.inr (v4, v5)) else gv_bind (gv_loop (fun q => pX11_road_L80 v4 s3 q.1 q.2) gv_N ((-1 : Int32), (3 : Int32))) (fun q => gv_let q.1 (fun v16 => gv_let q.2 (fun v17 => gv_let (v5 + (1 : Int32)) (fun v18 => some (.inl (v16, v18))))))
def pX11_road (a1 : Int32) (a2 : Int32) (a3 : Int32) (a4 : Int32) (a5 : Int32) (s0 : gs_S) : Option (Int32 × gs_S) := if (pX11_isRoad a1 a2 a3 a4) = 0 then some ((-1 : Int32), s0) else if (pX11_in (a5.toInt64) (-1 : Int64) (63 : Int64)) = 0 then some ((-1 : Int32), s0) else gv_bind (pX11_bearNow s0) (fun s1 => gv_bind2 (pX11_roadSize a1 a2 (pX11_needBy a3 a4) s1) (fun v2 s3 => if v2 = 0 then some ((-4 : Int32), s3) else if a5 < v2 then gv_bind (gv_loop (fun q => pX11_road_L67 a5 s3 q.1 q.2) gv_N (a1, (0 : Int32))) (fun q => gv_let q.1 (fun v20 => gv_let q.2 (fun v21 => if 0 ≤ a5 then some (v20, s3) else some (v2, s3)))) else some ((-4 : Int32), s3)))
def rX11_road : Room := { frames := 4, cells := 0, slots := 0, locals := 83 }
set_option maxHeartbeats 4000000 in
set_option maxRecDepth 100000 in
theorem tX11_road {p : Program} {l : Launch} {e : Env} {s : State} {m : MethodId} {args : Array Value} {below : List Frame} {meth : Method} {c : Code} {X : gw_X} {Q : State → Prop} (C0 : gm_At p s m args meth c X cX11_road 12 RX11 wsX11_road (some .int)) (a1 : Int32) (a2 : Int32) (a3 : Int32) (a4 : Int32) (a5 : Int32) (s0 : gs_S) {z : Int32 × gs_S} (h : pX11_road a1 a2 a3 a4 a5 s0 = some z) (Kr : ∀ (H : Heap) (locs : List Loc) (ls : Array Slot) (pc : Nat) (r : Int32) (τ : gs_S), z = (r, τ) → gw_P X τ H → va_S (gw_A X) s.heap H locs → decode cX11_road pc = .ok (.ireturn, 1) → W p l e rX11_road s m args below meth c H locs 0 0 Q (F0 m pc ls [.int r])) {H : Heap} {locs : List Loc} {ls : Array Slot} (hP : gw_P X s0 H) (hS : va_S (gw_A X) s.heap H locs) (hl : lv_has ls 12 [(0, .ref (X.1 63)), (1, .int a1), (2, .int a2), (3, .int a3), (4, .int a4), (5, .int a5)]) : W p l e rX11_road s m args below meth c H locs 0 0 Q (F0 m 0 ls []) := by
  obtain ⟨hx, hb, hml, hown, hts, hr, hlocks, hC⟩ := id C0
  unfold pX11_road at h
  refine lv_iload_n hx hb dX11_road_0 rfl (lv_at hl 1 rfl) ?_
  refine lv_iload_n hx hb dX11_road_1 rfl (lv_at hl 2 rfl) ?_
  refine lv_iload_n hx hb dX11_road_2 rfl (lv_at hl 3 rfl) ?_
  refine lv_iload hx hb dX11_road_3 (lv_at hl 4 rfl) ?_
  refine gv_ri (gv_runS (n := 4) (rest := []) C0 (mX11_isRoad l X s0 a1 a2 a3 a4) gX11_road_X11_isRoad rfl ⟨rfl, rfl⟩ (by decide +kernel) ⟨by decide, by decide⟩ hP hS rfl hl.1 rfl (Nat.le_of_ble_eq_true rfl) dX11_road_5 ⟨Nat.zero_le _, Nat.zero_le _⟩) hS (fun H locs hP hS => ?_)
  refine lv_if_eq (tgt := 26) hx hb dX11_road_8 (by decide) (fun hc => ?_) (fun hc => ?_)
  · have h := gv_pos hc h
    refine lv_iconst (v := -1) hx hb dX11_road_26 (by decide) ?_
    exact Kr _ _ _ _ _ _ (gv_inj h) hP hS dX11_road_27
  · have h := gv_neg hc h
    refine lv_iload hx hb dX11_road_11 (lv_at hl 5 rfl) ?_
    refine lv_i2l hx hb dX11_road_13 rfl ?_
    refine lv_ldc2 (v := -1) hx hb hown (hts (.constantLong RX11 197 (-1)) (by decide +kernel)) dX11_road_14 ?_
    refine lv_ldc2 (v := 63) hx hb hown (hts (.constantLong RX11 71 (63)) (by decide +kernel)) dX11_road_17 ?_
    refine gv_ri (gv_runS (n := 3) (rest := []) C0 (mX11_in l X s0 (a5.toInt64) (-1 : Int64) (63 : Int64)) gX11_road_X11_in rfl ⟨rfl, rfl⟩ (by decide +kernel) ⟨by decide, by decide⟩ hP hS rfl hl.1 rfl (Nat.le_of_ble_eq_true rfl) dX11_road_20 ⟨Nat.zero_le _, Nat.zero_le _⟩) hS (fun H locs hP hS => ?_)
    refine lv_if_ne (tgt := 28) hx hb dX11_road_23 (by decide) (fun hc => ?_) (fun hc => ?_)
    · have h := gv_neg hc h
      refine lv_aload_n hx hb dX11_road_28 rfl (lv_at hl 0 rfl) ?_
      obtain ⟨s1, hs1, h⟩ := gv_bind_e h
      refine gv_rv (gv_runV (n := 0) (rest := []) C0 (mX11_bearNow l X s0  hs1) gX11_road_X11_bearNow rfl ⟨rfl, rfl⟩ (by decide +kernel) ⟨by decide, by decide⟩ gk_63.1 (by decide) rfl hP hS rfl hl.1 rfl (Nat.le_of_ble_eq_true rfl) dX11_road_29 ⟨Nat.zero_le _, Nat.zero_le _⟩) hS (fun H locs hP hS => ?_)
      refine lv_aload_n hx hb dX11_road_32 rfl (lv_at hl 0 rfl) ?_
      refine lv_iload_n hx hb dX11_road_33 rfl (lv_at hl 1 rfl) ?_
      refine lv_iload_n hx hb dX11_road_34 rfl (lv_at hl 2 rfl) ?_
      refine lv_iload_n hx hb dX11_road_35 rfl (lv_at hl 3 rfl) ?_
      refine lv_iload hx hb dX11_road_36 (lv_at hl 4 rfl) ?_
      refine gv_ri (gv_runS (n := 2) (rest := [.int a2, .int a1, .ref (X.1 63)]) C0 (mX11_needBy l X s1 a3 a4) gX11_road_X11_needBy rfl ⟨rfl, rfl⟩ (by decide +kernel) ⟨by decide, by decide⟩ hP hS rfl hl.1 rfl (Nat.le_of_ble_eq_true rfl) dX11_road_38 ⟨Nat.zero_le _, Nat.zero_le _⟩) hS (fun H locs hP hS => ?_)
      obtain ⟨v2, s3, hv2, h⟩ := gv_bind2_e h
      refine gv_ri (gv_runV (n := 3) (rest := []) C0 (mX11_roadSize l X s1 a1 a2 (pX11_needBy a3 a4) hv2) gX11_road_X11_roadSize rfl ⟨rfl, rfl⟩ (by decide +kernel) ⟨by decide, by decide⟩ gk_63.1 (by decide) rfl hP hS rfl hl.1 rfl (Nat.le_of_ble_eq_true rfl) dX11_road_41 ⟨Nat.zero_le _, Nat.zero_le _⟩) hS (fun H locs hP hS => ?_)
      refine lv_istore (lv' := [(6, .int v2), (0, .ref (X.1 63)), (1, .int a1), (2, .int a2), (3, .int a3), (4, .int a4), (5, .int a5)]) hx hb dX11_road_44 hl (by decide) rfl (fun ls hl => ?_)
      refine lv_iload hx hb dX11_road_46 (lv_at hl 0 rfl) ?_
      refine lv_if_eq (tgt := 58) hx hb dX11_road_48 (by decide) (fun hc => ?_) (fun hc => ?_)
      · have h := gv_pos hc h
        refine lv_bipush (v := -4) hx hb dX11_road_58 (by decide) ?_
        exact Kr _ _ _ _ _ _ (gv_inj h) hP hS dX11_road_60
      · have h := gv_neg hc h
        refine lv_iload hx hb dX11_road_51 (lv_at hl 6 rfl) ?_
        refine lv_iload hx hb dX11_road_53 (lv_at hl 0 rfl) ?_
        refine lv_icmp_lt (tgt := 61) hx hb dX11_road_55 (by decide) (fun hc => ?_) (fun hc => ?_)
        · have h := gv_pos hc h
          refine lv_iload_n hx hb dX11_road_61 rfl (lv_at hl 2 rfl) ?_
          refine lv_istore (lv' := [(7, .int a1), (6, .int v2), (0, .ref (X.1 63)), (1, .int a1), (2, .int a2), (3, .int a3), (4, .int a4), (5, .int a5)]) hx hb dX11_road_62 hl (by decide) rfl (fun ls hl => ?_)
          refine lv_iconst (v := 0) hx hb dX11_road_64 (by decide) ?_
          refine lv_istore (lv' := [(8, .int (0 : Int32)), (7, .int a1), (6, .int v2), (0, .ref (X.1 63)), (1, .int a1), (2, .int a2), (3, .int a3), (4, .int a4), (5, .int a5)]) hx hb dX11_road_65 hl (by decide) rfl (fun ls hl => ?_)
          obtain ⟨q21, hq21, h⟩ := gv_bind_e h
          refine gv_loop_ind (Φ := fun q => ∀ (H : Heap) (locs : List Loc) (ls : Array Slot), gw_P X s3 H → va_S (gw_A X) s.heap H locs → lv_has ls 12 [(6, .int v2), (0, .ref (X.1 63)), (5, .int a5), (7, .int q.1), (8, .int q.2)] → W p l e rX11_road s m args below meth c H locs 0 0 Q (F0 m 67 ls [])) (Ψ := fun q => ∀ (H : Heap) (locs : List Loc) (ls : Array Slot), gw_P X s3 H → va_S (gw_A X) s.heap H locs → lv_has ls 12 [(6, .int v2), (5, .int a5), (7, .int q.1)] → W p l e rX11_road s m args below meth c H locs 0 0 Q (F0 m 153 ls [])) ?_ gv_N (a1, (0 : Int32)) q21 hq21 ?_ H locs ls hP hS (lv_sub hl [2, 3, 8, 1, 0] rfl)
          · intro q x h Kc Ke H locs ls hP hS hl
            obtain ⟨v4, v5⟩ := q
            have h : pX11_road_L67 a5 s3 v4 v5 = some x := h
            have hP : gw_P X s3 H := hP
            have hl : lv_has ls 12 [(6, .int v2), (0, .ref (X.1 63)), (5, .int a5), (7, .int v4), (8, .int v5)] := hl
            unfold pX11_road_L67 at h
            refine lv_iload hx hb dX11_road_67 (lv_at hl 4 rfl) ?_
            refine lv_iload hx hb dX11_road_69 (lv_at hl 2 rfl) ?_
            refine lv_icmp_ge (tgt := 153) hx hb dX11_road_71 (by decide) (fun hc => ?_) (fun hc => ?_)
            · have h := gv_pos hc h
              exact Ke _ (gv_inj h) _ _ _ hP hS (lv_sub hl [0, 2, 3] rfl)
            · have h := gv_neg hc h
              refine lv_iconst (v := -1) hx hb dX11_road_74 (by decide) ?_
              refine lv_istore (lv' := [(9, .int (-1 : Int32)), (6, .int v2), (0, .ref (X.1 63)), (5, .int a5), (7, .int v4), (8, .int v5)]) hx hb dX11_road_75 hl (by decide) rfl (fun ls hl => ?_)
              refine lv_iconst (v := 3) hx hb dX11_road_77 (by decide) ?_
              refine lv_istore (lv' := [(10, .int (3 : Int32)), (9, .int (-1 : Int32)), (6, .int v2), (0, .ref (X.1 63)), (5, .int a5), (7, .int v4), (8, .int v5)]) hx hb dX11_road_78 hl (by decide) rfl (fun ls hl => ?_)
              obtain ⟨q18, hq18, h⟩ := gv_bind_e h
              refine gv_loop_ind (Φ := fun q => ∀ (H : Heap) (locs : List Loc) (ls : Array Slot), gw_P X s3 H → va_S (gw_A X) s.heap H locs → lv_has ls 12 [(6, .int v2), (0, .ref (X.1 63)), (5, .int a5), (7, .int v4), (8, .int v5), (9, .int q.1), (10, .int q.2)] → W p l e rX11_road s m args below meth c H locs 0 0 Q (F0 m 80 ls [])) (Ψ := fun q => ∀ (H : Heap) (locs : List Loc) (ls : Array Slot), gw_P X s3 H → va_S (gw_A X) s.heap H locs → lv_has ls 12 [(6, .int v2), (0, .ref (X.1 63)), (5, .int a5), (8, .int v5), (9, .int q.1)] → W p l e rX11_road s m args below meth c H locs 0 0 Q (F0 m 143 ls [])) ?_ gv_N ((-1 : Int32), (3 : Int32)) q18 hq18 ?_ H locs ls hP hS (lv_sub hl [2, 3, 4, 5, 6, 1, 0] rfl)
              · intro q x h Kc Ke H locs ls hP hS hl
                obtain ⟨v6, v7⟩ := q
                have h : pX11_road_L80 v4 s3 v6 v7 = some x := h
                have hP : gw_P X s3 H := hP
                have hl : lv_has ls 12 [(6, .int v2), (0, .ref (X.1 63)), (5, .int a5), (7, .int v4), (8, .int v5), (9, .int v6), (10, .int v7)] := hl
                unfold pX11_road_L80 at h
                refine lv_iload hx hb dX11_road_80 (lv_at hl 6 rfl) ?_
                refine lv_if_lt (tgt := 143) hx hb dX11_road_82 (by decide) (fun hc => ?_) (fun hc => ?_)
                · have h := gv_pos hc h
                  exact Ke _ (gv_inj h) _ _ _ hP hS (lv_sub hl [0, 1, 2, 4, 5] rfl)
                · have h := gv_neg hc h
                  refine lv_iload hx hb dX11_road_85 (lv_at hl 3 rfl) ?_
                  refine lv_iload hx hb dX11_road_87 (lv_at hl 6 rfl) ?_
                  refine gv_ri (gv_runS (n := 2) (rest := []) C0 (mX11_nextTo l X s3 v4 v7) gX11_road_X11_nextTo rfl ⟨rfl, rfl⟩ (by decide +kernel) ⟨by decide, by decide⟩ hP hS rfl hl.1 rfl (Nat.le_of_ble_eq_true rfl) dX11_road_89 ⟨Nat.zero_le _, Nat.zero_le _⟩) hS (fun H locs hP hS => ?_)
                  refine lv_topi (fun v8 ev8 => ?_)
                  have h := gv_let_e ev8 h
                  refine lv_istore (lv' := [(11, .int v8), (6, .int v2), (0, .ref (X.1 63)), (5, .int a5), (7, .int v4), (8, .int v5), (9, .int v6), (10, .int v7)]) hx hb dX11_road_92 hl (by decide) rfl (fun ls hl => ?_)
                  refine lv_iload hx hb dX11_road_94 (lv_at hl 0 rfl) ?_
                  refine lv_if_lt (tgt := 133) hx hb dX11_road_96 (by decide) (fun hc => ?_) (fun hc => ?_)
                  · have h := gv_pos hc h
                    refine lv_iload hx hb dX11_road_133 (lv_at hl 6 rfl) ?_
                    refine lv_istore (lv' := [(9, .int v6), (11, .int v8), (6, .int v2), (0, .ref (X.1 63)), (5, .int a5), (7, .int v4), (8, .int v5), (10, .int v7)]) hx hb dX11_road_135 hl (by decide) rfl (fun ls hl => ?_)
                    obtain ⟨v9, ev9⟩ : ∃ y : Int32, y = (v7 + (-1 : Int32)) := ⟨_, rfl⟩
                    have h := gv_let_e ev9 h
                    refine lv_iinc (v := v9) (lv' := [(10, .int v9), (9, .int v6), (11, .int v8), (6, .int v2), (0, .ref (X.1 63)), (5, .int a5), (7, .int v4), (8, .int v5)]) hx hb dX11_road_137 hl (k := 7) rfl (by rw [ev9]; rfl) (by decide) rfl (fun ls hl => ?_)
                    refine lv_goto (tgt := 80) hx hb dX11_road_140 (by decide) ?_
                    exact Kc _ (gv_inj h) _ _ _ hP hS (lv_sub hl [3, 4, 5, 6, 7, 1, 0] rfl)
                  · have h := gv_neg hc h
                    refine lv_aload_n hx hb dX11_road_99 rfl (lv_at hl 2 rfl) ?_
                    refine gv_get (ref := "IceByEarModel") (C := RX11) (T := TX11) (N := 28) (ci := 11) (v := .ref (X.1 75)) C0 (fun _ h9 => List.mem_cons_of_mem _ (List.mem_append_right _ h9)) hP 63 (gw_o11 X s3 gk_63.1) rfl 17 (by decide) (by decide +kernel) rfl rfl dX11_road_100 ?_
                    refine lv_iload hx hb dX11_road_103 (lv_at hl 0 rfl) ?_
                    obtain ⟨hin10, h⟩ := gv_in_e h
                    refine gv_iald C0 hP 75 gk_75.1 gk_75.2 hin10 dX11_road_105 ?_
                    refine lv_if_lt (tgt := 133) hx hb dX11_road_106 (by decide) (fun hc => ?_) (fun hc => ?_)
                    · have h := gv_pos hc h
                      refine lv_iload hx hb dX11_road_133 (lv_at hl 6 rfl) ?_
                      refine lv_istore (lv' := [(9, .int v6), (11, .int v8), (6, .int v2), (0, .ref (X.1 63)), (5, .int a5), (7, .int v4), (8, .int v5), (10, .int v7)]) hx hb dX11_road_135 hl (by decide) rfl (fun ls hl => ?_)
                      obtain ⟨v11, ev11⟩ : ∃ y : Int32, y = (v7 + (-1 : Int32)) := ⟨_, rfl⟩
                      have h := gv_let_e ev11 h
                      refine lv_iinc (v := v11) (lv' := [(10, .int v11), (9, .int v6), (11, .int v8), (6, .int v2), (0, .ref (X.1 63)), (5, .int a5), (7, .int v4), (8, .int v5)]) hx hb dX11_road_137 hl (k := 7) rfl (by rw [ev11]; rfl) (by decide) rfl (fun ls hl => ?_)
                      refine lv_goto (tgt := 80) hx hb dX11_road_140 (by decide) ?_
                      exact Kc _ (gv_inj h) _ _ _ hP hS (lv_sub hl [3, 4, 5, 6, 7, 1, 0] rfl)
                    · have h := gv_neg hc h
                      refine lv_aload_n hx hb dX11_road_109 rfl (lv_at hl 2 rfl) ?_
                      refine gv_get (ref := "IceByEarModel") (C := RX11) (T := TX11) (N := 28) (ci := 11) (v := .ref (X.1 75)) C0 (fun _ h9 => List.mem_cons_of_mem _ (List.mem_append_right _ h9)) hP 63 (gw_o11 X s3 gk_63.1) rfl 17 (by decide) (by decide +kernel) rfl rfl dX11_road_110 ?_
                      refine lv_iload hx hb dX11_road_113 (lv_at hl 0 rfl) ?_
                      obtain ⟨hin12, h⟩ := gv_in_e h
                      refine gv_iald C0 hP 75 gk_75.1 gk_75.2 hin12 dX11_road_115 ?_
                      refine lv_aload_n hx hb dX11_road_116 rfl (lv_at hl 2 rfl) ?_
                      refine gv_get (ref := "IceByEarModel") (C := RX11) (T := TX11) (N := 28) (ci := 11) (v := .ref (X.1 75)) C0 (fun _ h9 => List.mem_cons_of_mem _ (List.mem_append_right _ h9)) hP 63 (gw_o11 X s3 gk_63.1) rfl 17 (by decide) (by decide +kernel) rfl rfl dX11_road_117 ?_
                      refine lv_iload hx hb dX11_road_120 (lv_at hl 4 rfl) ?_
                      obtain ⟨hin13, h⟩ := gv_in_e h
                      refine gv_iald C0 hP 75 gk_75.1 gk_75.2 hin13 dX11_road_122 ?_
                      refine lv_iconst (v := 1) hx hb dX11_road_123 (by decide) ?_
                      refine lv_isub hx hb dX11_road_124 ?_
                      refine lv_icmp_ne (tgt := 133) hx hb dX11_road_125 (by decide) (fun hc => ?_) (fun hc => ?_)
                      · have h := gv_neg hc h
                        refine lv_iload hx hb dX11_road_133 (lv_at hl 6 rfl) ?_
                        refine lv_istore (lv' := [(9, .int v6), (11, .int v8), (6, .int v2), (0, .ref (X.1 63)), (5, .int a5), (7, .int v4), (8, .int v5), (10, .int v7)]) hx hb dX11_road_135 hl (by decide) rfl (fun ls hl => ?_)
                        obtain ⟨v14, ev14⟩ : ∃ y : Int32, y = (v7 + (-1 : Int32)) := ⟨_, rfl⟩
                        have h := gv_let_e ev14 h
                        refine lv_iinc (v := v14) (lv' := [(10, .int v14), (9, .int v6), (11, .int v8), (6, .int v2), (0, .ref (X.1 63)), (5, .int a5), (7, .int v4), (8, .int v5)]) hx hb dX11_road_137 hl (k := 7) rfl (by rw [ev14]; rfl) (by decide) rfl (fun ls hl => ?_)
                        refine lv_goto (tgt := 80) hx hb dX11_road_140 (by decide) ?_
                        exact Kc _ (gv_inj h) _ _ _ hP hS (lv_sub hl [3, 4, 5, 6, 7, 1, 0] rfl)
                      · have h := gv_pos hc h
                        refine lv_iload hx hb dX11_road_128 (lv_at hl 0 rfl) ?_
                        refine lv_goto (tgt := 135) hx hb dX11_road_130 (by decide) ?_
                        refine lv_istore (lv' := [(9, .int v8), (11, .int v8), (6, .int v2), (0, .ref (X.1 63)), (5, .int a5), (7, .int v4), (8, .int v5), (10, .int v7)]) hx hb dX11_road_135 hl (by decide) rfl (fun ls hl => ?_)
                        obtain ⟨v15, ev15⟩ : ∃ y : Int32, y = (v7 + (-1 : Int32)) := ⟨_, rfl⟩
                        have h := gv_let_e ev15 h
                        refine lv_iinc (v := v15) (lv' := [(10, .int v15), (9, .int v8), (11, .int v8), (6, .int v2), (0, .ref (X.1 63)), (5, .int a5), (7, .int v4), (8, .int v5)]) hx hb dX11_road_137 hl (k := 7) rfl (by rw [ev15]; rfl) (by decide) rfl (fun ls hl => ?_)
                        refine lv_goto (tgt := 80) hx hb dX11_road_140 (by decide) ?_
                        exact Kc _ (gv_inj h) _ _ _ hP hS (lv_sub hl [3, 4, 5, 6, 7, 1, 0] rfl)
              · obtain ⟨v16, v17⟩ := q18
                have h := gv_let_e (x := v16) rfl h
                have h := gv_let_e (x := v17) rfl h
                intro H locs ls hP hS hl
                have hP : gw_P X s3 H := hP
                have hl : lv_has ls 12 [(6, .int v2), (0, .ref (X.1 63)), (5, .int a5), (8, .int v5), (9, .int v16)] := hl
                refine lv_iload hx hb dX11_road_143 (lv_at hl 4 rfl) ?_
                refine lv_istore (lv' := [(7, .int v16), (6, .int v2), (0, .ref (X.1 63)), (5, .int a5), (8, .int v5), (9, .int v16)]) hx hb dX11_road_145 hl (by decide) rfl (fun ls hl => ?_)
                obtain ⟨v18, ev18⟩ : ∃ y : Int32, y = (v5 + (1 : Int32)) := ⟨_, rfl⟩
                have h := gv_let_e ev18 h
                refine lv_iinc (v := v18) (lv' := [(8, .int v18), (7, .int v16), (6, .int v2), (0, .ref (X.1 63)), (5, .int a5), (9, .int v16)]) hx hb dX11_road_147 hl (k := 4) rfl (by rw [ev18]; rfl) (by decide) rfl (fun ls hl => ?_)
                refine lv_goto (tgt := 67) hx hb dX11_road_150 (by decide) ?_
                exact Kc _ (gv_inj h) _ _ _ hP hS (lv_sub hl [2, 3, 4, 1, 0] rfl)
          · obtain ⟨v20, v21⟩ := q21
            have h := gv_let_e (x := v20) rfl h
            have h := gv_let_e (x := v21) rfl h
            intro H locs ls hP hS hl
            have hP : gw_P X s3 H := hP
            have hl : lv_has ls 12 [(6, .int v2), (5, .int a5), (7, .int v20)] := hl
            refine lv_iload hx hb dX11_road_153 (lv_at hl 1 rfl) ?_
            refine lv_if_ge (tgt := 163) hx hb dX11_road_155 (by decide) (fun hc => ?_) (fun hc => ?_)
            · have h := gv_pos hc h
              refine lv_iload hx hb dX11_road_163 (lv_at hl 2 rfl) ?_
              exact Kr _ _ _ _ _ _ (gv_inj h) hP hS dX11_road_165
            · have h := gv_neg hc h
              refine lv_iload hx hb dX11_road_158 (lv_at hl 0 rfl) ?_
              refine lv_goto (tgt := 165) hx hb dX11_road_160 (by decide) ?_
              exact Kr _ _ _ _ _ _ (gv_inj h) hP hS dX11_road_165
        · have h := gv_neg hc h
          refine lv_bipush (v := -4) hx hb dX11_road_58 (by decide) ?_
          exact Kr _ _ _ _ _ _ (gv_inj h) hP hS dX11_road_60
    · have h := gv_pos hc h
      refine lv_iconst (v := -1) hx hb dX11_road_26 (by decide) ?_
      exact Kr _ _ _ _ _ _ (gv_inj h) hP hS dX11_road_27
theorem mX11_road (l : Launch) (X : gw_X) (s0 : gs_S) (a1 : Int32) (a2 : Int32) (a3 : Int32) (a4 : Int32) (a5 : Int32) {r : Int32} {τ : gs_S} (h : pX11_road a1 a2 a3 a4 a5 s0 = some (r, τ)) : Met l yX11_road wsX11_road rX11_road (gm_Pc X s0 [.ref (X.1 63), .int a1, .int a2, .int a3, .int a4, .int a5]) (gm_Qi X τ r) 0 0 (gw_A X) :=
  gm_of RX11 (by decide) rfl rfl (Nat.le_of_ble_eq_true rfl) (fun p e s m below meth c ls C0 hP hl hS => tX11_road C0 a1 a2 a3 a4 a5 s0 h (fun H locs ls pc r τ hr hP hS hd => by cases hr; exact gm_reti C0 hP hS hd) hP hS hl)
def pX11_most_L20 (a1 : Int32) (a2 : Int32) (a3 : Int32) (v2 : Int32) (s3 : gs_S) : Option ((Int32 × gs_S) ⊕ (Int32 × gs_S)) := if v2 ≤ 0 then some (.inr (v2, s3)) else gv_bind2 (pX11_roadSize a1 a2 (pX11_needBy v2 a3) s3) (fun v4 s5 => if v4 = 0 then gv_let (v2 + (-1 : Int32)) (fun v6 => some (.inl (v6, s5))) else some (.inr (v2, s5)))
def pX11_most (a1 : Int32) (a2 : Int32) (a3 : Int32) (s0 : gs_S) : Option (Int32 × gs_S) := if (pX11_isRoad a1 a2 (1 : Int32) a3) = 0 then some ((-1 : Int32), s0) else gv_bind (pX11_bearNow s0) (fun s1 => gv_bind (gv_loop (fun q => pX11_most_L20 a1 a2 a3 q.1 q.2) gv_N ((99 : Int32), s1)) (fun q => gv_let q.1 (fun v7 => gv_let q.2 (fun s8 => if v7 = 0 then some ((-4 : Int32), s8) else some (v7, s8)))))
def rX11_most : Room := { frames := 4, cells := 0, slots := 0, locals := 83 }
set_option maxHeartbeats 4000000 in
set_option maxRecDepth 100000 in
theorem tX11_most {p : Program} {l : Launch} {e : Env} {s : State} {m : MethodId} {args : Array Value} {below : List Frame} {meth : Method} {c : Code} {X : gw_X} {Q : State → Prop} (C0 : gm_At p s m args meth c X cX11_most 5 RX11 wsX11_most (some .int)) (a1 : Int32) (a2 : Int32) (a3 : Int32) (s0 : gs_S) {z : Int32 × gs_S} (h : pX11_most a1 a2 a3 s0 = some z) (Kr : ∀ (H : Heap) (locs : List Loc) (ls : Array Slot) (pc : Nat) (r : Int32) (τ : gs_S), z = (r, τ) → gw_P X τ H → va_S (gw_A X) s.heap H locs → decode cX11_most pc = .ok (.ireturn, 1) → W p l e rX11_most s m args below meth c H locs 0 0 Q (F0 m pc ls [.int r])) {H : Heap} {locs : List Loc} {ls : Array Slot} (hP : gw_P X s0 H) (hS : va_S (gw_A X) s.heap H locs) (hl : lv_has ls 5 [(0, .ref (X.1 63)), (1, .int a1), (2, .int a2), (3, .int a3)]) : W p l e rX11_most s m args below meth c H locs 0 0 Q (F0 m 0 ls []) := by
  obtain ⟨hx, hb, hml, hown, hts, hr, hlocks, hC⟩ := id C0
  unfold pX11_most at h
  refine lv_iload_n hx hb dX11_most_0 rfl (lv_at hl 1 rfl) ?_
  refine lv_iload_n hx hb dX11_most_1 rfl (lv_at hl 2 rfl) ?_
  refine lv_iconst (v := 1) hx hb dX11_most_2 (by decide) ?_
  refine lv_iload_n hx hb dX11_most_3 rfl (lv_at hl 3 rfl) ?_
  refine gv_ri (gv_runS (n := 4) (rest := []) C0 (mX11_isRoad l X s0 a1 a2 (1 : Int32) a3) gX11_most_X11_isRoad rfl ⟨rfl, rfl⟩ (by decide +kernel) ⟨by decide, by decide⟩ hP hS rfl hl.1 rfl (Nat.le_of_ble_eq_true rfl) dX11_most_4 ⟨Nat.zero_le _, Nat.zero_le _⟩) hS (fun H locs hP hS => ?_)
  refine lv_if_ne (tgt := 12) hx hb dX11_most_7 (by decide) (fun hc => ?_) (fun hc => ?_)
  · have h := gv_neg hc h
    refine lv_aload_n hx hb dX11_most_12 rfl (lv_at hl 0 rfl) ?_
    obtain ⟨s1, hs1, h⟩ := gv_bind_e h
    refine gv_rv (gv_runV (n := 0) (rest := []) C0 (mX11_bearNow l X s0  hs1) gX11_most_X11_bearNow rfl ⟨rfl, rfl⟩ (by decide +kernel) ⟨by decide, by decide⟩ gk_63.1 (by decide) rfl hP hS rfl hl.1 rfl (Nat.le_of_ble_eq_true rfl) dX11_most_13 ⟨Nat.zero_le _, Nat.zero_le _⟩) hS (fun H locs hP hS => ?_)
    refine lv_bipush (v := 99) hx hb dX11_most_16 (by decide) ?_
    refine lv_istore (lv' := [(4, .int (99 : Int32)), (0, .ref (X.1 63)), (1, .int a1), (2, .int a2), (3, .int a3)]) hx hb dX11_most_18 hl (by decide) rfl (fun ls hl => ?_)
    obtain ⟨q8, hq8, h⟩ := gv_bind_e h
    refine gv_loop_ind (Φ := fun q => ∀ (H : Heap) (locs : List Loc) (ls : Array Slot), gw_P X q.2 H → va_S (gw_A X) s.heap H locs → lv_has ls 5 [(0, .ref (X.1 63)), (1, .int a1), (2, .int a2), (3, .int a3), (4, .int q.1)] → W p l e rX11_most s m args below meth c H locs 0 0 Q (F0 m 20 ls [])) (Ψ := fun q => ∀ (H : Heap) (locs : List Loc) (ls : Array Slot), gw_P X q.2 H → va_S (gw_A X) s.heap H locs → lv_has ls 5 [(4, .int q.1)] → W p l e rX11_most s m args below meth c H locs 0 0 Q (F0 m 46 ls [])) ?_ gv_N ((99 : Int32), s1) q8 hq8 ?_ H locs ls hP hS (lv_sub hl [1, 2, 3, 4, 0] rfl)
    · intro q x h Kc Ke H locs ls hP hS hl
      obtain ⟨v2, s3⟩ := q
      have h : pX11_most_L20 a1 a2 a3 v2 s3 = some x := h
      have hP : gw_P X s3 H := hP
      have hl : lv_has ls 5 [(0, .ref (X.1 63)), (1, .int a1), (2, .int a2), (3, .int a3), (4, .int v2)] := hl
      unfold pX11_most_L20 at h
      refine lv_iload hx hb dX11_most_20 (lv_at hl 4 rfl) ?_
      refine lv_if_le (tgt := 46) hx hb dX11_most_22 (by decide) (fun hc => ?_) (fun hc => ?_)
      · have h := gv_pos hc h
        exact Ke _ (gv_inj h) _ _ _ hP hS (lv_sub hl [4] rfl)
      · have h := gv_neg hc h
        refine lv_aload_n hx hb dX11_most_25 rfl (lv_at hl 0 rfl) ?_
        refine lv_iload_n hx hb dX11_most_26 rfl (lv_at hl 1 rfl) ?_
        refine lv_iload_n hx hb dX11_most_27 rfl (lv_at hl 2 rfl) ?_
        refine lv_iload hx hb dX11_most_28 (lv_at hl 4 rfl) ?_
        refine lv_iload_n hx hb dX11_most_30 rfl (lv_at hl 3 rfl) ?_
        refine gv_ri (gv_runS (n := 2) (rest := [.int a2, .int a1, .ref (X.1 63)]) C0 (mX11_needBy l X s3 v2 a3) gX11_most_X11_needBy rfl ⟨rfl, rfl⟩ (by decide +kernel) ⟨by decide, by decide⟩ hP hS rfl hl.1 rfl (Nat.le_of_ble_eq_true rfl) dX11_most_31 ⟨Nat.zero_le _, Nat.zero_le _⟩) hS (fun H locs hP hS => ?_)
        obtain ⟨v4, s5, hv4, h⟩ := gv_bind2_e h
        refine gv_ri (gv_runV (n := 3) (rest := []) C0 (mX11_roadSize l X s3 a1 a2 (pX11_needBy v2 a3) hv4) gX11_most_X11_roadSize rfl ⟨rfl, rfl⟩ (by decide +kernel) ⟨by decide, by decide⟩ gk_63.1 (by decide) rfl hP hS rfl hl.1 rfl (Nat.le_of_ble_eq_true rfl) dX11_most_34 ⟨Nat.zero_le _, Nat.zero_le _⟩) hS (fun H locs hP hS => ?_)
        refine lv_if_ne (tgt := 46) hx hb dX11_most_37 (by decide) (fun hc => ?_) (fun hc => ?_)
        · have h := gv_neg hc h
          exact Ke _ (gv_inj h) _ _ _ hP hS (lv_sub hl [4] rfl)
        · have h := gv_pos hc h
          obtain ⟨v6, ev6⟩ : ∃ y : Int32, y = (v2 + (-1 : Int32)) := ⟨_, rfl⟩
          have h := gv_let_e ev6 h
          refine lv_iinc (v := v6) (lv' := [(4, .int v6), (0, .ref (X.1 63)), (1, .int a1), (2, .int a2), (3, .int a3)]) hx hb dX11_most_40 hl (k := 4) rfl (by rw [ev6]; rfl) (by decide) rfl (fun ls hl => ?_)
          refine lv_goto (tgt := 20) hx hb dX11_most_43 (by decide) ?_
          exact Kc _ (gv_inj h) _ _ _ hP hS (lv_sub hl [1, 2, 3, 4, 0] rfl)
    · obtain ⟨v7, s8⟩ := q8
      have h := gv_let_e (x := v7) rfl h
      have h := gv_let_e (x := s8) rfl h
      intro H locs ls hP hS hl
      have hP : gw_P X s8 H := hP
      have hl : lv_has ls 5 [(4, .int v7)] := hl
      refine lv_iload hx hb dX11_most_46 (lv_at hl 0 rfl) ?_
      refine lv_if_ne (tgt := 56) hx hb dX11_most_48 (by decide) (fun hc => ?_) (fun hc => ?_)
      · have h := gv_neg hc h
        refine lv_iload hx hb dX11_most_56 (lv_at hl 0 rfl) ?_
        exact Kr _ _ _ _ _ _ (gv_inj h) hP hS dX11_most_58
      · have h := gv_pos hc h
        refine lv_bipush (v := -4) hx hb dX11_most_51 (by decide) ?_
        refine lv_goto (tgt := 58) hx hb dX11_most_53 (by decide) ?_
        exact Kr _ _ _ _ _ _ (gv_inj h) hP hS dX11_most_58
  · have h := gv_pos hc h
    refine lv_iconst (v := -1) hx hb dX11_most_10 (by decide) ?_
    exact Kr _ _ _ _ _ _ (gv_inj h) hP hS dX11_most_11
theorem mX11_most (l : Launch) (X : gw_X) (s0 : gs_S) (a1 : Int32) (a2 : Int32) (a3 : Int32) {r : Int32} {τ : gs_S} (h : pX11_most a1 a2 a3 s0 = some (r, τ)) : Met l yX11_most wsX11_most rX11_most (gm_Pc X s0 [.ref (X.1 63), .int a1, .int a2, .int a3]) (gm_Qi X τ r) 0 0 (gw_A X) :=
  gm_of RX11 (by decide) rfl rfl (Nat.le_of_ble_eq_true rfl) (fun p e s m below meth c ls C0 hP hl hS => tX11_most C0 a1 a2 a3 s0 h (fun H locs ls pc r τ hr hP hS hd => by cases hr; exact gm_reti C0 hP hS hd) hP hS hl)
def pX11_planks_J88 (v2 : Int32) (s3 : gs_S) (v7 : Int32) : Option ((Int32 × gs_S) ⊕ (Int32 × gs_S)) := gv_in v2 64 (gv_let (gs_u s3 76 v2.toNatClampNeg v7) (fun s9 => gv_in v2 64 (gv_let (gs_u s9 75 v2.toNatClampNeg (999 : Int32)) (fun s11 => gv_let (v2 + (1 : Int32)) (fun v12 => some (.inl (v12, s11)))))))
def pX11_planks_L24 (v1 : Int32) (v2 : Int32) (s3 : gs_S) : Option ((Int32 × gs_S) ⊕ (Int32 × gs_S)) := if (64 : Int32) ≤ v2 then some (.inr (v2, s3)) else gv_in v2 320 (gv_in ((64 : Int32) + v2) 320 (gv_let (pX11_bearsBy (s3.1 64 v2.toNatClampNeg) (s3.1 64 ((64 : Int32) + v2).toNatClampNeg)) (fun v6 => if v6 < v1 then if (v6 + (180 : Int32)) < v1 then pX11_planks_J88 v2 s3 (999 : Int32) else pX11_planks_J88 v2 s3 (1 : Int32) else pX11_planks_J88 v2 s3 (0 : Int32))))
def pX11_planks_J195 (v21 : Int32) (s25 : gs_S) (v24 : Int32) (v23 : Int32) (v27 : Int32) : Option ((Int32 × Int32 × gs_S) ⊕ (Int32 × Int32 × gs_S)) := gv_in v21 64 (if (s25.1 75 v21.toNatClampNeg) ≤ v27 then gv_let (v24 + (1 : Int32)) (fun v29 => some (.inl (v23, v29, s25))) else gv_in v21 64 (gv_let (gs_u s25 75 v21.toNatClampNeg v27) (fun s31 => gv_let (v24 + (1 : Int32)) (fun v32 => some (.inl ((1 : Int32), v32, s31))))))
def pX11_planks_J174 (v21 : Int32) (s25 : gs_S) (v24 : Int32) (v23 : Int32)  : Option ((Int32 × Int32 × gs_S) ⊕ (Int32 × Int32 × gs_S)) := pX11_planks_J195 v21 s25 v24 v23 (999 : Int32)
def pX11_planks_L141 (v21 : Int32) (v23 : Int32) (v24 : Int32) (s25 : gs_S) : Option ((Int32 × Int32 × gs_S) ⊕ (Int32 × Int32 × gs_S)) := if (4 : Int32) ≤ v24 then some (.inr (v23, v24, s25)) else gv_let (pX11_nextTo v21 v24) (fun v26 => if v26 < 0 then pX11_planks_J174 v21 s25 v24 v23 else gv_in v21 64 (if (s25.1 76 v21.toNatClampNeg) = (999 : Int32) then pX11_planks_J174 v21 s25 v24 v23 else gv_in v26 64 (gv_in v21 64 (pX11_planks_J195 v21 s25 v24 v23 ((s25.1 75 v26.toNatClampNeg) + (s25.1 76 v21.toNatClampNeg))))))
def pX11_planks_L131  (v20 : Int32) (v21 : Int32) (s22 : gs_S) : Option ((Int32 × Int32 × gs_S) ⊕ (Int32 × Int32 × gs_S)) := if (64 : Int32) ≤ v21 then some (.inr (v20, v21, s22)) else gv_bind (gv_loop (fun q => pX11_planks_L141 v21 q.1 q.2.1 q.2.2) gv_N (v20, (0 : Int32), s22)) (fun q => gv_let q.1 (fun v36 => gv_let q.2.1 (fun v37 => gv_let q.2.2 (fun s38 => gv_let (v21 + (1 : Int32)) (fun v39 => some (.inl (v36, v39, s38)))))))
def pX11_planks_L120  (v18 : Int32) (s19 : gs_S) : Option ((Int32 × gs_S) ⊕ (Int32 × gs_S)) := if v18 = 0 then some (.inr (v18, s19)) else gv_bind (gv_loop (fun q => pX11_planks_L131 q.1 q.2.1 q.2.2) gv_N ((0 : Int32), (0 : Int32), s19)) (fun q => gv_let q.1 (fun v41 => gv_let q.2.1 (fun v42 => gv_let q.2.2 (fun s43 => some (.inl (v41, s43))))))
def pX11_planks (a1 : Int32) (a2 : Int32) (a3 : Int32) (a4 : Int32) (s0 : gs_S) : Option (Int32 × gs_S) := if (pX11_isRoad a1 a2 a3 a4) = 0 then some ((-1 : Int32), s0) else gv_let (pX11_needBy a3 a4) (fun v1 => gv_bind (gv_loop (fun q => pX11_planks_L24 v1 q.1 q.2) gv_N ((0 : Int32), s0)) (fun q => gv_let q.1 (fun v13 => gv_let q.2 (fun s14 => gv_in a1 64 (gv_in a1 64 (gv_let (gs_u s14 75 a1.toNatClampNeg (s14.1 76 a1.toNatClampNeg)) (fun s17 => gv_bind (gv_loop (fun q => pX11_planks_L120 q.1 q.2) gv_N ((1 : Int32), s17)) (fun q => gv_let q.1 (fun v45 => gv_let q.2 (fun s46 => gv_in a2 64 (if (s46.1 75 a2.toNatClampNeg) < (999 : Int32) then gv_in a2 64 (some ((s46.1 75 a2.toNatClampNeg), s46)) else some ((-4 : Int32), s46))))))))))))
def rX11_planks : Room := { frames := 3, cells := 0, slots := 0, locals := 69 }
set_option maxHeartbeats 4000000 in
set_option maxRecDepth 100000 in
theorem tX11_planks {p : Program} {l : Launch} {e : Env} {s : State} {m : MethodId} {args : Array Value} {below : List Frame} {meth : Method} {c : Code} {X : gw_X} {Q : State → Prop} (C0 : gm_At p s m args meth c X cX11_planks 11 RX11 wsX11_planks (some .int)) (a1 : Int32) (a2 : Int32) (a3 : Int32) (a4 : Int32) (s0 : gs_S) {z : Int32 × gs_S} (h : pX11_planks a1 a2 a3 a4 s0 = some z) (Kr : ∀ (H : Heap) (locs : List Loc) (ls : Array Slot) (pc : Nat) (r : Int32) (τ : gs_S), z = (r, τ) → gw_P X τ H → va_S (gw_A X) s.heap H locs → decode cX11_planks pc = .ok (.ireturn, 1) → W p l e rX11_planks s m args below meth c H locs 0 0 Q (F0 m pc ls [.int r])) {H : Heap} {locs : List Loc} {ls : Array Slot} (hP : gw_P X s0 H) (hS : va_S (gw_A X) s.heap H locs) (hl : lv_has ls 11 [(0, .ref (X.1 63)), (1, .int a1), (2, .int a2), (3, .int a3), (4, .int a4)]) : W p l e rX11_planks s m args below meth c H locs 0 0 Q (F0 m 0 ls []) := by
  obtain ⟨hx, hb, hml, hown, hts, hr, hlocks, hC⟩ := id C0
  unfold pX11_planks at h
  refine lv_iload_n hx hb dX11_planks_0 rfl (lv_at hl 1 rfl) ?_
  refine lv_iload_n hx hb dX11_planks_1 rfl (lv_at hl 2 rfl) ?_
  refine lv_iload_n hx hb dX11_planks_2 rfl (lv_at hl 3 rfl) ?_
  refine lv_iload hx hb dX11_planks_3 (lv_at hl 4 rfl) ?_
  refine gv_ri (gv_runS (n := 4) (rest := []) C0 (mX11_isRoad l X s0 a1 a2 a3 a4) gX11_planks_X11_isRoad rfl ⟨rfl, rfl⟩ (by decide +kernel) ⟨by decide, by decide⟩ hP hS rfl hl.1 rfl (Nat.le_of_ble_eq_true rfl) dX11_planks_5 ⟨Nat.zero_le _, Nat.zero_le _⟩) hS (fun H locs hP hS => ?_)
  refine lv_if_ne (tgt := 13) hx hb dX11_planks_8 (by decide) (fun hc => ?_) (fun hc => ?_)
  · have h := gv_neg hc h
    refine lv_iload_n hx hb dX11_planks_13 rfl (lv_at hl 3 rfl) ?_
    refine lv_iload hx hb dX11_planks_14 (lv_at hl 4 rfl) ?_
    refine gv_ri (gv_runS (n := 2) (rest := []) C0 (mX11_needBy l X s0 a3 a4) gX11_planks_X11_needBy rfl ⟨rfl, rfl⟩ (by decide +kernel) ⟨by decide, by decide⟩ hP hS rfl hl.1 rfl (Nat.le_of_ble_eq_true rfl) dX11_planks_16 ⟨Nat.zero_le _, Nat.zero_le _⟩) hS (fun H locs hP hS => ?_)
    refine lv_topi (fun v1 ev1 => ?_)
    have h := gv_let_e ev1 h
    refine lv_istore (lv' := [(5, .int v1), (0, .ref (X.1 63)), (1, .int a1), (2, .int a2), (3, .int a3), (4, .int a4)]) hx hb dX11_planks_19 hl (by decide) rfl (fun ls hl => ?_)
    refine lv_iconst (v := 0) hx hb dX11_planks_21 (by decide) ?_
    refine lv_istore (lv' := [(6, .int (0 : Int32)), (5, .int v1), (0, .ref (X.1 63)), (1, .int a1), (2, .int a2), (3, .int a3), (4, .int a4)]) hx hb dX11_planks_22 hl (by decide) rfl (fun ls hl => ?_)
    obtain ⟨q49, hq49, h⟩ := gv_bind_e h
    refine gv_loop_ind (Φ := fun q => ∀ (H : Heap) (locs : List Loc) (ls : Array Slot), gw_P X q.2 H → va_S (gw_A X) s.heap H locs → lv_has ls 11 [(5, .int v1), (0, .ref (X.1 63)), (1, .int a1), (2, .int a2), (6, .int q.1)] → W p l e rX11_planks s m args below meth c H locs 0 0 Q (F0 m 24 ls [])) (Ψ := fun q => ∀ (H : Heap) (locs : List Loc) (ls : Array Slot), gw_P X q.2 H → va_S (gw_A X) s.heap H locs → lv_has ls 11 [(0, .ref (X.1 63)), (1, .int a1), (2, .int a2)] → W p l e rX11_planks s m args below meth c H locs 0 0 Q (F0 m 105 ls [])) ?_ gv_N ((0 : Int32), s0) q49 hq49 ?_ H locs ls hP hS (lv_sub hl [1, 2, 3, 4, 0] rfl)
    · intro q x h Kc Ke H locs ls hP hS hl
      obtain ⟨v2, s3⟩ := q
      have h : pX11_planks_L24 v1 v2 s3 = some x := h
      have hP : gw_P X s3 H := hP
      have hl : lv_has ls 11 [(5, .int v1), (0, .ref (X.1 63)), (1, .int a1), (2, .int a2), (6, .int v2)] := hl
      unfold pX11_planks_L24 at h
      refine lv_iload hx hb dX11_planks_24 (lv_at hl 4 rfl) ?_
      refine lv_bipush (v := 64) hx hb dX11_planks_26 (by decide) ?_
      refine lv_icmp_ge (tgt := 105) hx hb dX11_planks_28 (by decide) (fun hc => ?_) (fun hc => ?_)
      · have h := gv_pos hc h
        exact Ke _ (gv_inj h) _ _ _ hP hS (lv_sub hl [1, 2, 3] rfl)
      · have h := gv_neg hc h
        refine lv_aload_n hx hb dX11_planks_31 rfl (lv_at hl 1 rfl) ?_
        refine gv_get (ref := "IceByEarModel") (C := RX11) (T := TX11) (N := 28) (ci := 11) (v := .ref (X.1 64)) C0 (fun _ h9 => List.mem_cons_of_mem _ (List.mem_append_right _ h9)) hP 63 (gw_o11 X s3 gk_63.1) rfl 0 (by decide) (by decide +kernel) rfl rfl dX11_planks_32 ?_
        refine lv_iload hx hb dX11_planks_35 (lv_at hl 4 rfl) ?_
        obtain ⟨hin4, h⟩ := gv_in_e h
        refine gv_iald C0 hP 64 gk_64.1 gk_64.2 hin4 dX11_planks_37 ?_
        refine lv_aload_n hx hb dX11_planks_38 rfl (lv_at hl 1 rfl) ?_
        refine gv_get (ref := "IceByEarModel") (C := RX11) (T := TX11) (N := 28) (ci := 11) (v := .ref (X.1 64)) C0 (fun _ h9 => List.mem_cons_of_mem _ (List.mem_append_right _ h9)) hP 63 (gw_o11 X s3 gk_63.1) rfl 0 (by decide) (by decide +kernel) rfl rfl dX11_planks_39 ?_
        refine lv_bipush (v := 64) hx hb dX11_planks_42 (by decide) ?_
        refine lv_iload hx hb dX11_planks_44 (lv_at hl 4 rfl) ?_
        refine lv_iadd hx hb dX11_planks_46 ?_
        obtain ⟨hin5, h⟩ := gv_in_e h
        refine gv_iald C0 hP 64 gk_64.1 gk_64.2 hin5 dX11_planks_47 ?_
        refine gv_ri (gv_runS (n := 2) (rest := []) C0 (mX11_bearsBy l X s3 (s3.1 64 v2.toNatClampNeg) (s3.1 64 ((64 : Int32) + v2).toNatClampNeg)) gX11_planks_X11_bearsBy rfl ⟨rfl, rfl⟩ (by decide +kernel) ⟨by decide, by decide⟩ hP hS rfl hl.1 rfl (Nat.le_of_ble_eq_true rfl) dX11_planks_48 ⟨Nat.zero_le _, Nat.zero_le _⟩) hS (fun H locs hP hS => ?_)
        refine lv_topi (fun v6 ev6 => ?_)
        have h := gv_let_e ev6 h
        refine lv_istore (lv' := [(7, .int v6), (5, .int v1), (0, .ref (X.1 63)), (1, .int a1), (2, .int a2), (6, .int v2)]) hx hb dX11_planks_51 hl (by decide) rfl (fun ls hl => ?_)
        refine lv_aload_n hx hb dX11_planks_53 rfl (lv_at hl 2 rfl) ?_
        refine gv_get (ref := "IceByEarModel") (C := RX11) (T := TX11) (N := 28) (ci := 11) (v := .ref (X.1 76)) C0 (fun _ h9 => List.mem_cons_of_mem _ (List.mem_append_right _ h9)) hP 63 (gw_o11 X s3 gk_63.1) rfl 19 (by decide) (by decide +kernel) rfl rfl dX11_planks_54 ?_
        refine lv_iload hx hb dX11_planks_57 (lv_at hl 5 rfl) ?_
        refine lv_iload hx hb dX11_planks_59 (lv_at hl 0 rfl) ?_
        refine lv_iload hx hb dX11_planks_61 (lv_at hl 1 rfl) ?_
        have J88 : ∀ (v7 : Int32) (H : Heap) (locs : List Loc) (ls : Array Slot), pX11_planks_J88 v2 s3 v7 = some x → gw_P X s3 H → va_S (gw_A X) s.heap H locs → lv_has ls 11 [(5, .int v1), (0, .ref (X.1 63)), (1, .int a1), (2, .int a2), (6, .int v2)] → W p l e rX11_planks s m args below meth c H locs 0 0 Q (F0 m 88 ls [.int v7, .int v2, .ref (X.1 76)]) := by
          intro v7 H locs ls h hP hS hl
          unfold pX11_planks_J88 at h
          obtain ⟨hin8, h⟩ := gv_in_e h
          refine gv_iast C0 hP hS 76 gk_76.1 gk_76.2 hin8 dX11_planks_88 (fun s9 H locs es9 hP hS => ?_)
          have h := gv_let_e es9 h
          refine lv_aload_n hx hb dX11_planks_89 rfl (lv_at hl 1 rfl) ?_
          refine gv_get (ref := "IceByEarModel") (C := RX11) (T := TX11) (N := 28) (ci := 11) (v := .ref (X.1 75)) C0 (fun _ h9 => List.mem_cons_of_mem _ (List.mem_append_right _ h9)) hP 63 (gw_o11 X s9 gk_63.1) rfl 17 (by decide) (by decide +kernel) rfl rfl dX11_planks_90 ?_
          refine lv_iload hx hb dX11_planks_93 (lv_at hl 4 rfl) ?_
          refine lv_sipush (v := 999) hx hb dX11_planks_95 (by decide) ?_
          obtain ⟨hin10, h⟩ := gv_in_e h
          refine gv_iast C0 hP hS 75 gk_75.1 gk_75.2 hin10 dX11_planks_98 (fun s11 H locs es11 hP hS => ?_)
          have h := gv_let_e es11 h
          obtain ⟨v12, ev12⟩ : ∃ y : Int32, y = (v2 + (1 : Int32)) := ⟨_, rfl⟩
          have h := gv_let_e ev12 h
          refine lv_iinc (v := v12) (lv' := [(6, .int v12), (5, .int v1), (0, .ref (X.1 63)), (1, .int a1), (2, .int a2)]) hx hb dX11_planks_99 hl (k := 4) rfl (by rw [ev12]; rfl) (by decide) rfl (fun ls hl => ?_)
          refine lv_goto (tgt := 24) hx hb dX11_planks_102 (by decide) ?_
          exact Kc _ (gv_inj h) _ _ _ hP hS (lv_sub hl [1, 2, 3, 4, 0] rfl)
        refine lv_icmp_lt (tgt := 70) hx hb dX11_planks_63 (by decide) (fun hc => ?_) (fun hc => ?_)
        · have h := gv_pos hc h
          refine lv_iload hx hb dX11_planks_70 (lv_at hl 0 rfl) ?_
          refine lv_sipush (v := 180) hx hb dX11_planks_72 (by decide) ?_
          refine lv_iadd hx hb dX11_planks_75 ?_
          refine lv_iload hx hb dX11_planks_76 (lv_at hl 1 rfl) ?_
          refine lv_icmp_lt (tgt := 85) hx hb dX11_planks_78 (by decide) (fun hc => ?_) (fun hc => ?_)
          · have h := gv_pos hc h
            refine lv_sipush (v := 999) hx hb dX11_planks_85 (by decide) ?_
            exact J88 (999 : Int32) _ _ _ h hP hS (lv_sub hl [1, 2, 3, 4, 5] rfl)
          · have h := gv_neg hc h
            refine lv_iconst (v := 1) hx hb dX11_planks_81 (by decide) ?_
            refine lv_goto (tgt := 88) hx hb dX11_planks_82 (by decide) ?_
            exact J88 (1 : Int32) _ _ _ h hP hS (lv_sub hl [1, 2, 3, 4, 5] rfl)
        · have h := gv_neg hc h
          refine lv_iconst (v := 0) hx hb dX11_planks_66 (by decide) ?_
          refine lv_goto (tgt := 88) hx hb dX11_planks_67 (by decide) ?_
          exact J88 (0 : Int32) _ _ _ h hP hS (lv_sub hl [1, 2, 3, 4, 5] rfl)
    · obtain ⟨v13, s14⟩ := q49
      have h := gv_let_e (x := v13) rfl h
      have h := gv_let_e (x := s14) rfl h
      intro H locs ls hP hS hl
      have hP : gw_P X s14 H := hP
      have hl : lv_has ls 11 [(0, .ref (X.1 63)), (1, .int a1), (2, .int a2)] := hl
      refine lv_aload_n hx hb dX11_planks_105 rfl (lv_at hl 0 rfl) ?_
      refine gv_get (ref := "IceByEarModel") (C := RX11) (T := TX11) (N := 28) (ci := 11) (v := .ref (X.1 75)) C0 (fun _ h9 => List.mem_cons_of_mem _ (List.mem_append_right _ h9)) hP 63 (gw_o11 X s14 gk_63.1) rfl 17 (by decide) (by decide +kernel) rfl rfl dX11_planks_106 ?_
      refine lv_iload_n hx hb dX11_planks_109 rfl (lv_at hl 1 rfl) ?_
      refine lv_aload_n hx hb dX11_planks_110 rfl (lv_at hl 0 rfl) ?_
      refine gv_get (ref := "IceByEarModel") (C := RX11) (T := TX11) (N := 28) (ci := 11) (v := .ref (X.1 76)) C0 (fun _ h9 => List.mem_cons_of_mem _ (List.mem_append_right _ h9)) hP 63 (gw_o11 X s14 gk_63.1) rfl 19 (by decide) (by decide +kernel) rfl rfl dX11_planks_111 ?_
      refine lv_iload_n hx hb dX11_planks_114 rfl (lv_at hl 1 rfl) ?_
      obtain ⟨hin15, h⟩ := gv_in_e h
      refine gv_iald C0 hP 76 gk_76.1 gk_76.2 hin15 dX11_planks_115 ?_
      obtain ⟨hin16, h⟩ := gv_in_e h
      refine gv_iast C0 hP hS 75 gk_75.1 gk_75.2 hin16 dX11_planks_116 (fun s17 H locs es17 hP hS => ?_)
      have h := gv_let_e es17 h
      refine lv_iconst (v := 1) hx hb dX11_planks_117 (by decide) ?_
      refine lv_istore (lv' := [(6, .int (1 : Int32)), (0, .ref (X.1 63)), (1, .int a1), (2, .int a2)]) hx hb dX11_planks_118 hl (by decide) rfl (fun ls hl => ?_)
      obtain ⟨q48, hq48, h⟩ := gv_bind_e h
      refine gv_loop_ind (Φ := fun q => ∀ (H : Heap) (locs : List Loc) (ls : Array Slot), gw_P X q.2 H → va_S (gw_A X) s.heap H locs → lv_has ls 11 [(0, .ref (X.1 63)), (2, .int a2), (6, .int q.1)] → W p l e rX11_planks s m args below meth c H locs 0 0 Q (F0 m 120 ls [])) (Ψ := fun q => ∀ (H : Heap) (locs : List Loc) (ls : Array Slot), gw_P X q.2 H → va_S (gw_A X) s.heap H locs → lv_has ls 11 [(0, .ref (X.1 63)), (2, .int a2)] → W p l e rX11_planks s m args below meth c H locs 0 0 Q (F0 m 236 ls [])) ?_ gv_N ((1 : Int32), s17) q48 hq48 ?_ H locs ls hP hS (lv_sub hl [1, 3, 0] rfl)
      · intro q x h Kc Ke H locs ls hP hS hl
        obtain ⟨v18, s19⟩ := q
        have h : pX11_planks_L120 v18 s19 = some x := h
        have hP : gw_P X s19 H := hP
        have hl : lv_has ls 11 [(0, .ref (X.1 63)), (2, .int a2), (6, .int v18)] := hl
        unfold pX11_planks_L120 at h
        refine lv_iload hx hb dX11_planks_120 (lv_at hl 2 rfl) ?_
        refine lv_if_eq (tgt := 236) hx hb dX11_planks_122 (by decide) (fun hc => ?_) (fun hc => ?_)
        · have h := gv_pos hc h
          exact Ke _ (gv_inj h) _ _ _ hP hS (lv_sub hl [0, 1] rfl)
        · have h := gv_neg hc h
          refine lv_iconst (v := 0) hx hb dX11_planks_125 (by decide) ?_
          refine lv_istore (lv' := [(6, .int (0 : Int32)), (0, .ref (X.1 63)), (2, .int a2)]) hx hb dX11_planks_126 hl (by decide) rfl (fun ls hl => ?_)
          refine lv_iconst (v := 0) hx hb dX11_planks_128 (by decide) ?_
          refine lv_istore (lv' := [(7, .int (0 : Int32)), (6, .int (0 : Int32)), (0, .ref (X.1 63)), (2, .int a2)]) hx hb dX11_planks_129 hl (by decide) rfl (fun ls hl => ?_)
          obtain ⟨q43, hq43, h⟩ := gv_bind_e h
          refine gv_loop_ind (Φ := fun q => ∀ (H : Heap) (locs : List Loc) (ls : Array Slot), gw_P X q.2.2 H → va_S (gw_A X) s.heap H locs → lv_has ls 11 [(0, .ref (X.1 63)), (2, .int a2), (6, .int q.1), (7, .int q.2.1)] → W p l e rX11_planks s m args below meth c H locs 0 0 Q (F0 m 131 ls [])) (Ψ := fun q => ∀ (H : Heap) (locs : List Loc) (ls : Array Slot), gw_P X q.2.2 H → va_S (gw_A X) s.heap H locs → lv_has ls 11 [(0, .ref (X.1 63)), (2, .int a2), (6, .int q.1)] → W p l e rX11_planks s m args below meth c H locs 0 0 Q (F0 m 233 ls [])) ?_ gv_N ((0 : Int32), (0 : Int32), s19) q43 hq43 ?_ H locs ls hP hS (lv_sub hl [2, 3, 1, 0] rfl)
          · intro q x h Kc Ke H locs ls hP hS hl
            obtain ⟨v20, v21, s22⟩ := q
            have h : pX11_planks_L131 v20 v21 s22 = some x := h
            have hP : gw_P X s22 H := hP
            have hl : lv_has ls 11 [(0, .ref (X.1 63)), (2, .int a2), (6, .int v20), (7, .int v21)] := hl
            unfold pX11_planks_L131 at h
            refine lv_iload hx hb dX11_planks_131 (lv_at hl 3 rfl) ?_
            refine lv_bipush (v := 64) hx hb dX11_planks_133 (by decide) ?_
            refine lv_icmp_ge (tgt := 233) hx hb dX11_planks_135 (by decide) (fun hc => ?_) (fun hc => ?_)
            · have h := gv_pos hc h
              exact Ke _ (gv_inj h) _ _ _ hP hS (lv_sub hl [0, 1, 2] rfl)
            · have h := gv_neg hc h
              refine lv_iconst (v := 0) hx hb dX11_planks_138 (by decide) ?_
              refine lv_istore (lv' := [(8, .int (0 : Int32)), (0, .ref (X.1 63)), (2, .int a2), (6, .int v20), (7, .int v21)]) hx hb dX11_planks_139 hl (by decide) rfl (fun ls hl => ?_)
              obtain ⟨q39, hq39, h⟩ := gv_bind_e h
              refine gv_loop_ind (Φ := fun q => ∀ (H : Heap) (locs : List Loc) (ls : Array Slot), gw_P X q.2.2 H → va_S (gw_A X) s.heap H locs → lv_has ls 11 [(0, .ref (X.1 63)), (2, .int a2), (7, .int v21), (6, .int q.1), (8, .int q.2.1)] → W p l e rX11_planks s m args below meth c H locs 0 0 Q (F0 m 141 ls [])) (Ψ := fun q => ∀ (H : Heap) (locs : List Loc) (ls : Array Slot), gw_P X q.2.2 H → va_S (gw_A X) s.heap H locs → lv_has ls 11 [(0, .ref (X.1 63)), (2, .int a2), (7, .int v21), (6, .int q.1)] → W p l e rX11_planks s m args below meth c H locs 0 0 Q (F0 m 227 ls [])) ?_ gv_N (v20, (0 : Int32), s22) q39 hq39 ?_ H locs ls hP hS (lv_sub hl [1, 2, 4, 3, 0] rfl)
              · intro q x h Kc Ke H locs ls hP hS hl
                obtain ⟨v23, v24, s25⟩ := q
                have h : pX11_planks_L141 v21 v23 v24 s25 = some x := h
                have hP : gw_P X s25 H := hP
                have hl : lv_has ls 11 [(0, .ref (X.1 63)), (2, .int a2), (7, .int v21), (6, .int v23), (8, .int v24)] := hl
                unfold pX11_planks_L141 at h
                refine lv_iload hx hb dX11_planks_141 (lv_at hl 4 rfl) ?_
                refine lv_iconst (v := 4) hx hb dX11_planks_143 (by decide) ?_
                refine lv_icmp_ge (tgt := 227) hx hb dX11_planks_144 (by decide) (fun hc => ?_) (fun hc => ?_)
                · have h := gv_pos hc h
                  exact Ke _ (gv_inj h) _ _ _ hP hS (lv_sub hl [0, 1, 2, 3] rfl)
                · have h := gv_neg hc h
                  refine lv_iload hx hb dX11_planks_147 (lv_at hl 2 rfl) ?_
                  refine lv_iload hx hb dX11_planks_149 (lv_at hl 4 rfl) ?_
                  refine gv_ri (gv_runS (n := 2) (rest := []) C0 (mX11_nextTo l X s25 v21 v24) gX11_planks_X11_nextTo rfl ⟨rfl, rfl⟩ (by decide +kernel) ⟨by decide, by decide⟩ hP hS rfl hl.1 rfl (Nat.le_of_ble_eq_true rfl) dX11_planks_151 ⟨Nat.zero_le _, Nat.zero_le _⟩) hS (fun H locs hP hS => ?_)
                  refine lv_topi (fun v26 ev26 => ?_)
                  have h := gv_let_e ev26 h
                  refine lv_istore (lv' := [(9, .int v26), (0, .ref (X.1 63)), (2, .int a2), (7, .int v21), (6, .int v23), (8, .int v24)]) hx hb dX11_planks_154 hl (by decide) rfl (fun ls hl => ?_)
                  refine lv_iload hx hb dX11_planks_156 (lv_at hl 0 rfl) ?_
                  have J195 : ∀ (v27 : Int32) (H : Heap) (locs : List Loc) (ls : Array Slot), pX11_planks_J195 v21 s25 v24 v23 v27 = some x → gw_P X s25 H → va_S (gw_A X) s.heap H locs → lv_has ls 11 [(0, .ref (X.1 63)), (2, .int a2), (7, .int v21), (6, .int v23), (8, .int v24)] → W p l e rX11_planks s m args below meth c H locs 0 0 Q (F0 m 195 ls [.int v27]) := by
                    intro v27 H locs ls h hP hS hl
                    unfold pX11_planks_J195 at h
                    refine lv_istore (lv' := [(10, .int v27), (0, .ref (X.1 63)), (2, .int a2), (7, .int v21), (6, .int v23), (8, .int v24)]) hx hb dX11_planks_195 hl (by decide) rfl (fun ls hl => ?_)
                    refine lv_iload hx hb dX11_planks_197 (lv_at hl 0 rfl) ?_
                    refine lv_aload_n hx hb dX11_planks_199 rfl (lv_at hl 1 rfl) ?_
                    refine gv_get (ref := "IceByEarModel") (C := RX11) (T := TX11) (N := 28) (ci := 11) (v := .ref (X.1 75)) C0 (fun _ h9 => List.mem_cons_of_mem _ (List.mem_append_right _ h9)) hP 63 (gw_o11 X s25 gk_63.1) rfl 17 (by decide) (by decide +kernel) rfl rfl dX11_planks_200 ?_
                    refine lv_iload hx hb dX11_planks_203 (lv_at hl 3 rfl) ?_
                    obtain ⟨hin28, h⟩ := gv_in_e h
                    refine gv_iald C0 hP 75 gk_75.1 gk_75.2 hin28 dX11_planks_205 ?_
                    refine lv_icmp_ge (tgt := 221) hx hb dX11_planks_206 (by decide) (fun hc => ?_) (fun hc => ?_)
                    · have h := gv_pos hc h
                      obtain ⟨v29, ev29⟩ : ∃ y : Int32, y = (v24 + (1 : Int32)) := ⟨_, rfl⟩
                      have h := gv_let_e ev29 h
                      refine lv_iinc (v := v29) (lv' := [(8, .int v29), (10, .int v27), (0, .ref (X.1 63)), (2, .int a2), (7, .int v21), (6, .int v23)]) hx hb dX11_planks_221 hl (k := 5) rfl (by rw [ev29]; rfl) (by decide) rfl (fun ls hl => ?_)
                      refine lv_goto (tgt := 141) hx hb dX11_planks_224 (by decide) ?_
                      exact Kc _ (gv_inj h) _ _ _ hP hS (lv_sub hl [2, 3, 4, 5, 0] rfl)
                    · have h := gv_neg hc h
                      refine lv_aload_n hx hb dX11_planks_209 rfl (lv_at hl 1 rfl) ?_
                      refine gv_get (ref := "IceByEarModel") (C := RX11) (T := TX11) (N := 28) (ci := 11) (v := .ref (X.1 75)) C0 (fun _ h9 => List.mem_cons_of_mem _ (List.mem_append_right _ h9)) hP 63 (gw_o11 X s25 gk_63.1) rfl 17 (by decide) (by decide +kernel) rfl rfl dX11_planks_210 ?_
                      refine lv_iload hx hb dX11_planks_213 (lv_at hl 3 rfl) ?_
                      refine lv_iload hx hb dX11_planks_215 (lv_at hl 0 rfl) ?_
                      obtain ⟨hin30, h⟩ := gv_in_e h
                      refine gv_iast C0 hP hS 75 gk_75.1 gk_75.2 hin30 dX11_planks_217 (fun s31 H locs es31 hP hS => ?_)
                      have h := gv_let_e es31 h
                      refine lv_iconst (v := 1) hx hb dX11_planks_218 (by decide) ?_
                      refine lv_istore (lv' := [(6, .int (1 : Int32)), (10, .int v27), (0, .ref (X.1 63)), (2, .int a2), (7, .int v21), (8, .int v24)]) hx hb dX11_planks_219 hl (by decide) rfl (fun ls hl => ?_)
                      obtain ⟨v32, ev32⟩ : ∃ y : Int32, y = (v24 + (1 : Int32)) := ⟨_, rfl⟩
                      have h := gv_let_e ev32 h
                      refine lv_iinc (v := v32) (lv' := [(8, .int v32), (6, .int (1 : Int32)), (10, .int v27), (0, .ref (X.1 63)), (2, .int a2), (7, .int v21)]) hx hb dX11_planks_221 hl (k := 5) rfl (by rw [ev32]; rfl) (by decide) rfl (fun ls hl => ?_)
                      refine lv_goto (tgt := 141) hx hb dX11_planks_224 (by decide) ?_
                      exact Kc _ (gv_inj h) _ _ _ hP hS (lv_sub hl [3, 4, 5, 1, 0] rfl)
                  have J174 : ∀  (H : Heap) (locs : List Loc) (ls : Array Slot), pX11_planks_J174 v21 s25 v24 v23 = some x → gw_P X s25 H → va_S (gw_A X) s.heap H locs → lv_has ls 11 [(0, .ref (X.1 63)), (2, .int a2), (7, .int v21), (6, .int v23), (8, .int v24)] → W p l e rX11_planks s m args below meth c H locs 0 0 Q (F0 m 174 ls []) := by
                    intro  H locs ls h hP hS hl
                    unfold pX11_planks_J174 at h
                    refine lv_sipush (v := 999) hx hb dX11_planks_174 (by decide) ?_
                    refine lv_goto (tgt := 195) hx hb dX11_planks_177 (by decide) ?_
                    exact J195 (999 : Int32) _ _ _ h hP hS (lv_sub hl [0, 1, 2, 3, 4] rfl)
                  refine lv_if_lt (tgt := 174) hx hb dX11_planks_158 (by decide) (fun hc => ?_) (fun hc => ?_)
                  · have h := gv_pos hc h
                    exact J174  _ _ _ h hP hS (lv_sub hl [1, 2, 3, 4, 5] rfl)
                  · have h := gv_neg hc h
                    refine lv_aload_n hx hb dX11_planks_161 rfl (lv_at hl 1 rfl) ?_
                    refine gv_get (ref := "IceByEarModel") (C := RX11) (T := TX11) (N := 28) (ci := 11) (v := .ref (X.1 76)) C0 (fun _ h9 => List.mem_cons_of_mem _ (List.mem_append_right _ h9)) hP 63 (gw_o11 X s25 gk_63.1) rfl 19 (by decide) (by decide +kernel) rfl rfl dX11_planks_162 ?_
                    refine lv_iload hx hb dX11_planks_165 (lv_at hl 3 rfl) ?_
                    obtain ⟨hin33, h⟩ := gv_in_e h
                    refine gv_iald C0 hP 76 gk_76.1 gk_76.2 hin33 dX11_planks_167 ?_
                    refine lv_sipush (v := 999) hx hb dX11_planks_168 (by decide) ?_
                    refine lv_icmp_ne (tgt := 180) hx hb dX11_planks_171 (by decide) (fun hc => ?_) (fun hc => ?_)
                    · have h := gv_neg hc h
                      refine lv_aload_n hx hb dX11_planks_180 rfl (lv_at hl 1 rfl) ?_
                      refine gv_get (ref := "IceByEarModel") (C := RX11) (T := TX11) (N := 28) (ci := 11) (v := .ref (X.1 75)) C0 (fun _ h9 => List.mem_cons_of_mem _ (List.mem_append_right _ h9)) hP 63 (gw_o11 X s25 gk_63.1) rfl 17 (by decide) (by decide +kernel) rfl rfl dX11_planks_181 ?_
                      refine lv_iload hx hb dX11_planks_184 (lv_at hl 0 rfl) ?_
                      obtain ⟨hin34, h⟩ := gv_in_e h
                      refine gv_iald C0 hP 75 gk_75.1 gk_75.2 hin34 dX11_planks_186 ?_
                      refine lv_aload_n hx hb dX11_planks_187 rfl (lv_at hl 1 rfl) ?_
                      refine gv_get (ref := "IceByEarModel") (C := RX11) (T := TX11) (N := 28) (ci := 11) (v := .ref (X.1 76)) C0 (fun _ h9 => List.mem_cons_of_mem _ (List.mem_append_right _ h9)) hP 63 (gw_o11 X s25 gk_63.1) rfl 19 (by decide) (by decide +kernel) rfl rfl dX11_planks_188 ?_
                      refine lv_iload hx hb dX11_planks_191 (lv_at hl 3 rfl) ?_
                      obtain ⟨hin35, h⟩ := gv_in_e h
                      refine gv_iald C0 hP 76 gk_76.1 gk_76.2 hin35 dX11_planks_193 ?_
                      refine lv_iadd hx hb dX11_planks_194 ?_
                      exact J195 ((s25.1 75 v26.toNatClampNeg) + (s25.1 76 v21.toNatClampNeg)) _ _ _ h hP hS (lv_sub hl [1, 2, 3, 4, 5] rfl)
                    · have h := gv_pos hc h
                      exact J174  _ _ _ h hP hS (lv_sub hl [1, 2, 3, 4, 5] rfl)
              · obtain ⟨v36, v37, s38⟩ := q39
                have h := gv_let_e (x := v36) rfl h
                have h := gv_let_e (x := v37) rfl h
                have h := gv_let_e (x := s38) rfl h
                intro H locs ls hP hS hl
                have hP : gw_P X s38 H := hP
                have hl : lv_has ls 11 [(0, .ref (X.1 63)), (2, .int a2), (7, .int v21), (6, .int v36)] := hl
                obtain ⟨v39, ev39⟩ : ∃ y : Int32, y = (v21 + (1 : Int32)) := ⟨_, rfl⟩
                have h := gv_let_e ev39 h
                refine lv_iinc (v := v39) (lv' := [(7, .int v39), (0, .ref (X.1 63)), (2, .int a2), (6, .int v36)]) hx hb dX11_planks_227 hl (k := 2) rfl (by rw [ev39]; rfl) (by decide) rfl (fun ls hl => ?_)
                refine lv_goto (tgt := 131) hx hb dX11_planks_230 (by decide) ?_
                exact Kc _ (gv_inj h) _ _ _ hP hS (lv_sub hl [1, 2, 3, 0] rfl)
          · obtain ⟨v41, v42, s43⟩ := q43
            have h := gv_let_e (x := v41) rfl h
            have h := gv_let_e (x := v42) rfl h
            have h := gv_let_e (x := s43) rfl h
            intro H locs ls hP hS hl
            have hP : gw_P X s43 H := hP
            have hl : lv_has ls 11 [(0, .ref (X.1 63)), (2, .int a2), (6, .int v41)] := hl
            refine lv_goto (tgt := 120) hx hb dX11_planks_233 (by decide) ?_
            exact Kc _ (gv_inj h) _ _ _ hP hS (lv_sub hl [0, 1, 2] rfl)
      · obtain ⟨v45, s46⟩ := q48
        have h := gv_let_e (x := v45) rfl h
        have h := gv_let_e (x := s46) rfl h
        intro H locs ls hP hS hl
        have hP : gw_P X s46 H := hP
        have hl : lv_has ls 11 [(0, .ref (X.1 63)), (2, .int a2)] := hl
        refine lv_aload_n hx hb dX11_planks_236 rfl (lv_at hl 0 rfl) ?_
        refine gv_get (ref := "IceByEarModel") (C := RX11) (T := TX11) (N := 28) (ci := 11) (v := .ref (X.1 75)) C0 (fun _ h9 => List.mem_cons_of_mem _ (List.mem_append_right _ h9)) hP 63 (gw_o11 X s46 gk_63.1) rfl 17 (by decide) (by decide +kernel) rfl rfl dX11_planks_237 ?_
        refine lv_iload_n hx hb dX11_planks_240 rfl (lv_at hl 1 rfl) ?_
        obtain ⟨hin47, h⟩ := gv_in_e h
        refine gv_iald C0 hP 75 gk_75.1 gk_75.2 hin47 dX11_planks_241 ?_
        refine lv_sipush (v := 999) hx hb dX11_planks_242 (by decide) ?_
        refine lv_icmp_lt (tgt := 253) hx hb dX11_planks_245 (by decide) (fun hc => ?_) (fun hc => ?_)
        · have h := gv_pos hc h
          refine lv_aload_n hx hb dX11_planks_253 rfl (lv_at hl 0 rfl) ?_
          refine gv_get (ref := "IceByEarModel") (C := RX11) (T := TX11) (N := 28) (ci := 11) (v := .ref (X.1 75)) C0 (fun _ h9 => List.mem_cons_of_mem _ (List.mem_append_right _ h9)) hP 63 (gw_o11 X s46 gk_63.1) rfl 17 (by decide) (by decide +kernel) rfl rfl dX11_planks_254 ?_
          refine lv_iload_n hx hb dX11_planks_257 rfl (lv_at hl 1 rfl) ?_
          obtain ⟨hin48, h⟩ := gv_in_e h
          refine gv_iald C0 hP 75 gk_75.1 gk_75.2 hin48 dX11_planks_258 ?_
          exact Kr _ _ _ _ _ _ (gv_inj h) hP hS dX11_planks_259
        · have h := gv_neg hc h
          refine lv_bipush (v := -4) hx hb dX11_planks_248 (by decide) ?_
          refine lv_goto (tgt := 259) hx hb dX11_planks_250 (by decide) ?_
          exact Kr _ _ _ _ _ _ (gv_inj h) hP hS dX11_planks_259
  · have h := gv_pos hc h
    refine lv_iconst (v := -1) hx hb dX11_planks_11 (by decide) ?_
    exact Kr _ _ _ _ _ _ (gv_inj h) hP hS dX11_planks_12
theorem mX11_planks (l : Launch) (X : gw_X) (s0 : gs_S) (a1 : Int32) (a2 : Int32) (a3 : Int32) (a4 : Int32) {r : Int32} {τ : gs_S} (h : pX11_planks a1 a2 a3 a4 s0 = some (r, τ)) : Met l yX11_planks wsX11_planks rX11_planks (gm_Pc X s0 [.ref (X.1 63), .int a1, .int a2, .int a3, .int a4]) (gm_Qi X τ r) 0 0 (gw_A X) :=
  gm_of RX11 (by decide) rfl rfl (Nat.le_of_ble_eq_true rfl) (fun p e s m below meth c ls C0 hP hl hS => tX11_planks C0 a1 a2 a3 a4 s0 h (fun H locs ls pc r τ hr hP hS hd => by cases hr; exact gm_reti C0 hP hS hd) hP hS hl)
def pX11_slip (a1 : Int32) (a2 : Int32) (s0 : gs_S) : Option (Int32 × gs_S) := if (pX11_in (a1.toInt64) (0 : Int64) (3 : Int64)) = 0 then some ((-1 : Int32), s0) else if (pX11_in (a2.toInt64) (0 : Int64) (99 : Int64)) = 0 then some ((-1 : Int32), s0) else gv_in a1 4 (gv_let (s0.1 70 a1.toNatClampNeg) (fun v2 => gv_in a1 4 (gv_let (gs_u s0 70 a1.toNatClampNeg a2) (fun s4 => some (v2, s4)))))
def rX11_slip : Room := { frames := 1, cells := 0, slots := 0, locals := 25 }
set_option maxHeartbeats 4000000 in
set_option maxRecDepth 100000 in
theorem tX11_slip {p : Program} {l : Launch} {e : Env} {s : State} {m : MethodId} {args : Array Value} {below : List Frame} {meth : Method} {c : Code} {X : gw_X} {Q : State → Prop} (C0 : gm_At p s m args meth c X cX11_slip 4 RX11 wsX11_slip (some .int)) (a1 : Int32) (a2 : Int32) (s0 : gs_S) {z : Int32 × gs_S} (h : pX11_slip a1 a2 s0 = some z) (Kr : ∀ (H : Heap) (locs : List Loc) (ls : Array Slot) (pc : Nat) (r : Int32) (τ : gs_S), z = (r, τ) → gw_P X τ H → va_S (gw_A X) s.heap H locs → decode cX11_slip pc = .ok (.ireturn, 1) → W p l e rX11_slip s m args below meth c H locs 0 0 Q (F0 m pc ls [.int r])) {H : Heap} {locs : List Loc} {ls : Array Slot} (hP : gw_P X s0 H) (hS : va_S (gw_A X) s.heap H locs) (hl : lv_has ls 4 [(0, .ref (X.1 63)), (1, .int a1), (2, .int a2)]) : W p l e rX11_slip s m args below meth c H locs 0 0 Q (F0 m 0 ls []) := by
  obtain ⟨hx, hb, hml, hown, hts, hr, hlocks, hC⟩ := id C0
  unfold pX11_slip at h
  refine lv_iload_n hx hb dX11_slip_0 rfl (lv_at hl 1 rfl) ?_
  refine lv_i2l hx hb dX11_slip_1 rfl ?_
  refine lv_lconst (v := 0) hx hb dX11_slip_2 (by decide) ?_
  refine lv_ldc2 (v := 3) hx hb hown (hts (.constantLong RX11 182 (3)) (by decide +kernel)) dX11_slip_3 ?_
  refine gv_ri (gv_runS (n := 3) (rest := []) C0 (mX11_in l X s0 (a1.toInt64) (0 : Int64) (3 : Int64)) gX11_slip_X11_in rfl ⟨rfl, rfl⟩ (by decide +kernel) ⟨by decide, by decide⟩ hP hS rfl hl.1 rfl (Nat.le_of_ble_eq_true rfl) dX11_slip_6 ⟨Nat.zero_le _, Nat.zero_le _⟩) hS (fun H locs hP hS => ?_)
  refine lv_if_eq (tgt := 24) hx hb dX11_slip_9 (by decide) (fun hc => ?_) (fun hc => ?_)
  · have h := gv_pos hc h
    refine lv_iconst (v := -1) hx hb dX11_slip_24 (by decide) ?_
    exact Kr _ _ _ _ _ _ (gv_inj h) hP hS dX11_slip_25
  · have h := gv_neg hc h
    refine lv_iload_n hx hb dX11_slip_12 rfl (lv_at hl 2 rfl) ?_
    refine lv_i2l hx hb dX11_slip_13 rfl ?_
    refine lv_lconst (v := 0) hx hb dX11_slip_14 (by decide) ?_
    refine lv_ldc2 (v := 99) hx hb hown (hts (.constantLong RX11 110 (99)) (by decide +kernel)) dX11_slip_15 ?_
    refine gv_ri (gv_runS (n := 3) (rest := []) C0 (mX11_in l X s0 (a2.toInt64) (0 : Int64) (99 : Int64)) gX11_slip_X11_in rfl ⟨rfl, rfl⟩ (by decide +kernel) ⟨by decide, by decide⟩ hP hS rfl hl.1 rfl (Nat.le_of_ble_eq_true rfl) dX11_slip_18 ⟨Nat.zero_le _, Nat.zero_le _⟩) hS (fun H locs hP hS => ?_)
    refine lv_if_ne (tgt := 26) hx hb dX11_slip_21 (by decide) (fun hc => ?_) (fun hc => ?_)
    · have h := gv_neg hc h
      refine lv_aload_n hx hb dX11_slip_26 rfl (lv_at hl 0 rfl) ?_
      refine gv_get (ref := "IceByEarModel") (C := RX11) (T := TX11) (N := 28) (ci := 11) (v := .ref (X.1 70)) C0 (fun _ h9 => List.mem_cons_of_mem _ (List.mem_append_right _ h9)) hP 63 (gw_o11 X s0 gk_63.1) rfl 8 (by decide) (by decide +kernel) rfl rfl dX11_slip_27 ?_
      refine lv_iload_n hx hb dX11_slip_30 rfl (lv_at hl 1 rfl) ?_
      obtain ⟨hin1, h⟩ := gv_in_e h
      refine gv_iald C0 hP 70 gk_70.1 gk_70.2 hin1 dX11_slip_31 ?_
      refine lv_topi (fun v2 ev2 => ?_)
      have h := gv_let_e ev2 h
      refine lv_istore_n (lv' := [(3, .int v2), (0, .ref (X.1 63)), (1, .int a1), (2, .int a2)]) hx hb dX11_slip_32 rfl hl (by decide) rfl (fun ls hl => ?_)
      refine lv_aload_n hx hb dX11_slip_33 rfl (lv_at hl 1 rfl) ?_
      refine gv_get (ref := "IceByEarModel") (C := RX11) (T := TX11) (N := 28) (ci := 11) (v := .ref (X.1 70)) C0 (fun _ h9 => List.mem_cons_of_mem _ (List.mem_append_right _ h9)) hP 63 (gw_o11 X s0 gk_63.1) rfl 8 (by decide) (by decide +kernel) rfl rfl dX11_slip_34 ?_
      refine lv_iload_n hx hb dX11_slip_37 rfl (lv_at hl 2 rfl) ?_
      refine lv_iload_n hx hb dX11_slip_38 rfl (lv_at hl 3 rfl) ?_
      obtain ⟨hin3, h⟩ := gv_in_e h
      refine gv_iast C0 hP hS 70 gk_70.1 gk_70.2 hin3 dX11_slip_39 (fun s4 H locs es4 hP hS => ?_)
      have h := gv_let_e es4 h
      refine lv_iload_n hx hb dX11_slip_40 rfl (lv_at hl 0 rfl) ?_
      exact Kr _ _ _ _ _ _ (gv_inj h) hP hS dX11_slip_41
    · have h := gv_pos hc h
      refine lv_iconst (v := -1) hx hb dX11_slip_24 (by decide) ?_
      exact Kr _ _ _ _ _ _ (gv_inj h) hP hS dX11_slip_25
theorem mX11_slip (l : Launch) (X : gw_X) (s0 : gs_S) (a1 : Int32) (a2 : Int32) {r : Int32} {τ : gs_S} (h : pX11_slip a1 a2 s0 = some (r, τ)) : Met l yX11_slip wsX11_slip rX11_slip (gm_Pc X s0 [.ref (X.1 63), .int a1, .int a2]) (gm_Qi X τ r) 0 0 (gw_A X) :=
  gm_of RX11 (by decide) rfl rfl (Nat.le_of_ble_eq_true rfl) (fun p e s m below meth c ls C0 hP hl hS => tX11_slip C0 a1 a2 s0 h (fun H locs ls pc r τ hr hP hS hd => by cases hr; exact gm_reti C0 hP hS hd) hP hS hl)
def pX11_hear (a1 : Int32) (a2 : Int32) (a3 : Int32) (s0 : gs_S) : Option (Int32 × gs_S) := if (pX11_in (a1.toInt64) (0 : Int64) (3 : Int64)) = 0 then some ((-1 : Int32), s0) else if (pX11_isSquare (a2.toInt64)) = 0 then some ((-1 : Int32), s0) else if (pX11_in (a3.toInt64) (90 : Int64) (9999 : Int64)) = 0 then some ((-1 : Int32), s0) else if (s0.1 63 10) = (16 : Int32) then some ((-3 : Int32), s0) else gv_in ((3 : Int32) * (s0.1 63 10)) 48 (gv_let (gs_u s0 71 ((3 : Int32) * (s0.1 63 10)).toNatClampNeg a1) (fun s2 => gv_in (((3 : Int32) * (s2.1 63 10)) + (1 : Int32)) 48 (gv_let (gs_u s2 71 (((3 : Int32) * (s2.1 63 10)) + (1 : Int32)).toNatClampNeg a2) (fun s4 => gv_in (((3 : Int32) * (s4.1 63 10)) + (2 : Int32)) 48 (gv_let (gs_u s4 71 (((3 : Int32) * (s4.1 63 10)) + (2 : Int32)).toNatClampNeg a3) (fun s6 => gv_let (gs_u s6 63 10 ((s6.1 63 10) + (1 : Int32))) (fun s7 => some ((s7.1 63 10), s7))))))))
def rX11_hear : Room := { frames := 2, cells := 0, slots := 0, locals := 46 }
set_option maxHeartbeats 4000000 in
set_option maxRecDepth 100000 in
theorem tX11_hear {p : Program} {l : Launch} {e : Env} {s : State} {m : MethodId} {args : Array Value} {below : List Frame} {meth : Method} {c : Code} {X : gw_X} {Q : State → Prop} (C0 : gm_At p s m args meth c X cX11_hear 4 RX11 wsX11_hear (some .int)) (a1 : Int32) (a2 : Int32) (a3 : Int32) (s0 : gs_S) {z : Int32 × gs_S} (h : pX11_hear a1 a2 a3 s0 = some z) (Kr : ∀ (H : Heap) (locs : List Loc) (ls : Array Slot) (pc : Nat) (r : Int32) (τ : gs_S), z = (r, τ) → gw_P X τ H → va_S (gw_A X) s.heap H locs → decode cX11_hear pc = .ok (.ireturn, 1) → W p l e rX11_hear s m args below meth c H locs 0 0 Q (F0 m pc ls [.int r])) {H : Heap} {locs : List Loc} {ls : Array Slot} (hP : gw_P X s0 H) (hS : va_S (gw_A X) s.heap H locs) (hl : lv_has ls 4 [(0, .ref (X.1 63)), (1, .int a1), (2, .int a2), (3, .int a3)]) : W p l e rX11_hear s m args below meth c H locs 0 0 Q (F0 m 0 ls []) := by
  obtain ⟨hx, hb, hml, hown, hts, hr, hlocks, hC⟩ := id C0
  unfold pX11_hear at h
  refine lv_iload_n hx hb dX11_hear_0 rfl (lv_at hl 1 rfl) ?_
  refine lv_i2l hx hb dX11_hear_1 rfl ?_
  refine lv_lconst (v := 0) hx hb dX11_hear_2 (by decide) ?_
  refine lv_ldc2 (v := 3) hx hb hown (hts (.constantLong RX11 182 (3)) (by decide +kernel)) dX11_hear_3 ?_
  refine gv_ri (gv_runS (n := 3) (rest := []) C0 (mX11_in l X s0 (a1.toInt64) (0 : Int64) (3 : Int64)) gX11_hear_X11_in rfl ⟨rfl, rfl⟩ (by decide +kernel) ⟨by decide, by decide⟩ hP hS rfl hl.1 rfl (Nat.le_of_ble_eq_true rfl) dX11_hear_6 ⟨Nat.zero_le _, Nat.zero_le _⟩) hS (fun H locs hP hS => ?_)
  refine lv_if_eq (tgt := 34) hx hb dX11_hear_9 (by decide) (fun hc => ?_) (fun hc => ?_)
  · have h := gv_pos hc h
    refine lv_iconst (v := -1) hx hb dX11_hear_34 (by decide) ?_
    exact Kr _ _ _ _ _ _ (gv_inj h) hP hS dX11_hear_35
  · have h := gv_neg hc h
    refine lv_iload_n hx hb dX11_hear_12 rfl (lv_at hl 2 rfl) ?_
    refine lv_i2l hx hb dX11_hear_13 rfl ?_
    refine gv_ri (gv_runS (n := 1) (rest := []) C0 (mX11_isSquare l X s0 (a2.toInt64)) gX11_hear_X11_isSquare rfl ⟨rfl, rfl⟩ (by decide +kernel) ⟨by decide, by decide⟩ hP hS rfl hl.1 rfl (Nat.le_of_ble_eq_true rfl) dX11_hear_14 ⟨Nat.zero_le _, Nat.zero_le _⟩) hS (fun H locs hP hS => ?_)
    refine lv_if_eq (tgt := 34) hx hb dX11_hear_17 (by decide) (fun hc => ?_) (fun hc => ?_)
    · have h := gv_pos hc h
      refine lv_iconst (v := -1) hx hb dX11_hear_34 (by decide) ?_
      exact Kr _ _ _ _ _ _ (gv_inj h) hP hS dX11_hear_35
    · have h := gv_neg hc h
      refine lv_iload_n hx hb dX11_hear_20 rfl (lv_at hl 3 rfl) ?_
      refine lv_i2l hx hb dX11_hear_21 rfl ?_
      refine lv_ldc2 (v := 90) hx hb hown (hts (.constantLong RX11 213 (90)) (by decide +kernel)) dX11_hear_22 ?_
      refine lv_ldc2 (v := 9999) hx hb hown (hts (.constantLong RX11 215 (9999)) (by decide +kernel)) dX11_hear_25 ?_
      refine gv_ri (gv_runS (n := 3) (rest := []) C0 (mX11_in l X s0 (a3.toInt64) (90 : Int64) (9999 : Int64)) gX11_hear_X11_in rfl ⟨rfl, rfl⟩ (by decide +kernel) ⟨by decide, by decide⟩ hP hS rfl hl.1 rfl (Nat.le_of_ble_eq_true rfl) dX11_hear_28 ⟨Nat.zero_le _, Nat.zero_le _⟩) hS (fun H locs hP hS => ?_)
      refine lv_if_ne (tgt := 36) hx hb dX11_hear_31 (by decide) (fun hc => ?_) (fun hc => ?_)
      · have h := gv_neg hc h
        refine lv_aload_n hx hb dX11_hear_36 rfl (lv_at hl 0 rfl) ?_
        refine gv_get (ref := "IceByEarModel") (C := RX11) (T := TX11) (N := 28) (ci := 11) (v := .int (s0.1 63 10)) C0 (fun _ h9 => List.mem_cons_of_mem _ (List.mem_append_right _ h9)) hP 63 (gw_o11 X s0 gk_63.1) rfl 10 (by decide) (by decide +kernel) rfl rfl dX11_hear_37 ?_
        refine lv_bipush (v := 16) hx hb dX11_hear_40 (by decide) ?_
        refine lv_icmp_ne (tgt := 48) hx hb dX11_hear_42 (by decide) (fun hc => ?_) (fun hc => ?_)
        · have h := gv_neg hc h
          refine lv_aload_n hx hb dX11_hear_48 rfl (lv_at hl 0 rfl) ?_
          refine gv_get (ref := "IceByEarModel") (C := RX11) (T := TX11) (N := 28) (ci := 11) (v := .ref (X.1 71)) C0 (fun _ h9 => List.mem_cons_of_mem _ (List.mem_append_right _ h9)) hP 63 (gw_o11 X s0 gk_63.1) rfl 9 (by decide) (by decide +kernel) rfl rfl dX11_hear_49 ?_
          refine lv_iconst (v := 3) hx hb dX11_hear_52 (by decide) ?_
          refine lv_aload_n hx hb dX11_hear_53 rfl (lv_at hl 0 rfl) ?_
          refine gv_get (ref := "IceByEarModel") (C := RX11) (T := TX11) (N := 28) (ci := 11) (v := .int (s0.1 63 10)) C0 (fun _ h9 => List.mem_cons_of_mem _ (List.mem_append_right _ h9)) hP 63 (gw_o11 X s0 gk_63.1) rfl 10 (by decide) (by decide +kernel) rfl rfl dX11_hear_54 ?_
          refine lv_imul hx hb dX11_hear_57 ?_
          refine lv_iload_n hx hb dX11_hear_58 rfl (lv_at hl 1 rfl) ?_
          obtain ⟨hin1, h⟩ := gv_in_e h
          refine gv_iast C0 hP hS 71 gk_71.1 gk_71.2 hin1 dX11_hear_59 (fun s2 H locs es2 hP hS => ?_)
          have h := gv_let_e es2 h
          refine lv_aload_n hx hb dX11_hear_60 rfl (lv_at hl 0 rfl) ?_
          refine gv_get (ref := "IceByEarModel") (C := RX11) (T := TX11) (N := 28) (ci := 11) (v := .ref (X.1 71)) C0 (fun _ h9 => List.mem_cons_of_mem _ (List.mem_append_right _ h9)) hP 63 (gw_o11 X s2 gk_63.1) rfl 9 (by decide) (by decide +kernel) rfl rfl dX11_hear_61 ?_
          refine lv_iconst (v := 3) hx hb dX11_hear_64 (by decide) ?_
          refine lv_aload_n hx hb dX11_hear_65 rfl (lv_at hl 0 rfl) ?_
          refine gv_get (ref := "IceByEarModel") (C := RX11) (T := TX11) (N := 28) (ci := 11) (v := .int (s2.1 63 10)) C0 (fun _ h9 => List.mem_cons_of_mem _ (List.mem_append_right _ h9)) hP 63 (gw_o11 X s2 gk_63.1) rfl 10 (by decide) (by decide +kernel) rfl rfl dX11_hear_66 ?_
          refine lv_imul hx hb dX11_hear_69 ?_
          refine lv_iconst (v := 1) hx hb dX11_hear_70 (by decide) ?_
          refine lv_iadd hx hb dX11_hear_71 ?_
          refine lv_iload_n hx hb dX11_hear_72 rfl (lv_at hl 2 rfl) ?_
          obtain ⟨hin3, h⟩ := gv_in_e h
          refine gv_iast C0 hP hS 71 gk_71.1 gk_71.2 hin3 dX11_hear_73 (fun s4 H locs es4 hP hS => ?_)
          have h := gv_let_e es4 h
          refine lv_aload_n hx hb dX11_hear_74 rfl (lv_at hl 0 rfl) ?_
          refine gv_get (ref := "IceByEarModel") (C := RX11) (T := TX11) (N := 28) (ci := 11) (v := .ref (X.1 71)) C0 (fun _ h9 => List.mem_cons_of_mem _ (List.mem_append_right _ h9)) hP 63 (gw_o11 X s4 gk_63.1) rfl 9 (by decide) (by decide +kernel) rfl rfl dX11_hear_75 ?_
          refine lv_iconst (v := 3) hx hb dX11_hear_78 (by decide) ?_
          refine lv_aload_n hx hb dX11_hear_79 rfl (lv_at hl 0 rfl) ?_
          refine gv_get (ref := "IceByEarModel") (C := RX11) (T := TX11) (N := 28) (ci := 11) (v := .int (s4.1 63 10)) C0 (fun _ h9 => List.mem_cons_of_mem _ (List.mem_append_right _ h9)) hP 63 (gw_o11 X s4 gk_63.1) rfl 10 (by decide) (by decide +kernel) rfl rfl dX11_hear_80 ?_
          refine lv_imul hx hb dX11_hear_83 ?_
          refine lv_iconst (v := 2) hx hb dX11_hear_84 (by decide) ?_
          refine lv_iadd hx hb dX11_hear_85 ?_
          refine lv_iload_n hx hb dX11_hear_86 rfl (lv_at hl 3 rfl) ?_
          obtain ⟨hin5, h⟩ := gv_in_e h
          refine gv_iast C0 hP hS 71 gk_71.1 gk_71.2 hin5 dX11_hear_87 (fun s6 H locs es6 hP hS => ?_)
          have h := gv_let_e es6 h
          refine lv_aload_n hx hb dX11_hear_88 rfl (lv_at hl 0 rfl) ?_
          refine lv_dup hx hb dX11_hear_89 rfl ?_
          refine gv_get (ref := "IceByEarModel") (C := RX11) (T := TX11) (N := 28) (ci := 11) (v := .int (s6.1 63 10)) C0 (fun _ h9 => List.mem_cons_of_mem _ (List.mem_append_right _ h9)) hP 63 (gw_o11 X s6 gk_63.1) rfl 10 (by decide) (by decide +kernel) rfl rfl dX11_hear_90 ?_
          refine lv_iconst (v := 1) hx hb dX11_hear_93 (by decide) ?_
          refine lv_iadd hx hb dX11_hear_94 ?_
          refine gv_put (ref := "IceByEarModel") (C := RX11) (T := TX11) (N := 28) (ci := 11) (v := .int ((s6.1 63 10) + (1 : Int32))) C0 (fun _ h9 => List.mem_cons_of_mem _ (List.mem_append_right _ h9)) tyX11 tyX11_ok nmX11 hP hS 63 (gw_o11 X s6 gk_63.1) rfl 10 (by decide) (by decide +kernel) rfl rfl (tyX11_ok 10 (by decide)) rfl rfl (Nat.le_of_ble_eq_true rfl) (gw_s11_10 gk_63.1 ((s6.1 63 10) + (1 : Int32))) dX11_hear_95 (fun s7 H locs es7 hP hS => ?_)
          have h := gv_let_e es7 h
          refine lv_aload_n hx hb dX11_hear_98 rfl (lv_at hl 0 rfl) ?_
          refine gv_get (ref := "IceByEarModel") (C := RX11) (T := TX11) (N := 28) (ci := 11) (v := .int (s7.1 63 10)) C0 (fun _ h9 => List.mem_cons_of_mem _ (List.mem_append_right _ h9)) hP 63 (gw_o11 X s7 gk_63.1) rfl 10 (by decide) (by decide +kernel) rfl rfl dX11_hear_99 ?_
          exact Kr _ _ _ _ _ _ (gv_inj h) hP hS dX11_hear_102
        · have h := gv_pos hc h
          refine lv_bipush (v := -3) hx hb dX11_hear_45 (by decide) ?_
          exact Kr _ _ _ _ _ _ (gv_inj h) hP hS dX11_hear_47
      · have h := gv_pos hc h
        refine lv_iconst (v := -1) hx hb dX11_hear_34 (by decide) ?_
        exact Kr _ _ _ _ _ _ (gv_inj h) hP hS dX11_hear_35
theorem mX11_hear (l : Launch) (X : gw_X) (s0 : gs_S) (a1 : Int32) (a2 : Int32) (a3 : Int32) {r : Int32} {τ : gs_S} (h : pX11_hear a1 a2 a3 s0 = some (r, τ)) : Met l yX11_hear wsX11_hear rX11_hear (gm_Pc X s0 [.ref (X.1 63), .int a1, .int a2, .int a3]) (gm_Qi X τ r) 0 0 (gw_A X) :=
  gm_of RX11 (by decide) rfl rfl (Nat.le_of_ble_eq_true rfl) (fun p e s m below meth c ls C0 hP hl hS => tX11_hear C0 a1 a2 a3 s0 h (fun H locs ls pc r τ hr hP hS hd => by cases hr; exact gm_reti C0 hP hS hd) hP hS hl)
def pX11_deaf  (s0 : gs_S) : Option (Int32 × gs_S) := gv_let (s0.1 63 10) (fun v1 => gv_let (gs_u s0 63 10 (0 : Int32)) (fun s2 => some (v1, s2)))
def rX11_deaf : Room := { frames := 0, cells := 0, slots := 0, locals := 0 }
set_option maxHeartbeats 4000000 in
set_option maxRecDepth 100000 in
theorem tX11_deaf {p : Program} {l : Launch} {e : Env} {s : State} {m : MethodId} {args : Array Value} {below : List Frame} {meth : Method} {c : Code} {X : gw_X} {Q : State → Prop} (C0 : gm_At p s m args meth c X cX11_deaf 2 RX11 wsX11_deaf (some .int))  (s0 : gs_S) {z : Int32 × gs_S} (h : pX11_deaf s0 = some z) (Kr : ∀ (H : Heap) (locs : List Loc) (ls : Array Slot) (pc : Nat) (r : Int32) (τ : gs_S), z = (r, τ) → gw_P X τ H → va_S (gw_A X) s.heap H locs → decode cX11_deaf pc = .ok (.ireturn, 1) → W p l e rX11_deaf s m args below meth c H locs 0 0 Q (F0 m pc ls [.int r])) {H : Heap} {locs : List Loc} {ls : Array Slot} (hP : gw_P X s0 H) (hS : va_S (gw_A X) s.heap H locs) (hl : lv_has ls 2 [(0, .ref (X.1 63))]) : W p l e rX11_deaf s m args below meth c H locs 0 0 Q (F0 m 0 ls []) := by
  obtain ⟨hx, hb, hml, hown, hts, hr, hlocks, hC⟩ := id C0
  unfold pX11_deaf at h
  refine lv_aload_n hx hb dX11_deaf_0 rfl (lv_at hl 0 rfl) ?_
  refine gv_get (ref := "IceByEarModel") (C := RX11) (T := TX11) (N := 28) (ci := 11) (v := .int (s0.1 63 10)) C0 (fun _ h9 => List.mem_cons_of_mem _ (List.mem_append_right _ h9)) hP 63 (gw_o11 X s0 gk_63.1) rfl 10 (by decide) (by decide +kernel) rfl rfl dX11_deaf_1 ?_
  refine lv_topi (fun v1 ev1 => ?_)
  have h := gv_let_e ev1 h
  refine lv_istore_n (lv' := [(1, .int v1), (0, .ref (X.1 63))]) hx hb dX11_deaf_4 rfl hl (by decide) rfl (fun ls hl => ?_)
  refine lv_aload_n hx hb dX11_deaf_5 rfl (lv_at hl 1 rfl) ?_
  refine lv_iconst (v := 0) hx hb dX11_deaf_6 (by decide) ?_
  refine gv_put (ref := "IceByEarModel") (C := RX11) (T := TX11) (N := 28) (ci := 11) (v := .int (0 : Int32)) C0 (fun _ h9 => List.mem_cons_of_mem _ (List.mem_append_right _ h9)) tyX11 tyX11_ok nmX11 hP hS 63 (gw_o11 X s0 gk_63.1) rfl 10 (by decide) (by decide +kernel) rfl rfl (tyX11_ok 10 (by decide)) rfl rfl (Nat.le_of_ble_eq_true rfl) (gw_s11_10 gk_63.1 (0 : Int32)) dX11_deaf_7 (fun s2 H locs es2 hP hS => ?_)
  have h := gv_let_e es2 h
  refine lv_iload_n hx hb dX11_deaf_10 rfl (lv_at hl 0 rfl) ?_
  exact Kr _ _ _ _ _ _ (gv_inj h) hP hS dX11_deaf_11
theorem mX11_deaf (l : Launch) (X : gw_X) (s0 : gs_S)  {r : Int32} {τ : gs_S} (h : pX11_deaf s0 = some (r, τ)) : Met l yX11_deaf wsX11_deaf rX11_deaf (gm_Pc X s0 [.ref (X.1 63)]) (gm_Qi X τ r) 0 0 (gw_A X) :=
  gm_of RX11 (by decide) rfl rfl (Nat.le_of_ble_eq_true rfl) (fun p e s m below meth c ls C0 hP hl hS => tX11_deaf C0  s0 h (fun H locs ls pc r τ hr hP hS hd => by cases hr; exact gm_reti C0 hP hS hd) hP hS hl)
def pX11_fits_L6 (s0 : gs_S) (a2 : Int32) (a1 : Int32) (a3 : Int32) (v1 : Int32) (v2 : Int32) : Option ((Int32 × Int32) ⊕ (Int32 × Int32)) := if (s0.1 63 10) ≤ v2 then some (.inr (v1, v2)) else gv_in ((3 : Int32) * v2) 48 (gv_let (s0.1 71 ((3 : Int32) * v2).toNatClampNeg) (fun v4 => gv_in (((3 : Int32) * v2) + (1 : Int32)) 48 (if (s0.1 71 (((3 : Int32) * v2) + (1 : Int32)).toNatClampNeg) = a2 then if ((a1 >>> (v4 &&& 31)) &&& (1 : Int32)) = (1 : Int32) then gv_in ((64 : Int32) + a2) 320 (gv_bind (pX11_pitchOf a3 (s0.1 64 ((64 : Int32) + a2).toNatClampNeg)) (fun v9 => gv_in (((3 : Int32) * v2) + (2 : Int32)) 48 (gv_let (v9 - (s0.1 71 (((3 : Int32) * v2) + (2 : Int32)).toNatClampNeg)) (fun v11 => if v1 = 0 then gv_let (v2 + (1 : Int32)) (fun v12 => some (.inl ((0 : Int32), v12))) else gv_in v4 4 (gv_in v4 4 (if (pX11_in (v11.toInt64) ((-(s0.1 70 v4.toNatClampNeg)).toInt64) ((s0.1 70 v4.toNatClampNeg).toInt64)) = 0 then gv_let (v2 + (1 : Int32)) (fun v15 => some (.inl ((0 : Int32), v15))) else gv_let (v2 + (1 : Int32)) (fun v16 => some (.inl ((1 : Int32), v16))))))))) else gv_let (v2 + (1 : Int32)) (fun v7 => some (.inl (v1, v7))) else gv_let (v2 + (1 : Int32)) (fun v6 => some (.inl (v1, v6))))))
def pX11_fits (a1 : Int32) (a2 : Int32) (a3 : Int32) (s0 : gs_S) : Option (Int32) := gv_bind (gv_loop (fun q => pX11_fits_L6 s0 a2 a1 a3 q.1 q.2) gv_N ((1 : Int32), (0 : Int32))) (fun q => gv_let q.1 (fun v17 => gv_let q.2 (fun v18 => gv_bo v17 (some v17))))
def rX11_fits : Room := { frames := 1, cells := 0, slots := 0, locals := 25 }
set_option maxHeartbeats 4000000 in
set_option maxRecDepth 100000 in
theorem tX11_fits {p : Program} {l : Launch} {e : Env} {s : State} {m : MethodId} {args : Array Value} {below : List Frame} {meth : Method} {c : Code} {X : gw_X} {Q : State → Prop} (C0 : gm_At p s m args meth c X cX11_fits 8 RX11 wsX11_fits (some .boolean)) (a1 : Int32) (a2 : Int32) (a3 : Int32) (s0 : gs_S) {z : Int32} (h : pX11_fits a1 a2 a3 s0 = some z) (Kr : ∀ (H : Heap) (locs : List Loc) (ls : Array Slot) (pc : Nat) (r : Int32), z = r → narrow .boolean (.int r) = .int r → gw_P X s0 H → va_S (gw_A X) s.heap H locs → decode cX11_fits pc = .ok (.ireturn, 1) → W p l e rX11_fits s m args below meth c H locs 0 0 Q (F0 m pc ls [.int r])) {H : Heap} {locs : List Loc} {ls : Array Slot} (hP : gw_P X s0 H) (hS : va_S (gw_A X) s.heap H locs) (hl : lv_has ls 8 [(0, .ref (X.1 63)), (1, .int a1), (2, .int a2), (3, .int a3)]) : W p l e rX11_fits s m args below meth c H locs 0 0 Q (F0 m 0 ls []) := by
  obtain ⟨hx, hb, hml, hown, hts, hr, hlocks, hC⟩ := id C0
  unfold pX11_fits at h
  refine lv_iconst (v := 1) hx hb dX11_fits_0 (by decide) ?_
  refine lv_istore (lv' := [(4, .int (1 : Int32)), (0, .ref (X.1 63)), (1, .int a1), (2, .int a2), (3, .int a3)]) hx hb dX11_fits_1 hl (by decide) rfl (fun ls hl => ?_)
  refine lv_iconst (v := 0) hx hb dX11_fits_3 (by decide) ?_
  refine lv_istore (lv' := [(5, .int (0 : Int32)), (4, .int (1 : Int32)), (0, .ref (X.1 63)), (1, .int a1), (2, .int a2), (3, .int a3)]) hx hb dX11_fits_4 hl (by decide) rfl (fun ls hl => ?_)
  obtain ⟨q19, hq19, h⟩ := gv_bind_e h
  refine gv_loop_ind (Φ := fun q => ∀ (H : Heap) (locs : List Loc) (ls : Array Slot), gw_P X s0 H → va_S (gw_A X) s.heap H locs → lv_has ls 8 [(0, .ref (X.1 63)), (1, .int a1), (2, .int a2), (3, .int a3), (4, .int q.1), (5, .int q.2)] → W p l e rX11_fits s m args below meth c H locs 0 0 Q (F0 m 6 ls [])) (Ψ := fun q => ∀ (H : Heap) (locs : List Loc) (ls : Array Slot), gw_P X s0 H → va_S (gw_A X) s.heap H locs → lv_has ls 8 [(4, .int q.1)] → W p l e rX11_fits s m args below meth c H locs 0 0 Q (F0 m 122 ls [])) ?_ gv_N ((1 : Int32), (0 : Int32)) q19 hq19 ?_ H locs ls hP hS (lv_sub hl [2, 3, 4, 5, 1, 0] rfl)
  · intro q x h Kc Ke H locs ls hP hS hl
    obtain ⟨v1, v2⟩ := q
    have h : pX11_fits_L6 s0 a2 a1 a3 v1 v2 = some x := h
    have hP : gw_P X s0 H := hP
    have hl : lv_has ls 8 [(0, .ref (X.1 63)), (1, .int a1), (2, .int a2), (3, .int a3), (4, .int v1), (5, .int v2)] := hl
    unfold pX11_fits_L6 at h
    refine lv_iload hx hb dX11_fits_6 (lv_at hl 5 rfl) ?_
    refine lv_aload_n hx hb dX11_fits_8 rfl (lv_at hl 0 rfl) ?_
    refine gv_get (ref := "IceByEarModel") (C := RX11) (T := TX11) (N := 28) (ci := 11) (v := .int (s0.1 63 10)) C0 (fun _ h9 => List.mem_cons_of_mem _ (List.mem_append_right _ h9)) hP 63 (gw_o11 X s0 gk_63.1) rfl 10 (by decide) (by decide +kernel) rfl rfl dX11_fits_9 ?_
    refine lv_icmp_ge (tgt := 122) hx hb dX11_fits_12 (by decide) (fun hc => ?_) (fun hc => ?_)
    · have h := gv_pos hc h
      exact Ke _ (gv_inj h) _ _ _ hP hS (lv_sub hl [4] rfl)
    · have h := gv_neg hc h
      refine lv_aload_n hx hb dX11_fits_15 rfl (lv_at hl 0 rfl) ?_
      refine gv_get (ref := "IceByEarModel") (C := RX11) (T := TX11) (N := 28) (ci := 11) (v := .ref (X.1 71)) C0 (fun _ h9 => List.mem_cons_of_mem _ (List.mem_append_right _ h9)) hP 63 (gw_o11 X s0 gk_63.1) rfl 9 (by decide) (by decide +kernel) rfl rfl dX11_fits_16 ?_
      refine lv_iconst (v := 3) hx hb dX11_fits_19 (by decide) ?_
      refine lv_iload hx hb dX11_fits_20 (lv_at hl 5 rfl) ?_
      refine lv_imul hx hb dX11_fits_22 ?_
      obtain ⟨hin3, h⟩ := gv_in_e h
      refine gv_iald C0 hP 71 gk_71.1 gk_71.2 hin3 dX11_fits_23 ?_
      refine lv_topi (fun v4 ev4 => ?_)
      have h := gv_let_e ev4 h
      refine lv_istore (lv' := [(6, .int v4), (0, .ref (X.1 63)), (1, .int a1), (2, .int a2), (3, .int a3), (4, .int v1), (5, .int v2)]) hx hb dX11_fits_24 hl (by decide) rfl (fun ls hl => ?_)
      refine lv_aload_n hx hb dX11_fits_26 rfl (lv_at hl 1 rfl) ?_
      refine gv_get (ref := "IceByEarModel") (C := RX11) (T := TX11) (N := 28) (ci := 11) (v := .ref (X.1 71)) C0 (fun _ h9 => List.mem_cons_of_mem _ (List.mem_append_right _ h9)) hP 63 (gw_o11 X s0 gk_63.1) rfl 9 (by decide) (by decide +kernel) rfl rfl dX11_fits_27 ?_
      refine lv_iconst (v := 3) hx hb dX11_fits_30 (by decide) ?_
      refine lv_iload hx hb dX11_fits_31 (lv_at hl 6 rfl) ?_
      refine lv_imul hx hb dX11_fits_33 ?_
      refine lv_iconst (v := 1) hx hb dX11_fits_34 (by decide) ?_
      refine lv_iadd hx hb dX11_fits_35 ?_
      obtain ⟨hin5, h⟩ := gv_in_e h
      refine gv_iald C0 hP 71 gk_71.1 gk_71.2 hin5 dX11_fits_36 ?_
      refine lv_iload_n hx hb dX11_fits_37 rfl (lv_at hl 3 rfl) ?_
      refine lv_icmp_ne (tgt := 116) hx hb dX11_fits_38 (by decide) (fun hc => ?_) (fun hc => ?_)
      · have h := gv_neg hc h
        obtain ⟨v6, ev6⟩ : ∃ y : Int32, y = (v2 + (1 : Int32)) := ⟨_, rfl⟩
        have h := gv_let_e ev6 h
        refine lv_iinc (v := v6) (lv' := [(5, .int v6), (6, .int v4), (0, .ref (X.1 63)), (1, .int a1), (2, .int a2), (3, .int a3), (4, .int v1)]) hx hb dX11_fits_116 hl (k := 6) rfl (by rw [ev6]; rfl) (by decide) rfl (fun ls hl => ?_)
        refine lv_goto (tgt := 6) hx hb dX11_fits_119 (by decide) ?_
        exact Kc _ (gv_inj h) _ _ _ hP hS (lv_sub hl [2, 3, 4, 5, 6, 0] rfl)
      · have h := gv_pos hc h
        refine lv_iload_n hx hb dX11_fits_41 rfl (lv_at hl 2 rfl) ?_
        refine lv_iload hx hb dX11_fits_42 (lv_at hl 0 rfl) ?_
        refine lv_ishr hx hb dX11_fits_44 ?_
        refine lv_iconst (v := 1) hx hb dX11_fits_45 (by decide) ?_
        refine lv_iand hx hb dX11_fits_46 ?_
        refine lv_iconst (v := 1) hx hb dX11_fits_47 (by decide) ?_
        refine lv_icmp_ne (tgt := 116) hx hb dX11_fits_48 (by decide) (fun hc => ?_) (fun hc => ?_)
        · have h := gv_neg hc h
          obtain ⟨v7, ev7⟩ : ∃ y : Int32, y = (v2 + (1 : Int32)) := ⟨_, rfl⟩
          have h := gv_let_e ev7 h
          refine lv_iinc (v := v7) (lv' := [(5, .int v7), (6, .int v4), (0, .ref (X.1 63)), (1, .int a1), (2, .int a2), (3, .int a3), (4, .int v1)]) hx hb dX11_fits_116 hl (k := 6) rfl (by rw [ev7]; rfl) (by decide) rfl (fun ls hl => ?_)
          refine lv_goto (tgt := 6) hx hb dX11_fits_119 (by decide) ?_
          exact Kc _ (gv_inj h) _ _ _ hP hS (lv_sub hl [2, 3, 4, 5, 6, 0] rfl)
        · have h := gv_pos hc h
          refine lv_iload_n hx hb dX11_fits_51 rfl (lv_at hl 4 rfl) ?_
          refine lv_aload_n hx hb dX11_fits_52 rfl (lv_at hl 1 rfl) ?_
          refine gv_get (ref := "IceByEarModel") (C := RX11) (T := TX11) (N := 28) (ci := 11) (v := .ref (X.1 64)) C0 (fun _ h9 => List.mem_cons_of_mem _ (List.mem_append_right _ h9)) hP 63 (gw_o11 X s0 gk_63.1) rfl 0 (by decide) (by decide +kernel) rfl rfl dX11_fits_53 ?_
          refine lv_bipush (v := 64) hx hb dX11_fits_56 (by decide) ?_
          refine lv_iload_n hx hb dX11_fits_58 rfl (lv_at hl 3 rfl) ?_
          refine lv_iadd hx hb dX11_fits_59 ?_
          obtain ⟨hin8, h⟩ := gv_in_e h
          refine gv_iald C0 hP 64 gk_64.1 gk_64.2 hin8 dX11_fits_60 ?_
          obtain ⟨v9, hv9, h⟩ := gv_bind_e h
          refine gv_ri (gv_runS (n := 2) (rest := []) C0 (mX11_pitchOf l X s0 a3 (s0.1 64 ((64 : Int32) + a2).toNatClampNeg) hv9) gX11_fits_X11_pitchOf rfl ⟨rfl, rfl⟩ (by decide +kernel) ⟨by decide, by decide⟩ hP hS rfl hl.1 rfl (Nat.le_of_ble_eq_true rfl) dX11_fits_61 ⟨Nat.zero_le _, Nat.zero_le _⟩) hS (fun H locs hP hS => ?_)
          refine lv_aload_n hx hb dX11_fits_64 rfl (lv_at hl 1 rfl) ?_
          refine gv_get (ref := "IceByEarModel") (C := RX11) (T := TX11) (N := 28) (ci := 11) (v := .ref (X.1 71)) C0 (fun _ h9 => List.mem_cons_of_mem _ (List.mem_append_right _ h9)) hP 63 (gw_o11 X s0 gk_63.1) rfl 9 (by decide) (by decide +kernel) rfl rfl dX11_fits_65 ?_
          refine lv_iconst (v := 3) hx hb dX11_fits_68 (by decide) ?_
          refine lv_iload hx hb dX11_fits_69 (lv_at hl 6 rfl) ?_
          refine lv_imul hx hb dX11_fits_71 ?_
          refine lv_iconst (v := 2) hx hb dX11_fits_72 (by decide) ?_
          refine lv_iadd hx hb dX11_fits_73 ?_
          obtain ⟨hin10, h⟩ := gv_in_e h
          refine gv_iald C0 hP 71 gk_71.1 gk_71.2 hin10 dX11_fits_74 ?_
          refine lv_isub hx hb dX11_fits_75 ?_
          refine lv_topi (fun v11 ev11 => ?_)
          have h := gv_let_e ev11 h
          refine lv_istore (lv' := [(7, .int v11), (6, .int v4), (0, .ref (X.1 63)), (1, .int a1), (2, .int a2), (3, .int a3), (4, .int v1), (5, .int v2)]) hx hb dX11_fits_76 hl (by decide) rfl (fun ls hl => ?_)
          refine lv_iload hx hb dX11_fits_78 (lv_at hl 6 rfl) ?_
          refine lv_if_eq (tgt := 113) hx hb dX11_fits_80 (by decide) (fun hc => ?_) (fun hc => ?_)
          · have h := gv_pos hc h
            refine lv_iconst (v := 0) hx hb dX11_fits_113 (by decide) ?_
            refine lv_istore (lv' := [(4, .int (0 : Int32)), (7, .int v11), (6, .int v4), (0, .ref (X.1 63)), (1, .int a1), (2, .int a2), (3, .int a3), (5, .int v2)]) hx hb dX11_fits_114 hl (by decide) rfl (fun ls hl => ?_)
            obtain ⟨v12, ev12⟩ : ∃ y : Int32, y = (v2 + (1 : Int32)) := ⟨_, rfl⟩
            have h := gv_let_e ev12 h
            refine lv_iinc (v := v12) (lv' := [(5, .int v12), (4, .int (0 : Int32)), (7, .int v11), (6, .int v4), (0, .ref (X.1 63)), (1, .int a1), (2, .int a2), (3, .int a3)]) hx hb dX11_fits_116 hl (k := 7) rfl (by rw [ev12]; rfl) (by decide) rfl (fun ls hl => ?_)
            refine lv_goto (tgt := 6) hx hb dX11_fits_119 (by decide) ?_
            exact Kc _ (gv_inj h) _ _ _ hP hS (lv_sub hl [4, 5, 6, 7, 1, 0] rfl)
          · have h := gv_neg hc h
            refine lv_iload hx hb dX11_fits_83 (lv_at hl 0 rfl) ?_
            refine lv_i2l hx hb dX11_fits_85 rfl ?_
            refine lv_aload_n hx hb dX11_fits_86 rfl (lv_at hl 2 rfl) ?_
            refine gv_get (ref := "IceByEarModel") (C := RX11) (T := TX11) (N := 28) (ci := 11) (v := .ref (X.1 70)) C0 (fun _ h9 => List.mem_cons_of_mem _ (List.mem_append_right _ h9)) hP 63 (gw_o11 X s0 gk_63.1) rfl 8 (by decide) (by decide +kernel) rfl rfl dX11_fits_87 ?_
            refine lv_iload hx hb dX11_fits_90 (lv_at hl 1 rfl) ?_
            obtain ⟨hin13, h⟩ := gv_in_e h
            refine gv_iald C0 hP 70 gk_70.1 gk_70.2 hin13 dX11_fits_92 ?_
            refine lv_ineg hx hb dX11_fits_93 ?_
            refine lv_i2l hx hb dX11_fits_94 rfl ?_
            refine lv_aload_n hx hb dX11_fits_95 rfl (lv_at hl 2 rfl) ?_
            refine gv_get (ref := "IceByEarModel") (C := RX11) (T := TX11) (N := 28) (ci := 11) (v := .ref (X.1 70)) C0 (fun _ h9 => List.mem_cons_of_mem _ (List.mem_append_right _ h9)) hP 63 (gw_o11 X s0 gk_63.1) rfl 8 (by decide) (by decide +kernel) rfl rfl dX11_fits_96 ?_
            refine lv_iload hx hb dX11_fits_99 (lv_at hl 1 rfl) ?_
            obtain ⟨hin14, h⟩ := gv_in_e h
            refine gv_iald C0 hP 70 gk_70.1 gk_70.2 hin14 dX11_fits_101 ?_
            refine lv_i2l hx hb dX11_fits_102 rfl ?_
            refine gv_ri (gv_runS (n := 3) (rest := []) C0 (mX11_in l X s0 (v11.toInt64) ((-(s0.1 70 v4.toNatClampNeg)).toInt64) ((s0.1 70 v4.toNatClampNeg).toInt64)) gX11_fits_X11_in rfl ⟨rfl, rfl⟩ (by decide +kernel) ⟨by decide, by decide⟩ hP hS rfl hl.1 rfl (Nat.le_of_ble_eq_true rfl) dX11_fits_103 ⟨Nat.zero_le _, Nat.zero_le _⟩) hS (fun H locs hP hS => ?_)
            refine lv_if_eq (tgt := 113) hx hb dX11_fits_106 (by decide) (fun hc => ?_) (fun hc => ?_)
            · have h := gv_pos hc h
              refine lv_iconst (v := 0) hx hb dX11_fits_113 (by decide) ?_
              refine lv_istore (lv' := [(4, .int (0 : Int32)), (7, .int v11), (6, .int v4), (0, .ref (X.1 63)), (1, .int a1), (2, .int a2), (3, .int a3), (5, .int v2)]) hx hb dX11_fits_114 hl (by decide) rfl (fun ls hl => ?_)
              obtain ⟨v15, ev15⟩ : ∃ y : Int32, y = (v2 + (1 : Int32)) := ⟨_, rfl⟩
              have h := gv_let_e ev15 h
              refine lv_iinc (v := v15) (lv' := [(5, .int v15), (4, .int (0 : Int32)), (7, .int v11), (6, .int v4), (0, .ref (X.1 63)), (1, .int a1), (2, .int a2), (3, .int a3)]) hx hb dX11_fits_116 hl (k := 7) rfl (by rw [ev15]; rfl) (by decide) rfl (fun ls hl => ?_)
              refine lv_goto (tgt := 6) hx hb dX11_fits_119 (by decide) ?_
              exact Kc _ (gv_inj h) _ _ _ hP hS (lv_sub hl [4, 5, 6, 7, 1, 0] rfl)
            · have h := gv_neg hc h
              refine lv_iconst (v := 1) hx hb dX11_fits_109 (by decide) ?_
              refine lv_goto (tgt := 114) hx hb dX11_fits_110 (by decide) ?_
              refine lv_istore (lv' := [(4, .int (1 : Int32)), (7, .int v11), (6, .int v4), (0, .ref (X.1 63)), (1, .int a1), (2, .int a2), (3, .int a3), (5, .int v2)]) hx hb dX11_fits_114 hl (by decide) rfl (fun ls hl => ?_)
              obtain ⟨v16, ev16⟩ : ∃ y : Int32, y = (v2 + (1 : Int32)) := ⟨_, rfl⟩
              have h := gv_let_e ev16 h
              refine lv_iinc (v := v16) (lv' := [(5, .int v16), (4, .int (1 : Int32)), (7, .int v11), (6, .int v4), (0, .ref (X.1 63)), (1, .int a1), (2, .int a2), (3, .int a3)]) hx hb dX11_fits_116 hl (k := 7) rfl (by rw [ev16]; rfl) (by decide) rfl (fun ls hl => ?_)
              refine lv_goto (tgt := 6) hx hb dX11_fits_119 (by decide) ?_
              exact Kc _ (gv_inj h) _ _ _ hP hS (lv_sub hl [4, 5, 6, 7, 1, 0] rfl)
  · obtain ⟨v17, v18⟩ := q19
    have h := gv_let_e (x := v17) rfl h
    have h := gv_let_e (x := v18) rfl h
    intro H locs ls hP hS hl
    have hP : gw_P X s0 H := hP
    have hl : lv_has ls 8 [(4, .int v17)] := hl
    refine lv_iload hx hb dX11_fits_122 (lv_at hl 0 rfl) ?_
    obtain ⟨hbo19, h⟩ := gv_bo_e h
    exact Kr _ _ _ _ _ (gv_inj h) hbo19 hP hS dX11_fits_124
theorem mX11_fits (l : Launch) (X : gw_X) (s0 : gs_S) (a1 : Int32) (a2 : Int32) (a3 : Int32) {r : Int32} (h : pX11_fits a1 a2 a3 s0 = some r) : Met l yX11_fits wsX11_fits rX11_fits (gm_Pc X s0 [.ref (X.1 63), .int a1, .int a2, .int a3]) (gm_Qi X s0 r) 0 0 (gw_A X) :=
  gm_of RX11 (by decide) rfl rfl (Nat.le_of_ble_eq_true rfl) (fun p e s m below meth c ls C0 hP hl hS => tX11_fits C0 a1 a2 a3 s0 h (fun H locs ls pc r hr hn hP hS hd => by subst hr; exact gm_retz hn C0 hP hS hd) hP hS hl)
def pX11_findEnds_J70 (v2 : Int32) (s9 : gs_S) (v8 : Int32) (v13 : Int32) : Option ((Int32 × gs_S) ⊕ (Int32 × gs_S)) := gv_in v2 64 (gv_let (gs_u s9 77 v2.toNatClampNeg v13) (fun s15 => gv_in v2 64 (gv_let (gs_u s15 78 v2.toNatClampNeg v8) (fun s17 => gv_let (v8 + (1 : Int32)) (fun v18 => some (.inl (v18, s17)))))))
def pX11_findEnds_L27 (a1 : Int32) (v2 : Int32) (v8 : Int32) (s9 : gs_S) : Option ((Int32 × gs_S) ⊕ (Int32 × gs_S)) := if (99 : Int32) < v8 then some (.inr (v8, s9)) else gv_bind (pX11_fits a1 v2 v8 s9) (fun v10 => if v10 = 0 then gv_let (v8 + (1 : Int32)) (fun v11 => some (.inl (v11, s9))) else gv_in v2 64 (if (s9.1 77 v2.toNatClampNeg) = 0 then pX11_findEnds_J70 v2 s9 v8 v8 else gv_in v2 64 (pX11_findEnds_J70 v2 s9 v8 (s9.1 77 v2.toNatClampNeg))))
def pX11_findEnds_L4 (a1 : Int32) (v1 : Int32) (v2 : Int32) (s3 : gs_S) : Option ((Int32 × Int32 × gs_S) ⊕ (Int32 × Int32 × gs_S)) := if (64 : Int32) ≤ v2 then some (.inr (v1, v2, s3)) else gv_in v2 64 (gv_let (gs_u s3 77 v2.toNatClampNeg (0 : Int32)) (fun s5 => gv_in v2 64 (gv_let (gs_u s5 78 v2.toNatClampNeg (0 : Int32)) (fun s7 => gv_bind (gv_loop (fun q => pX11_findEnds_L27 a1 v2 q.1 q.2) gv_N ((1 : Int32), s7)) (fun q => gv_let q.1 (fun v20 => gv_let q.2 (fun s21 => if v1 = 0 then gv_let (v2 + (1 : Int32)) (fun v22 => some (.inl ((0 : Int32), v22, s21))) else gv_in v2 64 (if (s21.1 77 v2.toNatClampNeg) ≤ 0 then gv_let (v2 + (1 : Int32)) (fun v24 => some (.inl ((0 : Int32), v24, s21))) else gv_let (v2 + (1 : Int32)) (fun v25 => some (.inl ((1 : Int32), v25, s21)))))))))))
def pX11_findEnds (a1 : Int32) (s0 : gs_S) : Option (Int32 × gs_S) := gv_bind (gv_loop (fun q => pX11_findEnds_L4 a1 q.1 q.2.1 q.2.2) gv_N ((1 : Int32), (0 : Int32), s0)) (fun q => gv_let q.1 (fun v27 => gv_let q.2.1 (fun v28 => gv_let q.2.2 (fun s29 => gv_bo v27 (some (v27, s29))))))
def rX11_findEnds : Room := { frames := 2, cells := 0, slots := 0, locals := 52 }
set_option maxHeartbeats 4000000 in
set_option maxRecDepth 100000 in
theorem tX11_findEnds {p : Program} {l : Launch} {e : Env} {s : State} {m : MethodId} {args : Array Value} {below : List Frame} {meth : Method} {c : Code} {X : gw_X} {Q : State → Prop} (C0 : gm_At p s m args meth c X cX11_findEnds 5 RX11 wsX11_findEnds (some .boolean)) (a1 : Int32) (s0 : gs_S) {z : Int32 × gs_S} (h : pX11_findEnds a1 s0 = some z) (Kr : ∀ (H : Heap) (locs : List Loc) (ls : Array Slot) (pc : Nat) (r : Int32) (τ : gs_S), z = (r, τ) → narrow .boolean (.int r) = .int r → gw_P X τ H → va_S (gw_A X) s.heap H locs → decode cX11_findEnds pc = .ok (.ireturn, 1) → W p l e rX11_findEnds s m args below meth c H locs 0 0 Q (F0 m pc ls [.int r])) {H : Heap} {locs : List Loc} {ls : Array Slot} (hP : gw_P X s0 H) (hS : va_S (gw_A X) s.heap H locs) (hl : lv_has ls 5 [(0, .ref (X.1 63)), (1, .int a1)]) : W p l e rX11_findEnds s m args below meth c H locs 0 0 Q (F0 m 0 ls []) := by
  obtain ⟨hx, hb, hml, hown, hts, hr, hlocks, hC⟩ := id C0
  unfold pX11_findEnds at h
  refine lv_iconst (v := 1) hx hb dX11_findEnds_0 (by decide) ?_
  refine lv_istore_n (lv' := [(2, .int (1 : Int32)), (0, .ref (X.1 63)), (1, .int a1)]) hx hb dX11_findEnds_1 rfl hl (by decide) rfl (fun ls hl => ?_)
  refine lv_iconst (v := 0) hx hb dX11_findEnds_2 (by decide) ?_
  refine lv_istore_n (lv' := [(3, .int (0 : Int32)), (2, .int (1 : Int32)), (0, .ref (X.1 63)), (1, .int a1)]) hx hb dX11_findEnds_3 rfl hl (by decide) rfl (fun ls hl => ?_)
  obtain ⟨q30, hq30, h⟩ := gv_bind_e h
  refine gv_loop_ind (Φ := fun q => ∀ (H : Heap) (locs : List Loc) (ls : Array Slot), gw_P X q.2.2 H → va_S (gw_A X) s.heap H locs → lv_has ls 5 [(0, .ref (X.1 63)), (1, .int a1), (2, .int q.1), (3, .int q.2.1)] → W p l e rX11_findEnds s m args below meth c H locs 0 0 Q (F0 m 4 ls [])) (Ψ := fun q => ∀ (H : Heap) (locs : List Loc) (ls : Array Slot), gw_P X q.2.2 H → va_S (gw_A X) s.heap H locs → lv_has ls 5 [(2, .int q.1)] → W p l e rX11_findEnds s m args below meth c H locs 0 0 Q (F0 m 110 ls [])) ?_ gv_N ((1 : Int32), (0 : Int32), s0) q30 hq30 ?_ H locs ls hP hS (lv_sub hl [2, 3, 1, 0] rfl)
  · intro q x h Kc Ke H locs ls hP hS hl
    obtain ⟨v1, v2, s3⟩ := q
    have h : pX11_findEnds_L4 a1 v1 v2 s3 = some x := h
    have hP : gw_P X s3 H := hP
    have hl : lv_has ls 5 [(0, .ref (X.1 63)), (1, .int a1), (2, .int v1), (3, .int v2)] := hl
    unfold pX11_findEnds_L4 at h
    refine lv_iload_n hx hb dX11_findEnds_4 rfl (lv_at hl 3 rfl) ?_
    refine lv_bipush (v := 64) hx hb dX11_findEnds_5 (by decide) ?_
    refine lv_icmp_ge (tgt := 110) hx hb dX11_findEnds_7 (by decide) (fun hc => ?_) (fun hc => ?_)
    · have h := gv_pos hc h
      exact Ke _ (gv_inj h) _ _ _ hP hS (lv_sub hl [2] rfl)
    · have h := gv_neg hc h
      refine lv_aload_n hx hb dX11_findEnds_10 rfl (lv_at hl 0 rfl) ?_
      refine gv_get (ref := "IceByEarModel") (C := RX11) (T := TX11) (N := 28) (ci := 11) (v := .ref (X.1 77)) C0 (fun _ h9 => List.mem_cons_of_mem _ (List.mem_append_right _ h9)) hP 63 (gw_o11 X s3 gk_63.1) rfl 20 (by decide) (by decide +kernel) rfl rfl dX11_findEnds_11 ?_
      refine lv_iload_n hx hb dX11_findEnds_14 rfl (lv_at hl 3 rfl) ?_
      refine lv_iconst (v := 0) hx hb dX11_findEnds_15 (by decide) ?_
      obtain ⟨hin4, h⟩ := gv_in_e h
      refine gv_iast C0 hP hS 77 gk_77.1 gk_77.2 hin4 dX11_findEnds_16 (fun s5 H locs es5 hP hS => ?_)
      have h := gv_let_e es5 h
      refine lv_aload_n hx hb dX11_findEnds_17 rfl (lv_at hl 0 rfl) ?_
      refine gv_get (ref := "IceByEarModel") (C := RX11) (T := TX11) (N := 28) (ci := 11) (v := .ref (X.1 78)) C0 (fun _ h9 => List.mem_cons_of_mem _ (List.mem_append_right _ h9)) hP 63 (gw_o11 X s5 gk_63.1) rfl 21 (by decide) (by decide +kernel) rfl rfl dX11_findEnds_18 ?_
      refine lv_iload_n hx hb dX11_findEnds_21 rfl (lv_at hl 3 rfl) ?_
      refine lv_iconst (v := 0) hx hb dX11_findEnds_22 (by decide) ?_
      obtain ⟨hin6, h⟩ := gv_in_e h
      refine gv_iast C0 hP hS 78 gk_78.1 gk_78.2 hin6 dX11_findEnds_23 (fun s7 H locs es7 hP hS => ?_)
      have h := gv_let_e es7 h
      refine lv_iconst (v := 1) hx hb dX11_findEnds_24 (by decide) ?_
      refine lv_istore (lv' := [(4, .int (1 : Int32)), (0, .ref (X.1 63)), (1, .int a1), (2, .int v1), (3, .int v2)]) hx hb dX11_findEnds_25 hl (by decide) rfl (fun ls hl => ?_)
      obtain ⟨q25, hq25, h⟩ := gv_bind_e h
      refine gv_loop_ind (Φ := fun q => ∀ (H : Heap) (locs : List Loc) (ls : Array Slot), gw_P X q.2 H → va_S (gw_A X) s.heap H locs → lv_has ls 5 [(0, .ref (X.1 63)), (1, .int a1), (2, .int v1), (3, .int v2), (4, .int q.1)] → W p l e rX11_findEnds s m args below meth c H locs 0 0 Q (F0 m 27 ls [])) (Ψ := fun q => ∀ (H : Heap) (locs : List Loc) (ls : Array Slot), gw_P X q.2 H → va_S (gw_A X) s.heap H locs → lv_has ls 5 [(0, .ref (X.1 63)), (1, .int a1), (2, .int v1), (3, .int v2)] → W p l e rX11_findEnds s m args below meth c H locs 0 0 Q (F0 m 85 ls [])) ?_ gv_N ((1 : Int32), s7) q25 hq25 ?_ H locs ls hP hS (lv_sub hl [1, 2, 3, 4, 0] rfl)
      · intro q x h Kc Ke H locs ls hP hS hl
        obtain ⟨v8, s9⟩ := q
        have h : pX11_findEnds_L27 a1 v2 v8 s9 = some x := h
        have hP : gw_P X s9 H := hP
        have hl : lv_has ls 5 [(0, .ref (X.1 63)), (1, .int a1), (2, .int v1), (3, .int v2), (4, .int v8)] := hl
        unfold pX11_findEnds_L27 at h
        refine lv_iload hx hb dX11_findEnds_27 (lv_at hl 4 rfl) ?_
        refine lv_bipush (v := 99) hx hb dX11_findEnds_29 (by decide) ?_
        refine lv_icmp_gt (tgt := 85) hx hb dX11_findEnds_31 (by decide) (fun hc => ?_) (fun hc => ?_)
        · have h := gv_pos hc h
          exact Ke _ (gv_inj h) _ _ _ hP hS (lv_sub hl [0, 1, 2, 3] rfl)
        · have h := gv_neg hc h
          refine lv_aload_n hx hb dX11_findEnds_34 rfl (lv_at hl 0 rfl) ?_
          refine lv_iload_n hx hb dX11_findEnds_35 rfl (lv_at hl 1 rfl) ?_
          refine lv_iload_n hx hb dX11_findEnds_36 rfl (lv_at hl 3 rfl) ?_
          refine lv_iload hx hb dX11_findEnds_37 (lv_at hl 4 rfl) ?_
          obtain ⟨v10, hv10, h⟩ := gv_bind_e h
          refine gv_ri (gv_runV (n := 3) (rest := []) C0 (mX11_fits l X s9 a1 v2 v8 hv10) gX11_findEnds_X11_fits rfl ⟨rfl, rfl⟩ (by decide +kernel) ⟨by decide, by decide⟩ gk_63.1 (by decide) rfl hP hS rfl hl.1 rfl (Nat.le_of_ble_eq_true rfl) dX11_findEnds_39 ⟨Nat.zero_le _, Nat.zero_le _⟩) hS (fun H locs hP hS => ?_)
          refine lv_if_eq (tgt := 79) hx hb dX11_findEnds_42 (by decide) (fun hc => ?_) (fun hc => ?_)
          · have h := gv_pos hc h
            obtain ⟨v11, ev11⟩ : ∃ y : Int32, y = (v8 + (1 : Int32)) := ⟨_, rfl⟩
            have h := gv_let_e ev11 h
            refine lv_iinc (v := v11) (lv' := [(4, .int v11), (0, .ref (X.1 63)), (1, .int a1), (2, .int v1), (3, .int v2)]) hx hb dX11_findEnds_79 hl (k := 4) rfl (by rw [ev11]; rfl) (by decide) rfl (fun ls hl => ?_)
            refine lv_goto (tgt := 27) hx hb dX11_findEnds_82 (by decide) ?_
            exact Kc _ (gv_inj h) _ _ _ hP hS (lv_sub hl [1, 2, 3, 4, 0] rfl)
          · have h := gv_neg hc h
            refine lv_aload_n hx hb dX11_findEnds_45 rfl (lv_at hl 0 rfl) ?_
            refine gv_get (ref := "IceByEarModel") (C := RX11) (T := TX11) (N := 28) (ci := 11) (v := .ref (X.1 77)) C0 (fun _ h9 => List.mem_cons_of_mem _ (List.mem_append_right _ h9)) hP 63 (gw_o11 X s9 gk_63.1) rfl 20 (by decide) (by decide +kernel) rfl rfl dX11_findEnds_46 ?_
            refine lv_iload_n hx hb dX11_findEnds_49 rfl (lv_at hl 3 rfl) ?_
            refine lv_aload_n hx hb dX11_findEnds_50 rfl (lv_at hl 0 rfl) ?_
            refine gv_get (ref := "IceByEarModel") (C := RX11) (T := TX11) (N := 28) (ci := 11) (v := .ref (X.1 77)) C0 (fun _ h9 => List.mem_cons_of_mem _ (List.mem_append_right _ h9)) hP 63 (gw_o11 X s9 gk_63.1) rfl 20 (by decide) (by decide +kernel) rfl rfl dX11_findEnds_51 ?_
            refine lv_iload_n hx hb dX11_findEnds_54 rfl (lv_at hl 3 rfl) ?_
            obtain ⟨hin12, h⟩ := gv_in_e h
            refine gv_iald C0 hP 77 gk_77.1 gk_77.2 hin12 dX11_findEnds_55 ?_
            have J70 : ∀ (v13 : Int32) (H : Heap) (locs : List Loc) (ls : Array Slot), pX11_findEnds_J70 v2 s9 v8 v13 = some x → gw_P X s9 H → va_S (gw_A X) s.heap H locs → lv_has ls 5 [(0, .ref (X.1 63)), (1, .int a1), (2, .int v1), (3, .int v2), (4, .int v8)] → W p l e rX11_findEnds s m args below meth c H locs 0 0 Q (F0 m 70 ls [.int v13, .int v2, .ref (X.1 77)]) := by
              intro v13 H locs ls h hP hS hl
              unfold pX11_findEnds_J70 at h
              obtain ⟨hin14, h⟩ := gv_in_e h
              refine gv_iast C0 hP hS 77 gk_77.1 gk_77.2 hin14 dX11_findEnds_70 (fun s15 H locs es15 hP hS => ?_)
              have h := gv_let_e es15 h
              refine lv_aload_n hx hb dX11_findEnds_71 rfl (lv_at hl 0 rfl) ?_
              refine gv_get (ref := "IceByEarModel") (C := RX11) (T := TX11) (N := 28) (ci := 11) (v := .ref (X.1 78)) C0 (fun _ h9 => List.mem_cons_of_mem _ (List.mem_append_right _ h9)) hP 63 (gw_o11 X s15 gk_63.1) rfl 21 (by decide) (by decide +kernel) rfl rfl dX11_findEnds_72 ?_
              refine lv_iload_n hx hb dX11_findEnds_75 rfl (lv_at hl 3 rfl) ?_
              refine lv_iload hx hb dX11_findEnds_76 (lv_at hl 4 rfl) ?_
              obtain ⟨hin16, h⟩ := gv_in_e h
              refine gv_iast C0 hP hS 78 gk_78.1 gk_78.2 hin16 dX11_findEnds_78 (fun s17 H locs es17 hP hS => ?_)
              have h := gv_let_e es17 h
              obtain ⟨v18, ev18⟩ : ∃ y : Int32, y = (v8 + (1 : Int32)) := ⟨_, rfl⟩
              have h := gv_let_e ev18 h
              refine lv_iinc (v := v18) (lv' := [(4, .int v18), (0, .ref (X.1 63)), (1, .int a1), (2, .int v1), (3, .int v2)]) hx hb dX11_findEnds_79 hl (k := 4) rfl (by rw [ev18]; rfl) (by decide) rfl (fun ls hl => ?_)
              refine lv_goto (tgt := 27) hx hb dX11_findEnds_82 (by decide) ?_
              exact Kc _ (gv_inj h) _ _ _ hP hS (lv_sub hl [1, 2, 3, 4, 0] rfl)
            refine lv_if_ne (tgt := 64) hx hb dX11_findEnds_56 (by decide) (fun hc => ?_) (fun hc => ?_)
            · have h := gv_neg hc h
              refine lv_aload_n hx hb dX11_findEnds_64 rfl (lv_at hl 0 rfl) ?_
              refine gv_get (ref := "IceByEarModel") (C := RX11) (T := TX11) (N := 28) (ci := 11) (v := .ref (X.1 77)) C0 (fun _ h9 => List.mem_cons_of_mem _ (List.mem_append_right _ h9)) hP 63 (gw_o11 X s9 gk_63.1) rfl 20 (by decide) (by decide +kernel) rfl rfl dX11_findEnds_65 ?_
              refine lv_iload_n hx hb dX11_findEnds_68 rfl (lv_at hl 3 rfl) ?_
              obtain ⟨hin19, h⟩ := gv_in_e h
              refine gv_iald C0 hP 77 gk_77.1 gk_77.2 hin19 dX11_findEnds_69 ?_
              exact J70 (s9.1 77 v2.toNatClampNeg) _ _ _ h hP hS (lv_sub hl [0, 1, 2, 3, 4] rfl)
            · have h := gv_pos hc h
              refine lv_iload hx hb dX11_findEnds_59 (lv_at hl 4 rfl) ?_
              refine lv_goto (tgt := 70) hx hb dX11_findEnds_61 (by decide) ?_
              exact J70 v8 _ _ _ h hP hS (lv_sub hl [0, 1, 2, 3, 4] rfl)
      · obtain ⟨v20, s21⟩ := q25
        have h := gv_let_e (x := v20) rfl h
        have h := gv_let_e (x := s21) rfl h
        intro H locs ls hP hS hl
        have hP : gw_P X s21 H := hP
        have hl : lv_has ls 5 [(0, .ref (X.1 63)), (1, .int a1), (2, .int v1), (3, .int v2)] := hl
        refine lv_iload_n hx hb dX11_findEnds_85 rfl (lv_at hl 2 rfl) ?_
        refine lv_if_eq (tgt := 102) hx hb dX11_findEnds_86 (by decide) (fun hc => ?_) (fun hc => ?_)
        · have h := gv_pos hc h
          refine lv_iconst (v := 0) hx hb dX11_findEnds_102 (by decide) ?_
          refine lv_istore_n (lv' := [(2, .int (0 : Int32)), (0, .ref (X.1 63)), (1, .int a1), (3, .int v2)]) hx hb dX11_findEnds_103 rfl hl (by decide) rfl (fun ls hl => ?_)
          obtain ⟨v22, ev22⟩ : ∃ y : Int32, y = (v2 + (1 : Int32)) := ⟨_, rfl⟩
          have h := gv_let_e ev22 h
          refine lv_iinc (v := v22) (lv' := [(3, .int v22), (2, .int (0 : Int32)), (0, .ref (X.1 63)), (1, .int a1)]) hx hb dX11_findEnds_104 hl (k := 3) rfl (by rw [ev22]; rfl) (by decide) rfl (fun ls hl => ?_)
          refine lv_goto (tgt := 4) hx hb dX11_findEnds_107 (by decide) ?_
          exact Kc _ (gv_inj h) _ _ _ hP hS (lv_sub hl [2, 3, 1, 0] rfl)
        · have h := gv_neg hc h
          refine lv_aload_n hx hb dX11_findEnds_89 rfl (lv_at hl 0 rfl) ?_
          refine gv_get (ref := "IceByEarModel") (C := RX11) (T := TX11) (N := 28) (ci := 11) (v := .ref (X.1 77)) C0 (fun _ h9 => List.mem_cons_of_mem _ (List.mem_append_right _ h9)) hP 63 (gw_o11 X s21 gk_63.1) rfl 20 (by decide) (by decide +kernel) rfl rfl dX11_findEnds_90 ?_
          refine lv_iload_n hx hb dX11_findEnds_93 rfl (lv_at hl 3 rfl) ?_
          obtain ⟨hin23, h⟩ := gv_in_e h
          refine gv_iald C0 hP 77 gk_77.1 gk_77.2 hin23 dX11_findEnds_94 ?_
          refine lv_if_le (tgt := 102) hx hb dX11_findEnds_95 (by decide) (fun hc => ?_) (fun hc => ?_)
          · have h := gv_pos hc h
            refine lv_iconst (v := 0) hx hb dX11_findEnds_102 (by decide) ?_
            refine lv_istore_n (lv' := [(2, .int (0 : Int32)), (0, .ref (X.1 63)), (1, .int a1), (3, .int v2)]) hx hb dX11_findEnds_103 rfl hl (by decide) rfl (fun ls hl => ?_)
            obtain ⟨v24, ev24⟩ : ∃ y : Int32, y = (v2 + (1 : Int32)) := ⟨_, rfl⟩
            have h := gv_let_e ev24 h
            refine lv_iinc (v := v24) (lv' := [(3, .int v24), (2, .int (0 : Int32)), (0, .ref (X.1 63)), (1, .int a1)]) hx hb dX11_findEnds_104 hl (k := 3) rfl (by rw [ev24]; rfl) (by decide) rfl (fun ls hl => ?_)
            refine lv_goto (tgt := 4) hx hb dX11_findEnds_107 (by decide) ?_
            exact Kc _ (gv_inj h) _ _ _ hP hS (lv_sub hl [2, 3, 1, 0] rfl)
          · have h := gv_neg hc h
            refine lv_iconst (v := 1) hx hb dX11_findEnds_98 (by decide) ?_
            refine lv_goto (tgt := 103) hx hb dX11_findEnds_99 (by decide) ?_
            refine lv_istore_n (lv' := [(2, .int (1 : Int32)), (0, .ref (X.1 63)), (1, .int a1), (3, .int v2)]) hx hb dX11_findEnds_103 rfl hl (by decide) rfl (fun ls hl => ?_)
            obtain ⟨v25, ev25⟩ : ∃ y : Int32, y = (v2 + (1 : Int32)) := ⟨_, rfl⟩
            have h := gv_let_e ev25 h
            refine lv_iinc (v := v25) (lv' := [(3, .int v25), (2, .int (1 : Int32)), (0, .ref (X.1 63)), (1, .int a1)]) hx hb dX11_findEnds_104 hl (k := 3) rfl (by rw [ev25]; rfl) (by decide) rfl (fun ls hl => ?_)
            refine lv_goto (tgt := 4) hx hb dX11_findEnds_107 (by decide) ?_
            exact Kc _ (gv_inj h) _ _ _ hP hS (lv_sub hl [2, 3, 1, 0] rfl)
  · obtain ⟨v27, v28, s29⟩ := q30
    have h := gv_let_e (x := v27) rfl h
    have h := gv_let_e (x := v28) rfl h
    have h := gv_let_e (x := s29) rfl h
    intro H locs ls hP hS hl
    have hP : gw_P X s29 H := hP
    have hl : lv_has ls 5 [(2, .int v27)] := hl
    refine lv_iload_n hx hb dX11_findEnds_110 rfl (lv_at hl 0 rfl) ?_
    obtain ⟨hbo30, h⟩ := gv_bo_e h
    exact Kr _ _ _ _ _ _ (gv_inj h) hbo30 hP hS dX11_findEnds_111
theorem mX11_findEnds (l : Launch) (X : gw_X) (s0 : gs_S) (a1 : Int32) {r : Int32} {τ : gs_S} (h : pX11_findEnds a1 s0 = some (r, τ)) : Met l yX11_findEnds wsX11_findEnds rX11_findEnds (gm_Pc X s0 [.ref (X.1 63), .int a1]) (gm_Qi X τ r) 0 0 (gw_A X) :=
  gm_of RX11 (by decide) rfl rfl (Nat.le_of_ble_eq_true rfl) (fun p e s m below meth c ls C0 hP hl hS => tX11_findEnds C0 a1 s0 h (fun H locs ls pc r τ hr hn hP hS hd => by cases hr; exact gm_retz hn C0 hP hS hd) hP hS hl)
def pX11_narrow_J82 (a1 : Int32) (s0 : gs_S) (v6 : Int32) (v8 : Int32) (v10 : Int32) : Option (Int32 × gs_S) := gv_in a1 64 (gv_let (gs_u s0 77 a1.toNatClampNeg v10) (fun s12 => gv_in a1 64 (if (s12.1 78 a1.toNatClampNeg) ≤ v6 then gv_in a1 64 (gv_in a1 64 (gv_let (gs_u s12 78 a1.toNatClampNeg (s12.1 78 a1.toNatClampNeg)) (fun s16 => gv_bo v8 (some (v8, s16))))) else gv_in a1 64 (gv_let (gs_u s12 78 a1.toNatClampNeg v6) (fun s19 => gv_bo v8 (some (v8, s19)))))))
def pX11_narrow_J55 (a1 : Int32) (v3 : Int32) (s0 : gs_S) (v6 : Int32) (v8 : Int32) : Option (Int32 × gs_S) := gv_in a1 64 (if v3 ≤ (s0.1 77 a1.toNatClampNeg) then gv_in a1 64 (pX11_narrow_J82 a1 s0 v6 v8 (s0.1 77 a1.toNatClampNeg)) else pX11_narrow_J82 a1 s0 v6 v8 v3)
def pX11_narrow_J50 (a1 : Int32) (v3 : Int32) (s0 : gs_S) (v6 : Int32)  : Option (Int32 × gs_S) := pX11_narrow_J55 a1 v3 s0 v6 (1 : Int32)
def pX11_narrow (a1 : Int32) (a2 : Int32) (s0 : gs_S) : Option (Int32 × gs_S) := gv_in a2 64 (gv_let ((s0.1 77 a2.toNatClampNeg) - (s0.1 69 (1 : Int32).toNatClampNeg)) (fun v3 => gv_in a2 64 (gv_let ((s0.1 78 a2.toNatClampNeg) + (s0.1 69 (1 : Int32).toNatClampNeg)) (fun v6 => gv_in a1 64 (if (s0.1 77 a1.toNatClampNeg) < v3 then pX11_narrow_J50 a1 v3 s0 v6 else gv_in a1 64 (if (s0.1 78 a1.toNatClampNeg) ≤ v6 then pX11_narrow_J55 a1 v3 s0 v6 (0 : Int32) else pX11_narrow_J50 a1 v3 s0 v6))))))
def rX11_narrow : Room := { frames := 0, cells := 0, slots := 0, locals := 0 }
set_option maxHeartbeats 4000000 in
set_option maxRecDepth 100000 in
theorem tX11_narrow {p : Program} {l : Launch} {e : Env} {s : State} {m : MethodId} {args : Array Value} {below : List Frame} {meth : Method} {c : Code} {X : gw_X} {Q : State → Prop} (C0 : gm_At p s m args meth c X cX11_narrow 6 RX11 wsX11_narrow (some .boolean)) (a1 : Int32) (a2 : Int32) (s0 : gs_S) {z : Int32 × gs_S} (h : pX11_narrow a1 a2 s0 = some z) (Kr : ∀ (H : Heap) (locs : List Loc) (ls : Array Slot) (pc : Nat) (r : Int32) (τ : gs_S), z = (r, τ) → narrow .boolean (.int r) = .int r → gw_P X τ H → va_S (gw_A X) s.heap H locs → decode cX11_narrow pc = .ok (.ireturn, 1) → W p l e rX11_narrow s m args below meth c H locs 0 0 Q (F0 m pc ls [.int r])) {H : Heap} {locs : List Loc} {ls : Array Slot} (hP : gw_P X s0 H) (hS : va_S (gw_A X) s.heap H locs) (hl : lv_has ls 6 [(0, .ref (X.1 63)), (1, .int a1), (2, .int a2)]) : W p l e rX11_narrow s m args below meth c H locs 0 0 Q (F0 m 0 ls []) := by
  obtain ⟨hx, hb, hml, hown, hts, hr, hlocks, hC⟩ := id C0
  unfold pX11_narrow at h
  refine lv_aload_n hx hb dX11_narrow_0 rfl (lv_at hl 0 rfl) ?_
  refine gv_get (ref := "IceByEarModel") (C := RX11) (T := TX11) (N := 28) (ci := 11) (v := .ref (X.1 77)) C0 (fun _ h9 => List.mem_cons_of_mem _ (List.mem_append_right _ h9)) hP 63 (gw_o11 X s0 gk_63.1) rfl 20 (by decide) (by decide +kernel) rfl rfl dX11_narrow_1 ?_
  refine lv_iload_n hx hb dX11_narrow_4 rfl (lv_at hl 2 rfl) ?_
  obtain ⟨hin1, h⟩ := gv_in_e h
  refine gv_iald C0 hP 77 gk_77.1 gk_77.2 hin1 dX11_narrow_5 ?_
  refine lv_aload_n hx hb dX11_narrow_6 rfl (lv_at hl 0 rfl) ?_
  refine gv_get (ref := "IceByEarModel") (C := RX11) (T := TX11) (N := 28) (ci := 11) (v := .ref (X.1 69)) C0 (fun _ h9 => List.mem_cons_of_mem _ (List.mem_append_right _ h9)) hP 63 (gw_o11 X s0 gk_63.1) rfl 7 (by decide) (by decide +kernel) rfl rfl dX11_narrow_7 ?_
  refine lv_iconst (v := 1) hx hb dX11_narrow_10 (by decide) ?_
  refine gv_iald C0 hP 69 gk_69.1 gk_69.2 (show ¬ ((1 : Int32) < 0 ∨ 2 ≤ (1 : Int32).toNatClampNeg) by decide) dX11_narrow_11 ?_
  refine lv_isub hx hb dX11_narrow_12 ?_
  refine lv_topi (fun v3 ev3 => ?_)
  have h := gv_let_e ev3 h
  refine lv_istore_n (lv' := [(3, .int v3), (0, .ref (X.1 63)), (1, .int a1), (2, .int a2)]) hx hb dX11_narrow_13 rfl hl (by decide) rfl (fun ls hl => ?_)
  refine lv_aload_n hx hb dX11_narrow_14 rfl (lv_at hl 1 rfl) ?_
  refine gv_get (ref := "IceByEarModel") (C := RX11) (T := TX11) (N := 28) (ci := 11) (v := .ref (X.1 78)) C0 (fun _ h9 => List.mem_cons_of_mem _ (List.mem_append_right _ h9)) hP 63 (gw_o11 X s0 gk_63.1) rfl 21 (by decide) (by decide +kernel) rfl rfl dX11_narrow_15 ?_
  refine lv_iload_n hx hb dX11_narrow_18 rfl (lv_at hl 3 rfl) ?_
  obtain ⟨hin4, h⟩ := gv_in_e h
  refine gv_iald C0 hP 78 gk_78.1 gk_78.2 hin4 dX11_narrow_19 ?_
  refine lv_aload_n hx hb dX11_narrow_20 rfl (lv_at hl 1 rfl) ?_
  refine gv_get (ref := "IceByEarModel") (C := RX11) (T := TX11) (N := 28) (ci := 11) (v := .ref (X.1 69)) C0 (fun _ h9 => List.mem_cons_of_mem _ (List.mem_append_right _ h9)) hP 63 (gw_o11 X s0 gk_63.1) rfl 7 (by decide) (by decide +kernel) rfl rfl dX11_narrow_21 ?_
  refine lv_iconst (v := 1) hx hb dX11_narrow_24 (by decide) ?_
  refine gv_iald C0 hP 69 gk_69.1 gk_69.2 (show ¬ ((1 : Int32) < 0 ∨ 2 ≤ (1 : Int32).toNatClampNeg) by decide) dX11_narrow_25 ?_
  refine lv_iadd hx hb dX11_narrow_26 ?_
  refine lv_topi (fun v6 ev6 => ?_)
  have h := gv_let_e ev6 h
  refine lv_istore (lv' := [(4, .int v6), (3, .int v3), (0, .ref (X.1 63)), (1, .int a1), (2, .int a2)]) hx hb dX11_narrow_27 hl (by decide) rfl (fun ls hl => ?_)
  refine lv_iload_n hx hb dX11_narrow_29 rfl (lv_at hl 1 rfl) ?_
  refine lv_aload_n hx hb dX11_narrow_30 rfl (lv_at hl 2 rfl) ?_
  refine gv_get (ref := "IceByEarModel") (C := RX11) (T := TX11) (N := 28) (ci := 11) (v := .ref (X.1 77)) C0 (fun _ h9 => List.mem_cons_of_mem _ (List.mem_append_right _ h9)) hP 63 (gw_o11 X s0 gk_63.1) rfl 20 (by decide) (by decide +kernel) rfl rfl dX11_narrow_31 ?_
  refine lv_iload_n hx hb dX11_narrow_34 rfl (lv_at hl 3 rfl) ?_
  obtain ⟨hin7, h⟩ := gv_in_e h
  refine gv_iald C0 hP 77 gk_77.1 gk_77.2 hin7 dX11_narrow_35 ?_
  have J55 : ∀ (v8 : Int32) (H : Heap) (locs : List Loc) (ls : Array Slot), pX11_narrow_J55 a1 v3 s0 v6 v8 = some z → gw_P X s0 H → va_S (gw_A X) s.heap H locs → lv_has ls 6 [(4, .int v6), (3, .int v3), (0, .ref (X.1 63)), (1, .int a1)] → W p l e rX11_narrow s m args below meth c H locs 0 0 Q (F0 m 55 ls [.int v8]) := by
    intro v8 H locs ls h hP hS hl
    unfold pX11_narrow_J55 at h
    refine lv_istore (lv' := [(5, .int v8), (4, .int v6), (3, .int v3), (0, .ref (X.1 63)), (1, .int a1)]) hx hb dX11_narrow_55 hl (by decide) rfl (fun ls hl => ?_)
    refine lv_aload_n hx hb dX11_narrow_57 rfl (lv_at hl 3 rfl) ?_
    refine gv_get (ref := "IceByEarModel") (C := RX11) (T := TX11) (N := 28) (ci := 11) (v := .ref (X.1 77)) C0 (fun _ h9 => List.mem_cons_of_mem _ (List.mem_append_right _ h9)) hP 63 (gw_o11 X s0 gk_63.1) rfl 20 (by decide) (by decide +kernel) rfl rfl dX11_narrow_58 ?_
    refine lv_iload_n hx hb dX11_narrow_61 rfl (lv_at hl 4 rfl) ?_
    refine lv_iload_n hx hb dX11_narrow_62 rfl (lv_at hl 2 rfl) ?_
    refine lv_aload_n hx hb dX11_narrow_63 rfl (lv_at hl 3 rfl) ?_
    refine gv_get (ref := "IceByEarModel") (C := RX11) (T := TX11) (N := 28) (ci := 11) (v := .ref (X.1 77)) C0 (fun _ h9 => List.mem_cons_of_mem _ (List.mem_append_right _ h9)) hP 63 (gw_o11 X s0 gk_63.1) rfl 20 (by decide) (by decide +kernel) rfl rfl dX11_narrow_64 ?_
    refine lv_iload_n hx hb dX11_narrow_67 rfl (lv_at hl 4 rfl) ?_
    obtain ⟨hin9, h⟩ := gv_in_e h
    refine gv_iald C0 hP 77 gk_77.1 gk_77.2 hin9 dX11_narrow_68 ?_
    have J82 : ∀ (v10 : Int32) (H : Heap) (locs : List Loc) (ls : Array Slot), pX11_narrow_J82 a1 s0 v6 v8 v10 = some z → gw_P X s0 H → va_S (gw_A X) s.heap H locs → lv_has ls 6 [(5, .int v8), (4, .int v6), (0, .ref (X.1 63)), (1, .int a1)] → W p l e rX11_narrow s m args below meth c H locs 0 0 Q (F0 m 82 ls [.int v10, .int a1, .ref (X.1 77)]) := by
      intro v10 H locs ls h hP hS hl
      unfold pX11_narrow_J82 at h
      obtain ⟨hin11, h⟩ := gv_in_e h
      refine gv_iast C0 hP hS 77 gk_77.1 gk_77.2 hin11 dX11_narrow_82 (fun s12 H locs es12 hP hS => ?_)
      have h := gv_let_e es12 h
      refine lv_aload_n hx hb dX11_narrow_83 rfl (lv_at hl 2 rfl) ?_
      refine gv_get (ref := "IceByEarModel") (C := RX11) (T := TX11) (N := 28) (ci := 11) (v := .ref (X.1 78)) C0 (fun _ h9 => List.mem_cons_of_mem _ (List.mem_append_right _ h9)) hP 63 (gw_o11 X s12 gk_63.1) rfl 21 (by decide) (by decide +kernel) rfl rfl dX11_narrow_84 ?_
      refine lv_iload_n hx hb dX11_narrow_87 rfl (lv_at hl 3 rfl) ?_
      refine lv_iload hx hb dX11_narrow_88 (lv_at hl 1 rfl) ?_
      refine lv_aload_n hx hb dX11_narrow_90 rfl (lv_at hl 2 rfl) ?_
      refine gv_get (ref := "IceByEarModel") (C := RX11) (T := TX11) (N := 28) (ci := 11) (v := .ref (X.1 78)) C0 (fun _ h9 => List.mem_cons_of_mem _ (List.mem_append_right _ h9)) hP 63 (gw_o11 X s12 gk_63.1) rfl 21 (by decide) (by decide +kernel) rfl rfl dX11_narrow_91 ?_
      refine lv_iload_n hx hb dX11_narrow_94 rfl (lv_at hl 3 rfl) ?_
      obtain ⟨hin13, h⟩ := gv_in_e h
      refine gv_iald C0 hP 78 gk_78.1 gk_78.2 hin13 dX11_narrow_95 ?_
      refine lv_icmp_ge (tgt := 104) hx hb dX11_narrow_96 (by decide) (fun hc => ?_) (fun hc => ?_)
      · have h := gv_pos hc h
        refine lv_aload_n hx hb dX11_narrow_104 rfl (lv_at hl 2 rfl) ?_
        refine gv_get (ref := "IceByEarModel") (C := RX11) (T := TX11) (N := 28) (ci := 11) (v := .ref (X.1 78)) C0 (fun _ h9 => List.mem_cons_of_mem _ (List.mem_append_right _ h9)) hP 63 (gw_o11 X s12 gk_63.1) rfl 21 (by decide) (by decide +kernel) rfl rfl dX11_narrow_105 ?_
        refine lv_iload_n hx hb dX11_narrow_108 rfl (lv_at hl 3 rfl) ?_
        obtain ⟨hin14, h⟩ := gv_in_e h
        refine gv_iald C0 hP 78 gk_78.1 gk_78.2 hin14 dX11_narrow_109 ?_
        obtain ⟨hin15, h⟩ := gv_in_e h
        refine gv_iast C0 hP hS 78 gk_78.1 gk_78.2 hin15 dX11_narrow_110 (fun s16 H locs es16 hP hS => ?_)
        have h := gv_let_e es16 h
        refine lv_iload hx hb dX11_narrow_111 (lv_at hl 0 rfl) ?_
        obtain ⟨hbo17, h⟩ := gv_bo_e h
        exact Kr _ _ _ _ _ _ (gv_inj h) hbo17 hP hS dX11_narrow_113
      · have h := gv_neg hc h
        refine lv_iload hx hb dX11_narrow_99 (lv_at hl 1 rfl) ?_
        refine lv_goto (tgt := 110) hx hb dX11_narrow_101 (by decide) ?_
        obtain ⟨hin18, h⟩ := gv_in_e h
        refine gv_iast C0 hP hS 78 gk_78.1 gk_78.2 hin18 dX11_narrow_110 (fun s19 H locs es19 hP hS => ?_)
        have h := gv_let_e es19 h
        refine lv_iload hx hb dX11_narrow_111 (lv_at hl 0 rfl) ?_
        obtain ⟨hbo20, h⟩ := gv_bo_e h
        exact Kr _ _ _ _ _ _ (gv_inj h) hbo20 hP hS dX11_narrow_113
    refine lv_icmp_le (tgt := 76) hx hb dX11_narrow_69 (by decide) (fun hc => ?_) (fun hc => ?_)
    · have h := gv_pos hc h
      refine lv_aload_n hx hb dX11_narrow_76 rfl (lv_at hl 3 rfl) ?_
      refine gv_get (ref := "IceByEarModel") (C := RX11) (T := TX11) (N := 28) (ci := 11) (v := .ref (X.1 77)) C0 (fun _ h9 => List.mem_cons_of_mem _ (List.mem_append_right _ h9)) hP 63 (gw_o11 X s0 gk_63.1) rfl 20 (by decide) (by decide +kernel) rfl rfl dX11_narrow_77 ?_
      refine lv_iload_n hx hb dX11_narrow_80 rfl (lv_at hl 4 rfl) ?_
      obtain ⟨hin21, h⟩ := gv_in_e h
      refine gv_iald C0 hP 77 gk_77.1 gk_77.2 hin21 dX11_narrow_81 ?_
      exact J82 (s0.1 77 a1.toNatClampNeg) _ _ _ h hP hS (lv_sub hl [0, 1, 3, 4] rfl)
    · have h := gv_neg hc h
      refine lv_iload_n hx hb dX11_narrow_72 rfl (lv_at hl 2 rfl) ?_
      refine lv_goto (tgt := 82) hx hb dX11_narrow_73 (by decide) ?_
      exact J82 v3 _ _ _ h hP hS (lv_sub hl [0, 1, 3, 4] rfl)
  have J50 : ∀  (H : Heap) (locs : List Loc) (ls : Array Slot), pX11_narrow_J50 a1 v3 s0 v6 = some z → gw_P X s0 H → va_S (gw_A X) s.heap H locs → lv_has ls 6 [(4, .int v6), (3, .int v3), (0, .ref (X.1 63)), (1, .int a1)] → W p l e rX11_narrow s m args below meth c H locs 0 0 Q (F0 m 50 ls []) := by
    intro  H locs ls h hP hS hl
    unfold pX11_narrow_J50 at h
    refine lv_iconst (v := 1) hx hb dX11_narrow_50 (by decide) ?_
    refine lv_goto (tgt := 55) hx hb dX11_narrow_51 (by decide) ?_
    exact J55 (1 : Int32) _ _ _ h hP hS (lv_sub hl [0, 1, 2, 3] rfl)
  refine lv_icmp_gt (tgt := 50) hx hb dX11_narrow_36 (by decide) (fun hc => ?_) (fun hc => ?_)
  · have h := gv_pos hc h
    exact J50  _ _ _ h hP hS (lv_sub hl [0, 1, 2, 3] rfl)
  · have h := gv_neg hc h
    refine lv_iload hx hb dX11_narrow_39 (lv_at hl 0 rfl) ?_
    refine lv_aload_n hx hb dX11_narrow_41 rfl (lv_at hl 2 rfl) ?_
    refine gv_get (ref := "IceByEarModel") (C := RX11) (T := TX11) (N := 28) (ci := 11) (v := .ref (X.1 78)) C0 (fun _ h9 => List.mem_cons_of_mem _ (List.mem_append_right _ h9)) hP 63 (gw_o11 X s0 gk_63.1) rfl 21 (by decide) (by decide +kernel) rfl rfl dX11_narrow_42 ?_
    refine lv_iload_n hx hb dX11_narrow_45 rfl (lv_at hl 3 rfl) ?_
    obtain ⟨hin22, h⟩ := gv_in_e h
    refine gv_iald C0 hP 78 gk_78.1 gk_78.2 hin22 dX11_narrow_46 ?_
    refine lv_icmp_ge (tgt := 54) hx hb dX11_narrow_47 (by decide) (fun hc => ?_) (fun hc => ?_)
    · have h := gv_pos hc h
      refine lv_iconst (v := 0) hx hb dX11_narrow_54 (by decide) ?_
      exact J55 (0 : Int32) _ _ _ h hP hS (lv_sub hl [0, 1, 2, 3] rfl)
    · have h := gv_neg hc h
      exact J50  _ _ _ h hP hS (lv_sub hl [0, 1, 2, 3] rfl)
theorem mX11_narrow (l : Launch) (X : gw_X) (s0 : gs_S) (a1 : Int32) (a2 : Int32) {r : Int32} {τ : gs_S} (h : pX11_narrow a1 a2 s0 = some (r, τ)) : Met l yX11_narrow wsX11_narrow rX11_narrow (gm_Pc X s0 [.ref (X.1 63), .int a1, .int a2]) (gm_Qi X τ r) 0 0 (gw_A X) :=
  gm_of RX11 (by decide) rfl rfl (Nat.le_of_ble_eq_true rfl) (fun p e s m below meth c ls C0 hP hl hS => tX11_narrow C0 a1 a2 s0 h (fun H locs ls pc r τ hr hn hP hS hd => by cases hr; exact gm_retz hn C0 hP hS hd) hP hS hl)
