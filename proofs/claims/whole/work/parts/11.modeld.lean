def pX11_findSpans_J62 (v9 : Int32) (s12 : gs_S) : Option ((Int32 × Int32 × gs_S) ⊕ (Int32 × Int32 × gs_S)) := gv_let (v9 + (1 : Int32)) (fun v13 => some (.inl ((1 : Int32), v13, s12)))
def pX11_findSpans_J58 (v8 : Int32) (v9 : Int32) (s14 : gs_S) : Option ((Int32 × Int32 × gs_S) ⊕ (Int32 × Int32 × gs_S)) := if v8 = 0 then gv_let (v9 + (1 : Int32)) (fun v15 => some (.inl ((0 : Int32), v15, s14))) else pX11_findSpans_J62 v9 s14
def pX11_findSpans_L29 (v6 : Int32) (v8 : Int32) (v9 : Int32) (s10 : gs_S) : Option ((Int32 × Int32 × gs_S) ⊕ (Int32 × Int32 × gs_S)) := if (4 : Int32) ≤ v9 then some (.inr (v8, v9, s10)) else gv_let (pX11_nextTo v6 v9) (fun v11 => if v11 < 0 then pX11_findSpans_J58 v8 v9 s10 else gv_bind2 (pX11_narrow v6 v11 s10) (fun v16 s17 => if v16 = 0 then pX11_findSpans_J58 v8 v9 s17 else pX11_findSpans_J62 v9 s17))
def pX11_findSpans_L20  (v5 : Int32) (v6 : Int32) (s7 : gs_S) : Option ((Int32 × Int32 × gs_S) ⊕ (Int32 × Int32 × gs_S)) := if (64 : Int32) ≤ v6 then some (.inr (v5, v6, s7)) else gv_bind (gv_loop (fun q => pX11_findSpans_L29 v6 q.1 q.2.1 q.2.2) gv_N (v5, (0 : Int32), s7)) (fun q => gv_let q.1 (fun v18 => gv_let q.2.1 (fun v19 => gv_let q.2.2 (fun s20 => gv_let (v6 + (1 : Int32)) (fun v21 => some (.inl (v18, v21, s20)))))))
def pX11_findSpans_L12  (v3 : Int32) (s4 : gs_S) : Option ((Int32 × gs_S) ⊕ (Int32 × gs_S)) := if v3 = 0 then some (.inr (v3, s4)) else gv_bind (gv_loop (fun q => pX11_findSpans_L20 q.1 q.2.1 q.2.2) gv_N ((0 : Int32), (0 : Int32), s4)) (fun q => gv_let q.1 (fun v23 => gv_let q.2.1 (fun v24 => gv_let q.2.2 (fun s25 => some (.inl (v23, s25))))))
def pX11_findSpans_L88 (s28 : gs_S) (v29 : Int32) (v30 : Int32) : Option ((Int32 × Int32) ⊕ (Int32 × Int32)) := if (64 : Int32) ≤ v30 then some (.inr (v29, v30)) else if v29 = 0 then gv_let (v30 + (1 : Int32)) (fun v31 => some (.inl ((0 : Int32), v31))) else gv_in v30 64 (gv_in v30 64 (if (s28.1 78 v30.toNatClampNeg) < (s28.1 77 v30.toNatClampNeg) then gv_let (v30 + (1 : Int32)) (fun v34 => some (.inl ((0 : Int32), v34))) else gv_let (v30 + (1 : Int32)) (fun v35 => some (.inl ((1 : Int32), v35)))))
def pX11_findSpans (a1 : Int32) (s0 : gs_S) : Option (Int32 × gs_S) := gv_bind2 (pX11_findEnds a1 s0) (fun v1 s2 => if v1 = 0 then some ((0 : Int32), s2) else gv_bind (gv_loop (fun q => pX11_findSpans_L12 q.1 q.2) gv_N ((1 : Int32), s2)) (fun q => gv_let q.1 (fun v27 => gv_let q.2 (fun s28 => gv_bind (gv_loop (fun q => pX11_findSpans_L88 s28 q.1 q.2) gv_N ((1 : Int32), (0 : Int32))) (fun q => gv_let q.1 (fun v36 => gv_let q.2 (fun v37 => gv_bo v36 (some (v36, s28)))))))))
def rX11_findSpans : Room := { frames := 3, cells := 0, slots := 0, locals := 76 }
set_option maxHeartbeats 4000000 in
set_option maxRecDepth 100000 in
theorem tX11_findSpans {p : Program} {l : Launch} {e : Env} {s : State} {m : MethodId} {args : Array Value} {below : List Frame} {meth : Method} {c : Code} {X : gw_X} {Q : State → Prop} (C0 : gm_At p s m args meth c X cX11_findSpans 6 RX11 wsX11_findSpans (some .boolean)) (a1 : Int32) (s0 : gs_S) {z : Int32 × gs_S} (h : pX11_findSpans a1 s0 = some z) (Kr : ∀ (H : Heap) (locs : List Loc) (ls : Array Slot) (pc : Nat) (r : Int32) (τ : gs_S), z = (r, τ) → narrow .boolean (.int r) = .int r → gw_P X τ H → va_S (gw_A X) s.heap H locs → decode cX11_findSpans pc = .ok (.ireturn, 1) → W p l e rX11_findSpans s m args below meth c H locs 0 0 Q (F0 m pc ls [.int r])) {H : Heap} {locs : List Loc} {ls : Array Slot} (hP : gw_P X s0 H) (hS : va_S (gw_A X) s.heap H locs) (hl : lv_has ls 6 [(0, .ref (X.1 63)), (1, .int a1)]) : W p l e rX11_findSpans s m args below meth c H locs 0 0 Q (F0 m 0 ls []) := by
  obtain ⟨hx, hb, hml, hown, hts, hr, hlocks, hC⟩ := id C0
  unfold pX11_findSpans at h
  refine lv_aload_n hx hb dX11_findSpans_0 rfl (lv_at hl 0 rfl) ?_
  refine lv_iload_n hx hb dX11_findSpans_1 rfl (lv_at hl 1 rfl) ?_
  obtain ⟨v1, s2, hv1, h⟩ := gv_bind2_e h
  refine gv_ri (gv_runV (n := 1) (rest := []) C0 (mX11_findEnds l X s0 a1 hv1) gX11_findSpans_X11_findEnds rfl ⟨rfl, rfl⟩ (by decide +kernel) ⟨by decide, by decide⟩ gk_63.1 (by decide) rfl hP hS rfl hl.1 rfl (Nat.le_of_ble_eq_true rfl) dX11_findSpans_2 ⟨Nat.zero_le _, Nat.zero_le _⟩) hS (fun H locs hP hS => ?_)
  refine lv_if_ne (tgt := 10) hx hb dX11_findSpans_5 (by decide) (fun hc => ?_) (fun hc => ?_)
  · have h := gv_neg hc h
    refine lv_iconst (v := 1) hx hb dX11_findSpans_10 (by decide) ?_
    refine lv_istore_n (lv' := [(2, .int (1 : Int32)), (0, .ref (X.1 63)), (1, .int a1)]) hx hb dX11_findSpans_11 rfl hl (by decide) rfl (fun ls hl => ?_)
    obtain ⟨q39, hq39, h⟩ := gv_bind_e h
    refine gv_loop_ind (Φ := fun q => ∀ (H : Heap) (locs : List Loc) (ls : Array Slot), gw_P X q.2 H → va_S (gw_A X) s.heap H locs → lv_has ls 6 [(0, .ref (X.1 63)), (2, .int q.1)] → W p l e rX11_findSpans s m args below meth c H locs 0 0 Q (F0 m 12 ls [])) (Ψ := fun q => ∀ (H : Heap) (locs : List Loc) (ls : Array Slot), gw_P X q.2 H → va_S (gw_A X) s.heap H locs → lv_has ls 6 [(0, .ref (X.1 63))] → W p l e rX11_findSpans s m args below meth c H locs 0 0 Q (F0 m 83 ls [])) ?_ gv_N ((1 : Int32), s2) q39 hq39 ?_ H locs ls hP hS (lv_sub hl [1, 0] rfl)
    · intro q x h Kc Ke H locs ls hP hS hl
      obtain ⟨v3, s4⟩ := q
      have h : pX11_findSpans_L12 v3 s4 = some x := h
      have hP : gw_P X s4 H := hP
      have hl : lv_has ls 6 [(0, .ref (X.1 63)), (2, .int v3)] := hl
      unfold pX11_findSpans_L12 at h
      refine lv_iload_n hx hb dX11_findSpans_12 rfl (lv_at hl 1 rfl) ?_
      refine lv_if_eq (tgt := 83) hx hb dX11_findSpans_13 (by decide) (fun hc => ?_) (fun hc => ?_)
      · have h := gv_pos hc h
        exact Ke _ (gv_inj h) _ _ _ hP hS (lv_sub hl [0] rfl)
      · have h := gv_neg hc h
        refine lv_iconst (v := 0) hx hb dX11_findSpans_16 (by decide) ?_
        refine lv_istore_n (lv' := [(2, .int (0 : Int32)), (0, .ref (X.1 63))]) hx hb dX11_findSpans_17 rfl hl (by decide) rfl (fun ls hl => ?_)
        refine lv_iconst (v := 0) hx hb dX11_findSpans_18 (by decide) ?_
        refine lv_istore_n (lv' := [(3, .int (0 : Int32)), (2, .int (0 : Int32)), (0, .ref (X.1 63))]) hx hb dX11_findSpans_19 rfl hl (by decide) rfl (fun ls hl => ?_)
        obtain ⟨q25, hq25, h⟩ := gv_bind_e h
        refine gv_loop_ind (Φ := fun q => ∀ (H : Heap) (locs : List Loc) (ls : Array Slot), gw_P X q.2.2 H → va_S (gw_A X) s.heap H locs → lv_has ls 6 [(0, .ref (X.1 63)), (2, .int q.1), (3, .int q.2.1)] → W p l e rX11_findSpans s m args below meth c H locs 0 0 Q (F0 m 20 ls [])) (Ψ := fun q => ∀ (H : Heap) (locs : List Loc) (ls : Array Slot), gw_P X q.2.2 H → va_S (gw_A X) s.heap H locs → lv_has ls 6 [(0, .ref (X.1 63)), (2, .int q.1)] → W p l e rX11_findSpans s m args below meth c H locs 0 0 Q (F0 m 80 ls [])) ?_ gv_N ((0 : Int32), (0 : Int32), s4) q25 hq25 ?_ H locs ls hP hS (lv_sub hl [2, 1, 0] rfl)
        · intro q x h Kc Ke H locs ls hP hS hl
          obtain ⟨v5, v6, s7⟩ := q
          have h : pX11_findSpans_L20 v5 v6 s7 = some x := h
          have hP : gw_P X s7 H := hP
          have hl : lv_has ls 6 [(0, .ref (X.1 63)), (2, .int v5), (3, .int v6)] := hl
          unfold pX11_findSpans_L20 at h
          refine lv_iload_n hx hb dX11_findSpans_20 rfl (lv_at hl 2 rfl) ?_
          refine lv_bipush (v := 64) hx hb dX11_findSpans_21 (by decide) ?_
          refine lv_icmp_ge (tgt := 80) hx hb dX11_findSpans_23 (by decide) (fun hc => ?_) (fun hc => ?_)
          · have h := gv_pos hc h
            exact Ke _ (gv_inj h) _ _ _ hP hS (lv_sub hl [0, 1] rfl)
          · have h := gv_neg hc h
            refine lv_iconst (v := 0) hx hb dX11_findSpans_26 (by decide) ?_
            refine lv_istore (lv' := [(4, .int (0 : Int32)), (0, .ref (X.1 63)), (2, .int v5), (3, .int v6)]) hx hb dX11_findSpans_27 hl (by decide) rfl (fun ls hl => ?_)
            obtain ⟨q21, hq21, h⟩ := gv_bind_e h
            refine gv_loop_ind (Φ := fun q => ∀ (H : Heap) (locs : List Loc) (ls : Array Slot), gw_P X q.2.2 H → va_S (gw_A X) s.heap H locs → lv_has ls 6 [(0, .ref (X.1 63)), (3, .int v6), (2, .int q.1), (4, .int q.2.1)] → W p l e rX11_findSpans s m args below meth c H locs 0 0 Q (F0 m 29 ls [])) (Ψ := fun q => ∀ (H : Heap) (locs : List Loc) (ls : Array Slot), gw_P X q.2.2 H → va_S (gw_A X) s.heap H locs → lv_has ls 6 [(0, .ref (X.1 63)), (3, .int v6), (2, .int q.1)] → W p l e rX11_findSpans s m args below meth c H locs 0 0 Q (F0 m 74 ls [])) ?_ gv_N (v5, (0 : Int32), s7) q21 hq21 ?_ H locs ls hP hS (lv_sub hl [1, 3, 2, 0] rfl)
            · intro q x h Kc Ke H locs ls hP hS hl
              obtain ⟨v8, v9, s10⟩ := q
              have h : pX11_findSpans_L29 v6 v8 v9 s10 = some x := h
              have hP : gw_P X s10 H := hP
              have hl : lv_has ls 6 [(0, .ref (X.1 63)), (3, .int v6), (2, .int v8), (4, .int v9)] := hl
              unfold pX11_findSpans_L29 at h
              refine lv_iload hx hb dX11_findSpans_29 (lv_at hl 3 rfl) ?_
              refine lv_iconst (v := 4) hx hb dX11_findSpans_31 (by decide) ?_
              refine lv_icmp_ge (tgt := 74) hx hb dX11_findSpans_32 (by decide) (fun hc => ?_) (fun hc => ?_)
              · have h := gv_pos hc h
                exact Ke _ (gv_inj h) _ _ _ hP hS (lv_sub hl [0, 1, 2] rfl)
              · have h := gv_neg hc h
                refine lv_iload_n hx hb dX11_findSpans_35 rfl (lv_at hl 1 rfl) ?_
                refine lv_iload hx hb dX11_findSpans_36 (lv_at hl 3 rfl) ?_
                refine gv_ri (gv_runS (n := 2) (rest := []) C0 (mX11_nextTo l X s10 v6 v9) gX11_findSpans_X11_nextTo rfl ⟨rfl, rfl⟩ (by decide +kernel) ⟨by decide, by decide⟩ hP hS rfl hl.1 rfl (Nat.le_of_ble_eq_true rfl) dX11_findSpans_38 ⟨Nat.zero_le _, Nat.zero_le _⟩) hS (fun H locs hP hS => ?_)
                refine lv_topi (fun v11 ev11 => ?_)
                have h := gv_let_e ev11 h
                refine lv_istore (lv' := [(5, .int v11), (0, .ref (X.1 63)), (3, .int v6), (2, .int v8), (4, .int v9)]) hx hb dX11_findSpans_41 hl (by decide) rfl (fun ls hl => ?_)
                refine lv_iload hx hb dX11_findSpans_43 (lv_at hl 0 rfl) ?_
                have J62 : ∀ (s12 : gs_S) (H : Heap) (locs : List Loc) (ls : Array Slot), pX11_findSpans_J62 v9 s12 = some x → gw_P X s12 H → va_S (gw_A X) s.heap H locs → lv_has ls 6 [(0, .ref (X.1 63)), (3, .int v6), (4, .int v9)] → W p l e rX11_findSpans s m args below meth c H locs 0 0 Q (F0 m 62 ls []) := by
                  intro s12 H locs ls h hP hS hl
                  unfold pX11_findSpans_J62 at h
                  refine lv_iconst (v := 1) hx hb dX11_findSpans_62 (by decide) ?_
                  refine lv_goto (tgt := 67) hx hb dX11_findSpans_63 (by decide) ?_
                  refine lv_istore_n (lv' := [(2, .int (1 : Int32)), (0, .ref (X.1 63)), (3, .int v6), (4, .int v9)]) hx hb dX11_findSpans_67 rfl hl (by decide) rfl (fun ls hl => ?_)
                  obtain ⟨v13, ev13⟩ : ∃ y : Int32, y = (v9 + (1 : Int32)) := ⟨_, rfl⟩
                  have h := gv_let_e ev13 h
                  refine lv_iinc (v := v13) (lv' := [(4, .int v13), (2, .int (1 : Int32)), (0, .ref (X.1 63)), (3, .int v6)]) hx hb dX11_findSpans_68 hl (k := 3) rfl (by rw [ev13]; rfl) (by decide) rfl (fun ls hl => ?_)
                  refine lv_goto (tgt := 29) hx hb dX11_findSpans_71 (by decide) ?_
                  exact Kc _ (gv_inj h) _ _ _ hP hS (lv_sub hl [2, 3, 1, 0] rfl)
                have J58 : ∀ (s14 : gs_S) (H : Heap) (locs : List Loc) (ls : Array Slot), pX11_findSpans_J58 v8 v9 s14 = some x → gw_P X s14 H → va_S (gw_A X) s.heap H locs → lv_has ls 6 [(0, .ref (X.1 63)), (3, .int v6), (2, .int v8), (4, .int v9)] → W p l e rX11_findSpans s m args below meth c H locs 0 0 Q (F0 m 58 ls []) := by
                  intro s14 H locs ls h hP hS hl
                  unfold pX11_findSpans_J58 at h
                  refine lv_iload_n hx hb dX11_findSpans_58 rfl (lv_at hl 2 rfl) ?_
                  refine lv_if_eq (tgt := 66) hx hb dX11_findSpans_59 (by decide) (fun hc => ?_) (fun hc => ?_)
                  · have h := gv_pos hc h
                    refine lv_iconst (v := 0) hx hb dX11_findSpans_66 (by decide) ?_
                    refine lv_istore_n (lv' := [(2, .int (0 : Int32)), (0, .ref (X.1 63)), (3, .int v6), (4, .int v9)]) hx hb dX11_findSpans_67 rfl hl (by decide) rfl (fun ls hl => ?_)
                    obtain ⟨v15, ev15⟩ : ∃ y : Int32, y = (v9 + (1 : Int32)) := ⟨_, rfl⟩
                    have h := gv_let_e ev15 h
                    refine lv_iinc (v := v15) (lv' := [(4, .int v15), (2, .int (0 : Int32)), (0, .ref (X.1 63)), (3, .int v6)]) hx hb dX11_findSpans_68 hl (k := 3) rfl (by rw [ev15]; rfl) (by decide) rfl (fun ls hl => ?_)
                    refine lv_goto (tgt := 29) hx hb dX11_findSpans_71 (by decide) ?_
                    exact Kc _ (gv_inj h) _ _ _ hP hS (lv_sub hl [2, 3, 1, 0] rfl)
                  · have h := gv_neg hc h
                    exact J62 s14 _ _ _ h hP hS (lv_sub hl [0, 1, 3] rfl)
                refine lv_if_lt (tgt := 58) hx hb dX11_findSpans_45 (by decide) (fun hc => ?_) (fun hc => ?_)
                · have h := gv_pos hc h
                  exact J58 s10 _ _ _ h hP hS (lv_sub hl [1, 2, 3, 4] rfl)
                · have h := gv_neg hc h
                  refine lv_aload_n hx hb dX11_findSpans_48 rfl (lv_at hl 1 rfl) ?_
                  refine lv_iload_n hx hb dX11_findSpans_49 rfl (lv_at hl 2 rfl) ?_
                  refine lv_iload hx hb dX11_findSpans_50 (lv_at hl 0 rfl) ?_
                  obtain ⟨v16, s17, hv16, h⟩ := gv_bind2_e h
                  refine gv_ri (gv_runV (n := 2) (rest := []) C0 (mX11_narrow l X s10 v6 v11 hv16) gX11_findSpans_X11_narrow rfl ⟨rfl, rfl⟩ (by decide +kernel) ⟨by decide, by decide⟩ gk_63.1 (by decide) rfl hP hS rfl hl.1 rfl (Nat.le_of_ble_eq_true rfl) dX11_findSpans_52 ⟨Nat.zero_le _, Nat.zero_le _⟩) hS (fun H locs hP hS => ?_)
                  refine lv_if_ne (tgt := 62) hx hb dX11_findSpans_55 (by decide) (fun hc => ?_) (fun hc => ?_)
                  · have h := gv_neg hc h
                    exact J62 s17 _ _ _ h hP hS (lv_sub hl [1, 2, 4] rfl)
                  · have h := gv_pos hc h
                    exact J58 s17 _ _ _ h hP hS (lv_sub hl [1, 2, 3, 4] rfl)
            · obtain ⟨v18, v19, s20⟩ := q21
              have h := gv_let_e (x := v18) rfl h
              have h := gv_let_e (x := v19) rfl h
              have h := gv_let_e (x := s20) rfl h
              intro H locs ls hP hS hl
              have hP : gw_P X s20 H := hP
              have hl : lv_has ls 6 [(0, .ref (X.1 63)), (3, .int v6), (2, .int v18)] := hl
              obtain ⟨v21, ev21⟩ : ∃ y : Int32, y = (v6 + (1 : Int32)) := ⟨_, rfl⟩
              have h := gv_let_e ev21 h
              refine lv_iinc (v := v21) (lv' := [(3, .int v21), (0, .ref (X.1 63)), (2, .int v18)]) hx hb dX11_findSpans_74 hl (k := 1) rfl (by rw [ev21]; rfl) (by decide) rfl (fun ls hl => ?_)
              refine lv_goto (tgt := 20) hx hb dX11_findSpans_77 (by decide) ?_
              exact Kc _ (gv_inj h) _ _ _ hP hS (lv_sub hl [1, 2, 0] rfl)
        · obtain ⟨v23, v24, s25⟩ := q25
          have h := gv_let_e (x := v23) rfl h
          have h := gv_let_e (x := v24) rfl h
          have h := gv_let_e (x := s25) rfl h
          intro H locs ls hP hS hl
          have hP : gw_P X s25 H := hP
          have hl : lv_has ls 6 [(0, .ref (X.1 63)), (2, .int v23)] := hl
          refine lv_goto (tgt := 12) hx hb dX11_findSpans_80 (by decide) ?_
          exact Kc _ (gv_inj h) _ _ _ hP hS (lv_sub hl [0, 1] rfl)
    · obtain ⟨v27, s28⟩ := q39
      have h := gv_let_e (x := v27) rfl h
      have h := gv_let_e (x := s28) rfl h
      intro H locs ls hP hS hl
      have hP : gw_P X s28 H := hP
      have hl : lv_has ls 6 [(0, .ref (X.1 63))] := hl
      refine lv_iconst (v := 1) hx hb dX11_findSpans_83 (by decide) ?_
      refine lv_istore_n (lv' := [(3, .int (1 : Int32)), (0, .ref (X.1 63))]) hx hb dX11_findSpans_84 rfl hl (by decide) rfl (fun ls hl => ?_)
      refine lv_iconst (v := 0) hx hb dX11_findSpans_85 (by decide) ?_
      refine lv_istore (lv' := [(4, .int (0 : Int32)), (3, .int (1 : Int32)), (0, .ref (X.1 63))]) hx hb dX11_findSpans_86 hl (by decide) rfl (fun ls hl => ?_)
      obtain ⟨q38, hq38, h⟩ := gv_bind_e h
      refine gv_loop_ind (Φ := fun q => ∀ (H : Heap) (locs : List Loc) (ls : Array Slot), gw_P X s28 H → va_S (gw_A X) s.heap H locs → lv_has ls 6 [(0, .ref (X.1 63)), (3, .int q.1), (4, .int q.2)] → W p l e rX11_findSpans s m args below meth c H locs 0 0 Q (F0 m 88 ls [])) (Ψ := fun q => ∀ (H : Heap) (locs : List Loc) (ls : Array Slot), gw_P X s28 H → va_S (gw_A X) s.heap H locs → lv_has ls 6 [(3, .int q.1)] → W p l e rX11_findSpans s m args below meth c H locs 0 0 Q (F0 m 128 ls [])) ?_ gv_N ((1 : Int32), (0 : Int32)) q38 hq38 ?_ H locs ls hP hS (lv_sub hl [2, 1, 0] rfl)
      · intro q x h Kc Ke H locs ls hP hS hl
        obtain ⟨v29, v30⟩ := q
        have h : pX11_findSpans_L88 s28 v29 v30 = some x := h
        have hP : gw_P X s28 H := hP
        have hl : lv_has ls 6 [(0, .ref (X.1 63)), (3, .int v29), (4, .int v30)] := hl
        unfold pX11_findSpans_L88 at h
        refine lv_iload hx hb dX11_findSpans_88 (lv_at hl 2 rfl) ?_
        refine lv_bipush (v := 64) hx hb dX11_findSpans_90 (by decide) ?_
        refine lv_icmp_ge (tgt := 128) hx hb dX11_findSpans_92 (by decide) (fun hc => ?_) (fun hc => ?_)
        · have h := gv_pos hc h
          exact Ke _ (gv_inj h) _ _ _ hP hS (lv_sub hl [1] rfl)
        · have h := gv_neg hc h
          refine lv_iload_n hx hb dX11_findSpans_95 rfl (lv_at hl 1 rfl) ?_
          refine lv_if_eq (tgt := 120) hx hb dX11_findSpans_96 (by decide) (fun hc => ?_) (fun hc => ?_)
          · have h := gv_pos hc h
            refine lv_iconst (v := 0) hx hb dX11_findSpans_120 (by decide) ?_
            refine lv_istore_n (lv' := [(3, .int (0 : Int32)), (0, .ref (X.1 63)), (4, .int v30)]) hx hb dX11_findSpans_121 rfl hl (by decide) rfl (fun ls hl => ?_)
            obtain ⟨v31, ev31⟩ : ∃ y : Int32, y = (v30 + (1 : Int32)) := ⟨_, rfl⟩
            have h := gv_let_e ev31 h
            refine lv_iinc (v := v31) (lv' := [(4, .int v31), (3, .int (0 : Int32)), (0, .ref (X.1 63))]) hx hb dX11_findSpans_122 hl (k := 2) rfl (by rw [ev31]; rfl) (by decide) rfl (fun ls hl => ?_)
            refine lv_goto (tgt := 88) hx hb dX11_findSpans_125 (by decide) ?_
            exact Kc _ (gv_inj h) _ _ _ hP hS (lv_sub hl [2, 1, 0] rfl)
          · have h := gv_neg hc h
            refine lv_aload_n hx hb dX11_findSpans_99 rfl (lv_at hl 0 rfl) ?_
            refine gv_get (ref := "IceByEarModel") (C := RX11) (T := TX11) (N := 28) (ci := 11) (v := .ref (X.1 77)) C0 (fun _ h9 => List.mem_cons_of_mem _ (List.mem_append_right _ h9)) hP 63 (gw_o11 X s28 gk_63.1) rfl 20 (by decide) (by decide +kernel) rfl rfl dX11_findSpans_100 ?_
            refine lv_iload hx hb dX11_findSpans_103 (lv_at hl 2 rfl) ?_
            obtain ⟨hin32, h⟩ := gv_in_e h
            refine gv_iald C0 hP 77 gk_77.1 gk_77.2 hin32 dX11_findSpans_105 ?_
            refine lv_aload_n hx hb dX11_findSpans_106 rfl (lv_at hl 0 rfl) ?_
            refine gv_get (ref := "IceByEarModel") (C := RX11) (T := TX11) (N := 28) (ci := 11) (v := .ref (X.1 78)) C0 (fun _ h9 => List.mem_cons_of_mem _ (List.mem_append_right _ h9)) hP 63 (gw_o11 X s28 gk_63.1) rfl 21 (by decide) (by decide +kernel) rfl rfl dX11_findSpans_107 ?_
            refine lv_iload hx hb dX11_findSpans_110 (lv_at hl 2 rfl) ?_
            obtain ⟨hin33, h⟩ := gv_in_e h
            refine gv_iald C0 hP 78 gk_78.1 gk_78.2 hin33 dX11_findSpans_112 ?_
            refine lv_icmp_gt (tgt := 120) hx hb dX11_findSpans_113 (by decide) (fun hc => ?_) (fun hc => ?_)
            · have h := gv_pos hc h
              refine lv_iconst (v := 0) hx hb dX11_findSpans_120 (by decide) ?_
              refine lv_istore_n (lv' := [(3, .int (0 : Int32)), (0, .ref (X.1 63)), (4, .int v30)]) hx hb dX11_findSpans_121 rfl hl (by decide) rfl (fun ls hl => ?_)
              obtain ⟨v34, ev34⟩ : ∃ y : Int32, y = (v30 + (1 : Int32)) := ⟨_, rfl⟩
              have h := gv_let_e ev34 h
              refine lv_iinc (v := v34) (lv' := [(4, .int v34), (3, .int (0 : Int32)), (0, .ref (X.1 63))]) hx hb dX11_findSpans_122 hl (k := 2) rfl (by rw [ev34]; rfl) (by decide) rfl (fun ls hl => ?_)
              refine lv_goto (tgt := 88) hx hb dX11_findSpans_125 (by decide) ?_
              exact Kc _ (gv_inj h) _ _ _ hP hS (lv_sub hl [2, 1, 0] rfl)
            · have h := gv_neg hc h
              refine lv_iconst (v := 1) hx hb dX11_findSpans_116 (by decide) ?_
              refine lv_goto (tgt := 121) hx hb dX11_findSpans_117 (by decide) ?_
              refine lv_istore_n (lv' := [(3, .int (1 : Int32)), (0, .ref (X.1 63)), (4, .int v30)]) hx hb dX11_findSpans_121 rfl hl (by decide) rfl (fun ls hl => ?_)
              obtain ⟨v35, ev35⟩ : ∃ y : Int32, y = (v30 + (1 : Int32)) := ⟨_, rfl⟩
              have h := gv_let_e ev35 h
              refine lv_iinc (v := v35) (lv' := [(4, .int v35), (3, .int (1 : Int32)), (0, .ref (X.1 63))]) hx hb dX11_findSpans_122 hl (k := 2) rfl (by rw [ev35]; rfl) (by decide) rfl (fun ls hl => ?_)
              refine lv_goto (tgt := 88) hx hb dX11_findSpans_125 (by decide) ?_
              exact Kc _ (gv_inj h) _ _ _ hP hS (lv_sub hl [2, 1, 0] rfl)
      · obtain ⟨v36, v37⟩ := q38
        have h := gv_let_e (x := v36) rfl h
        have h := gv_let_e (x := v37) rfl h
        intro H locs ls hP hS hl
        have hP : gw_P X s28 H := hP
        have hl : lv_has ls 6 [(3, .int v36)] := hl
        refine lv_iload_n hx hb dX11_findSpans_128 rfl (lv_at hl 0 rfl) ?_
        obtain ⟨hbo38, h⟩ := gv_bo_e h
        exact Kr _ _ _ _ _ _ (gv_inj h) hbo38 hP hS dX11_findSpans_129
  · have h := gv_pos hc h
    refine lv_iconst (v := 0) hx hb dX11_findSpans_8 (by decide) ?_
    exact Kr _ _ _ _ _ _ (gv_inj h) (show narrow .boolean (.int (0 : Int32)) = .int (0 : Int32) by decide) hP hS dX11_findSpans_9
theorem mX11_findSpans (l : Launch) (X : gw_X) (s0 : gs_S) (a1 : Int32) {r : Int32} {τ : gs_S} (h : pX11_findSpans a1 s0 = some (r, τ)) : Met l yX11_findSpans wsX11_findSpans rX11_findSpans (gm_Pc X s0 [.ref (X.1 63), .int a1]) (gm_Qi X τ r) 0 0 (gw_A X) :=
  gm_of RX11 (by decide) rfl rfl (Nat.le_of_ble_eq_true rfl) (fun p e s m below meth c ls C0 hP hl hS => tX11_findSpans C0 a1 s0 h (fun H locs ls pc r τ hr hn hP hS hd => by cases hr; exact gm_retz hn C0 hP hS hd) hP hS hl)
def pX11_span (a1 : Int32) (a2 : Int32) (a3 : Int32) (s0 : gs_S) : Option (Int32 × gs_S) := if (pX11_in (a1.toInt64) (0 : Int64) (15 : Int64)) = 0 then some ((-1 : Int32), s0) else if (pX11_isSquare (a2.toInt64)) = 0 then some ((-1 : Int32), s0) else if (pX11_in (a3.toInt64) (0 : Int64) (1 : Int64)) = 0 then some ((-1 : Int32), s0) else gv_bind2 (pX11_findSpans a1 s0) (fun v1 s2 => if v1 = 0 then some ((-4 : Int32), s2) else if a3 = 0 then gv_in a2 64 (some ((s2.1 77 a2.toNatClampNeg), s2)) else gv_in a2 64 (some ((s2.1 78 a2.toNatClampNeg), s2)))
def rX11_span : Room := { frames := 4, cells := 0, slots := 0, locals := 101 }
set_option maxHeartbeats 4000000 in
set_option maxRecDepth 100000 in
theorem tX11_span {p : Program} {l : Launch} {e : Env} {s : State} {m : MethodId} {args : Array Value} {below : List Frame} {meth : Method} {c : Code} {X : gw_X} {Q : State → Prop} (C0 : gm_At p s m args meth c X cX11_span 4 RX11 wsX11_span (some .int)) (a1 : Int32) (a2 : Int32) (a3 : Int32) (s0 : gs_S) {z : Int32 × gs_S} (h : pX11_span a1 a2 a3 s0 = some z) (Kr : ∀ (H : Heap) (locs : List Loc) (ls : Array Slot) (pc : Nat) (r : Int32) (τ : gs_S), z = (r, τ) → gw_P X τ H → va_S (gw_A X) s.heap H locs → decode cX11_span pc = .ok (.ireturn, 1) → W p l e rX11_span s m args below meth c H locs 0 0 Q (F0 m pc ls [.int r])) {H : Heap} {locs : List Loc} {ls : Array Slot} (hP : gw_P X s0 H) (hS : va_S (gw_A X) s.heap H locs) (hl : lv_has ls 4 [(0, .ref (X.1 63)), (1, .int a1), (2, .int a2), (3, .int a3)]) : W p l e rX11_span s m args below meth c H locs 0 0 Q (F0 m 0 ls []) := by
  obtain ⟨hx, hb, hml, hown, hts, hr, hlocks, hC⟩ := id C0
  unfold pX11_span at h
  refine lv_iload_n hx hb dX11_span_0 rfl (lv_at hl 1 rfl) ?_
  refine lv_i2l hx hb dX11_span_1 rfl ?_
  refine lv_lconst (v := 0) hx hb dX11_span_2 (by decide) ?_
  refine lv_ldc2 (v := 15) hx hb hown (hts (.constantLong RX11 227 (15)) (by decide +kernel)) dX11_span_3 ?_
  refine gv_ri (gv_runS (n := 3) (rest := []) C0 (mX11_in l X s0 (a1.toInt64) (0 : Int64) (15 : Int64)) gX11_span_X11_in rfl ⟨rfl, rfl⟩ (by decide +kernel) ⟨by decide, by decide⟩ hP hS rfl hl.1 rfl (Nat.le_of_ble_eq_true rfl) dX11_span_6 ⟨Nat.zero_le _, Nat.zero_le _⟩) hS (fun H locs hP hS => ?_)
  refine lv_if_eq (tgt := 30) hx hb dX11_span_9 (by decide) (fun hc => ?_) (fun hc => ?_)
  · have h := gv_pos hc h
    refine lv_iconst (v := -1) hx hb dX11_span_30 (by decide) ?_
    exact Kr _ _ _ _ _ _ (gv_inj h) hP hS dX11_span_31
  · have h := gv_neg hc h
    refine lv_iload_n hx hb dX11_span_12 rfl (lv_at hl 2 rfl) ?_
    refine lv_i2l hx hb dX11_span_13 rfl ?_
    refine gv_ri (gv_runS (n := 1) (rest := []) C0 (mX11_isSquare l X s0 (a2.toInt64)) gX11_span_X11_isSquare rfl ⟨rfl, rfl⟩ (by decide +kernel) ⟨by decide, by decide⟩ hP hS rfl hl.1 rfl (Nat.le_of_ble_eq_true rfl) dX11_span_14 ⟨Nat.zero_le _, Nat.zero_le _⟩) hS (fun H locs hP hS => ?_)
    refine lv_if_eq (tgt := 30) hx hb dX11_span_17 (by decide) (fun hc => ?_) (fun hc => ?_)
    · have h := gv_pos hc h
      refine lv_iconst (v := -1) hx hb dX11_span_30 (by decide) ?_
      exact Kr _ _ _ _ _ _ (gv_inj h) hP hS dX11_span_31
    · have h := gv_neg hc h
      refine lv_iload_n hx hb dX11_span_20 rfl (lv_at hl 3 rfl) ?_
      refine lv_i2l hx hb dX11_span_21 rfl ?_
      refine lv_lconst (v := 0) hx hb dX11_span_22 (by decide) ?_
      refine lv_lconst (v := 1) hx hb dX11_span_23 (by decide) ?_
      refine gv_ri (gv_runS (n := 3) (rest := []) C0 (mX11_in l X s0 (a3.toInt64) (0 : Int64) (1 : Int64)) gX11_span_X11_in rfl ⟨rfl, rfl⟩ (by decide +kernel) ⟨by decide, by decide⟩ hP hS rfl hl.1 rfl (Nat.le_of_ble_eq_true rfl) dX11_span_24 ⟨Nat.zero_le _, Nat.zero_le _⟩) hS (fun H locs hP hS => ?_)
      refine lv_if_ne (tgt := 32) hx hb dX11_span_27 (by decide) (fun hc => ?_) (fun hc => ?_)
      · have h := gv_neg hc h
        refine lv_aload_n hx hb dX11_span_32 rfl (lv_at hl 0 rfl) ?_
        refine lv_iload_n hx hb dX11_span_33 rfl (lv_at hl 1 rfl) ?_
        obtain ⟨v1, s2, hv1, h⟩ := gv_bind2_e h
        refine gv_ri (gv_runV (n := 1) (rest := []) C0 (mX11_findSpans l X s0 a1 hv1) gX11_span_X11_findSpans rfl ⟨rfl, rfl⟩ (by decide +kernel) ⟨by decide, by decide⟩ gk_63.1 (by decide) rfl hP hS rfl hl.1 rfl (Nat.le_of_ble_eq_true rfl) dX11_span_34 ⟨Nat.zero_le _, Nat.zero_le _⟩) hS (fun H locs hP hS => ?_)
        refine lv_if_ne (tgt := 45) hx hb dX11_span_37 (by decide) (fun hc => ?_) (fun hc => ?_)
        · have h := gv_neg hc h
          refine lv_iload_n hx hb dX11_span_45 rfl (lv_at hl 3 rfl) ?_
          refine lv_if_ne (tgt := 58) hx hb dX11_span_46 (by decide) (fun hc => ?_) (fun hc => ?_)
          · have h := gv_neg hc h
            refine lv_aload_n hx hb dX11_span_58 rfl (lv_at hl 0 rfl) ?_
            refine gv_get (ref := "IceByEarModel") (C := RX11) (T := TX11) (N := 28) (ci := 11) (v := .ref (X.1 78)) C0 (fun _ h9 => List.mem_cons_of_mem _ (List.mem_append_right _ h9)) hP 63 (gw_o11 X s2 gk_63.1) rfl 21 (by decide) (by decide +kernel) rfl rfl dX11_span_59 ?_
            refine lv_iload_n hx hb dX11_span_62 rfl (lv_at hl 2 rfl) ?_
            obtain ⟨hin3, h⟩ := gv_in_e h
            refine gv_iald C0 hP 78 gk_78.1 gk_78.2 hin3 dX11_span_63 ?_
            exact Kr _ _ _ _ _ _ (gv_inj h) hP hS dX11_span_64
          · have h := gv_pos hc h
            refine lv_aload_n hx hb dX11_span_49 rfl (lv_at hl 0 rfl) ?_
            refine gv_get (ref := "IceByEarModel") (C := RX11) (T := TX11) (N := 28) (ci := 11) (v := .ref (X.1 77)) C0 (fun _ h9 => List.mem_cons_of_mem _ (List.mem_append_right _ h9)) hP 63 (gw_o11 X s2 gk_63.1) rfl 20 (by decide) (by decide +kernel) rfl rfl dX11_span_50 ?_
            refine lv_iload_n hx hb dX11_span_53 rfl (lv_at hl 2 rfl) ?_
            obtain ⟨hin4, h⟩ := gv_in_e h
            refine gv_iald C0 hP 77 gk_77.1 gk_77.2 hin4 dX11_span_54 ?_
            refine lv_goto (tgt := 64) hx hb dX11_span_55 (by decide) ?_
            exact Kr _ _ _ _ _ _ (gv_inj h) hP hS dX11_span_64
        · have h := gv_pos hc h
          refine lv_bipush (v := -4) hx hb dX11_span_40 (by decide) ?_
          refine lv_goto (tgt := 64) hx hb dX11_span_42 (by decide) ?_
          exact Kr _ _ _ _ _ _ (gv_inj h) hP hS dX11_span_64
      · have h := gv_pos hc h
        refine lv_iconst (v := -1) hx hb dX11_span_30 (by decide) ?_
        exact Kr _ _ _ _ _ _ (gv_inj h) hP hS dX11_span_31
theorem mX11_span (l : Launch) (X : gw_X) (s0 : gs_S) (a1 : Int32) (a2 : Int32) (a3 : Int32) {r : Int32} {τ : gs_S} (h : pX11_span a1 a2 a3 s0 = some (r, τ)) : Met l yX11_span wsX11_span rX11_span (gm_Pc X s0 [.ref (X.1 63), .int a1, .int a2, .int a3]) (gm_Qi X τ r) 0 0 (gw_A X) :=
  gm_of RX11 (by decide) rfl rfl (Nat.le_of_ble_eq_true rfl) (fun p e s m below meth c ls C0 hP hl hS => tX11_span C0 a1 a2 a3 s0 h (fun H locs ls pc r τ hr hP hS hd => by cases hr; exact gm_reti C0 hP hS hd) hP hS hl)
def pX11_safe_L28  (v3 : Int32) (s4 : gs_S) : Option ((Int32 × gs_S) ⊕ (Int32 × gs_S)) := if (64 : Int32) ≤ v3 then some (.inr (v3, s4)) else gv_in v3 64 (gv_in ((64 : Int32) + v3) 320 (gv_in ((256 : Int32) + v3) 320 (gv_in v3 64 (gv_let (gs_u s4 76 v3.toNatClampNeg ((pX11_bearsBy (s4.1 77 v3.toNatClampNeg) (s4.1 64 ((64 : Int32) + v3).toNatClampNeg)) + ((60 : Int32) * (s4.1 64 ((256 : Int32) + v3).toNatClampNeg)))) (fun s9 => gv_let (v3 + (1 : Int32)) (fun v10 => some (.inl (v10, s9))))))))
def pX11_safe (a1 : Int32) (a2 : Int32) (a3 : Int32) (a4 : Int32) (s0 : gs_S) : Option (Int32 × gs_S) := if (pX11_isRoad a1 a2 a3 a4) = 0 then some ((-1 : Int32), s0) else gv_bind2 (pX11_findSpans (15 : Int32) s0) (fun v1 s2 => if v1 = 0 then some ((-2 : Int32), s2) else gv_bind (gv_loop (fun q => pX11_safe_L28 q.1 q.2) gv_N ((0 : Int32), s2)) (fun q => gv_let q.1 (fun v11 => gv_let q.2 (fun s12 => gv_bind2 (pX11_roadSize a1 a2 (pX11_needBy a3 a4) s12) (fun v13 s14 => if v13 = 0 then some ((-4 : Int32), s14) else some (v13, s14))))))
def rX11_safe : Room := { frames := 4, cells := 0, slots := 0, locals := 101 }
set_option maxHeartbeats 4000000 in
set_option maxRecDepth 100000 in
theorem tX11_safe {p : Program} {l : Launch} {e : Env} {s : State} {m : MethodId} {args : Array Value} {below : List Frame} {meth : Method} {c : Code} {X : gw_X} {Q : State → Prop} (C0 : gm_At p s m args meth c X cX11_safe 6 RX11 wsX11_safe (some .int)) (a1 : Int32) (a2 : Int32) (a3 : Int32) (a4 : Int32) (s0 : gs_S) {z : Int32 × gs_S} (h : pX11_safe a1 a2 a3 a4 s0 = some z) (Kr : ∀ (H : Heap) (locs : List Loc) (ls : Array Slot) (pc : Nat) (r : Int32) (τ : gs_S), z = (r, τ) → gw_P X τ H → va_S (gw_A X) s.heap H locs → decode cX11_safe pc = .ok (.ireturn, 1) → W p l e rX11_safe s m args below meth c H locs 0 0 Q (F0 m pc ls [.int r])) {H : Heap} {locs : List Loc} {ls : Array Slot} (hP : gw_P X s0 H) (hS : va_S (gw_A X) s.heap H locs) (hl : lv_has ls 6 [(0, .ref (X.1 63)), (1, .int a1), (2, .int a2), (3, .int a3), (4, .int a4)]) : W p l e rX11_safe s m args below meth c H locs 0 0 Q (F0 m 0 ls []) := by
  obtain ⟨hx, hb, hml, hown, hts, hr, hlocks, hC⟩ := id C0
  unfold pX11_safe at h
  refine lv_iload_n hx hb dX11_safe_0 rfl (lv_at hl 1 rfl) ?_
  refine lv_iload_n hx hb dX11_safe_1 rfl (lv_at hl 2 rfl) ?_
  refine lv_iload_n hx hb dX11_safe_2 rfl (lv_at hl 3 rfl) ?_
  refine lv_iload hx hb dX11_safe_3 (lv_at hl 4 rfl) ?_
  refine gv_ri (gv_runS (n := 4) (rest := []) C0 (mX11_isRoad l X s0 a1 a2 a3 a4) gX11_safe_X11_isRoad rfl ⟨rfl, rfl⟩ (by decide +kernel) ⟨by decide, by decide⟩ hP hS rfl hl.1 rfl (Nat.le_of_ble_eq_true rfl) dX11_safe_5 ⟨Nat.zero_le _, Nat.zero_le _⟩) hS (fun H locs hP hS => ?_)
  refine lv_if_ne (tgt := 13) hx hb dX11_safe_8 (by decide) (fun hc => ?_) (fun hc => ?_)
  · have h := gv_neg hc h
    refine lv_aload_n hx hb dX11_safe_13 rfl (lv_at hl 0 rfl) ?_
    refine lv_bipush (v := 15) hx hb dX11_safe_14 (by decide) ?_
    obtain ⟨v1, s2, hv1, h⟩ := gv_bind2_e h
    refine gv_ri (gv_runV (n := 1) (rest := []) C0 (mX11_findSpans l X s0 (15 : Int32) hv1) gX11_safe_X11_findSpans rfl ⟨rfl, rfl⟩ (by decide +kernel) ⟨by decide, by decide⟩ gk_63.1 (by decide) rfl hP hS rfl hl.1 rfl (Nat.le_of_ble_eq_true rfl) dX11_safe_16 ⟨Nat.zero_le _, Nat.zero_le _⟩) hS (fun H locs hP hS => ?_)
    refine lv_if_ne (tgt := 25) hx hb dX11_safe_19 (by decide) (fun hc => ?_) (fun hc => ?_)
    · have h := gv_neg hc h
      refine lv_iconst (v := 0) hx hb dX11_safe_25 (by decide) ?_
      refine lv_istore (lv' := [(5, .int (0 : Int32)), (0, .ref (X.1 63)), (1, .int a1), (2, .int a2), (3, .int a3), (4, .int a4)]) hx hb dX11_safe_26 hl (by decide) rfl (fun ls hl => ?_)
      obtain ⟨q14, hq14, h⟩ := gv_bind_e h
      refine gv_loop_ind (Φ := fun q => ∀ (H : Heap) (locs : List Loc) (ls : Array Slot), gw_P X q.2 H → va_S (gw_A X) s.heap H locs → lv_has ls 6 [(0, .ref (X.1 63)), (1, .int a1), (2, .int a2), (3, .int a3), (4, .int a4), (5, .int q.1)] → W p l e rX11_safe s m args below meth c H locs 0 0 Q (F0 m 28 ls [])) (Ψ := fun q => ∀ (H : Heap) (locs : List Loc) (ls : Array Slot), gw_P X q.2 H → va_S (gw_A X) s.heap H locs → lv_has ls 6 [(0, .ref (X.1 63)), (1, .int a1), (2, .int a2), (3, .int a3), (4, .int a4)] → W p l e rX11_safe s m args below meth c H locs 0 0 Q (F0 m 83 ls [])) ?_ gv_N ((0 : Int32), s2) q14 hq14 ?_ H locs ls hP hS (lv_sub hl [1, 2, 3, 4, 5, 0] rfl)
      · intro q x h Kc Ke H locs ls hP hS hl
        obtain ⟨v3, s4⟩ := q
        have h : pX11_safe_L28 v3 s4 = some x := h
        have hP : gw_P X s4 H := hP
        have hl : lv_has ls 6 [(0, .ref (X.1 63)), (1, .int a1), (2, .int a2), (3, .int a3), (4, .int a4), (5, .int v3)] := hl
        unfold pX11_safe_L28 at h
        refine lv_iload hx hb dX11_safe_28 (lv_at hl 5 rfl) ?_
        refine lv_bipush (v := 64) hx hb dX11_safe_30 (by decide) ?_
        refine lv_icmp_ge (tgt := 83) hx hb dX11_safe_32 (by decide) (fun hc => ?_) (fun hc => ?_)
        · have h := gv_pos hc h
          exact Ke _ (gv_inj h) _ _ _ hP hS (lv_sub hl [0, 1, 2, 3, 4] rfl)
        · have h := gv_neg hc h
          refine lv_aload_n hx hb dX11_safe_35 rfl (lv_at hl 0 rfl) ?_
          refine gv_get (ref := "IceByEarModel") (C := RX11) (T := TX11) (N := 28) (ci := 11) (v := .ref (X.1 76)) C0 (fun _ h9 => List.mem_cons_of_mem _ (List.mem_append_right _ h9)) hP 63 (gw_o11 X s4 gk_63.1) rfl 19 (by decide) (by decide +kernel) rfl rfl dX11_safe_36 ?_
          refine lv_iload hx hb dX11_safe_39 (lv_at hl 5 rfl) ?_
          refine lv_aload_n hx hb dX11_safe_41 rfl (lv_at hl 0 rfl) ?_
          refine gv_get (ref := "IceByEarModel") (C := RX11) (T := TX11) (N := 28) (ci := 11) (v := .ref (X.1 77)) C0 (fun _ h9 => List.mem_cons_of_mem _ (List.mem_append_right _ h9)) hP 63 (gw_o11 X s4 gk_63.1) rfl 20 (by decide) (by decide +kernel) rfl rfl dX11_safe_42 ?_
          refine lv_iload hx hb dX11_safe_45 (lv_at hl 5 rfl) ?_
          obtain ⟨hin5, h⟩ := gv_in_e h
          refine gv_iald C0 hP 77 gk_77.1 gk_77.2 hin5 dX11_safe_47 ?_
          refine lv_aload_n hx hb dX11_safe_48 rfl (lv_at hl 0 rfl) ?_
          refine gv_get (ref := "IceByEarModel") (C := RX11) (T := TX11) (N := 28) (ci := 11) (v := .ref (X.1 64)) C0 (fun _ h9 => List.mem_cons_of_mem _ (List.mem_append_right _ h9)) hP 63 (gw_o11 X s4 gk_63.1) rfl 0 (by decide) (by decide +kernel) rfl rfl dX11_safe_49 ?_
          refine lv_bipush (v := 64) hx hb dX11_safe_52 (by decide) ?_
          refine lv_iload hx hb dX11_safe_54 (lv_at hl 5 rfl) ?_
          refine lv_iadd hx hb dX11_safe_56 ?_
          obtain ⟨hin6, h⟩ := gv_in_e h
          refine gv_iald C0 hP 64 gk_64.1 gk_64.2 hin6 dX11_safe_57 ?_
          refine gv_ri (gv_runS (n := 2) (rest := [.int v3, .ref (X.1 76)]) C0 (mX11_bearsBy l X s4 (s4.1 77 v3.toNatClampNeg) (s4.1 64 ((64 : Int32) + v3).toNatClampNeg)) gX11_safe_X11_bearsBy rfl ⟨rfl, rfl⟩ (by decide +kernel) ⟨by decide, by decide⟩ hP hS rfl hl.1 rfl (Nat.le_of_ble_eq_true rfl) dX11_safe_58 ⟨Nat.zero_le _, Nat.zero_le _⟩) hS (fun H locs hP hS => ?_)
          refine lv_bipush (v := 60) hx hb dX11_safe_61 (by decide) ?_
          refine lv_aload_n hx hb dX11_safe_63 rfl (lv_at hl 0 rfl) ?_
          refine gv_get (ref := "IceByEarModel") (C := RX11) (T := TX11) (N := 28) (ci := 11) (v := .ref (X.1 64)) C0 (fun _ h9 => List.mem_cons_of_mem _ (List.mem_append_right _ h9)) hP 63 (gw_o11 X s4 gk_63.1) rfl 0 (by decide) (by decide +kernel) rfl rfl dX11_safe_64 ?_
          refine lv_sipush (v := 256) hx hb dX11_safe_67 (by decide) ?_
          refine lv_iload hx hb dX11_safe_70 (lv_at hl 5 rfl) ?_
          refine lv_iadd hx hb dX11_safe_72 ?_
          obtain ⟨hin7, h⟩ := gv_in_e h
          refine gv_iald C0 hP 64 gk_64.1 gk_64.2 hin7 dX11_safe_73 ?_
          refine lv_imul hx hb dX11_safe_74 ?_
          refine lv_iadd hx hb dX11_safe_75 ?_
          obtain ⟨hin8, h⟩ := gv_in_e h
          refine gv_iast C0 hP hS 76 gk_76.1 gk_76.2 hin8 dX11_safe_76 (fun s9 H locs es9 hP hS => ?_)
          have h := gv_let_e es9 h
          obtain ⟨v10, ev10⟩ : ∃ y : Int32, y = (v3 + (1 : Int32)) := ⟨_, rfl⟩
          have h := gv_let_e ev10 h
          refine lv_iinc (v := v10) (lv' := [(5, .int v10), (0, .ref (X.1 63)), (1, .int a1), (2, .int a2), (3, .int a3), (4, .int a4)]) hx hb dX11_safe_77 hl (k := 5) rfl (by rw [ev10]; rfl) (by decide) rfl (fun ls hl => ?_)
          refine lv_goto (tgt := 28) hx hb dX11_safe_80 (by decide) ?_
          exact Kc _ (gv_inj h) _ _ _ hP hS (lv_sub hl [1, 2, 3, 4, 5, 0] rfl)
      · obtain ⟨v11, s12⟩ := q14
        have h := gv_let_e (x := v11) rfl h
        have h := gv_let_e (x := s12) rfl h
        intro H locs ls hP hS hl
        have hP : gw_P X s12 H := hP
        have hl : lv_has ls 6 [(0, .ref (X.1 63)), (1, .int a1), (2, .int a2), (3, .int a3), (4, .int a4)] := hl
        refine lv_aload_n hx hb dX11_safe_83 rfl (lv_at hl 0 rfl) ?_
        refine lv_iload_n hx hb dX11_safe_84 rfl (lv_at hl 1 rfl) ?_
        refine lv_iload_n hx hb dX11_safe_85 rfl (lv_at hl 2 rfl) ?_
        refine lv_iload_n hx hb dX11_safe_86 rfl (lv_at hl 3 rfl) ?_
        refine lv_iload hx hb dX11_safe_87 (lv_at hl 4 rfl) ?_
        refine gv_ri (gv_runS (n := 2) (rest := [.int a2, .int a1, .ref (X.1 63)]) C0 (mX11_needBy l X s12 a3 a4) gX11_safe_X11_needBy rfl ⟨rfl, rfl⟩ (by decide +kernel) ⟨by decide, by decide⟩ hP hS rfl hl.1 rfl (Nat.le_of_ble_eq_true rfl) dX11_safe_89 ⟨Nat.zero_le _, Nat.zero_le _⟩) hS (fun H locs hP hS => ?_)
        obtain ⟨v13, s14, hv13, h⟩ := gv_bind2_e h
        refine gv_ri (gv_runV (n := 3) (rest := []) C0 (mX11_roadSize l X s12 a1 a2 (pX11_needBy a3 a4) hv13) gX11_safe_X11_roadSize rfl ⟨rfl, rfl⟩ (by decide +kernel) ⟨by decide, by decide⟩ gk_63.1 (by decide) rfl hP hS rfl hl.1 rfl (Nat.le_of_ble_eq_true rfl) dX11_safe_92 ⟨Nat.zero_le _, Nat.zero_le _⟩) hS (fun H locs hP hS => ?_)
        refine lv_istore (lv' := [(5, .int v13), (0, .ref (X.1 63)), (1, .int a1), (2, .int a2), (3, .int a3), (4, .int a4)]) hx hb dX11_safe_95 hl (by decide) rfl (fun ls hl => ?_)
        refine lv_iload hx hb dX11_safe_97 (lv_at hl 0 rfl) ?_
        refine lv_if_ne (tgt := 107) hx hb dX11_safe_99 (by decide) (fun hc => ?_) (fun hc => ?_)
        · have h := gv_neg hc h
          refine lv_iload hx hb dX11_safe_107 (lv_at hl 0 rfl) ?_
          exact Kr _ _ _ _ _ _ (gv_inj h) hP hS dX11_safe_109
        · have h := gv_pos hc h
          refine lv_bipush (v := -4) hx hb dX11_safe_102 (by decide) ?_
          refine lv_goto (tgt := 109) hx hb dX11_safe_104 (by decide) ?_
          exact Kr _ _ _ _ _ _ (gv_inj h) hP hS dX11_safe_109
    · have h := gv_pos hc h
      refine lv_bipush (v := -2) hx hb dX11_safe_22 (by decide) ?_
      exact Kr _ _ _ _ _ _ (gv_inj h) hP hS dX11_safe_24
  · have h := gv_pos hc h
    refine lv_iconst (v := -1) hx hb dX11_safe_11 (by decide) ?_
    exact Kr _ _ _ _ _ _ (gv_inj h) hP hS dX11_safe_12
theorem mX11_safe (l : Launch) (X : gw_X) (s0 : gs_S) (a1 : Int32) (a2 : Int32) (a3 : Int32) (a4 : Int32) {r : Int32} {τ : gs_S} (h : pX11_safe a1 a2 a3 a4 s0 = some (r, τ)) : Met l yX11_safe wsX11_safe rX11_safe (gm_Pc X s0 [.ref (X.1 63), .int a1, .int a2, .int a3, .int a4]) (gm_Qi X τ r) 0 0 (gw_A X) :=
  gm_of RX11 (by decide) rfl rfl (Nat.le_of_ble_eq_true rfl) (fun p e s m below meth c ls C0 hP hl hS => tX11_safe C0 a1 a2 a3 a4 s0 h (fun H locs ls pc r τ hr hP hS hd => by cases hr; exact gm_reti C0 hP hS hd) hP hS hl)
def pX11_drum_L16 (s2 : gs_S) (v3 : Int32) (v4 : Int32) : Option ((Int32 × Int32) ⊕ (Int32 × Int32)) := if (64 : Int32) ≤ v4 then some (.inr (v3, v4)) else gv_in v4 64 (gv_in v4 64 (gv_in v3 64 (gv_in v3 64 (if ((s2.1 78 v4.toNatClampNeg) - (s2.1 77 v4.toNatClampNeg)) ≤ ((s2.1 78 v3.toNatClampNeg) - (s2.1 77 v3.toNatClampNeg)) then gv_let (v4 + (1 : Int32)) (fun v9 => some (.inl (v3, v9))) else gv_let (v4 + (1 : Int32)) (fun v10 => some (.inl (v4, v10)))))))
def pX11_drum  (s0 : gs_S) : Option (Int32 × gs_S) := gv_bind2 (pX11_findSpans (15 : Int32) s0) (fun v1 s2 => if v1 = 0 then some ((-4 : Int32), s2) else gv_bind (gv_loop (fun q => pX11_drum_L16 s2 q.1 q.2) gv_N ((0 : Int32), (1 : Int32))) (fun q => gv_let q.1 (fun v11 => gv_let q.2 (fun v12 => some (v11, s2)))))
def rX11_drum : Room := { frames := 4, cells := 0, slots := 0, locals := 101 }
set_option maxHeartbeats 4000000 in
set_option maxRecDepth 100000 in
theorem tX11_drum {p : Program} {l : Launch} {e : Env} {s : State} {m : MethodId} {args : Array Value} {below : List Frame} {meth : Method} {c : Code} {X : gw_X} {Q : State → Prop} (C0 : gm_At p s m args meth c X cX11_drum 3 RX11 wsX11_drum (some .int))  (s0 : gs_S) {z : Int32 × gs_S} (h : pX11_drum s0 = some z) (Kr : ∀ (H : Heap) (locs : List Loc) (ls : Array Slot) (pc : Nat) (r : Int32) (τ : gs_S), z = (r, τ) → gw_P X τ H → va_S (gw_A X) s.heap H locs → decode cX11_drum pc = .ok (.ireturn, 1) → W p l e rX11_drum s m args below meth c H locs 0 0 Q (F0 m pc ls [.int r])) {H : Heap} {locs : List Loc} {ls : Array Slot} (hP : gw_P X s0 H) (hS : va_S (gw_A X) s.heap H locs) (hl : lv_has ls 3 [(0, .ref (X.1 63))]) : W p l e rX11_drum s m args below meth c H locs 0 0 Q (F0 m 0 ls []) := by
  obtain ⟨hx, hb, hml, hown, hts, hr, hlocks, hC⟩ := id C0
  unfold pX11_drum at h
  refine lv_aload_n hx hb dX11_drum_0 rfl (lv_at hl 0 rfl) ?_
  refine lv_bipush (v := 15) hx hb dX11_drum_1 (by decide) ?_
  obtain ⟨v1, s2, hv1, h⟩ := gv_bind2_e h
  refine gv_ri (gv_runV (n := 1) (rest := []) C0 (mX11_findSpans l X s0 (15 : Int32) hv1) gX11_drum_X11_findSpans rfl ⟨rfl, rfl⟩ (by decide +kernel) ⟨by decide, by decide⟩ gk_63.1 (by decide) rfl hP hS rfl hl.1 rfl (Nat.le_of_ble_eq_true rfl) dX11_drum_3 ⟨Nat.zero_le _, Nat.zero_le _⟩) hS (fun H locs hP hS => ?_)
  refine lv_if_ne (tgt := 12) hx hb dX11_drum_6 (by decide) (fun hc => ?_) (fun hc => ?_)
  · have h := gv_neg hc h
    refine lv_iconst (v := 0) hx hb dX11_drum_12 (by decide) ?_
    refine lv_istore_n (lv' := [(1, .int (0 : Int32)), (0, .ref (X.1 63))]) hx hb dX11_drum_13 rfl hl (by decide) rfl (fun ls hl => ?_)
    refine lv_iconst (v := 1) hx hb dX11_drum_14 (by decide) ?_
    refine lv_istore_n (lv' := [(2, .int (1 : Int32)), (1, .int (0 : Int32)), (0, .ref (X.1 63))]) hx hb dX11_drum_15 rfl hl (by decide) rfl (fun ls hl => ?_)
    obtain ⟨q12, hq12, h⟩ := gv_bind_e h
    refine gv_loop_ind (Φ := fun q => ∀ (H : Heap) (locs : List Loc) (ls : Array Slot), gw_P X s2 H → va_S (gw_A X) s.heap H locs → lv_has ls 3 [(0, .ref (X.1 63)), (1, .int q.1), (2, .int q.2)] → W p l e rX11_drum s m args below meth c H locs 0 0 Q (F0 m 16 ls [])) (Ψ := fun q => ∀ (H : Heap) (locs : List Loc) (ls : Array Slot), gw_P X s2 H → va_S (gw_A X) s.heap H locs → lv_has ls 3 [(1, .int q.1)] → W p l e rX11_drum s m args below meth c H locs 0 0 Q (F0 m 63 ls [])) ?_ gv_N ((0 : Int32), (1 : Int32)) q12 hq12 ?_ H locs ls hP hS (lv_sub hl [2, 1, 0] rfl)
    · intro q x h Kc Ke H locs ls hP hS hl
      obtain ⟨v3, v4⟩ := q
      have h : pX11_drum_L16 s2 v3 v4 = some x := h
      have hP : gw_P X s2 H := hP
      have hl : lv_has ls 3 [(0, .ref (X.1 63)), (1, .int v3), (2, .int v4)] := hl
      unfold pX11_drum_L16 at h
      refine lv_iload_n hx hb dX11_drum_16 rfl (lv_at hl 2 rfl) ?_
      refine lv_bipush (v := 64) hx hb dX11_drum_17 (by decide) ?_
      refine lv_icmp_ge (tgt := 63) hx hb dX11_drum_19 (by decide) (fun hc => ?_) (fun hc => ?_)
      · have h := gv_pos hc h
        exact Ke _ (gv_inj h) _ _ _ hP hS (lv_sub hl [1] rfl)
      · have h := gv_neg hc h
        refine lv_aload_n hx hb dX11_drum_22 rfl (lv_at hl 0 rfl) ?_
        refine gv_get (ref := "IceByEarModel") (C := RX11) (T := TX11) (N := 28) (ci := 11) (v := .ref (X.1 78)) C0 (fun _ h9 => List.mem_cons_of_mem _ (List.mem_append_right _ h9)) hP 63 (gw_o11 X s2 gk_63.1) rfl 21 (by decide) (by decide +kernel) rfl rfl dX11_drum_23 ?_
        refine lv_iload_n hx hb dX11_drum_26 rfl (lv_at hl 2 rfl) ?_
        obtain ⟨hin5, h⟩ := gv_in_e h
        refine gv_iald C0 hP 78 gk_78.1 gk_78.2 hin5 dX11_drum_27 ?_
        refine lv_aload_n hx hb dX11_drum_28 rfl (lv_at hl 0 rfl) ?_
        refine gv_get (ref := "IceByEarModel") (C := RX11) (T := TX11) (N := 28) (ci := 11) (v := .ref (X.1 77)) C0 (fun _ h9 => List.mem_cons_of_mem _ (List.mem_append_right _ h9)) hP 63 (gw_o11 X s2 gk_63.1) rfl 20 (by decide) (by decide +kernel) rfl rfl dX11_drum_29 ?_
        refine lv_iload_n hx hb dX11_drum_32 rfl (lv_at hl 2 rfl) ?_
        obtain ⟨hin6, h⟩ := gv_in_e h
        refine gv_iald C0 hP 77 gk_77.1 gk_77.2 hin6 dX11_drum_33 ?_
        refine lv_isub hx hb dX11_drum_34 ?_
        refine lv_aload_n hx hb dX11_drum_35 rfl (lv_at hl 0 rfl) ?_
        refine gv_get (ref := "IceByEarModel") (C := RX11) (T := TX11) (N := 28) (ci := 11) (v := .ref (X.1 78)) C0 (fun _ h9 => List.mem_cons_of_mem _ (List.mem_append_right _ h9)) hP 63 (gw_o11 X s2 gk_63.1) rfl 21 (by decide) (by decide +kernel) rfl rfl dX11_drum_36 ?_
        refine lv_iload_n hx hb dX11_drum_39 rfl (lv_at hl 1 rfl) ?_
        obtain ⟨hin7, h⟩ := gv_in_e h
        refine gv_iald C0 hP 78 gk_78.1 gk_78.2 hin7 dX11_drum_40 ?_
        refine lv_aload_n hx hb dX11_drum_41 rfl (lv_at hl 0 rfl) ?_
        refine gv_get (ref := "IceByEarModel") (C := RX11) (T := TX11) (N := 28) (ci := 11) (v := .ref (X.1 77)) C0 (fun _ h9 => List.mem_cons_of_mem _ (List.mem_append_right _ h9)) hP 63 (gw_o11 X s2 gk_63.1) rfl 20 (by decide) (by decide +kernel) rfl rfl dX11_drum_42 ?_
        refine lv_iload_n hx hb dX11_drum_45 rfl (lv_at hl 1 rfl) ?_
        obtain ⟨hin8, h⟩ := gv_in_e h
        refine gv_iald C0 hP 77 gk_77.1 gk_77.2 hin8 dX11_drum_46 ?_
        refine lv_isub hx hb dX11_drum_47 ?_
        refine lv_icmp_le (tgt := 55) hx hb dX11_drum_48 (by decide) (fun hc => ?_) (fun hc => ?_)
        · have h := gv_pos hc h
          refine lv_iload_n hx hb dX11_drum_55 rfl (lv_at hl 1 rfl) ?_
          refine lv_istore_n (lv' := [(1, .int v3), (0, .ref (X.1 63)), (2, .int v4)]) hx hb dX11_drum_56 rfl hl (by decide) rfl (fun ls hl => ?_)
          obtain ⟨v9, ev9⟩ : ∃ y : Int32, y = (v4 + (1 : Int32)) := ⟨_, rfl⟩
          have h := gv_let_e ev9 h
          refine lv_iinc (v := v9) (lv' := [(2, .int v9), (1, .int v3), (0, .ref (X.1 63))]) hx hb dX11_drum_57 hl (k := 2) rfl (by rw [ev9]; rfl) (by decide) rfl (fun ls hl => ?_)
          refine lv_goto (tgt := 16) hx hb dX11_drum_60 (by decide) ?_
          exact Kc _ (gv_inj h) _ _ _ hP hS (lv_sub hl [2, 1, 0] rfl)
        · have h := gv_neg hc h
          refine lv_iload_n hx hb dX11_drum_51 rfl (lv_at hl 2 rfl) ?_
          refine lv_goto (tgt := 56) hx hb dX11_drum_52 (by decide) ?_
          refine lv_istore_n (lv' := [(1, .int v4), (0, .ref (X.1 63)), (2, .int v4)]) hx hb dX11_drum_56 rfl hl (by decide) rfl (fun ls hl => ?_)
          obtain ⟨v10, ev10⟩ : ∃ y : Int32, y = (v4 + (1 : Int32)) := ⟨_, rfl⟩
          have h := gv_let_e ev10 h
          refine lv_iinc (v := v10) (lv' := [(2, .int v10), (1, .int v4), (0, .ref (X.1 63))]) hx hb dX11_drum_57 hl (k := 2) rfl (by rw [ev10]; rfl) (by decide) rfl (fun ls hl => ?_)
          refine lv_goto (tgt := 16) hx hb dX11_drum_60 (by decide) ?_
          exact Kc _ (gv_inj h) _ _ _ hP hS (lv_sub hl [2, 1, 0] rfl)
    · obtain ⟨v11, v12⟩ := q12
      have h := gv_let_e (x := v11) rfl h
      have h := gv_let_e (x := v12) rfl h
      intro H locs ls hP hS hl
      have hP : gw_P X s2 H := hP
      have hl : lv_has ls 3 [(1, .int v11)] := hl
      refine lv_iload_n hx hb dX11_drum_63 rfl (lv_at hl 0 rfl) ?_
      exact Kr _ _ _ _ _ _ (gv_inj h) hP hS dX11_drum_64
  · have h := gv_pos hc h
    refine lv_bipush (v := -4) hx hb dX11_drum_9 (by decide) ?_
    exact Kr _ _ _ _ _ _ (gv_inj h) hP hS dX11_drum_11
theorem mX11_drum (l : Launch) (X : gw_X) (s0 : gs_S)  {r : Int32} {τ : gs_S} (h : pX11_drum s0 = some (r, τ)) : Met l yX11_drum wsX11_drum rX11_drum (gm_Pc X s0 [.ref (X.1 63)]) (gm_Qi X τ r) 0 0 (gw_A X) :=
  gm_of RX11 (by decide) rfl rfl (Nat.le_of_ble_eq_true rfl) (fun p e s m below meth c ls C0 hP hl hS => tX11_drum C0  s0 h (fun H locs ls pc r τ hr hP hS hd => by cases hr; exact gm_reti C0 hP hS hd) hP hS hl)
def pX11_liars_J68 (v3 : Int32) (v5 : Int32) (s8 : gs_S) (v10 : Int32) : Option ((Int32 × Int32 × Int32 × gs_S) ⊕ (Int32 × Int32 × Int32 × gs_S)) := gv_let (v3 + (1 : Int32)) (fun v11 => some (.inl (v10, v5, v11, s8)))
def pX11_liars_L8  (v1 : Int32) (v2 : Int32) (v3 : Int32) (s4 : gs_S) : Option ((Int32 × Int32 × Int32 × gs_S) ⊕ (Int32 × Int32 × Int32 × gs_S)) := if (16 : Int32) ≤ v3 then some (.inr (v1, v2, v3, s4)) else gv_let ((((v3 &&& (1 : Int32)) + ((v3 >>> ((1 : Int32) &&& 31)) &&& (1 : Int32))) + ((v3 >>> ((2 : Int32) &&& 31)) &&& (1 : Int32))) + ((v3 >>> ((3 : Int32) &&& 31)) &&& (1 : Int32))) (fun v5 => if v2 < v5 then gv_let (v3 + (1 : Int32)) (fun v6 => some (.inl (v1, v2, v6, s4))) else gv_bind2 (pX11_findSpans ((15 : Int32) &&& (v3 ^^^ (-1 : Int32))) s4) (fun v7 s8 => if v7 = 0 then gv_let (v3 + (1 : Int32)) (fun v9 => some (.inl (v1, v2, v9, s8))) else if v5 = v2 then pX11_liars_J68 v3 v5 s8 (-4 : Int32) else pX11_liars_J68 v3 v5 s8 v3))
def pX11_liars  (s0 : gs_S) : Option (Int32 × gs_S) := gv_bind (gv_loop (fun q => pX11_liars_L8 q.1 q.2.1 q.2.2.1 q.2.2.2) gv_N ((-4 : Int32), (9 : Int32), (0 : Int32), s0)) (fun q => gv_let q.1 (fun v12 => gv_let q.2.1 (fun v13 => gv_let q.2.2.1 (fun v14 => gv_let q.2.2.2 (fun s15 => some (v12, s15))))))
def rX11_liars : Room := { frames := 4, cells := 0, slots := 0, locals := 101 }
set_option maxHeartbeats 4000000 in
set_option maxRecDepth 100000 in
theorem tX11_liars {p : Program} {l : Launch} {e : Env} {s : State} {m : MethodId} {args : Array Value} {below : List Frame} {meth : Method} {c : Code} {X : gw_X} {Q : State → Prop} (C0 : gm_At p s m args meth c X cX11_liars 5 RX11 wsX11_liars (some .int))  (s0 : gs_S) {z : Int32 × gs_S} (h : pX11_liars s0 = some z) (Kr : ∀ (H : Heap) (locs : List Loc) (ls : Array Slot) (pc : Nat) (r : Int32) (τ : gs_S), z = (r, τ) → gw_P X τ H → va_S (gw_A X) s.heap H locs → decode cX11_liars pc = .ok (.ireturn, 1) → W p l e rX11_liars s m args below meth c H locs 0 0 Q (F0 m pc ls [.int r])) {H : Heap} {locs : List Loc} {ls : Array Slot} (hP : gw_P X s0 H) (hS : va_S (gw_A X) s.heap H locs) (hl : lv_has ls 5 [(0, .ref (X.1 63))]) : W p l e rX11_liars s m args below meth c H locs 0 0 Q (F0 m 0 ls []) := by
  obtain ⟨hx, hb, hml, hown, hts, hr, hlocks, hC⟩ := id C0
  unfold pX11_liars at h
  refine lv_bipush (v := -4) hx hb dX11_liars_0 (by decide) ?_
  refine lv_istore_n (lv' := [(1, .int (-4 : Int32)), (0, .ref (X.1 63))]) hx hb dX11_liars_2 rfl hl (by decide) rfl (fun ls hl => ?_)
  refine lv_bipush (v := 9) hx hb dX11_liars_3 (by decide) ?_
  refine lv_istore_n (lv' := [(2, .int (9 : Int32)), (1, .int (-4 : Int32)), (0, .ref (X.1 63))]) hx hb dX11_liars_5 rfl hl (by decide) rfl (fun ls hl => ?_)
  refine lv_iconst (v := 0) hx hb dX11_liars_6 (by decide) ?_
  refine lv_istore_n (lv' := [(3, .int (0 : Int32)), (2, .int (9 : Int32)), (1, .int (-4 : Int32)), (0, .ref (X.1 63))]) hx hb dX11_liars_7 rfl hl (by decide) rfl (fun ls hl => ?_)
  obtain ⟨q15, hq15, h⟩ := gv_bind_e h
  refine gv_loop_ind (Φ := fun q => ∀ (H : Heap) (locs : List Loc) (ls : Array Slot), gw_P X q.2.2.2 H → va_S (gw_A X) s.heap H locs → lv_has ls 5 [(0, .ref (X.1 63)), (1, .int q.1), (2, .int q.2.1), (3, .int q.2.2.1)] → W p l e rX11_liars s m args below meth c H locs 0 0 Q (F0 m 8 ls [])) (Ψ := fun q => ∀ (H : Heap) (locs : List Loc) (ls : Array Slot), gw_P X q.2.2.2 H → va_S (gw_A X) s.heap H locs → lv_has ls 5 [(1, .int q.1)] → W p l e rX11_liars s m args below meth c H locs 0 0 Q (F0 m 78 ls [])) ?_ gv_N ((-4 : Int32), (9 : Int32), (0 : Int32), s0) q15 hq15 ?_ H locs ls hP hS (lv_sub hl [3, 2, 1, 0] rfl)
  · intro q x h Kc Ke H locs ls hP hS hl
    obtain ⟨v1, v2, v3, s4⟩ := q
    have h : pX11_liars_L8 v1 v2 v3 s4 = some x := h
    have hP : gw_P X s4 H := hP
    have hl : lv_has ls 5 [(0, .ref (X.1 63)), (1, .int v1), (2, .int v2), (3, .int v3)] := hl
    unfold pX11_liars_L8 at h
    refine lv_iload_n hx hb dX11_liars_8 rfl (lv_at hl 3 rfl) ?_
    refine lv_bipush (v := 16) hx hb dX11_liars_9 (by decide) ?_
    refine lv_icmp_ge (tgt := 78) hx hb dX11_liars_11 (by decide) (fun hc => ?_) (fun hc => ?_)
    · have h := gv_pos hc h
      exact Ke _ (gv_inj h) _ _ _ hP hS (lv_sub hl [1] rfl)
    · have h := gv_neg hc h
      refine lv_iload_n hx hb dX11_liars_14 rfl (lv_at hl 3 rfl) ?_
      refine lv_iconst (v := 1) hx hb dX11_liars_15 (by decide) ?_
      refine lv_iand hx hb dX11_liars_16 ?_
      refine lv_iload_n hx hb dX11_liars_17 rfl (lv_at hl 3 rfl) ?_
      refine lv_iconst (v := 1) hx hb dX11_liars_18 (by decide) ?_
      refine lv_ishr hx hb dX11_liars_19 ?_
      refine lv_iconst (v := 1) hx hb dX11_liars_20 (by decide) ?_
      refine lv_iand hx hb dX11_liars_21 ?_
      refine lv_iadd hx hb dX11_liars_22 ?_
      refine lv_iload_n hx hb dX11_liars_23 rfl (lv_at hl 3 rfl) ?_
      refine lv_iconst (v := 2) hx hb dX11_liars_24 (by decide) ?_
      refine lv_ishr hx hb dX11_liars_25 ?_
      refine lv_iconst (v := 1) hx hb dX11_liars_26 (by decide) ?_
      refine lv_iand hx hb dX11_liars_27 ?_
      refine lv_iadd hx hb dX11_liars_28 ?_
      refine lv_iload_n hx hb dX11_liars_29 rfl (lv_at hl 3 rfl) ?_
      refine lv_iconst (v := 3) hx hb dX11_liars_30 (by decide) ?_
      refine lv_ishr hx hb dX11_liars_31 ?_
      refine lv_iconst (v := 1) hx hb dX11_liars_32 (by decide) ?_
      refine lv_iand hx hb dX11_liars_33 ?_
      refine lv_iadd hx hb dX11_liars_34 ?_
      refine lv_topi (fun v5 ev5 => ?_)
      have h := gv_let_e ev5 h
      refine lv_istore (lv' := [(4, .int v5), (0, .ref (X.1 63)), (1, .int v1), (2, .int v2), (3, .int v3)]) hx hb dX11_liars_35 hl (by decide) rfl (fun ls hl => ?_)
      refine lv_iload hx hb dX11_liars_37 (lv_at hl 0 rfl) ?_
      refine lv_iload_n hx hb dX11_liars_39 rfl (lv_at hl 3 rfl) ?_
      refine lv_icmp_gt (tgt := 72) hx hb dX11_liars_40 (by decide) (fun hc => ?_) (fun hc => ?_)
      · have h := gv_pos hc h
        obtain ⟨v6, ev6⟩ : ∃ y : Int32, y = (v3 + (1 : Int32)) := ⟨_, rfl⟩
        have h := gv_let_e ev6 h
        refine lv_iinc (v := v6) (lv' := [(3, .int v6), (4, .int v5), (0, .ref (X.1 63)), (1, .int v1), (2, .int v2)]) hx hb dX11_liars_72 hl (k := 4) rfl (by rw [ev6]; rfl) (by decide) rfl (fun ls hl => ?_)
        refine lv_goto (tgt := 8) hx hb dX11_liars_75 (by decide) ?_
        exact Kc _ (gv_inj h) _ _ _ hP hS (lv_sub hl [2, 3, 4, 0] rfl)
      · have h := gv_neg hc h
        refine lv_aload_n hx hb dX11_liars_43 rfl (lv_at hl 1 rfl) ?_
        refine lv_bipush (v := 15) hx hb dX11_liars_44 (by decide) ?_
        refine lv_iload_n hx hb dX11_liars_46 rfl (lv_at hl 4 rfl) ?_
        refine lv_iconst (v := -1) hx hb dX11_liars_47 (by decide) ?_
        refine lv_ixor hx hb dX11_liars_48 ?_
        refine lv_iand hx hb dX11_liars_49 ?_
        obtain ⟨v7, s8, hv7, h⟩ := gv_bind2_e h
        refine gv_ri (gv_runV (n := 1) (rest := []) C0 (mX11_findSpans l X s4 ((15 : Int32) &&& (v3 ^^^ (-1 : Int32))) hv7) gX11_liars_X11_findSpans rfl ⟨rfl, rfl⟩ (by decide +kernel) ⟨by decide, by decide⟩ gk_63.1 (by decide) rfl hP hS rfl hl.1 rfl (Nat.le_of_ble_eq_true rfl) dX11_liars_50 ⟨Nat.zero_le _, Nat.zero_le _⟩) hS (fun H locs hP hS => ?_)
        refine lv_if_eq (tgt := 72) hx hb dX11_liars_53 (by decide) (fun hc => ?_) (fun hc => ?_)
        · have h := gv_pos hc h
          obtain ⟨v9, ev9⟩ : ∃ y : Int32, y = (v3 + (1 : Int32)) := ⟨_, rfl⟩
          have h := gv_let_e ev9 h
          refine lv_iinc (v := v9) (lv' := [(3, .int v9), (4, .int v5), (0, .ref (X.1 63)), (1, .int v1), (2, .int v2)]) hx hb dX11_liars_72 hl (k := 4) rfl (by rw [ev9]; rfl) (by decide) rfl (fun ls hl => ?_)
          refine lv_goto (tgt := 8) hx hb dX11_liars_75 (by decide) ?_
          exact Kc _ (gv_inj h) _ _ _ hP hS (lv_sub hl [2, 3, 4, 0] rfl)
        · have h := gv_neg hc h
          refine lv_iload hx hb dX11_liars_56 (lv_at hl 0 rfl) ?_
          refine lv_iload_n hx hb dX11_liars_58 rfl (lv_at hl 3 rfl) ?_
          have J68 : ∀ (v10 : Int32) (H : Heap) (locs : List Loc) (ls : Array Slot), pX11_liars_J68 v3 v5 s8 v10 = some x → gw_P X s8 H → va_S (gw_A X) s.heap H locs → lv_has ls 5 [(4, .int v5), (0, .ref (X.1 63)), (3, .int v3)] → W p l e rX11_liars s m args below meth c H locs 0 0 Q (F0 m 68 ls [.int v10]) := by
            intro v10 H locs ls h hP hS hl
            unfold pX11_liars_J68 at h
            refine lv_istore_n (lv' := [(1, .int v10), (4, .int v5), (0, .ref (X.1 63)), (3, .int v3)]) hx hb dX11_liars_68 rfl hl (by decide) rfl (fun ls hl => ?_)
            refine lv_iload hx hb dX11_liars_69 (lv_at hl 1 rfl) ?_
            refine lv_istore_n (lv' := [(2, .int v5), (1, .int v10), (4, .int v5), (0, .ref (X.1 63)), (3, .int v3)]) hx hb dX11_liars_71 rfl hl (by decide) rfl (fun ls hl => ?_)
            obtain ⟨v11, ev11⟩ : ∃ y : Int32, y = (v3 + (1 : Int32)) := ⟨_, rfl⟩
            have h := gv_let_e ev11 h
            refine lv_iinc (v := v11) (lv' := [(3, .int v11), (2, .int v5), (1, .int v10), (4, .int v5), (0, .ref (X.1 63))]) hx hb dX11_liars_72 hl (k := 4) rfl (by rw [ev11]; rfl) (by decide) rfl (fun ls hl => ?_)
            refine lv_goto (tgt := 8) hx hb dX11_liars_75 (by decide) ?_
            exact Kc _ (gv_inj h) _ _ _ hP hS (lv_sub hl [4, 2, 1, 0] rfl)
          refine lv_icmp_ne (tgt := 67) hx hb dX11_liars_59 (by decide) (fun hc => ?_) (fun hc => ?_)
          · have h := gv_neg hc h
            refine lv_iload_n hx hb dX11_liars_67 rfl (lv_at hl 4 rfl) ?_
            exact J68 v3 _ _ _ h hP hS (lv_sub hl [0, 1, 4] rfl)
          · have h := gv_pos hc h
            refine lv_bipush (v := -4) hx hb dX11_liars_62 (by decide) ?_
            refine lv_goto (tgt := 68) hx hb dX11_liars_64 (by decide) ?_
            exact J68 (-4 : Int32) _ _ _ h hP hS (lv_sub hl [0, 1, 4] rfl)
  · obtain ⟨v12, v13, v14, s15⟩ := q15
    have h := gv_let_e (x := v12) rfl h
    have h := gv_let_e (x := v13) rfl h
    have h := gv_let_e (x := v14) rfl h
    have h := gv_let_e (x := s15) rfl h
    intro H locs ls hP hS hl
    have hP : gw_P X s15 H := hP
    have hl : lv_has ls 5 [(1, .int v12)] := hl
    refine lv_iload_n hx hb dX11_liars_78 rfl (lv_at hl 0 rfl) ?_
    exact Kr _ _ _ _ _ _ (gv_inj h) hP hS dX11_liars_79
theorem mX11_liars (l : Launch) (X : gw_X) (s0 : gs_S)  {r : Int32} {τ : gs_S} (h : pX11_liars s0 = some (r, τ)) : Met l yX11_liars wsX11_liars rX11_liars (gm_Pc X s0 [.ref (X.1 63)]) (gm_Qi X τ r) 0 0 (gw_A X) :=
  gm_of RX11 (by decide) rfl rfl (Nat.le_of_ble_eq_true rfl) (fun p e s m below meth c ls C0 hP hl hS => tX11_liars C0  s0 h (fun H locs ls pc r τ hr hP hS hd => by cases hr; exact gm_reti C0 hP hS hd) hP hS hl)
def pX11_carried_J333 (v5 : Int32) (s0 : gs_S) (v6 : Int32) : Option (Int32 × gs_S) := gv_in v5 48 (gv_let (gs_u s0 71 v5.toNatClampNeg v6) (fun s8 => gv_in v5 48 (some ((s8.1 71 v5.toNatClampNeg), s8))))
def pX11_carried_J300 (v4 : Int32) (s0 : gs_S) (v11 : Int32) : Option (Int32 × gs_S) := gv_in v4 4 (gv_let (gs_u s0 70 v4.toNatClampNeg v11) (fun s13 => gv_in v4 4 (some ((s13.1 70 v4.toNatClampNeg), s13))))
def pX11_carried_J261 (v3 : Int32) (s0 : gs_S) (v16 : Int32) : Option (Int32 × gs_S) := gv_in v3 2 (gv_let (gs_u s0 69 v3.toNatClampNeg v16) (fun s18 => gv_in v3 2 (some ((s18.1 69 v3.toNatClampNeg), s18))))
def pX11_carried_J222 (v2 : Int32) (s0 : gs_S) (v21 : Int32) : Option (Int32 × gs_S) := gv_in v2 24 (gv_let (gs_u s0 68 v2.toNatClampNeg v21) (fun s23 => gv_in v2 24 (some ((s23.1 68 v2.toNatClampNeg), s23))))
def pX11_carried_J148 (v26 : Int32) (s32 : gs_S) (v1 : Int32) (v33 : Int32) : Option (Int32 × gs_S) := gv_in v26 6 (gv_let (gs_u s32 67 v26.toNatClampNeg v33) (fun s35 => if (6 : Int32) ≤ v1 then if (12 : Int32) ≤ v1 then gv_in v26 6 (some ((s35.1 67 v26.toNatClampNeg), s35)) else gv_in v26 6 (some ((s35.1 66 v26.toNatClampNeg), s35)) else gv_in v26 6 (some ((s35.1 65 v26.toNatClampNeg), s35))))
def pX11_carried_J141 (v26 : Int32) (s32 : gs_S) (v1 : Int32)  : Option (Int32 × gs_S) := gv_in v26 6 (pX11_carried_J148 v26 s32 v1 (s32.1 67 v26.toNatClampNeg))
def pX11_carried_J119 (v26 : Int32) (s29 : gs_S) (a3 : Int32) (v1 : Int32) (a2 : Int32) (v30 : Int32) : Option (Int32 × gs_S) := gv_in v26 6 (gv_let (gs_u s29 66 v26.toNatClampNeg v30) (fun s32 => if a3 = 0 then pX11_carried_J141 v26 s32 v1 else if v1 < (12 : Int32) then pX11_carried_J141 v26 s32 v1 else pX11_carried_J148 v26 s32 v1 a2))
def pX11_carried_J112 (v26 : Int32) (s29 : gs_S) (a3 : Int32) (v1 : Int32) (a2 : Int32)  : Option (Int32 × gs_S) := gv_in v26 6 (pX11_carried_J119 v26 s29 a3 v1 a2 (s29.1 66 v26.toNatClampNeg))
def pX11_carried_J83 (v26 : Int32) (s0 : gs_S) (a3 : Int32) (v1 : Int32) (a2 : Int32) (v27 : Int32) : Option (Int32 × gs_S) := gv_in v26 6 (gv_let (gs_u s0 65 v26.toNatClampNeg v27) (fun s29 => if a3 = 0 then pX11_carried_J112 v26 s29 a3 v1 a2 else if v1 < (6 : Int32) then pX11_carried_J112 v26 s29 a3 v1 a2 else if (12 : Int32) ≤ v1 then pX11_carried_J112 v26 s29 a3 v1 a2 else pX11_carried_J119 v26 s29 a3 v1 a2 a2))
def pX11_carried_J76 (v26 : Int32) (s0 : gs_S) (a3 : Int32) (v1 : Int32) (a2 : Int32)  : Option (Int32 × gs_S) := gv_in v26 6 (pX11_carried_J83 v26 s0 a3 v1 a2 (s0.1 65 v26.toNatClampNeg))
def pX11_carried_J26 (a1 : Int32) (s0 : gs_S) (v42 : Int32) : Option (Int32 × gs_S) := gv_in a1 320 (gv_let (gs_u s0 64 a1.toNatClampNeg v42) (fun s44 => gv_in a1 320 (some ((s44.1 64 a1.toNatClampNeg), s44))))
def pX11_carried (a1 : Int32) (a2 : Int32) (a3 : Int32) (s0 : gs_S) : Option (Int32 × gs_S) := if (320 : Int32) ≤ a1 then gv_let (a1 - (320 : Int32)) (fun v1 => if (18 : Int32) ≤ v1 then gv_let (v1 + (-18 : Int32)) (fun v2 => if (24 : Int32) ≤ v2 then gv_let (v2 + (-24 : Int32)) (fun v3 => if (2 : Int32) ≤ v3 then gv_let (v3 + (-2 : Int32)) (fun v4 => if (4 : Int32) ≤ v4 then gv_let (v4 + (-4 : Int32)) (fun v5 => if a3 = 0 then gv_in v5 48 (pX11_carried_J333 v5 s0 (s0.1 71 v5.toNatClampNeg)) else pX11_carried_J333 v5 s0 a2) else if a3 = 0 then gv_in v4 4 (pX11_carried_J300 v4 s0 (s0.1 70 v4.toNatClampNeg)) else pX11_carried_J300 v4 s0 a2) else if a3 = 0 then gv_in v3 2 (pX11_carried_J261 v3 s0 (s0.1 69 v3.toNatClampNeg)) else pX11_carried_J261 v3 s0 a2) else if a3 = 0 then gv_in v2 24 (pX11_carried_J222 v2 s0 (s0.1 68 v2.toNatClampNeg)) else pX11_carried_J222 v2 s0 a2) else gv_let (v1 - ((v1 / (6 : Int32)) * (6 : Int32))) (fun v26 => if a3 = 0 then pX11_carried_J76 v26 s0 a3 v1 a2 else if (6 : Int32) ≤ v1 then pX11_carried_J76 v26 s0 a3 v1 a2 else pX11_carried_J83 v26 s0 a3 v1 a2 a2)) else if a3 = 0 then gv_in a1 320 (pX11_carried_J26 a1 s0 (s0.1 64 a1.toNatClampNeg)) else pX11_carried_J26 a1 s0 a2
def rX11_carried : Room := { frames := 0, cells := 0, slots := 0, locals := 0 }
set_option maxHeartbeats 4000000 in
set_option maxRecDepth 100000 in
theorem tX11_carried {p : Program} {l : Launch} {e : Env} {s : State} {m : MethodId} {args : Array Value} {below : List Frame} {meth : Method} {c : Code} {X : gw_X} {Q : State → Prop} (C0 : gm_At p s m args meth c X cX11_carried 6 RX11 wsX11_carried (some .int)) (a1 : Int32) (a2 : Int32) (a3 : Int32) (s0 : gs_S) {z : Int32 × gs_S} (h : pX11_carried a1 a2 a3 s0 = some z) (Kr : ∀ (H : Heap) (locs : List Loc) (ls : Array Slot) (pc : Nat) (r : Int32) (τ : gs_S), z = (r, τ) → gw_P X τ H → va_S (gw_A X) s.heap H locs → decode cX11_carried pc = .ok (.ireturn, 1) → W p l e rX11_carried s m args below meth c H locs 0 0 Q (F0 m pc ls [.int r])) {H : Heap} {locs : List Loc} {ls : Array Slot} (hP : gw_P X s0 H) (hS : va_S (gw_A X) s.heap H locs) (hl : lv_has ls 6 [(0, .ref (X.1 63)), (1, .int a1), (2, .int a2), (3, .int a3)]) : W p l e rX11_carried s m args below meth c H locs 0 0 Q (F0 m 0 ls []) := by
  obtain ⟨hx, hb, hml, hown, hts, hr, hlocks, hC⟩ := id C0
  unfold pX11_carried at h
  refine lv_iload_n hx hb dX11_carried_0 rfl (lv_at hl 1 rfl) ?_
  refine lv_sipush (v := 320) hx hb dX11_carried_1 (by decide) ?_
  refine lv_icmp_ge (tgt := 34) hx hb dX11_carried_4 (by decide) (fun hc => ?_) (fun hc => ?_)
  · have h := gv_pos hc h
    refine lv_iload_n hx hb dX11_carried_34 rfl (lv_at hl 1 rfl) ?_
    refine lv_sipush (v := 320) hx hb dX11_carried_35 (by decide) ?_
    refine lv_isub hx hb dX11_carried_38 ?_
    refine lv_topi (fun v1 ev1 => ?_)
    have h := gv_let_e ev1 h
    refine lv_istore (lv' := [(4, .int v1), (0, .ref (X.1 63)), (1, .int a1), (2, .int a2), (3, .int a3)]) hx hb dX11_carried_39 hl (by decide) rfl (fun ls hl => ?_)
    refine lv_iload hx hb dX11_carried_41 (lv_at hl 0 rfl) ?_
    refine lv_bipush (v := 18) hx hb dX11_carried_43 (by decide) ?_
    refine lv_icmp_ge (tgt := 191) hx hb dX11_carried_45 (by decide) (fun hc => ?_) (fun hc => ?_)
    · have h := gv_pos hc h
      obtain ⟨v2, ev2⟩ : ∃ y : Int32, y = (v1 + (-18 : Int32)) := ⟨_, rfl⟩
      have h := gv_let_e ev2 h
      refine lv_iinc (v := v2) (lv' := [(4, .int v2), (0, .ref (X.1 63)), (1, .int a1), (2, .int a2), (3, .int a3)]) hx hb dX11_carried_191 hl (k := 0) rfl (by rw [ev2]; rfl) (by decide) rfl (fun ls hl => ?_)
      refine lv_iload hx hb dX11_carried_194 (lv_at hl 0 rfl) ?_
      refine lv_bipush (v := 24) hx hb dX11_carried_196 (by decide) ?_
      refine lv_icmp_ge (tgt := 231) hx hb dX11_carried_198 (by decide) (fun hc => ?_) (fun hc => ?_)
      · have h := gv_pos hc h
        obtain ⟨v3, ev3⟩ : ∃ y : Int32, y = (v2 + (-24 : Int32)) := ⟨_, rfl⟩
        have h := gv_let_e ev3 h
        refine lv_iinc (v := v3) (lv' := [(4, .int v3), (0, .ref (X.1 63)), (1, .int a1), (2, .int a2), (3, .int a3)]) hx hb dX11_carried_231 hl (k := 0) rfl (by rw [ev3]; rfl) (by decide) rfl (fun ls hl => ?_)
        refine lv_iload hx hb dX11_carried_234 (lv_at hl 0 rfl) ?_
        refine lv_iconst (v := 2) hx hb dX11_carried_236 (by decide) ?_
        refine lv_icmp_ge (tgt := 270) hx hb dX11_carried_237 (by decide) (fun hc => ?_) (fun hc => ?_)
        · have h := gv_pos hc h
          obtain ⟨v4, ev4⟩ : ∃ y : Int32, y = (v3 + (-2 : Int32)) := ⟨_, rfl⟩
          have h := gv_let_e ev4 h
          refine lv_iinc (v := v4) (lv' := [(4, .int v4), (0, .ref (X.1 63)), (1, .int a1), (2, .int a2), (3, .int a3)]) hx hb dX11_carried_270 hl (k := 0) rfl (by rw [ev4]; rfl) (by decide) rfl (fun ls hl => ?_)
          refine lv_iload hx hb dX11_carried_273 (lv_at hl 0 rfl) ?_
          refine lv_iconst (v := 4) hx hb dX11_carried_275 (by decide) ?_
          refine lv_icmp_ge (tgt := 309) hx hb dX11_carried_276 (by decide) (fun hc => ?_) (fun hc => ?_)
          · have h := gv_pos hc h
            obtain ⟨v5, ev5⟩ : ∃ y : Int32, y = (v4 + (-4 : Int32)) := ⟨_, rfl⟩
            have h := gv_let_e ev5 h
            refine lv_iinc (v := v5) (lv' := [(4, .int v5), (0, .ref (X.1 63)), (1, .int a1), (2, .int a2), (3, .int a3)]) hx hb dX11_carried_309 hl (k := 0) rfl (by rw [ev5]; rfl) (by decide) rfl (fun ls hl => ?_)
            refine lv_aload_n hx hb dX11_carried_312 rfl (lv_at hl 1 rfl) ?_
            refine gv_get (ref := "IceByEarModel") (C := RX11) (T := TX11) (N := 28) (ci := 11) (v := .ref (X.1 71)) C0 (fun _ h9 => List.mem_cons_of_mem _ (List.mem_append_right _ h9)) hP 63 (gw_o11 X s0 gk_63.1) rfl 9 (by decide) (by decide +kernel) rfl rfl dX11_carried_313 ?_
            refine lv_iload hx hb dX11_carried_316 (lv_at hl 0 rfl) ?_
            refine lv_iload_n hx hb dX11_carried_318 rfl (lv_at hl 4 rfl) ?_
            have J333 : ∀ (v6 : Int32) (H : Heap) (locs : List Loc) (ls : Array Slot), pX11_carried_J333 v5 s0 v6 = some z → gw_P X s0 H → va_S (gw_A X) s.heap H locs → lv_has ls 6 [(4, .int v5), (0, .ref (X.1 63))] → W p l e rX11_carried s m args below meth c H locs 0 0 Q (F0 m 333 ls [.int v6, .int v5, .ref (X.1 71)]) := by
              intro v6 H locs ls h hP hS hl
              unfold pX11_carried_J333 at h
              obtain ⟨hin7, h⟩ := gv_in_e h
              refine gv_iast C0 hP hS 71 gk_71.1 gk_71.2 hin7 dX11_carried_333 (fun s8 H locs es8 hP hS => ?_)
              have h := gv_let_e es8 h
              refine lv_aload_n hx hb dX11_carried_334 rfl (lv_at hl 1 rfl) ?_
              refine gv_get (ref := "IceByEarModel") (C := RX11) (T := TX11) (N := 28) (ci := 11) (v := .ref (X.1 71)) C0 (fun _ h9 => List.mem_cons_of_mem _ (List.mem_append_right _ h9)) hP 63 (gw_o11 X s8 gk_63.1) rfl 9 (by decide) (by decide +kernel) rfl rfl dX11_carried_335 ?_
              refine lv_iload hx hb dX11_carried_338 (lv_at hl 0 rfl) ?_
              obtain ⟨hin9, h⟩ := gv_in_e h
              refine gv_iald C0 hP 71 gk_71.1 gk_71.2 hin9 dX11_carried_340 ?_
              exact Kr _ _ _ _ _ _ (gv_inj h) hP hS dX11_carried_341
            refine lv_if_eq (tgt := 326) hx hb dX11_carried_319 (by decide) (fun hc => ?_) (fun hc => ?_)
            · have h := gv_pos hc h
              refine lv_aload_n hx hb dX11_carried_326 rfl (lv_at hl 1 rfl) ?_
              refine gv_get (ref := "IceByEarModel") (C := RX11) (T := TX11) (N := 28) (ci := 11) (v := .ref (X.1 71)) C0 (fun _ h9 => List.mem_cons_of_mem _ (List.mem_append_right _ h9)) hP 63 (gw_o11 X s0 gk_63.1) rfl 9 (by decide) (by decide +kernel) rfl rfl dX11_carried_327 ?_
              refine lv_iload hx hb dX11_carried_330 (lv_at hl 0 rfl) ?_
              obtain ⟨hin10, h⟩ := gv_in_e h
              refine gv_iald C0 hP 71 gk_71.1 gk_71.2 hin10 dX11_carried_332 ?_
              exact J333 (s0.1 71 v5.toNatClampNeg) _ _ _ h hP hS (lv_sub hl [0, 1] rfl)
            · have h := gv_neg hc h
              refine lv_iload_n hx hb dX11_carried_322 rfl (lv_at hl 3 rfl) ?_
              refine lv_goto (tgt := 333) hx hb dX11_carried_323 (by decide) ?_
              exact J333 a2 _ _ _ h hP hS (lv_sub hl [0, 1] rfl)
          · have h := gv_neg hc h
            refine lv_aload_n hx hb dX11_carried_279 rfl (lv_at hl 1 rfl) ?_
            refine gv_get (ref := "IceByEarModel") (C := RX11) (T := TX11) (N := 28) (ci := 11) (v := .ref (X.1 70)) C0 (fun _ h9 => List.mem_cons_of_mem _ (List.mem_append_right _ h9)) hP 63 (gw_o11 X s0 gk_63.1) rfl 8 (by decide) (by decide +kernel) rfl rfl dX11_carried_280 ?_
            refine lv_iload hx hb dX11_carried_283 (lv_at hl 0 rfl) ?_
            refine lv_iload_n hx hb dX11_carried_285 rfl (lv_at hl 4 rfl) ?_
            have J300 : ∀ (v11 : Int32) (H : Heap) (locs : List Loc) (ls : Array Slot), pX11_carried_J300 v4 s0 v11 = some z → gw_P X s0 H → va_S (gw_A X) s.heap H locs → lv_has ls 6 [(4, .int v4), (0, .ref (X.1 63))] → W p l e rX11_carried s m args below meth c H locs 0 0 Q (F0 m 300 ls [.int v11, .int v4, .ref (X.1 70)]) := by
              intro v11 H locs ls h hP hS hl
              unfold pX11_carried_J300 at h
              obtain ⟨hin12, h⟩ := gv_in_e h
              refine gv_iast C0 hP hS 70 gk_70.1 gk_70.2 hin12 dX11_carried_300 (fun s13 H locs es13 hP hS => ?_)
              have h := gv_let_e es13 h
              refine lv_aload_n hx hb dX11_carried_301 rfl (lv_at hl 1 rfl) ?_
              refine gv_get (ref := "IceByEarModel") (C := RX11) (T := TX11) (N := 28) (ci := 11) (v := .ref (X.1 70)) C0 (fun _ h9 => List.mem_cons_of_mem _ (List.mem_append_right _ h9)) hP 63 (gw_o11 X s13 gk_63.1) rfl 8 (by decide) (by decide +kernel) rfl rfl dX11_carried_302 ?_
              refine lv_iload hx hb dX11_carried_305 (lv_at hl 0 rfl) ?_
              obtain ⟨hin14, h⟩ := gv_in_e h
              refine gv_iald C0 hP 70 gk_70.1 gk_70.2 hin14 dX11_carried_307 ?_
              exact Kr _ _ _ _ _ _ (gv_inj h) hP hS dX11_carried_308
            refine lv_if_eq (tgt := 293) hx hb dX11_carried_286 (by decide) (fun hc => ?_) (fun hc => ?_)
            · have h := gv_pos hc h
              refine lv_aload_n hx hb dX11_carried_293 rfl (lv_at hl 1 rfl) ?_
              refine gv_get (ref := "IceByEarModel") (C := RX11) (T := TX11) (N := 28) (ci := 11) (v := .ref (X.1 70)) C0 (fun _ h9 => List.mem_cons_of_mem _ (List.mem_append_right _ h9)) hP 63 (gw_o11 X s0 gk_63.1) rfl 8 (by decide) (by decide +kernel) rfl rfl dX11_carried_294 ?_
              refine lv_iload hx hb dX11_carried_297 (lv_at hl 0 rfl) ?_
              obtain ⟨hin15, h⟩ := gv_in_e h
              refine gv_iald C0 hP 70 gk_70.1 gk_70.2 hin15 dX11_carried_299 ?_
              exact J300 (s0.1 70 v4.toNatClampNeg) _ _ _ h hP hS (lv_sub hl [0, 1] rfl)
            · have h := gv_neg hc h
              refine lv_iload_n hx hb dX11_carried_289 rfl (lv_at hl 3 rfl) ?_
              refine lv_goto (tgt := 300) hx hb dX11_carried_290 (by decide) ?_
              exact J300 a2 _ _ _ h hP hS (lv_sub hl [0, 1] rfl)
        · have h := gv_neg hc h
          refine lv_aload_n hx hb dX11_carried_240 rfl (lv_at hl 1 rfl) ?_
          refine gv_get (ref := "IceByEarModel") (C := RX11) (T := TX11) (N := 28) (ci := 11) (v := .ref (X.1 69)) C0 (fun _ h9 => List.mem_cons_of_mem _ (List.mem_append_right _ h9)) hP 63 (gw_o11 X s0 gk_63.1) rfl 7 (by decide) (by decide +kernel) rfl rfl dX11_carried_241 ?_
          refine lv_iload hx hb dX11_carried_244 (lv_at hl 0 rfl) ?_
          refine lv_iload_n hx hb dX11_carried_246 rfl (lv_at hl 4 rfl) ?_
          have J261 : ∀ (v16 : Int32) (H : Heap) (locs : List Loc) (ls : Array Slot), pX11_carried_J261 v3 s0 v16 = some z → gw_P X s0 H → va_S (gw_A X) s.heap H locs → lv_has ls 6 [(4, .int v3), (0, .ref (X.1 63))] → W p l e rX11_carried s m args below meth c H locs 0 0 Q (F0 m 261 ls [.int v16, .int v3, .ref (X.1 69)]) := by
            intro v16 H locs ls h hP hS hl
            unfold pX11_carried_J261 at h
            obtain ⟨hin17, h⟩ := gv_in_e h
            refine gv_iast C0 hP hS 69 gk_69.1 gk_69.2 hin17 dX11_carried_261 (fun s18 H locs es18 hP hS => ?_)
            have h := gv_let_e es18 h
            refine lv_aload_n hx hb dX11_carried_262 rfl (lv_at hl 1 rfl) ?_
            refine gv_get (ref := "IceByEarModel") (C := RX11) (T := TX11) (N := 28) (ci := 11) (v := .ref (X.1 69)) C0 (fun _ h9 => List.mem_cons_of_mem _ (List.mem_append_right _ h9)) hP 63 (gw_o11 X s18 gk_63.1) rfl 7 (by decide) (by decide +kernel) rfl rfl dX11_carried_263 ?_
            refine lv_iload hx hb dX11_carried_266 (lv_at hl 0 rfl) ?_
            obtain ⟨hin19, h⟩ := gv_in_e h
            refine gv_iald C0 hP 69 gk_69.1 gk_69.2 hin19 dX11_carried_268 ?_
            exact Kr _ _ _ _ _ _ (gv_inj h) hP hS dX11_carried_269
          refine lv_if_eq (tgt := 254) hx hb dX11_carried_247 (by decide) (fun hc => ?_) (fun hc => ?_)
          · have h := gv_pos hc h
            refine lv_aload_n hx hb dX11_carried_254 rfl (lv_at hl 1 rfl) ?_
            refine gv_get (ref := "IceByEarModel") (C := RX11) (T := TX11) (N := 28) (ci := 11) (v := .ref (X.1 69)) C0 (fun _ h9 => List.mem_cons_of_mem _ (List.mem_append_right _ h9)) hP 63 (gw_o11 X s0 gk_63.1) rfl 7 (by decide) (by decide +kernel) rfl rfl dX11_carried_255 ?_
            refine lv_iload hx hb dX11_carried_258 (lv_at hl 0 rfl) ?_
            obtain ⟨hin20, h⟩ := gv_in_e h
            refine gv_iald C0 hP 69 gk_69.1 gk_69.2 hin20 dX11_carried_260 ?_
            exact J261 (s0.1 69 v3.toNatClampNeg) _ _ _ h hP hS (lv_sub hl [0, 1] rfl)
          · have h := gv_neg hc h
            refine lv_iload_n hx hb dX11_carried_250 rfl (lv_at hl 3 rfl) ?_
            refine lv_goto (tgt := 261) hx hb dX11_carried_251 (by decide) ?_
            exact J261 a2 _ _ _ h hP hS (lv_sub hl [0, 1] rfl)
      · have h := gv_neg hc h
        refine lv_aload_n hx hb dX11_carried_201 rfl (lv_at hl 1 rfl) ?_
        refine gv_get (ref := "IceByEarModel") (C := RX11) (T := TX11) (N := 28) (ci := 11) (v := .ref (X.1 68)) C0 (fun _ h9 => List.mem_cons_of_mem _ (List.mem_append_right _ h9)) hP 63 (gw_o11 X s0 gk_63.1) rfl 5 (by decide) (by decide +kernel) rfl rfl dX11_carried_202 ?_
        refine lv_iload hx hb dX11_carried_205 (lv_at hl 0 rfl) ?_
        refine lv_iload_n hx hb dX11_carried_207 rfl (lv_at hl 4 rfl) ?_
        have J222 : ∀ (v21 : Int32) (H : Heap) (locs : List Loc) (ls : Array Slot), pX11_carried_J222 v2 s0 v21 = some z → gw_P X s0 H → va_S (gw_A X) s.heap H locs → lv_has ls 6 [(4, .int v2), (0, .ref (X.1 63))] → W p l e rX11_carried s m args below meth c H locs 0 0 Q (F0 m 222 ls [.int v21, .int v2, .ref (X.1 68)]) := by
          intro v21 H locs ls h hP hS hl
          unfold pX11_carried_J222 at h
          obtain ⟨hin22, h⟩ := gv_in_e h
          refine gv_iast C0 hP hS 68 gk_68.1 gk_68.2 hin22 dX11_carried_222 (fun s23 H locs es23 hP hS => ?_)
          have h := gv_let_e es23 h
          refine lv_aload_n hx hb dX11_carried_223 rfl (lv_at hl 1 rfl) ?_
          refine gv_get (ref := "IceByEarModel") (C := RX11) (T := TX11) (N := 28) (ci := 11) (v := .ref (X.1 68)) C0 (fun _ h9 => List.mem_cons_of_mem _ (List.mem_append_right _ h9)) hP 63 (gw_o11 X s23 gk_63.1) rfl 5 (by decide) (by decide +kernel) rfl rfl dX11_carried_224 ?_
          refine lv_iload hx hb dX11_carried_227 (lv_at hl 0 rfl) ?_
          obtain ⟨hin24, h⟩ := gv_in_e h
          refine gv_iald C0 hP 68 gk_68.1 gk_68.2 hin24 dX11_carried_229 ?_
          exact Kr _ _ _ _ _ _ (gv_inj h) hP hS dX11_carried_230
        refine lv_if_eq (tgt := 215) hx hb dX11_carried_208 (by decide) (fun hc => ?_) (fun hc => ?_)
        · have h := gv_pos hc h
          refine lv_aload_n hx hb dX11_carried_215 rfl (lv_at hl 1 rfl) ?_
          refine gv_get (ref := "IceByEarModel") (C := RX11) (T := TX11) (N := 28) (ci := 11) (v := .ref (X.1 68)) C0 (fun _ h9 => List.mem_cons_of_mem _ (List.mem_append_right _ h9)) hP 63 (gw_o11 X s0 gk_63.1) rfl 5 (by decide) (by decide +kernel) rfl rfl dX11_carried_216 ?_
          refine lv_iload hx hb dX11_carried_219 (lv_at hl 0 rfl) ?_
          obtain ⟨hin25, h⟩ := gv_in_e h
          refine gv_iald C0 hP 68 gk_68.1 gk_68.2 hin25 dX11_carried_221 ?_
          exact J222 (s0.1 68 v2.toNatClampNeg) _ _ _ h hP hS (lv_sub hl [0, 1] rfl)
        · have h := gv_neg hc h
          refine lv_iload_n hx hb dX11_carried_211 rfl (lv_at hl 3 rfl) ?_
          refine lv_goto (tgt := 222) hx hb dX11_carried_212 (by decide) ?_
          exact J222 a2 _ _ _ h hP hS (lv_sub hl [0, 1] rfl)
    · have h := gv_neg hc h
      refine lv_iload hx hb dX11_carried_48 (lv_at hl 0 rfl) ?_
      refine lv_bipush (v := 6) hx hb dX11_carried_50 (by decide) ?_
      refine lv_irem hx hb dX11_carried_52 (by decide) ?_
      refine lv_topi (fun v26 ev26 => ?_)
      have h := gv_let_e ev26 h
      refine lv_istore (lv' := [(5, .int v26), (4, .int v1), (0, .ref (X.1 63)), (1, .int a1), (2, .int a2), (3, .int a3)]) hx hb dX11_carried_53 hl (by decide) rfl (fun ls hl => ?_)
      refine lv_aload_n hx hb dX11_carried_55 rfl (lv_at hl 2 rfl) ?_
      refine gv_get (ref := "IceByEarModel") (C := RX11) (T := TX11) (N := 28) (ci := 11) (v := .ref (X.1 65)) C0 (fun _ h9 => List.mem_cons_of_mem _ (List.mem_append_right _ h9)) hP 63 (gw_o11 X s0 gk_63.1) rfl 1 (by decide) (by decide +kernel) rfl rfl dX11_carried_56 ?_
      refine lv_iload hx hb dX11_carried_59 (lv_at hl 0 rfl) ?_
      refine lv_iload_n hx hb dX11_carried_61 rfl (lv_at hl 5 rfl) ?_
      have J83 : ∀ (v27 : Int32) (H : Heap) (locs : List Loc) (ls : Array Slot), pX11_carried_J83 v26 s0 a3 v1 a2 v27 = some z → gw_P X s0 H → va_S (gw_A X) s.heap H locs → lv_has ls 6 [(5, .int v26), (4, .int v1), (0, .ref (X.1 63)), (2, .int a2), (3, .int a3)] → W p l e rX11_carried s m args below meth c H locs 0 0 Q (F0 m 83 ls [.int v27, .int v26, .ref (X.1 65)]) := by
        intro v27 H locs ls h hP hS hl
        unfold pX11_carried_J83 at h
        obtain ⟨hin28, h⟩ := gv_in_e h
        refine gv_iast C0 hP hS 65 gk_65.1 gk_65.2 hin28 dX11_carried_83 (fun s29 H locs es29 hP hS => ?_)
        have h := gv_let_e es29 h
        refine lv_aload_n hx hb dX11_carried_84 rfl (lv_at hl 2 rfl) ?_
        refine gv_get (ref := "IceByEarModel") (C := RX11) (T := TX11) (N := 28) (ci := 11) (v := .ref (X.1 66)) C0 (fun _ h9 => List.mem_cons_of_mem _ (List.mem_append_right _ h9)) hP 63 (gw_o11 X s29 gk_63.1) rfl 2 (by decide) (by decide +kernel) rfl rfl dX11_carried_85 ?_
        refine lv_iload hx hb dX11_carried_88 (lv_at hl 0 rfl) ?_
        refine lv_iload_n hx hb dX11_carried_90 rfl (lv_at hl 4 rfl) ?_
        have J119 : ∀ (v30 : Int32) (H : Heap) (locs : List Loc) (ls : Array Slot), pX11_carried_J119 v26 s29 a3 v1 a2 v30 = some z → gw_P X s29 H → va_S (gw_A X) s.heap H locs → lv_has ls 6 [(5, .int v26), (4, .int v1), (0, .ref (X.1 63)), (2, .int a2), (3, .int a3)] → W p l e rX11_carried s m args below meth c H locs 0 0 Q (F0 m 119 ls [.int v30, .int v26, .ref (X.1 66)]) := by
          intro v30 H locs ls h hP hS hl
          unfold pX11_carried_J119 at h
          obtain ⟨hin31, h⟩ := gv_in_e h
          refine gv_iast C0 hP hS 66 gk_66.1 gk_66.2 hin31 dX11_carried_119 (fun s32 H locs es32 hP hS => ?_)
          have h := gv_let_e es32 h
          refine lv_aload_n hx hb dX11_carried_120 rfl (lv_at hl 2 rfl) ?_
          refine gv_get (ref := "IceByEarModel") (C := RX11) (T := TX11) (N := 28) (ci := 11) (v := .ref (X.1 67)) C0 (fun _ h9 => List.mem_cons_of_mem _ (List.mem_append_right _ h9)) hP 63 (gw_o11 X s32 gk_63.1) rfl 3 (by decide) (by decide +kernel) rfl rfl dX11_carried_121 ?_
          refine lv_iload hx hb dX11_carried_124 (lv_at hl 0 rfl) ?_
          refine lv_iload_n hx hb dX11_carried_126 rfl (lv_at hl 4 rfl) ?_
          have J148 : ∀ (v33 : Int32) (H : Heap) (locs : List Loc) (ls : Array Slot), pX11_carried_J148 v26 s32 v1 v33 = some z → gw_P X s32 H → va_S (gw_A X) s.heap H locs → lv_has ls 6 [(5, .int v26), (4, .int v1), (0, .ref (X.1 63))] → W p l e rX11_carried s m args below meth c H locs 0 0 Q (F0 m 148 ls [.int v33, .int v26, .ref (X.1 67)]) := by
            intro v33 H locs ls h hP hS hl
            unfold pX11_carried_J148 at h
            obtain ⟨hin34, h⟩ := gv_in_e h
            refine gv_iast C0 hP hS 67 gk_67.1 gk_67.2 hin34 dX11_carried_148 (fun s35 H locs es35 hP hS => ?_)
            have h := gv_let_e es35 h
            refine lv_iload hx hb dX11_carried_149 (lv_at hl 1 rfl) ?_
            refine lv_bipush (v := 6) hx hb dX11_carried_151 (by decide) ?_
            refine lv_icmp_ge (tgt := 166) hx hb dX11_carried_153 (by decide) (fun hc => ?_) (fun hc => ?_)
            · have h := gv_pos hc h
              refine lv_iload hx hb dX11_carried_166 (lv_at hl 1 rfl) ?_
              refine lv_bipush (v := 12) hx hb dX11_carried_168 (by decide) ?_
              refine lv_icmp_ge (tgt := 183) hx hb dX11_carried_170 (by decide) (fun hc => ?_) (fun hc => ?_)
              · have h := gv_pos hc h
                refine lv_aload_n hx hb dX11_carried_183 rfl (lv_at hl 2 rfl) ?_
                refine gv_get (ref := "IceByEarModel") (C := RX11) (T := TX11) (N := 28) (ci := 11) (v := .ref (X.1 67)) C0 (fun _ h9 => List.mem_cons_of_mem _ (List.mem_append_right _ h9)) hP 63 (gw_o11 X s35 gk_63.1) rfl 3 (by decide) (by decide +kernel) rfl rfl dX11_carried_184 ?_
                refine lv_iload hx hb dX11_carried_187 (lv_at hl 0 rfl) ?_
                obtain ⟨hin36, h⟩ := gv_in_e h
                refine gv_iald C0 hP 67 gk_67.1 gk_67.2 hin36 dX11_carried_189 ?_
                exact Kr _ _ _ _ _ _ (gv_inj h) hP hS dX11_carried_190
              · have h := gv_neg hc h
                refine lv_aload_n hx hb dX11_carried_173 rfl (lv_at hl 2 rfl) ?_
                refine gv_get (ref := "IceByEarModel") (C := RX11) (T := TX11) (N := 28) (ci := 11) (v := .ref (X.1 66)) C0 (fun _ h9 => List.mem_cons_of_mem _ (List.mem_append_right _ h9)) hP 63 (gw_o11 X s35 gk_63.1) rfl 2 (by decide) (by decide +kernel) rfl rfl dX11_carried_174 ?_
                refine lv_iload hx hb dX11_carried_177 (lv_at hl 0 rfl) ?_
                obtain ⟨hin37, h⟩ := gv_in_e h
                refine gv_iald C0 hP 66 gk_66.1 gk_66.2 hin37 dX11_carried_179 ?_
                refine lv_goto (tgt := 190) hx hb dX11_carried_180 (by decide) ?_
                exact Kr _ _ _ _ _ _ (gv_inj h) hP hS dX11_carried_190
            · have h := gv_neg hc h
              refine lv_aload_n hx hb dX11_carried_156 rfl (lv_at hl 2 rfl) ?_
              refine gv_get (ref := "IceByEarModel") (C := RX11) (T := TX11) (N := 28) (ci := 11) (v := .ref (X.1 65)) C0 (fun _ h9 => List.mem_cons_of_mem _ (List.mem_append_right _ h9)) hP 63 (gw_o11 X s35 gk_63.1) rfl 1 (by decide) (by decide +kernel) rfl rfl dX11_carried_157 ?_
              refine lv_iload hx hb dX11_carried_160 (lv_at hl 0 rfl) ?_
              obtain ⟨hin38, h⟩ := gv_in_e h
              refine gv_iald C0 hP 65 gk_65.1 gk_65.2 hin38 dX11_carried_162 ?_
              refine lv_goto (tgt := 190) hx hb dX11_carried_163 (by decide) ?_
              exact Kr _ _ _ _ _ _ (gv_inj h) hP hS dX11_carried_190
          have J141 : ∀  (H : Heap) (locs : List Loc) (ls : Array Slot), pX11_carried_J141 v26 s32 v1 = some z → gw_P X s32 H → va_S (gw_A X) s.heap H locs → lv_has ls 6 [(5, .int v26), (4, .int v1), (0, .ref (X.1 63))] → W p l e rX11_carried s m args below meth c H locs 0 0 Q (F0 m 141 ls [.int v26, .ref (X.1 67)]) := by
            intro  H locs ls h hP hS hl
            unfold pX11_carried_J141 at h
            refine lv_aload_n hx hb dX11_carried_141 rfl (lv_at hl 2 rfl) ?_
            refine gv_get (ref := "IceByEarModel") (C := RX11) (T := TX11) (N := 28) (ci := 11) (v := .ref (X.1 67)) C0 (fun _ h9 => List.mem_cons_of_mem _ (List.mem_append_right _ h9)) hP 63 (gw_o11 X s32 gk_63.1) rfl 3 (by decide) (by decide +kernel) rfl rfl dX11_carried_142 ?_
            refine lv_iload hx hb dX11_carried_145 (lv_at hl 0 rfl) ?_
            obtain ⟨hin39, h⟩ := gv_in_e h
            refine gv_iald C0 hP 67 gk_67.1 gk_67.2 hin39 dX11_carried_147 ?_
            exact J148 (s32.1 67 v26.toNatClampNeg) _ _ _ h hP hS (lv_sub hl [0, 1, 2] rfl)
          refine lv_if_eq (tgt := 141) hx hb dX11_carried_127 (by decide) (fun hc => ?_) (fun hc => ?_)
          · have h := gv_pos hc h
            exact J141  _ _ _ h hP hS (lv_sub hl [0, 1, 2] rfl)
          · have h := gv_neg hc h
            refine lv_iload hx hb dX11_carried_130 (lv_at hl 1 rfl) ?_
            refine lv_bipush (v := 12) hx hb dX11_carried_132 (by decide) ?_
            refine lv_icmp_lt (tgt := 141) hx hb dX11_carried_134 (by decide) (fun hc => ?_) (fun hc => ?_)
            · have h := gv_pos hc h
              exact J141  _ _ _ h hP hS (lv_sub hl [0, 1, 2] rfl)
            · have h := gv_neg hc h
              refine lv_iload_n hx hb dX11_carried_137 rfl (lv_at hl 3 rfl) ?_
              refine lv_goto (tgt := 148) hx hb dX11_carried_138 (by decide) ?_
              exact J148 a2 _ _ _ h hP hS (lv_sub hl [0, 1, 2] rfl)
        have J112 : ∀  (H : Heap) (locs : List Loc) (ls : Array Slot), pX11_carried_J112 v26 s29 a3 v1 a2 = some z → gw_P X s29 H → va_S (gw_A X) s.heap H locs → lv_has ls 6 [(5, .int v26), (4, .int v1), (0, .ref (X.1 63)), (2, .int a2), (3, .int a3)] → W p l e rX11_carried s m args below meth c H locs 0 0 Q (F0 m 112 ls [.int v26, .ref (X.1 66)]) := by
          intro  H locs ls h hP hS hl
          unfold pX11_carried_J112 at h
          refine lv_aload_n hx hb dX11_carried_112 rfl (lv_at hl 2 rfl) ?_
          refine gv_get (ref := "IceByEarModel") (C := RX11) (T := TX11) (N := 28) (ci := 11) (v := .ref (X.1 66)) C0 (fun _ h9 => List.mem_cons_of_mem _ (List.mem_append_right _ h9)) hP 63 (gw_o11 X s29 gk_63.1) rfl 2 (by decide) (by decide +kernel) rfl rfl dX11_carried_113 ?_
          refine lv_iload hx hb dX11_carried_116 (lv_at hl 0 rfl) ?_
          obtain ⟨hin40, h⟩ := gv_in_e h
          refine gv_iald C0 hP 66 gk_66.1 gk_66.2 hin40 dX11_carried_118 ?_
          exact J119 (s29.1 66 v26.toNatClampNeg) _ _ _ h hP hS (lv_sub hl [0, 1, 2, 3, 4] rfl)
        refine lv_if_eq (tgt := 112) hx hb dX11_carried_91 (by decide) (fun hc => ?_) (fun hc => ?_)
        · have h := gv_pos hc h
          exact J112  _ _ _ h hP hS (lv_sub hl [0, 1, 2, 3, 4] rfl)
        · have h := gv_neg hc h
          refine lv_iload hx hb dX11_carried_94 (lv_at hl 1 rfl) ?_
          refine lv_bipush (v := 6) hx hb dX11_carried_96 (by decide) ?_
          refine lv_icmp_lt (tgt := 112) hx hb dX11_carried_98 (by decide) (fun hc => ?_) (fun hc => ?_)
          · have h := gv_pos hc h
            exact J112  _ _ _ h hP hS (lv_sub hl [0, 1, 2, 3, 4] rfl)
          · have h := gv_neg hc h
            refine lv_iload hx hb dX11_carried_101 (lv_at hl 1 rfl) ?_
            refine lv_bipush (v := 12) hx hb dX11_carried_103 (by decide) ?_
            refine lv_icmp_ge (tgt := 112) hx hb dX11_carried_105 (by decide) (fun hc => ?_) (fun hc => ?_)
            · have h := gv_pos hc h
              exact J112  _ _ _ h hP hS (lv_sub hl [0, 1, 2, 3, 4] rfl)
            · have h := gv_neg hc h
              refine lv_iload_n hx hb dX11_carried_108 rfl (lv_at hl 3 rfl) ?_
              refine lv_goto (tgt := 119) hx hb dX11_carried_109 (by decide) ?_
              exact J119 a2 _ _ _ h hP hS (lv_sub hl [0, 1, 2, 3, 4] rfl)
      have J76 : ∀  (H : Heap) (locs : List Loc) (ls : Array Slot), pX11_carried_J76 v26 s0 a3 v1 a2 = some z → gw_P X s0 H → va_S (gw_A X) s.heap H locs → lv_has ls 6 [(5, .int v26), (4, .int v1), (0, .ref (X.1 63)), (2, .int a2), (3, .int a3)] → W p l e rX11_carried s m args below meth c H locs 0 0 Q (F0 m 76 ls [.int v26, .ref (X.1 65)]) := by
        intro  H locs ls h hP hS hl
        unfold pX11_carried_J76 at h
        refine lv_aload_n hx hb dX11_carried_76 rfl (lv_at hl 2 rfl) ?_
        refine gv_get (ref := "IceByEarModel") (C := RX11) (T := TX11) (N := 28) (ci := 11) (v := .ref (X.1 65)) C0 (fun _ h9 => List.mem_cons_of_mem _ (List.mem_append_right _ h9)) hP 63 (gw_o11 X s0 gk_63.1) rfl 1 (by decide) (by decide +kernel) rfl rfl dX11_carried_77 ?_
        refine lv_iload hx hb dX11_carried_80 (lv_at hl 0 rfl) ?_
        obtain ⟨hin41, h⟩ := gv_in_e h
        refine gv_iald C0 hP 65 gk_65.1 gk_65.2 hin41 dX11_carried_82 ?_
        exact J83 (s0.1 65 v26.toNatClampNeg) _ _ _ h hP hS (lv_sub hl [0, 1, 2, 3, 4] rfl)
      refine lv_if_eq (tgt := 76) hx hb dX11_carried_62 (by decide) (fun hc => ?_) (fun hc => ?_)
      · have h := gv_pos hc h
        exact J76  _ _ _ h hP hS (lv_sub hl [0, 1, 2, 4, 5] rfl)
      · have h := gv_neg hc h
        refine lv_iload hx hb dX11_carried_65 (lv_at hl 1 rfl) ?_
        refine lv_bipush (v := 6) hx hb dX11_carried_67 (by decide) ?_
        refine lv_icmp_ge (tgt := 76) hx hb dX11_carried_69 (by decide) (fun hc => ?_) (fun hc => ?_)
        · have h := gv_pos hc h
          exact J76  _ _ _ h hP hS (lv_sub hl [0, 1, 2, 4, 5] rfl)
        · have h := gv_neg hc h
          refine lv_iload_n hx hb dX11_carried_72 rfl (lv_at hl 4 rfl) ?_
          refine lv_goto (tgt := 83) hx hb dX11_carried_73 (by decide) ?_
          exact J83 a2 _ _ _ h hP hS (lv_sub hl [0, 1, 2, 4, 5] rfl)
  · have h := gv_neg hc h
    refine lv_aload_n hx hb dX11_carried_7 rfl (lv_at hl 0 rfl) ?_
    refine gv_get (ref := "IceByEarModel") (C := RX11) (T := TX11) (N := 28) (ci := 11) (v := .ref (X.1 64)) C0 (fun _ h9 => List.mem_cons_of_mem _ (List.mem_append_right _ h9)) hP 63 (gw_o11 X s0 gk_63.1) rfl 0 (by decide) (by decide +kernel) rfl rfl dX11_carried_8 ?_
    refine lv_iload_n hx hb dX11_carried_11 rfl (lv_at hl 1 rfl) ?_
    refine lv_iload_n hx hb dX11_carried_12 rfl (lv_at hl 3 rfl) ?_
    have J26 : ∀ (v42 : Int32) (H : Heap) (locs : List Loc) (ls : Array Slot), pX11_carried_J26 a1 s0 v42 = some z → gw_P X s0 H → va_S (gw_A X) s.heap H locs → lv_has ls 6 [(0, .ref (X.1 63)), (1, .int a1)] → W p l e rX11_carried s m args below meth c H locs 0 0 Q (F0 m 26 ls [.int v42, .int a1, .ref (X.1 64)]) := by
      intro v42 H locs ls h hP hS hl
      unfold pX11_carried_J26 at h
      obtain ⟨hin43, h⟩ := gv_in_e h
      refine gv_iast C0 hP hS 64 gk_64.1 gk_64.2 hin43 dX11_carried_26 (fun s44 H locs es44 hP hS => ?_)
      have h := gv_let_e es44 h
      refine lv_aload_n hx hb dX11_carried_27 rfl (lv_at hl 0 rfl) ?_
      refine gv_get (ref := "IceByEarModel") (C := RX11) (T := TX11) (N := 28) (ci := 11) (v := .ref (X.1 64)) C0 (fun _ h9 => List.mem_cons_of_mem _ (List.mem_append_right _ h9)) hP 63 (gw_o11 X s44 gk_63.1) rfl 0 (by decide) (by decide +kernel) rfl rfl dX11_carried_28 ?_
      refine lv_iload_n hx hb dX11_carried_31 rfl (lv_at hl 1 rfl) ?_
      obtain ⟨hin45, h⟩ := gv_in_e h
      refine gv_iald C0 hP 64 gk_64.1 gk_64.2 hin45 dX11_carried_32 ?_
      exact Kr _ _ _ _ _ _ (gv_inj h) hP hS dX11_carried_33
    refine lv_if_eq (tgt := 20) hx hb dX11_carried_13 (by decide) (fun hc => ?_) (fun hc => ?_)
    · have h := gv_pos hc h
      refine lv_aload_n hx hb dX11_carried_20 rfl (lv_at hl 0 rfl) ?_
      refine gv_get (ref := "IceByEarModel") (C := RX11) (T := TX11) (N := 28) (ci := 11) (v := .ref (X.1 64)) C0 (fun _ h9 => List.mem_cons_of_mem _ (List.mem_append_right _ h9)) hP 63 (gw_o11 X s0 gk_63.1) rfl 0 (by decide) (by decide +kernel) rfl rfl dX11_carried_21 ?_
      refine lv_iload_n hx hb dX11_carried_24 rfl (lv_at hl 1 rfl) ?_
      obtain ⟨hin46, h⟩ := gv_in_e h
      refine gv_iald C0 hP 64 gk_64.1 gk_64.2 hin46 dX11_carried_25 ?_
      exact J26 (s0.1 64 a1.toNatClampNeg) _ _ _ h hP hS (lv_sub hl [0, 1] rfl)
    · have h := gv_neg hc h
      refine lv_iload_n hx hb dX11_carried_16 rfl (lv_at hl 2 rfl) ?_
      refine lv_goto (tgt := 26) hx hb dX11_carried_17 (by decide) ?_
      exact J26 a2 _ _ _ h hP hS (lv_sub hl [0, 1] rfl)
theorem mX11_carried (l : Launch) (X : gw_X) (s0 : gs_S) (a1 : Int32) (a2 : Int32) (a3 : Int32) {r : Int32} {τ : gs_S} (h : pX11_carried a1 a2 a3 s0 = some (r, τ)) : Met l yX11_carried wsX11_carried rX11_carried (gm_Pc X s0 [.ref (X.1 63), .int a1, .int a2, .int a3]) (gm_Qi X τ r) 0 0 (gw_A X) :=
  gm_of RX11 (by decide) rfl rfl (Nat.le_of_ble_eq_true rfl) (fun p e s m below meth c ls C0 hP hl hS => tX11_carried C0 a1 a2 a3 s0 h (fun H locs ls pc r τ hr hP hS hd => by cases hr; exact gm_reti C0 hP hS hd) hP hS hl)
def pX11_image_L2  (v1 : Int32) (s2 : gs_S) : Option ((Int32 × gs_S) ⊕ (Int32 × gs_S)) := if (416 : Int32) ≤ v1 then some (.inr (v1, s2)) else gv_bind2 (pX11_carried v1 (0 : Int32) (0 : Int32) s2) (fun v3 s4 => gv_in v1 420 (gv_let (gs_u s4 79 v1.toNatClampNeg v3) (fun s6 => gv_let (v1 + (1 : Int32)) (fun v7 => some (.inl (v7, s6))))))
def pX11_image  (s0 : gs_S) : Option (Int32 × gs_S) := gv_bind (gv_loop (fun q => pX11_image_L2 q.1 q.2) gv_N ((0 : Int32), s0)) (fun q => gv_let q.1 (fun v8 => gv_let q.2 (fun s9 => gv_let (gs_u s9 80 (0 : Int32).toNatClampNeg (s9.1 63 4)) (fun s11 => gv_let (gs_u s11 80 (1 : Int32).toNatClampNeg (s11.1 63 6)) (fun s13 => gv_let (gs_u s13 80 (2 : Int32).toNatClampNeg (s13.1 63 10)) (fun s15 => gv_let (gs_u s15 63 22 (1 : Int32)) (fun s16 => some ((1 : Int32), s16))))))))
def rX11_image : Room := { frames := 1, cells := 0, slots := 0, locals := 25 }
set_option maxHeartbeats 4000000 in
set_option maxRecDepth 100000 in
theorem tX11_image {p : Program} {l : Launch} {e : Env} {s : State} {m : MethodId} {args : Array Value} {below : List Frame} {meth : Method} {c : Code} {X : gw_X} {Q : State → Prop} (C0 : gm_At p s m args meth c X cX11_image 2 RX11 wsX11_image (some .int))  (s0 : gs_S) {z : Int32 × gs_S} (h : pX11_image s0 = some z) (Kr : ∀ (H : Heap) (locs : List Loc) (ls : Array Slot) (pc : Nat) (r : Int32) (τ : gs_S), z = (r, τ) → gw_P X τ H → va_S (gw_A X) s.heap H locs → decode cX11_image pc = .ok (.ireturn, 1) → W p l e rX11_image s m args below meth c H locs 0 0 Q (F0 m pc ls [.int r])) {H : Heap} {locs : List Loc} {ls : Array Slot} (hP : gw_P X s0 H) (hS : va_S (gw_A X) s.heap H locs) (hl : lv_has ls 2 [(0, .ref (X.1 63))]) : W p l e rX11_image s m args below meth c H locs 0 0 Q (F0 m 0 ls []) := by
  obtain ⟨hx, hb, hml, hown, hts, hr, hlocks, hC⟩ := id C0
  unfold pX11_image at h
  refine lv_iconst (v := 0) hx hb dX11_image_0 (by decide) ?_
  refine lv_istore_n (lv' := [(1, .int (0 : Int32)), (0, .ref (X.1 63))]) hx hb dX11_image_1 rfl hl (by decide) rfl (fun ls hl => ?_)
  obtain ⟨q16, hq16, h⟩ := gv_bind_e h
  refine gv_loop_ind (Φ := fun q => ∀ (H : Heap) (locs : List Loc) (ls : Array Slot), gw_P X q.2 H → va_S (gw_A X) s.heap H locs → lv_has ls 2 [(0, .ref (X.1 63)), (1, .int q.1)] → W p l e rX11_image s m args below meth c H locs 0 0 Q (F0 m 2 ls [])) (Ψ := fun q => ∀ (H : Heap) (locs : List Loc) (ls : Array Slot), gw_P X q.2 H → va_S (gw_A X) s.heap H locs → lv_has ls 2 [(0, .ref (X.1 63))] → W p l e rX11_image s m args below meth c H locs 0 0 Q (F0 m 28 ls [])) ?_ gv_N ((0 : Int32), s0) q16 hq16 ?_ H locs ls hP hS (lv_sub hl [1, 0] rfl)
  · intro q x h Kc Ke H locs ls hP hS hl
    obtain ⟨v1, s2⟩ := q
    have h : pX11_image_L2 v1 s2 = some x := h
    have hP : gw_P X s2 H := hP
    have hl : lv_has ls 2 [(0, .ref (X.1 63)), (1, .int v1)] := hl
    unfold pX11_image_L2 at h
    refine lv_iload_n hx hb dX11_image_2 rfl (lv_at hl 1 rfl) ?_
    refine lv_sipush (v := 416) hx hb dX11_image_3 (by decide) ?_
    refine lv_icmp_ge (tgt := 28) hx hb dX11_image_6 (by decide) (fun hc => ?_) (fun hc => ?_)
    · have h := gv_pos hc h
      exact Ke _ (gv_inj h) _ _ _ hP hS (lv_sub hl [0] rfl)
    · have h := gv_neg hc h
      refine lv_aload_n hx hb dX11_image_9 rfl (lv_at hl 0 rfl) ?_
      refine gv_get (ref := "IceByEarModel") (C := RX11) (T := TX11) (N := 28) (ci := 11) (v := .ref (X.1 79)) C0 (fun _ h9 => List.mem_cons_of_mem _ (List.mem_append_right _ h9)) hP 63 (gw_o11 X s2 gk_63.1) rfl 23 (by decide) (by decide +kernel) rfl rfl dX11_image_10 ?_
      refine lv_iload_n hx hb dX11_image_13 rfl (lv_at hl 1 rfl) ?_
      refine lv_aload_n hx hb dX11_image_14 rfl (lv_at hl 0 rfl) ?_
      refine lv_iload_n hx hb dX11_image_15 rfl (lv_at hl 1 rfl) ?_
      refine lv_iconst (v := 0) hx hb dX11_image_16 (by decide) ?_
      refine lv_iconst (v := 0) hx hb dX11_image_17 (by decide) ?_
      obtain ⟨v3, s4, hv3, h⟩ := gv_bind2_e h
      refine gv_ri (gv_runV (n := 3) (rest := [.int v1, .ref (X.1 79)]) C0 (mX11_carried l X s2 v1 (0 : Int32) (0 : Int32) hv3) gX11_image_X11_carried rfl ⟨rfl, rfl⟩ (by decide +kernel) ⟨by decide, by decide⟩ gk_63.1 (by decide) rfl hP hS rfl hl.1 rfl (Nat.le_of_ble_eq_true rfl) dX11_image_18 ⟨Nat.zero_le _, Nat.zero_le _⟩) hS (fun H locs hP hS => ?_)
      obtain ⟨hin5, h⟩ := gv_in_e h
      refine gv_iast C0 hP hS 79 gk_79.1 gk_79.2 hin5 dX11_image_21 (fun s6 H locs es6 hP hS => ?_)
      have h := gv_let_e es6 h
      obtain ⟨v7, ev7⟩ : ∃ y : Int32, y = (v1 + (1 : Int32)) := ⟨_, rfl⟩
      have h := gv_let_e ev7 h
      refine lv_iinc (v := v7) (lv' := [(1, .int v7), (0, .ref (X.1 63))]) hx hb dX11_image_22 hl (k := 1) rfl (by rw [ev7]; rfl) (by decide) rfl (fun ls hl => ?_)
      refine lv_goto (tgt := 2) hx hb dX11_image_25 (by decide) ?_
      exact Kc _ (gv_inj h) _ _ _ hP hS (lv_sub hl [1, 0] rfl)
  · obtain ⟨v8, s9⟩ := q16
    have h := gv_let_e (x := v8) rfl h
    have h := gv_let_e (x := s9) rfl h
    intro H locs ls hP hS hl
    have hP : gw_P X s9 H := hP
    have hl : lv_has ls 2 [(0, .ref (X.1 63))] := hl
    refine lv_aload_n hx hb dX11_image_28 rfl (lv_at hl 0 rfl) ?_
    refine gv_get (ref := "IceByEarModel") (C := RX11) (T := TX11) (N := 28) (ci := 11) (v := .ref (X.1 80)) C0 (fun _ h9 => List.mem_cons_of_mem _ (List.mem_append_right _ h9)) hP 63 (gw_o11 X s9 gk_63.1) rfl 24 (by decide) (by decide +kernel) rfl rfl dX11_image_29 ?_
    refine lv_iconst (v := 0) hx hb dX11_image_32 (by decide) ?_
    refine lv_aload_n hx hb dX11_image_33 rfl (lv_at hl 0 rfl) ?_
    refine gv_get (ref := "IceByEarModel") (C := RX11) (T := TX11) (N := 28) (ci := 11) (v := .int (s9.1 63 4)) C0 (fun _ h9 => List.mem_cons_of_mem _ (List.mem_append_right _ h9)) hP 63 (gw_o11 X s9 gk_63.1) rfl 4 (by decide) (by decide +kernel) rfl rfl dX11_image_34 ?_
    refine gv_iast C0 hP hS 80 gk_80.1 gk_80.2 (show ¬ ((0 : Int32) < 0 ∨ 3 ≤ (0 : Int32).toNatClampNeg) by decide) dX11_image_37 (fun s11 H locs es11 hP hS => ?_)
    have h := gv_let_e es11 h
    refine lv_aload_n hx hb dX11_image_38 rfl (lv_at hl 0 rfl) ?_
    refine gv_get (ref := "IceByEarModel") (C := RX11) (T := TX11) (N := 28) (ci := 11) (v := .ref (X.1 80)) C0 (fun _ h9 => List.mem_cons_of_mem _ (List.mem_append_right _ h9)) hP 63 (gw_o11 X s11 gk_63.1) rfl 24 (by decide) (by decide +kernel) rfl rfl dX11_image_39 ?_
    refine lv_iconst (v := 1) hx hb dX11_image_42 (by decide) ?_
    refine lv_aload_n hx hb dX11_image_43 rfl (lv_at hl 0 rfl) ?_
    refine gv_get (ref := "IceByEarModel") (C := RX11) (T := TX11) (N := 28) (ci := 11) (v := .int (s11.1 63 6)) C0 (fun _ h9 => List.mem_cons_of_mem _ (List.mem_append_right _ h9)) hP 63 (gw_o11 X s11 gk_63.1) rfl 6 (by decide) (by decide +kernel) rfl rfl dX11_image_44 ?_
    refine gv_iast C0 hP hS 80 gk_80.1 gk_80.2 (show ¬ ((1 : Int32) < 0 ∨ 3 ≤ (1 : Int32).toNatClampNeg) by decide) dX11_image_47 (fun s13 H locs es13 hP hS => ?_)
    have h := gv_let_e es13 h
    refine lv_aload_n hx hb dX11_image_48 rfl (lv_at hl 0 rfl) ?_
    refine gv_get (ref := "IceByEarModel") (C := RX11) (T := TX11) (N := 28) (ci := 11) (v := .ref (X.1 80)) C0 (fun _ h9 => List.mem_cons_of_mem _ (List.mem_append_right _ h9)) hP 63 (gw_o11 X s13 gk_63.1) rfl 24 (by decide) (by decide +kernel) rfl rfl dX11_image_49 ?_
    refine lv_iconst (v := 2) hx hb dX11_image_52 (by decide) ?_
    refine lv_aload_n hx hb dX11_image_53 rfl (lv_at hl 0 rfl) ?_
    refine gv_get (ref := "IceByEarModel") (C := RX11) (T := TX11) (N := 28) (ci := 11) (v := .int (s13.1 63 10)) C0 (fun _ h9 => List.mem_cons_of_mem _ (List.mem_append_right _ h9)) hP 63 (gw_o11 X s13 gk_63.1) rfl 10 (by decide) (by decide +kernel) rfl rfl dX11_image_54 ?_
    refine gv_iast C0 hP hS 80 gk_80.1 gk_80.2 (show ¬ ((2 : Int32) < 0 ∨ 3 ≤ (2 : Int32).toNatClampNeg) by decide) dX11_image_57 (fun s15 H locs es15 hP hS => ?_)
    have h := gv_let_e es15 h
    refine lv_aload_n hx hb dX11_image_58 rfl (lv_at hl 0 rfl) ?_
    refine lv_iconst (v := 1) hx hb dX11_image_59 (by decide) ?_
    refine gv_put (ref := "IceByEarModel") (C := RX11) (T := TX11) (N := 28) (ci := 11) (v := .int (1 : Int32)) C0 (fun _ h9 => List.mem_cons_of_mem _ (List.mem_append_right _ h9)) tyX11 tyX11_ok nmX11 hP hS 63 (gw_o11 X s15 gk_63.1) rfl 22 (by decide) (by decide +kernel) rfl rfl (tyX11_ok 22 (by decide)) rfl rfl (Nat.le_of_ble_eq_true rfl) (gw_s11_22 gk_63.1 (1 : Int32)) dX11_image_60 (fun s16 H locs es16 hP hS => ?_)
    have h := gv_let_e es16 h
    refine lv_iconst (v := 1) hx hb dX11_image_63 (by decide) ?_
    exact Kr _ _ _ _ _ _ (gv_inj h) hP hS dX11_image_64
theorem mX11_image (l : Launch) (X : gw_X) (s0 : gs_S)  {r : Int32} {τ : gs_S} (h : pX11_image s0 = some (r, τ)) : Met l yX11_image wsX11_image rX11_image (gm_Pc X s0 [.ref (X.1 63)]) (gm_Qi X τ r) 0 0 (gw_A X) :=
  gm_of RX11 (by decide) rfl rfl (Nat.le_of_ble_eq_true rfl) (fun p e s m below meth c ls C0 hP hl hS => tX11_image C0  s0 h (fun H locs ls pc r τ hr hP hS hd => by cases hr; exact gm_reti C0 hP hS hd) hP hS hl)
def pX11_restore_L12  (v1 : Int32) (s2 : gs_S) : Option ((Int32 × gs_S) ⊕ (Int32 × gs_S)) := if (416 : Int32) ≤ v1 then some (.inr (v1, s2)) else gv_in v1 420 (gv_bind2 (pX11_carried v1 (s2.1 79 v1.toNatClampNeg) (1 : Int32) s2) (fun v4 s5 => gv_let (v1 + (1 : Int32)) (fun v6 => some (.inl (v6, s5)))))
def pX11_restore  (s0 : gs_S) : Option (Int32 × gs_S) := if (s0.1 63 22) = 0 then some ((-4 : Int32), s0) else gv_bind (gv_loop (fun q => pX11_restore_L12 q.1 q.2) gv_N ((0 : Int32), s0)) (fun q => gv_let q.1 (fun v7 => gv_let q.2 (fun s8 => gv_let (gs_u s8 63 4 (s8.1 80 (0 : Int32).toNatClampNeg)) (fun s10 => gv_let (gs_u s10 63 6 (s10.1 80 (1 : Int32).toNatClampNeg)) (fun s12 => gv_let (gs_u s12 63 10 (s12.1 80 (2 : Int32).toNatClampNeg)) (fun s14 => some ((1 : Int32), s14)))))))
def rX11_restore : Room := { frames := 1, cells := 0, slots := 0, locals := 25 }
set_option maxHeartbeats 4000000 in
set_option maxRecDepth 100000 in
theorem tX11_restore {p : Program} {l : Launch} {e : Env} {s : State} {m : MethodId} {args : Array Value} {below : List Frame} {meth : Method} {c : Code} {X : gw_X} {Q : State → Prop} (C0 : gm_At p s m args meth c X cX11_restore 2 RX11 wsX11_restore (some .int))  (s0 : gs_S) {z : Int32 × gs_S} (h : pX11_restore s0 = some z) (Kr : ∀ (H : Heap) (locs : List Loc) (ls : Array Slot) (pc : Nat) (r : Int32) (τ : gs_S), z = (r, τ) → gw_P X τ H → va_S (gw_A X) s.heap H locs → decode cX11_restore pc = .ok (.ireturn, 1) → W p l e rX11_restore s m args below meth c H locs 0 0 Q (F0 m pc ls [.int r])) {H : Heap} {locs : List Loc} {ls : Array Slot} (hP : gw_P X s0 H) (hS : va_S (gw_A X) s.heap H locs) (hl : lv_has ls 2 [(0, .ref (X.1 63))]) : W p l e rX11_restore s m args below meth c H locs 0 0 Q (F0 m 0 ls []) := by
  obtain ⟨hx, hb, hml, hown, hts, hr, hlocks, hC⟩ := id C0
  unfold pX11_restore at h
  refine lv_aload_n hx hb dX11_restore_0 rfl (lv_at hl 0 rfl) ?_
  refine gv_get (ref := "IceByEarModel") (C := RX11) (T := TX11) (N := 28) (ci := 11) (v := .int (s0.1 63 22)) C0 (fun _ h9 => List.mem_cons_of_mem _ (List.mem_append_right _ h9)) hP 63 (gw_o11 X s0 gk_63.1) rfl 22 (by decide) (by decide +kernel) rfl rfl dX11_restore_1 ?_
  refine lv_if_ne (tgt := 10) hx hb dX11_restore_4 (by decide) (fun hc => ?_) (fun hc => ?_)
  · have h := gv_neg hc h
    refine lv_iconst (v := 0) hx hb dX11_restore_10 (by decide) ?_
    refine lv_istore_n (lv' := [(1, .int (0 : Int32)), (0, .ref (X.1 63))]) hx hb dX11_restore_11 rfl hl (by decide) rfl (fun ls hl => ?_)
    obtain ⟨q14, hq14, h⟩ := gv_bind_e h
    refine gv_loop_ind (Φ := fun q => ∀ (H : Heap) (locs : List Loc) (ls : Array Slot), gw_P X q.2 H → va_S (gw_A X) s.heap H locs → lv_has ls 2 [(0, .ref (X.1 63)), (1, .int q.1)] → W p l e rX11_restore s m args below meth c H locs 0 0 Q (F0 m 12 ls [])) (Ψ := fun q => ∀ (H : Heap) (locs : List Loc) (ls : Array Slot), gw_P X q.2 H → va_S (gw_A X) s.heap H locs → lv_has ls 2 [(0, .ref (X.1 63))] → W p l e rX11_restore s m args below meth c H locs 0 0 Q (F0 m 38 ls [])) ?_ gv_N ((0 : Int32), s0) q14 hq14 ?_ H locs ls hP hS (lv_sub hl [1, 0] rfl)
    · intro q x h Kc Ke H locs ls hP hS hl
      obtain ⟨v1, s2⟩ := q
      have h : pX11_restore_L12 v1 s2 = some x := h
      have hP : gw_P X s2 H := hP
      have hl : lv_has ls 2 [(0, .ref (X.1 63)), (1, .int v1)] := hl
      unfold pX11_restore_L12 at h
      refine lv_iload_n hx hb dX11_restore_12 rfl (lv_at hl 1 rfl) ?_
      refine lv_sipush (v := 416) hx hb dX11_restore_13 (by decide) ?_
      refine lv_icmp_ge (tgt := 38) hx hb dX11_restore_16 (by decide) (fun hc => ?_) (fun hc => ?_)
      · have h := gv_pos hc h
        exact Ke _ (gv_inj h) _ _ _ hP hS (lv_sub hl [0] rfl)
      · have h := gv_neg hc h
        refine lv_aload_n hx hb dX11_restore_19 rfl (lv_at hl 0 rfl) ?_
        refine lv_iload_n hx hb dX11_restore_20 rfl (lv_at hl 1 rfl) ?_
        refine lv_aload_n hx hb dX11_restore_21 rfl (lv_at hl 0 rfl) ?_
        refine gv_get (ref := "IceByEarModel") (C := RX11) (T := TX11) (N := 28) (ci := 11) (v := .ref (X.1 79)) C0 (fun _ h9 => List.mem_cons_of_mem _ (List.mem_append_right _ h9)) hP 63 (gw_o11 X s2 gk_63.1) rfl 23 (by decide) (by decide +kernel) rfl rfl dX11_restore_22 ?_
        refine lv_iload_n hx hb dX11_restore_25 rfl (lv_at hl 1 rfl) ?_
        obtain ⟨hin3, h⟩ := gv_in_e h
        refine gv_iald C0 hP 79 gk_79.1 gk_79.2 hin3 dX11_restore_26 ?_
        refine lv_iconst (v := 1) hx hb dX11_restore_27 (by decide) ?_
        obtain ⟨v4, s5, hv4, h⟩ := gv_bind2_e h
        refine gv_ri (gv_runV (n := 3) (rest := []) C0 (mX11_carried l X s2 v1 (s2.1 79 v1.toNatClampNeg) (1 : Int32) hv4) gX11_restore_X11_carried rfl ⟨rfl, rfl⟩ (by decide +kernel) ⟨by decide, by decide⟩ gk_63.1 (by decide) rfl hP hS rfl hl.1 rfl (Nat.le_of_ble_eq_true rfl) dX11_restore_28 ⟨Nat.zero_le _, Nat.zero_le _⟩) hS (fun H locs hP hS => ?_)
        refine lv_pop hx hb dX11_restore_31 rfl ?_
        obtain ⟨v6, ev6⟩ : ∃ y : Int32, y = (v1 + (1 : Int32)) := ⟨_, rfl⟩
        have h := gv_let_e ev6 h
        refine lv_iinc (v := v6) (lv' := [(1, .int v6), (0, .ref (X.1 63))]) hx hb dX11_restore_32 hl (k := 1) rfl (by rw [ev6]; rfl) (by decide) rfl (fun ls hl => ?_)
        refine lv_goto (tgt := 12) hx hb dX11_restore_35 (by decide) ?_
        exact Kc _ (gv_inj h) _ _ _ hP hS (lv_sub hl [1, 0] rfl)
    · obtain ⟨v7, s8⟩ := q14
      have h := gv_let_e (x := v7) rfl h
      have h := gv_let_e (x := s8) rfl h
      intro H locs ls hP hS hl
      have hP : gw_P X s8 H := hP
      have hl : lv_has ls 2 [(0, .ref (X.1 63))] := hl
      refine lv_aload_n hx hb dX11_restore_38 rfl (lv_at hl 0 rfl) ?_
      refine lv_aload_n hx hb dX11_restore_39 rfl (lv_at hl 0 rfl) ?_
      refine gv_get (ref := "IceByEarModel") (C := RX11) (T := TX11) (N := 28) (ci := 11) (v := .ref (X.1 80)) C0 (fun _ h9 => List.mem_cons_of_mem _ (List.mem_append_right _ h9)) hP 63 (gw_o11 X s8 gk_63.1) rfl 24 (by decide) (by decide +kernel) rfl rfl dX11_restore_40 ?_
      refine lv_iconst (v := 0) hx hb dX11_restore_43 (by decide) ?_
      refine gv_iald C0 hP 80 gk_80.1 gk_80.2 (show ¬ ((0 : Int32) < 0 ∨ 3 ≤ (0 : Int32).toNatClampNeg) by decide) dX11_restore_44 ?_
      refine gv_put (ref := "IceByEarModel") (C := RX11) (T := TX11) (N := 28) (ci := 11) (v := .int (s8.1 80 (0 : Int32).toNatClampNeg)) C0 (fun _ h9 => List.mem_cons_of_mem _ (List.mem_append_right _ h9)) tyX11 tyX11_ok nmX11 hP hS 63 (gw_o11 X s8 gk_63.1) rfl 4 (by decide) (by decide +kernel) rfl rfl (tyX11_ok 4 (by decide)) rfl rfl (Nat.le_of_ble_eq_true rfl) (gw_s11_4 gk_63.1 (s8.1 80 (0 : Int32).toNatClampNeg)) dX11_restore_45 (fun s10 H locs es10 hP hS => ?_)
      have h := gv_let_e es10 h
      refine lv_aload_n hx hb dX11_restore_48 rfl (lv_at hl 0 rfl) ?_
      refine lv_aload_n hx hb dX11_restore_49 rfl (lv_at hl 0 rfl) ?_
      refine gv_get (ref := "IceByEarModel") (C := RX11) (T := TX11) (N := 28) (ci := 11) (v := .ref (X.1 80)) C0 (fun _ h9 => List.mem_cons_of_mem _ (List.mem_append_right _ h9)) hP 63 (gw_o11 X s10 gk_63.1) rfl 24 (by decide) (by decide +kernel) rfl rfl dX11_restore_50 ?_
      refine lv_iconst (v := 1) hx hb dX11_restore_53 (by decide) ?_
      refine gv_iald C0 hP 80 gk_80.1 gk_80.2 (show ¬ ((1 : Int32) < 0 ∨ 3 ≤ (1 : Int32).toNatClampNeg) by decide) dX11_restore_54 ?_
      refine gv_put (ref := "IceByEarModel") (C := RX11) (T := TX11) (N := 28) (ci := 11) (v := .int (s10.1 80 (1 : Int32).toNatClampNeg)) C0 (fun _ h9 => List.mem_cons_of_mem _ (List.mem_append_right _ h9)) tyX11 tyX11_ok nmX11 hP hS 63 (gw_o11 X s10 gk_63.1) rfl 6 (by decide) (by decide +kernel) rfl rfl (tyX11_ok 6 (by decide)) rfl rfl (Nat.le_of_ble_eq_true rfl) (gw_s11_6 gk_63.1 (s10.1 80 (1 : Int32).toNatClampNeg)) dX11_restore_55 (fun s12 H locs es12 hP hS => ?_)
      have h := gv_let_e es12 h
      refine lv_aload_n hx hb dX11_restore_58 rfl (lv_at hl 0 rfl) ?_
      refine lv_aload_n hx hb dX11_restore_59 rfl (lv_at hl 0 rfl) ?_
      refine gv_get (ref := "IceByEarModel") (C := RX11) (T := TX11) (N := 28) (ci := 11) (v := .ref (X.1 80)) C0 (fun _ h9 => List.mem_cons_of_mem _ (List.mem_append_right _ h9)) hP 63 (gw_o11 X s12 gk_63.1) rfl 24 (by decide) (by decide +kernel) rfl rfl dX11_restore_60 ?_
      refine lv_iconst (v := 2) hx hb dX11_restore_63 (by decide) ?_
      refine gv_iald C0 hP 80 gk_80.1 gk_80.2 (show ¬ ((2 : Int32) < 0 ∨ 3 ≤ (2 : Int32).toNatClampNeg) by decide) dX11_restore_64 ?_
      refine gv_put (ref := "IceByEarModel") (C := RX11) (T := TX11) (N := 28) (ci := 11) (v := .int (s12.1 80 (2 : Int32).toNatClampNeg)) C0 (fun _ h9 => List.mem_cons_of_mem _ (List.mem_append_right _ h9)) tyX11 tyX11_ok nmX11 hP hS 63 (gw_o11 X s12 gk_63.1) rfl 10 (by decide) (by decide +kernel) rfl rfl (tyX11_ok 10 (by decide)) rfl rfl (Nat.le_of_ble_eq_true rfl) (gw_s11_10 gk_63.1 (s12.1 80 (2 : Int32).toNatClampNeg)) dX11_restore_65 (fun s14 H locs es14 hP hS => ?_)
      have h := gv_let_e es14 h
      refine lv_iconst (v := 1) hx hb dX11_restore_68 (by decide) ?_
      exact Kr _ _ _ _ _ _ (gv_inj h) hP hS dX11_restore_69
  · have h := gv_pos hc h
    refine lv_bipush (v := -4) hx hb dX11_restore_7 (by decide) ?_
    exact Kr _ _ _ _ _ _ (gv_inj h) hP hS dX11_restore_9
theorem mX11_restore (l : Launch) (X : gw_X) (s0 : gs_S)  {r : Int32} {τ : gs_S} (h : pX11_restore s0 = some (r, τ)) : Met l yX11_restore wsX11_restore rX11_restore (gm_Pc X s0 [.ref (X.1 63)]) (gm_Qi X τ r) 0 0 (gw_A X) :=
  gm_of RX11 (by decide) rfl rfl (Nat.le_of_ble_eq_true rfl) (fun p e s m below meth c ls C0 hP hl hS => tX11_restore C0  s0 h (fun H locs ls pc r τ hr hP hS hd => by cases hr; exact gm_reti C0 hP hS hd) hP hS hl)
def pX11_isSheet (a0 : Int32) (a1 : Int32) : Int32 := if (pX11_in (a0.toInt64) (0 : Int64) (3 : Int64)) = 0 then (0 : Int32) else if (pX11_in (a1.toInt64) (0 : Int64) (2 : Int64)) = 0 then (0 : Int32) else (1 : Int32)
def rX11_isSheet : Room := { frames := 1, cells := 0, slots := 0, locals := 25 }
set_option maxHeartbeats 4000000 in
set_option maxRecDepth 100000 in
theorem tX11_isSheet {p : Program} {l : Launch} {e : Env} {s : State} {m : MethodId} {args : Array Value} {below : List Frame} {meth : Method} {c : Code} {X : gw_X} {Q : State → Prop} (C0 : gm_At p s m args meth c X cX11_isSheet 2 RX11 wsX11_isSheet (some .boolean)) (a0 : Int32) (a1 : Int32) (s0 : gs_S) {z : Int32} (h : pX11_isSheet a0 a1 = z) (Kr : ∀ (H : Heap) (locs : List Loc) (ls : Array Slot) (pc : Nat) (r : Int32), z = r → narrow .boolean (.int r) = .int r → gw_P X s0 H → va_S (gw_A X) s.heap H locs → decode cX11_isSheet pc = .ok (.ireturn, 1) → W p l e rX11_isSheet s m args below meth c H locs 0 0 Q (F0 m pc ls [.int r])) {H : Heap} {locs : List Loc} {ls : Array Slot} (hP : gw_P X s0 H) (hS : va_S (gw_A X) s.heap H locs) (hl : lv_has ls 2 [(0, .int a0), (1, .int a1)]) : W p l e rX11_isSheet s m args below meth c H locs 0 0 Q (F0 m 0 ls []) := by
  obtain ⟨hx, hb, hml, hown, hts, hr, hlocks, hC⟩ := id C0
  unfold pX11_isSheet at h
  refine lv_iload_n hx hb dX11_isSheet_0 rfl (lv_at hl 0 rfl) ?_
  refine lv_i2l hx hb dX11_isSheet_1 rfl ?_
  refine lv_lconst (v := 0) hx hb dX11_isSheet_2 (by decide) ?_
  refine lv_ldc2 (v := 3) hx hb hown (hts (.constantLong RX11 182 (3)) (by decide +kernel)) dX11_isSheet_3 ?_
  refine gv_ri (gv_runS (n := 3) (rest := []) C0 (mX11_in l X s0 (a0.toInt64) (0 : Int64) (3 : Int64)) gX11_isSheet_X11_in rfl ⟨rfl, rfl⟩ (by decide +kernel) ⟨by decide, by decide⟩ hP hS rfl hl.1 rfl (Nat.le_of_ble_eq_true rfl) dX11_isSheet_6 ⟨Nat.zero_le _, Nat.zero_le _⟩) hS (fun H locs hP hS => ?_)
  refine lv_if_eq (tgt := 28) hx hb dX11_isSheet_9 (by decide) (fun hc => ?_) (fun hc => ?_)
  · have h := gv_pos hc h
    refine lv_iconst (v := 0) hx hb dX11_isSheet_28 (by decide) ?_
    exact Kr _ _ _ _ _ h.symm (show narrow .boolean (.int (0 : Int32)) = .int (0 : Int32) by decide) hP hS dX11_isSheet_29
  · have h := gv_neg hc h
    refine lv_iload_n hx hb dX11_isSheet_12 rfl (lv_at hl 1 rfl) ?_
    refine lv_i2l hx hb dX11_isSheet_13 rfl ?_
    refine lv_lconst (v := 0) hx hb dX11_isSheet_14 (by decide) ?_
    refine lv_ldc2 (v := 2) hx hb hown (hts (.constantLong RX11 240 (2)) (by decide +kernel)) dX11_isSheet_15 ?_
    refine gv_ri (gv_runS (n := 3) (rest := []) C0 (mX11_in l X s0 (a1.toInt64) (0 : Int64) (2 : Int64)) gX11_isSheet_X11_in rfl ⟨rfl, rfl⟩ (by decide +kernel) ⟨by decide, by decide⟩ hP hS rfl hl.1 rfl (Nat.le_of_ble_eq_true rfl) dX11_isSheet_18 ⟨Nat.zero_le _, Nat.zero_le _⟩) hS (fun H locs hP hS => ?_)
    refine lv_if_eq (tgt := 28) hx hb dX11_isSheet_21 (by decide) (fun hc => ?_) (fun hc => ?_)
    · have h := gv_pos hc h
      refine lv_iconst (v := 0) hx hb dX11_isSheet_28 (by decide) ?_
      exact Kr _ _ _ _ _ h.symm (show narrow .boolean (.int (0 : Int32)) = .int (0 : Int32) by decide) hP hS dX11_isSheet_29
    · have h := gv_neg hc h
      refine lv_iconst (v := 1) hx hb dX11_isSheet_24 (by decide) ?_
      refine lv_goto (tgt := 29) hx hb dX11_isSheet_25 (by decide) ?_
      exact Kr _ _ _ _ _ h.symm (show narrow .boolean (.int (1 : Int32)) = .int (1 : Int32) by decide) hP hS dX11_isSheet_29
theorem mX11_isSheet (l : Launch) (X : gw_X) (s0 : gs_S) (a0 : Int32) (a1 : Int32) : Met l yX11_isSheet wsX11_isSheet rX11_isSheet (gm_Pc X s0 [.int a0, .int a1]) (gm_Qi X s0 (pX11_isSheet a0 a1)) 0 0 (gw_A X) :=
  gm_of RX11 (by decide) rfl rfl (Nat.le_of_ble_eq_true rfl) (fun p e s m below meth c ls C0 hP hl hS => tX11_isSheet C0 a0 a1 s0 rfl (fun H locs ls pc r hr hn hP hS hd => by subst hr; exact gm_retz hn C0 hP hS hd) hP hS hl)
theorem bX11_isSheet (a0 : Int32) (a1 : Int32) : narrow .boolean (.int (pX11_isSheet a0 a1)) = .int (pX11_isSheet a0 a1) := by
  unfold pX11_isSheet
  repeat' split
  all_goals first | rfl | exact bX11_in _ _ _
def pX11_sheet_L40 (a1 : Int32) (v5 : Int32) (s6 : gs_S) : Option ((Int32 × gs_S) ⊕ (Int32 × gs_S)) := if (24 : Int32) ≤ v5 then some (.inr (v5, s6)) else gv_in (((24 : Int32) * a1) + v5) 96 (gv_let (gs_ul s6 83 (((24 : Int32) * a1) + v5).toNatClampNeg (0 : Int64)) (fun s8 => gv_let (v5 + (1 : Int32)) (fun v9 => some (.inl (v9, s8)))))
def pX11_sheet (a1 : Int32) (a2 : Int32) (a3 : Int32) (s0 : gs_S) : Option (Int32 × gs_S) := if (pX11_isSheet a1 a2) = 0 then some ((-1 : Int32), s0) else if a3 ≤ (24 : Int32) then if 0 ≤ a3 then gv_in a1 4 (gv_let (gs_u s0 81 a1.toNatClampNeg a2) (fun s2 => gv_in a1 4 (gv_let (gs_u s2 82 a1.toNatClampNeg a3) (fun s4 => gv_bind (gv_loop (fun q => pX11_sheet_L40 a1 q.1 q.2) gv_N ((0 : Int32), s4)) (fun q => gv_let q.1 (fun v10 => gv_let q.2 (fun s11 => some (a3, s11)))))))) else some ((-14 : Int32), s0) else some ((-1 : Int32), s0)
def rX11_sheet : Room := { frames := 2, cells := 0, slots := 0, locals := 46 }
set_option maxHeartbeats 4000000 in
set_option maxRecDepth 100000 in
theorem tX11_sheet {p : Program} {l : Launch} {e : Env} {s : State} {m : MethodId} {args : Array Value} {below : List Frame} {meth : Method} {c : Code} {X : gw_X} {Q : State → Prop} (C0 : gm_At p s m args meth c X cX11_sheet 5 RX11 wsX11_sheet (some .int)) (a1 : Int32) (a2 : Int32) (a3 : Int32) (s0 : gs_S) {z : Int32 × gs_S} (h : pX11_sheet a1 a2 a3 s0 = some z) (Kr : ∀ (H : Heap) (locs : List Loc) (ls : Array Slot) (pc : Nat) (r : Int32) (τ : gs_S), z = (r, τ) → gw_P X τ H → va_S (gw_A X) s.heap H locs → decode cX11_sheet pc = .ok (.ireturn, 1) → W p l e rX11_sheet s m args below meth c H locs 0 0 Q (F0 m pc ls [.int r])) {H : Heap} {locs : List Loc} {ls : Array Slot} (hP : gw_P X s0 H) (hS : va_S (gw_A X) s.heap H locs) (hl : lv_has ls 5 [(0, .ref (X.1 63)), (1, .int a1), (2, .int a2), (3, .int a3)]) : W p l e rX11_sheet s m args below meth c H locs 0 0 Q (F0 m 0 ls []) := by
  obtain ⟨hx, hb, hml, hown, hts, hr, hlocks, hC⟩ := id C0
  unfold pX11_sheet at h
  refine lv_iload_n hx hb dX11_sheet_0 rfl (lv_at hl 1 rfl) ?_
  refine lv_iload_n hx hb dX11_sheet_1 rfl (lv_at hl 2 rfl) ?_
  refine gv_ri (gv_runS (n := 2) (rest := []) C0 (mX11_isSheet l X s0 a1 a2) gX11_sheet_X11_isSheet rfl ⟨rfl, rfl⟩ (by decide +kernel) ⟨by decide, by decide⟩ hP hS rfl hl.1 rfl (Nat.le_of_ble_eq_true rfl) dX11_sheet_2 ⟨Nat.zero_le _, Nat.zero_le _⟩) hS (fun H locs hP hS => ?_)
  refine lv_if_eq (tgt := 14) hx hb dX11_sheet_5 (by decide) (fun hc => ?_) (fun hc => ?_)
  · have h := gv_pos hc h
    refine lv_iconst (v := -1) hx hb dX11_sheet_14 (by decide) ?_
    exact Kr _ _ _ _ _ _ (gv_inj h) hP hS dX11_sheet_15
  · have h := gv_neg hc h
    refine lv_iload_n hx hb dX11_sheet_8 rfl (lv_at hl 3 rfl) ?_
    refine lv_bipush (v := 24) hx hb dX11_sheet_9 (by decide) ?_
    refine lv_icmp_le (tgt := 16) hx hb dX11_sheet_11 (by decide) (fun hc => ?_) (fun hc => ?_)
    · have h := gv_pos hc h
      refine lv_iload_n hx hb dX11_sheet_16 rfl (lv_at hl 3 rfl) ?_
      refine lv_if_ge (tgt := 23) hx hb dX11_sheet_17 (by decide) (fun hc => ?_) (fun hc => ?_)
      · have h := gv_pos hc h
        refine lv_aload_n hx hb dX11_sheet_23 rfl (lv_at hl 0 rfl) ?_
        refine gv_get (ref := "IceByEarModel") (C := RX11) (T := TX11) (N := 28) (ci := 11) (v := .ref (X.1 81)) C0 (fun _ h9 => List.mem_cons_of_mem _ (List.mem_append_right _ h9)) hP 63 (gw_o11 X s0 gk_63.1) rfl 25 (by decide) (by decide +kernel) rfl rfl dX11_sheet_24 ?_
        refine lv_iload_n hx hb dX11_sheet_27 rfl (lv_at hl 1 rfl) ?_
        refine lv_iload_n hx hb dX11_sheet_28 rfl (lv_at hl 2 rfl) ?_
        obtain ⟨hin1, h⟩ := gv_in_e h
        refine gv_iast C0 hP hS 81 gk_81.1 gk_81.2 hin1 dX11_sheet_29 (fun s2 H locs es2 hP hS => ?_)
        have h := gv_let_e es2 h
        refine lv_aload_n hx hb dX11_sheet_30 rfl (lv_at hl 0 rfl) ?_
        refine gv_get (ref := "IceByEarModel") (C := RX11) (T := TX11) (N := 28) (ci := 11) (v := .ref (X.1 82)) C0 (fun _ h9 => List.mem_cons_of_mem _ (List.mem_append_right _ h9)) hP 63 (gw_o11 X s2 gk_63.1) rfl 26 (by decide) (by decide +kernel) rfl rfl dX11_sheet_31 ?_
        refine lv_iload_n hx hb dX11_sheet_34 rfl (lv_at hl 1 rfl) ?_
        refine lv_iload_n hx hb dX11_sheet_35 rfl (lv_at hl 3 rfl) ?_
        obtain ⟨hin3, h⟩ := gv_in_e h
        refine gv_iast C0 hP hS 82 gk_82.1 gk_82.2 hin3 dX11_sheet_36 (fun s4 H locs es4 hP hS => ?_)
        have h := gv_let_e es4 h
        refine lv_iconst (v := 0) hx hb dX11_sheet_37 (by decide) ?_
        refine lv_istore (lv' := [(4, .int (0 : Int32)), (0, .ref (X.1 63)), (1, .int a1), (2, .int a2), (3, .int a3)]) hx hb dX11_sheet_38 hl (by decide) rfl (fun ls hl => ?_)
        obtain ⟨q11, hq11, h⟩ := gv_bind_e h
        refine gv_loop_ind (Φ := fun q => ∀ (H : Heap) (locs : List Loc) (ls : Array Slot), gw_P X q.2 H → va_S (gw_A X) s.heap H locs → lv_has ls 5 [(0, .ref (X.1 63)), (1, .int a1), (3, .int a3), (4, .int q.1)] → W p l e rX11_sheet s m args below meth c H locs 0 0 Q (F0 m 40 ls [])) (Ψ := fun q => ∀ (H : Heap) (locs : List Loc) (ls : Array Slot), gw_P X q.2 H → va_S (gw_A X) s.heap H locs → lv_has ls 5 [(3, .int a3)] → W p l e rX11_sheet s m args below meth c H locs 0 0 Q (F0 m 66 ls [])) ?_ gv_N ((0 : Int32), s4) q11 hq11 ?_ H locs ls hP hS (lv_sub hl [1, 2, 4, 0] rfl)
        · intro q x h Kc Ke H locs ls hP hS hl
          obtain ⟨v5, s6⟩ := q
          have h : pX11_sheet_L40 a1 v5 s6 = some x := h
          have hP : gw_P X s6 H := hP
          have hl : lv_has ls 5 [(0, .ref (X.1 63)), (1, .int a1), (3, .int a3), (4, .int v5)] := hl
          unfold pX11_sheet_L40 at h
          refine lv_iload hx hb dX11_sheet_40 (lv_at hl 3 rfl) ?_
          refine lv_bipush (v := 24) hx hb dX11_sheet_42 (by decide) ?_
          refine lv_icmp_ge (tgt := 66) hx hb dX11_sheet_44 (by decide) (fun hc => ?_) (fun hc => ?_)
          · have h := gv_pos hc h
            exact Ke _ (gv_inj h) _ _ _ hP hS (lv_sub hl [2] rfl)
          · have h := gv_neg hc h
            refine lv_aload_n hx hb dX11_sheet_47 rfl (lv_at hl 0 rfl) ?_
            refine gv_get (ref := "IceByEarModel") (C := RX11) (T := TX11) (N := 28) (ci := 11) (v := .ref (X.1 83)) C0 (fun _ h9 => List.mem_cons_of_mem _ (List.mem_append_right _ h9)) hP 63 (gw_o11 X s6 gk_63.1) rfl 27 (by decide) (by decide +kernel) rfl rfl dX11_sheet_48 ?_
            refine lv_bipush (v := 24) hx hb dX11_sheet_51 (by decide) ?_
            refine lv_iload_n hx hb dX11_sheet_53 rfl (lv_at hl 1 rfl) ?_
            refine lv_imul hx hb dX11_sheet_54 ?_
            refine lv_iload hx hb dX11_sheet_55 (lv_at hl 3 rfl) ?_
            refine lv_iadd hx hb dX11_sheet_57 ?_
            refine lv_lconst (v := 0) hx hb dX11_sheet_58 (by decide) ?_
            obtain ⟨hin7, h⟩ := gv_in_e h
            refine gv_last C0 hP hS 83 gk_83.1 gk_83.2 hin7 dX11_sheet_59 (fun s8 H locs es8 hP hS => ?_)
            have h := gv_let_e es8 h
            obtain ⟨v9, ev9⟩ : ∃ y : Int32, y = (v5 + (1 : Int32)) := ⟨_, rfl⟩
            have h := gv_let_e ev9 h
            refine lv_iinc (v := v9) (lv' := [(4, .int v9), (0, .ref (X.1 63)), (1, .int a1), (3, .int a3)]) hx hb dX11_sheet_60 hl (k := 3) rfl (by rw [ev9]; rfl) (by decide) rfl (fun ls hl => ?_)
            refine lv_goto (tgt := 40) hx hb dX11_sheet_63 (by decide) ?_
            exact Kc _ (gv_inj h) _ _ _ hP hS (lv_sub hl [1, 2, 3, 0] rfl)
        · obtain ⟨v10, s11⟩ := q11
          have h := gv_let_e (x := v10) rfl h
          have h := gv_let_e (x := s11) rfl h
          intro H locs ls hP hS hl
          have hP : gw_P X s11 H := hP
          have hl : lv_has ls 5 [(3, .int a3)] := hl
          refine lv_iload_n hx hb dX11_sheet_66 rfl (lv_at hl 0 rfl) ?_
          exact Kr _ _ _ _ _ _ (gv_inj h) hP hS dX11_sheet_67
      · have h := gv_neg hc h
        refine lv_bipush (v := -14) hx hb dX11_sheet_20 (by decide) ?_
        exact Kr _ _ _ _ _ _ (gv_inj h) hP hS dX11_sheet_22
    · have h := gv_neg hc h
      refine lv_iconst (v := -1) hx hb dX11_sheet_14 (by decide) ?_
      exact Kr _ _ _ _ _ _ (gv_inj h) hP hS dX11_sheet_15
theorem mX11_sheet (l : Launch) (X : gw_X) (s0 : gs_S) (a1 : Int32) (a2 : Int32) (a3 : Int32) {r : Int32} {τ : gs_S} (h : pX11_sheet a1 a2 a3 s0 = some (r, τ)) : Met l yX11_sheet wsX11_sheet rX11_sheet (gm_Pc X s0 [.ref (X.1 63), .int a1, .int a2, .int a3]) (gm_Qi X τ r) 0 0 (gw_A X) :=
  gm_of RX11 (by decide) rfl rfl (Nat.le_of_ble_eq_true rfl) (fun p e s m below meth c ls C0 hP hl hS => tX11_sheet C0 a1 a2 a3 s0 h (fun H locs ls pc r τ hr hP hS hd => by cases hr; exact gm_reti C0 hP hS hd) hP hS hl)
def pX11_drop (a1 : Int32) (s0 : gs_S) : Option (Int32 × gs_S) := if (pX11_in (a1.toInt64) (0 : Int64) (3 : Int64)) = 0 then some ((-1 : Int32), s0) else gv_in a1 4 (if 0 ≤ (s0.1 81 a1.toNatClampNeg) then gv_in a1 4 (gv_let (gs_u s0 81 a1.toNatClampNeg (-1 : Int32)) (fun s3 => gv_in a1 4 (some ((s3.1 82 a1.toNatClampNeg), s3)))) else some ((-11 : Int32), s0))
def rX11_drop : Room := { frames := 1, cells := 0, slots := 0, locals := 25 }
set_option maxHeartbeats 4000000 in
set_option maxRecDepth 100000 in
theorem tX11_drop {p : Program} {l : Launch} {e : Env} {s : State} {m : MethodId} {args : Array Value} {below : List Frame} {meth : Method} {c : Code} {X : gw_X} {Q : State → Prop} (C0 : gm_At p s m args meth c X cX11_drop 2 RX11 wsX11_drop (some .int)) (a1 : Int32) (s0 : gs_S) {z : Int32 × gs_S} (h : pX11_drop a1 s0 = some z) (Kr : ∀ (H : Heap) (locs : List Loc) (ls : Array Slot) (pc : Nat) (r : Int32) (τ : gs_S), z = (r, τ) → gw_P X τ H → va_S (gw_A X) s.heap H locs → decode cX11_drop pc = .ok (.ireturn, 1) → W p l e rX11_drop s m args below meth c H locs 0 0 Q (F0 m pc ls [.int r])) {H : Heap} {locs : List Loc} {ls : Array Slot} (hP : gw_P X s0 H) (hS : va_S (gw_A X) s.heap H locs) (hl : lv_has ls 2 [(0, .ref (X.1 63)), (1, .int a1)]) : W p l e rX11_drop s m args below meth c H locs 0 0 Q (F0 m 0 ls []) := by
  obtain ⟨hx, hb, hml, hown, hts, hr, hlocks, hC⟩ := id C0
  unfold pX11_drop at h
  refine lv_iload_n hx hb dX11_drop_0 rfl (lv_at hl 1 rfl) ?_
  refine lv_i2l hx hb dX11_drop_1 rfl ?_
  refine lv_lconst (v := 0) hx hb dX11_drop_2 (by decide) ?_
  refine lv_ldc2 (v := 3) hx hb hown (hts (.constantLong RX11 182 (3)) (by decide +kernel)) dX11_drop_3 ?_
  refine gv_ri (gv_runS (n := 3) (rest := []) C0 (mX11_in l X s0 (a1.toInt64) (0 : Int64) (3 : Int64)) gX11_drop_X11_in rfl ⟨rfl, rfl⟩ (by decide +kernel) ⟨by decide, by decide⟩ hP hS rfl hl.1 rfl (Nat.le_of_ble_eq_true rfl) dX11_drop_6 ⟨Nat.zero_le _, Nat.zero_le _⟩) hS (fun H locs hP hS => ?_)
  refine lv_if_ne (tgt := 14) hx hb dX11_drop_9 (by decide) (fun hc => ?_) (fun hc => ?_)
  · have h := gv_neg hc h
    refine lv_aload_n hx hb dX11_drop_14 rfl (lv_at hl 0 rfl) ?_
    refine gv_get (ref := "IceByEarModel") (C := RX11) (T := TX11) (N := 28) (ci := 11) (v := .ref (X.1 81)) C0 (fun _ h9 => List.mem_cons_of_mem _ (List.mem_append_right _ h9)) hP 63 (gw_o11 X s0 gk_63.1) rfl 25 (by decide) (by decide +kernel) rfl rfl dX11_drop_15 ?_
    refine lv_iload_n hx hb dX11_drop_18 rfl (lv_at hl 1 rfl) ?_
    obtain ⟨hin1, h⟩ := gv_in_e h
    refine gv_iald C0 hP 81 gk_81.1 gk_81.2 hin1 dX11_drop_19 ?_
    refine lv_if_ge (tgt := 26) hx hb dX11_drop_20 (by decide) (fun hc => ?_) (fun hc => ?_)
    · have h := gv_pos hc h
      refine lv_aload_n hx hb dX11_drop_26 rfl (lv_at hl 0 rfl) ?_
      refine gv_get (ref := "IceByEarModel") (C := RX11) (T := TX11) (N := 28) (ci := 11) (v := .ref (X.1 81)) C0 (fun _ h9 => List.mem_cons_of_mem _ (List.mem_append_right _ h9)) hP 63 (gw_o11 X s0 gk_63.1) rfl 25 (by decide) (by decide +kernel) rfl rfl dX11_drop_27 ?_
      refine lv_iload_n hx hb dX11_drop_30 rfl (lv_at hl 1 rfl) ?_
      refine lv_iconst (v := -1) hx hb dX11_drop_31 (by decide) ?_
      obtain ⟨hin2, h⟩ := gv_in_e h
      refine gv_iast C0 hP hS 81 gk_81.1 gk_81.2 hin2 dX11_drop_32 (fun s3 H locs es3 hP hS => ?_)
      have h := gv_let_e es3 h
      refine lv_aload_n hx hb dX11_drop_33 rfl (lv_at hl 0 rfl) ?_
      refine gv_get (ref := "IceByEarModel") (C := RX11) (T := TX11) (N := 28) (ci := 11) (v := .ref (X.1 82)) C0 (fun _ h9 => List.mem_cons_of_mem _ (List.mem_append_right _ h9)) hP 63 (gw_o11 X s3 gk_63.1) rfl 26 (by decide) (by decide +kernel) rfl rfl dX11_drop_34 ?_
      refine lv_iload_n hx hb dX11_drop_37 rfl (lv_at hl 1 rfl) ?_
      obtain ⟨hin4, h⟩ := gv_in_e h
      refine gv_iald C0 hP 82 gk_82.1 gk_82.2 hin4 dX11_drop_38 ?_
      exact Kr _ _ _ _ _ _ (gv_inj h) hP hS dX11_drop_39
    · have h := gv_neg hc h
      refine lv_bipush (v := -11) hx hb dX11_drop_23 (by decide) ?_
      exact Kr _ _ _ _ _ _ (gv_inj h) hP hS dX11_drop_25
  · have h := gv_pos hc h
    refine lv_iconst (v := -1) hx hb dX11_drop_12 (by decide) ?_
    exact Kr _ _ _ _ _ _ (gv_inj h) hP hS dX11_drop_13
theorem mX11_drop (l : Launch) (X : gw_X) (s0 : gs_S) (a1 : Int32) {r : Int32} {τ : gs_S} (h : pX11_drop a1 s0 = some (r, τ)) : Met l yX11_drop wsX11_drop rX11_drop (gm_Pc X s0 [.ref (X.1 63), .int a1]) (gm_Qi X τ r) 0 0 (gw_A X) :=
  gm_of RX11 (by decide) rfl rfl (Nat.le_of_ble_eq_true rfl) (fun p e s m below meth c ls C0 hP hl hS => tX11_drop C0 a1 s0 h (fun H locs ls pc r τ hr hP hS hd => by cases hr; exact gm_reti C0 hP hS hd) hP hS hl)
def pX11_lacksRow (a1 : Int32) (a2 : Int32) (a3 : Int32) (a4 : Int32) (s0 : gs_S) : Option (Int32) := gv_in a1 4 (if (s0.1 81 a1.toNatClampNeg) = a2 then gv_in a1 4 (if (pX11_in (a3.toInt64) (0 : Int64) (((s0.1 82 a1.toNatClampNeg) - a4).toInt64)) = 0 then some (-13 : Int32) else some (0 : Int32)) else gv_in a1 4 (if 0 ≤ (s0.1 81 a1.toNatClampNeg) then some (-12 : Int32) else some (-11 : Int32)))
def rX11_lacksRow : Room := { frames := 1, cells := 0, slots := 0, locals := 25 }
set_option maxHeartbeats 4000000 in
set_option maxRecDepth 100000 in
theorem tX11_lacksRow {p : Program} {l : Launch} {e : Env} {s : State} {m : MethodId} {args : Array Value} {below : List Frame} {meth : Method} {c : Code} {X : gw_X} {Q : State → Prop} (C0 : gm_At p s m args meth c X cX11_lacksRow 5 RX11 wsX11_lacksRow (some .int)) (a1 : Int32) (a2 : Int32) (a3 : Int32) (a4 : Int32) (s0 : gs_S) {z : Int32} (h : pX11_lacksRow a1 a2 a3 a4 s0 = some z) (Kr : ∀ (H : Heap) (locs : List Loc) (ls : Array Slot) (pc : Nat) (r : Int32), z = r → gw_P X s0 H → va_S (gw_A X) s.heap H locs → decode cX11_lacksRow pc = .ok (.ireturn, 1) → W p l e rX11_lacksRow s m args below meth c H locs 0 0 Q (F0 m pc ls [.int r])) {H : Heap} {locs : List Loc} {ls : Array Slot} (hP : gw_P X s0 H) (hS : va_S (gw_A X) s.heap H locs) (hl : lv_has ls 5 [(0, .ref (X.1 63)), (1, .int a1), (2, .int a2), (3, .int a3), (4, .int a4)]) : W p l e rX11_lacksRow s m args below meth c H locs 0 0 Q (F0 m 0 ls []) := by
  obtain ⟨hx, hb, hml, hown, hts, hr, hlocks, hC⟩ := id C0
  unfold pX11_lacksRow at h
  refine lv_aload_n hx hb dX11_lacksRow_0 rfl (lv_at hl 0 rfl) ?_
  refine gv_get (ref := "IceByEarModel") (C := RX11) (T := TX11) (N := 28) (ci := 11) (v := .ref (X.1 81)) C0 (fun _ h9 => List.mem_cons_of_mem _ (List.mem_append_right _ h9)) hP 63 (gw_o11 X s0 gk_63.1) rfl 25 (by decide) (by decide +kernel) rfl rfl dX11_lacksRow_1 ?_
  refine lv_iload_n hx hb dX11_lacksRow_4 rfl (lv_at hl 1 rfl) ?_
  obtain ⟨hin1, h⟩ := gv_in_e h
  refine gv_iald C0 hP 81 gk_81.1 gk_81.2 hin1 dX11_lacksRow_5 ?_
  refine lv_iload_n hx hb dX11_lacksRow_6 rfl (lv_at hl 2 rfl) ?_
  refine lv_icmp_eq (tgt := 27) hx hb dX11_lacksRow_7 (by decide) (fun hc => ?_) (fun hc => ?_)
  · have h := gv_pos hc h
    refine lv_iload_n hx hb dX11_lacksRow_27 rfl (lv_at hl 3 rfl) ?_
    refine lv_i2l hx hb dX11_lacksRow_28 rfl ?_
    refine lv_lconst (v := 0) hx hb dX11_lacksRow_29 (by decide) ?_
    refine lv_aload_n hx hb dX11_lacksRow_30 rfl (lv_at hl 0 rfl) ?_
    refine gv_get (ref := "IceByEarModel") (C := RX11) (T := TX11) (N := 28) (ci := 11) (v := .ref (X.1 82)) C0 (fun _ h9 => List.mem_cons_of_mem _ (List.mem_append_right _ h9)) hP 63 (gw_o11 X s0 gk_63.1) rfl 26 (by decide) (by decide +kernel) rfl rfl dX11_lacksRow_31 ?_
    refine lv_iload_n hx hb dX11_lacksRow_34 rfl (lv_at hl 1 rfl) ?_
    obtain ⟨hin2, h⟩ := gv_in_e h
    refine gv_iald C0 hP 82 gk_82.1 gk_82.2 hin2 dX11_lacksRow_35 ?_
    refine lv_iload hx hb dX11_lacksRow_36 (lv_at hl 4 rfl) ?_
    refine lv_isub hx hb dX11_lacksRow_38 ?_
    refine lv_i2l hx hb dX11_lacksRow_39 rfl ?_
    refine gv_ri (gv_runS (n := 3) (rest := []) C0 (mX11_in l X s0 (a3.toInt64) (0 : Int64) (((s0.1 82 a1.toNatClampNeg) - a4).toInt64)) gX11_lacksRow_X11_in rfl ⟨rfl, rfl⟩ (by decide +kernel) ⟨by decide, by decide⟩ hP hS rfl hl.1 rfl (Nat.le_of_ble_eq_true rfl) dX11_lacksRow_40 ⟨Nat.zero_le _, Nat.zero_le _⟩) hS (fun H locs hP hS => ?_)
    refine lv_if_eq (tgt := 50) hx hb dX11_lacksRow_43 (by decide) (fun hc => ?_) (fun hc => ?_)
    · have h := gv_pos hc h
      refine lv_bipush (v := -13) hx hb dX11_lacksRow_50 (by decide) ?_
      exact Kr _ _ _ _ _ (gv_inj h) hP hS dX11_lacksRow_52
    · have h := gv_neg hc h
      refine lv_iconst (v := 0) hx hb dX11_lacksRow_46 (by decide) ?_
      refine lv_goto (tgt := 52) hx hb dX11_lacksRow_47 (by decide) ?_
      exact Kr _ _ _ _ _ (gv_inj h) hP hS dX11_lacksRow_52
  · have h := gv_neg hc h
    refine lv_aload_n hx hb dX11_lacksRow_10 rfl (lv_at hl 0 rfl) ?_
    refine gv_get (ref := "IceByEarModel") (C := RX11) (T := TX11) (N := 28) (ci := 11) (v := .ref (X.1 81)) C0 (fun _ h9 => List.mem_cons_of_mem _ (List.mem_append_right _ h9)) hP 63 (gw_o11 X s0 gk_63.1) rfl 25 (by decide) (by decide +kernel) rfl rfl dX11_lacksRow_11 ?_
    refine lv_iload_n hx hb dX11_lacksRow_14 rfl (lv_at hl 1 rfl) ?_
    obtain ⟨hin3, h⟩ := gv_in_e h
    refine gv_iald C0 hP 81 gk_81.1 gk_81.2 hin3 dX11_lacksRow_15 ?_
    refine lv_if_ge (tgt := 24) hx hb dX11_lacksRow_16 (by decide) (fun hc => ?_) (fun hc => ?_)
    · have h := gv_pos hc h
      refine lv_bipush (v := -12) hx hb dX11_lacksRow_24 (by decide) ?_
      exact Kr _ _ _ _ _ (gv_inj h) hP hS dX11_lacksRow_26
    · have h := gv_neg hc h
      refine lv_bipush (v := -11) hx hb dX11_lacksRow_19 (by decide) ?_
      refine lv_goto (tgt := 26) hx hb dX11_lacksRow_21 (by decide) ?_
      exact Kr _ _ _ _ _ (gv_inj h) hP hS dX11_lacksRow_26
theorem mX11_lacksRow (l : Launch) (X : gw_X) (s0 : gs_S) (a1 : Int32) (a2 : Int32) (a3 : Int32) (a4 : Int32) {r : Int32} (h : pX11_lacksRow a1 a2 a3 a4 s0 = some r) : Met l yX11_lacksRow wsX11_lacksRow rX11_lacksRow (gm_Pc X s0 [.ref (X.1 63), .int a1, .int a2, .int a3, .int a4]) (gm_Qi X s0 r) 0 0 (gw_A X) :=
  gm_of RX11 (by decide) rfl rfl (Nat.le_of_ble_eq_true rfl) (fun p e s m below meth c ls C0 hP hl hS => tX11_lacksRow C0 a1 a2 a3 a4 s0 h (fun H locs ls pc r hr hP hS hd => by subst hr; exact gm_reti C0 hP hS hd) hP hS hl)
def pX11_item (a1 : Int32) (a2 : Int32) (a3 : Int32) (a4 : Int64) (s0 : gs_S) : Option (Int32 × gs_S) := if (pX11_isSheet a1 a2) = 0 then some ((-1 : Int32), s0) else gv_bind (pX11_lacksRow a1 a2 a3 (1 : Int32) s0) (fun v1 => if 0 ≤ v1 then if a2 = 0 then if (lg_cmp a4 (0 : Int64)) = 0 then gv_in (((24 : Int32) * a1) + a3) 96 (gv_let (gs_ul s0 83 (((24 : Int32) * a1) + a3).toNatClampNeg (0 : Int64)) (fun s9 => some ((1 : Int32), s9))) else gv_in (((24 : Int32) * a1) + a3) 96 (gv_let (gs_ul s0 83 (((24 : Int32) * a1) + a3).toNatClampNeg (1 : Int64)) (fun s7 => some ((1 : Int32), s7))) else if a2 = (1 : Int32) then gv_in (((24 : Int32) * a1) + a3) 96 (gv_let (gs_ul s0 83 (((24 : Int32) * a1) + a3).toNatClampNeg ((a4 <<< ((56 : Int32).toInt64 &&& 63)) >>> ((56 : Int32).toInt64 &&& 63))) (fun s5 => some ((1 : Int32), s5))) else gv_in (((24 : Int32) * a1) + a3) 96 (gv_let (gs_ul s0 83 (((24 : Int32) * a1) + a3).toNatClampNeg a4) (fun s3 => some ((1 : Int32), s3))) else some (v1, s0))
def rX11_item : Room := { frames := 2, cells := 0, slots := 0, locals := 49 }
set_option maxHeartbeats 4000000 in
set_option maxRecDepth 100000 in
theorem tX11_item {p : Program} {l : Launch} {e : Env} {s : State} {m : MethodId} {args : Array Value} {below : List Frame} {meth : Method} {c : Code} {X : gw_X} {Q : State → Prop} (C0 : gm_At p s m args meth c X cX11_item 7 RX11 wsX11_item (some .int)) (a1 : Int32) (a2 : Int32) (a3 : Int32) (a4 : Int64) (s0 : gs_S) {z : Int32 × gs_S} (h : pX11_item a1 a2 a3 a4 s0 = some z) (Kr : ∀ (H : Heap) (locs : List Loc) (ls : Array Slot) (pc : Nat) (r : Int32) (τ : gs_S), z = (r, τ) → gw_P X τ H → va_S (gw_A X) s.heap H locs → decode cX11_item pc = .ok (.ireturn, 1) → W p l e rX11_item s m args below meth c H locs 0 0 Q (F0 m pc ls [.int r])) {H : Heap} {locs : List Loc} {ls : Array Slot} (hP : gw_P X s0 H) (hS : va_S (gw_A X) s.heap H locs) (hl : lv_has ls 7 [(0, .ref (X.1 63)), (1, .int a1), (2, .int a2), (3, .int a3), (4, .long a4)]) : W p l e rX11_item s m args below meth c H locs 0 0 Q (F0 m 0 ls []) := by
  obtain ⟨hx, hb, hml, hown, hts, hr, hlocks, hC⟩ := id C0
  unfold pX11_item at h
  refine lv_iload_n hx hb dX11_item_0 rfl (lv_at hl 1 rfl) ?_
  refine lv_iload_n hx hb dX11_item_1 rfl (lv_at hl 2 rfl) ?_
  refine gv_ri (gv_runS (n := 2) (rest := []) C0 (mX11_isSheet l X s0 a1 a2) gX11_item_X11_isSheet rfl ⟨rfl, rfl⟩ (by decide +kernel) ⟨by decide, by decide⟩ hP hS rfl hl.1 rfl (Nat.le_of_ble_eq_true rfl) dX11_item_2 ⟨Nat.zero_le _, Nat.zero_le _⟩) hS (fun H locs hP hS => ?_)
  refine lv_if_ne (tgt := 10) hx hb dX11_item_5 (by decide) (fun hc => ?_) (fun hc => ?_)
  · have h := gv_neg hc h
    refine lv_aload_n hx hb dX11_item_10 rfl (lv_at hl 0 rfl) ?_
    refine lv_iload_n hx hb dX11_item_11 rfl (lv_at hl 1 rfl) ?_
    refine lv_iload_n hx hb dX11_item_12 rfl (lv_at hl 2 rfl) ?_
    refine lv_iload_n hx hb dX11_item_13 rfl (lv_at hl 3 rfl) ?_
    refine lv_iconst (v := 1) hx hb dX11_item_14 (by decide) ?_
    obtain ⟨v1, hv1, h⟩ := gv_bind_e h
    refine gv_ri (gv_runV (n := 4) (rest := []) C0 (mX11_lacksRow l X s0 a1 a2 a3 (1 : Int32) hv1) gX11_item_X11_lacksRow rfl ⟨rfl, rfl⟩ (by decide +kernel) ⟨by decide, by decide⟩ gk_63.1 (by decide) rfl hP hS rfl hl.1 rfl (Nat.le_of_ble_eq_true rfl) dX11_item_15 ⟨Nat.zero_le _, Nat.zero_le _⟩) hS (fun H locs hP hS => ?_)
    refine lv_istore (lv' := [(6, .int v1), (0, .ref (X.1 63)), (1, .int a1), (2, .int a2), (3, .int a3), (4, .long a4)]) hx hb dX11_item_18 hl (by decide) rfl (fun ls hl => ?_)
    refine lv_iload hx hb dX11_item_20 (lv_at hl 0 rfl) ?_
    refine lv_if_ge (tgt := 28) hx hb dX11_item_22 (by decide) (fun hc => ?_) (fun hc => ?_)
    · have h := gv_pos hc h
      refine lv_aload_n hx hb dX11_item_28 rfl (lv_at hl 1 rfl) ?_
      refine gv_get (ref := "IceByEarModel") (C := RX11) (T := TX11) (N := 28) (ci := 11) (v := .ref (X.1 83)) C0 (fun _ h9 => List.mem_cons_of_mem _ (List.mem_append_right _ h9)) hP 63 (gw_o11 X s0 gk_63.1) rfl 27 (by decide) (by decide +kernel) rfl rfl dX11_item_29 ?_
      refine lv_bipush (v := 24) hx hb dX11_item_32 (by decide) ?_
      refine lv_iload_n hx hb dX11_item_34 rfl (lv_at hl 2 rfl) ?_
      refine lv_imul hx hb dX11_item_35 ?_
      refine lv_iload_n hx hb dX11_item_36 rfl (lv_at hl 4 rfl) ?_
      refine lv_iadd hx hb dX11_item_37 ?_
      refine lv_iload_n hx hb dX11_item_38 rfl (lv_at hl 3 rfl) ?_
      refine lv_if_ne (tgt := 57) hx hb dX11_item_39 (by decide) (fun hc => ?_) (fun hc => ?_)
      · have h := gv_neg hc h
        refine lv_iload_n hx hb dX11_item_57 rfl (lv_at hl 3 rfl) ?_
        refine lv_iconst (v := 1) hx hb dX11_item_58 (by decide) ?_
        refine lv_icmp_ne (tgt := 73) hx hb dX11_item_59 (by decide) (fun hc => ?_) (fun hc => ?_)
        · have h := gv_neg hc h
          refine lv_lload hx hb dX11_item_73 (lv_at hl 5 rfl) ?_
          obtain ⟨hin2, h⟩ := gv_in_e h
          refine gv_last C0 hP hS 83 gk_83.1 gk_83.2 hin2 dX11_item_75 (fun s3 H locs es3 hP hS => ?_)
          have h := gv_let_e es3 h
          refine lv_iconst (v := 1) hx hb dX11_item_76 (by decide) ?_
          exact Kr _ _ _ _ _ _ (gv_inj h) hP hS dX11_item_77
        · have h := gv_pos hc h
          refine lv_lload hx hb dX11_item_62 (lv_at hl 5 rfl) ?_
          refine lv_bipush (v := 56) hx hb dX11_item_64 (by decide) ?_
          refine lv_lshl hx hb dX11_item_66 rfl ?_
          refine lv_bipush (v := 56) hx hb dX11_item_67 (by decide) ?_
          refine lv_lshr hx hb dX11_item_69 rfl ?_
          refine lv_goto (tgt := 75) hx hb dX11_item_70 (by decide) ?_
          obtain ⟨hin4, h⟩ := gv_in_e h
          refine gv_last C0 hP hS 83 gk_83.1 gk_83.2 hin4 dX11_item_75 (fun s5 H locs es5 hP hS => ?_)
          have h := gv_let_e es5 h
          refine lv_iconst (v := 1) hx hb dX11_item_76 (by decide) ?_
          exact Kr _ _ _ _ _ _ (gv_inj h) hP hS dX11_item_77
      · have h := gv_pos hc h
        refine lv_lload hx hb dX11_item_42 (lv_at hl 5 rfl) ?_
        refine lv_lconst (v := 0) hx hb dX11_item_44 (by decide) ?_
        refine W.lcmp hx hb dX11_item_45 ?_
        refine lv_if_ne (tgt := 53) hx hb dX11_item_46 (by decide) (fun hc => ?_) (fun hc => ?_)
        · have h := gv_neg hc h
          refine lv_lconst (v := 1) hx hb dX11_item_53 (by decide) ?_
          refine lv_goto (tgt := 75) hx hb dX11_item_54 (by decide) ?_
          obtain ⟨hin6, h⟩ := gv_in_e h
          refine gv_last C0 hP hS 83 gk_83.1 gk_83.2 hin6 dX11_item_75 (fun s7 H locs es7 hP hS => ?_)
          have h := gv_let_e es7 h
          refine lv_iconst (v := 1) hx hb dX11_item_76 (by decide) ?_
          exact Kr _ _ _ _ _ _ (gv_inj h) hP hS dX11_item_77
        · have h := gv_pos hc h
          refine lv_lconst (v := 0) hx hb dX11_item_49 (by decide) ?_
          refine lv_goto (tgt := 75) hx hb dX11_item_50 (by decide) ?_
          obtain ⟨hin8, h⟩ := gv_in_e h
          refine gv_last C0 hP hS 83 gk_83.1 gk_83.2 hin8 dX11_item_75 (fun s9 H locs es9 hP hS => ?_)
          have h := gv_let_e es9 h
          refine lv_iconst (v := 1) hx hb dX11_item_76 (by decide) ?_
          exact Kr _ _ _ _ _ _ (gv_inj h) hP hS dX11_item_77
    · have h := gv_neg hc h
      refine lv_iload hx hb dX11_item_25 (lv_at hl 0 rfl) ?_
      exact Kr _ _ _ _ _ _ (gv_inj h) hP hS dX11_item_27
  · have h := gv_pos hc h
    refine lv_iconst (v := -1) hx hb dX11_item_8 (by decide) ?_
    exact Kr _ _ _ _ _ _ (gv_inj h) hP hS dX11_item_9
theorem mX11_item (l : Launch) (X : gw_X) (s0 : gs_S) (a1 : Int32) (a2 : Int32) (a3 : Int32) (a4 : Int64) {r : Int32} {τ : gs_S} (h : pX11_item a1 a2 a3 a4 s0 = some (r, τ)) : Met l yX11_item wsX11_item rX11_item (gm_Pc X s0 [.ref (X.1 63), .int a1, .int a2, .int a3, .long a4]) (gm_Qi X τ r) 0 0 (gw_A X) :=
  gm_of RX11 (by decide) rfl rfl (Nat.le_of_ble_eq_true rfl) (fun p e s m below meth c ls C0 hP hl hS => tX11_item C0 a1 a2 a3 a4 s0 h (fun H locs ls pc r τ hr hP hS hd => by cases hr; exact gm_reti C0 hP hS hd) hP hS hl)
