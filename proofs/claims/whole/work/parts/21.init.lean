/-! CONSTRUCTORS, laid by wip/gen_init.py -/
def gs_t30 (j : Nat) : Int32 := if j < 64 then 30 else 0
set_option maxHeartbeats 4000000 in
set_option maxRecDepth 100000 in
theorem iJ7_range (l : Launch) (X : gw_X) (sz : Nat) : Met l yJ7_rangeCheck_23922 wsJ7_rangeCheck_23922 { frames := 0, cells := 0, slots := 0, locals := 0 } (gi_Pc X sz [] [.int 320, .int 0, .int 64]) (gi_QA X (va_A [] sz) 0 (fun _ => [])) 0 0 (va_A [] sz) := by
  refine gi_of RJ7 (by decide) rfl rfl (Nat.le_of_ble_eq_true rfl) (fun p e s m below meth c ls A hx hb hml hown hts hr hlocks hin hC hA hP hD hS hl => ?_)
  have hl : lv_has ls 3 [(0, .int 320), (1, .int 0), (2, .int 64)] := hl
  refine lv_iload_n hx hb dJ7_rangeCheck_23922_0 rfl (lv_at hl 1 rfl) ?_
  refine lv_iload_n hx hb dJ7_rangeCheck_23922_1 rfl (lv_at hl 2 rfl) ?_
  refine lv_icmp_le (tgt := 46) hx hb dJ7_rangeCheck_23922_2 (by decide) (fun hc => ?_) (fun hc => absurd (by decide) hc)
  refine lv_iload_n hx hb dJ7_rangeCheck_23922_46 rfl (lv_at hl 1 rfl) ?_
  refine lv_if_ge (tgt := 59) hx hb dJ7_rangeCheck_23922_47 (by decide) (fun hc => ?_) (fun hc => absurd (by decide) hc)
  refine lv_iload_n hx hb dJ7_rangeCheck_23922_59 rfl (lv_at hl 2 rfl) ?_
  refine lv_iload_n hx hb dJ7_rangeCheck_23922_60 rfl (lv_at hl 0 rfl) ?_
  refine lv_icmp_le (tgt := 73) hx hb dJ7_rangeCheck_23922_61 (by decide) (fun hc => ?_) (fun hc => absurd (by decide) hc)
  exact gi_ret (sh := fun _ => []) hx hb hr hlocks (fun _ => 0) rfl hP hD hS dJ7_rangeCheck_23922_73
def gs_t30n (n : Nat) (j : Nat) : Int32 := if j < n then 30 else 0
theorem gs_t30n_up (n : Nat) : upd (gs_t30n n) n 30 = gs_t30n (n + 1) := by
  funext j
  unfold upd gs_t30n
  by_cases h : j = n
  · subst h; simp
  · rw [if_neg h]
    by_cases h2 : j < n
    · rw [if_pos h2, if_pos (by omega)]
    · rw [if_neg h2, if_neg (by omega)]
set_option maxHeartbeats 4000000 in
set_option maxRecDepth 100000 in
theorem iJ7_fill (l : Launch) (X : gw_X) (a sz : Nat) : Met l yJ7_fill_fda19 wsJ7_fill_fda19 { frames := 1, cells := 0, slots := 0, locals := 22 } (gi_Pc X sz [(a, .inl (X.2.2 1, 320, .inl (fun _ => 0)))] [.ref a, .int 0, .int 64, .int 30]) (gi_QA X (va_A [(a, .inl (X.2.2 1, 320, .inl (fun _ => 0)))] sz) a (fun u => [(u 0, .inl (X.2.2 1, 320, .inl gs_t30))])) 0 0 (va_A [(a, .inl (X.2.2 1, 320, .inl (fun _ => 0)))] sz) := by
  refine gi_of RJ7 (by decide) rfl rfl (Nat.le_of_ble_eq_true rfl) (fun p e s m below meth c ls A hx hb hml hown hts hr hlocks hin hC hA hP hD hS hl => ?_)
  have hl : lv_has ls 5 [(0, .ref a), (1, .int 0), (2, .int 64), (3, .int 30)] := hl
  refine lv_aload_n hx hb dJ7_fill_fda19_0 rfl (lv_at hl 0 rfl) ?_
  refine va_alen (v := 320) hx hb hC.1 hP 0 1 rfl (ty := .int) rfl (by decide) dJ7_fill_fda19_1 ?_
  refine lv_iload_n hx hb dJ7_fill_fda19_2 rfl (lv_at hl 1 rfl) ?_
  refine lv_iload_n hx hb dJ7_fill_fda19_3 rfl (lv_at hl 2 rfl) ?_
  have hPc : va_P X.2.1 vwCl [] s.heap := hP.sub [] rfl
  have hDc : va_D A [] := hD.sub [] (by decide) rfl
  have hFc := va_free (wc := []) hD hS hA [] rfl
  refine va_callv (va_runS (As := [.int 320, .int 0, .int 64]) (rest := []) ⟨hx, hb, hml, hown, hts⟩ (iJ7_range l X s.heap.size) (va_cwS 3 hts gJ7_fill_fda19_J7_rangeCheck_23922 rfl rfl rfl (by decide +kernel) ⟨by decide, by decide⟩) ⟨gi_blind X _ _ _, fun U hU hW => ⟨rfl, by rw [hU], by rw [hU]; exact hPc, hC.go hW, hDc.weaken (fun _ _ _ _ => trivial)⟩⟩ rfl rfl hl.1 rfl (lv_room (Nat.le_of_ble_eq_true rfl)) dJ7_fill_fda19_4 ⟨Nat.zero_le _, Nat.zero_le _⟩) hS (fun q _ h => hFc q h) hFc (fun u t H1 locs ht hvm hw hB hz1 hk1 hS => ?_)
  obtain ⟨hP, hD⟩ := va_join (wr := [(a, .inl (X.2.2 1, 320, .inl (fun _ => 0)))]) (w1 := []) hP hD [] [0] rfl rfl (by decide) (by decide) hk1 hFc (fun k q h => by simp at h) ⟨fun i j p q h => by simp at h, fun k q h => by simp at h⟩
  generalize H1 = H at hP hS ⊢
  have hP : va_P X.2.1 vwCl [(a, .inl (X.2.2 1, 320, .inl (gs_t30n 0)))] H := hP
  have hD : va_D A [(a, .inl (X.2.2 1, 320, .inl (gs_t30n 0)))] := hD
  refine lv_iload_n hx hb dJ7_fill_fda19_7 rfl (lv_at hl 1 rfl) ?_
  refine lv_istore (lv' := [(4, .int 0), (0, .ref a), (1, .int 0), (2, .int 64), (3, .int 30)]) hx hb dJ7_fill_fda19_8 hl (by decide) rfl (fun ls hl => ?_)
  have loop : ∀ (k n : Nat), n + k = 64 → ∀ (H : Heap) (locs : List Loc) (ls : Array Slot), va_P X.2.1 vwCl [(a, .inl (X.2.2 1, 320, .inl (gs_t30n n)))] H → va_D A [(a, .inl (X.2.2 1, 320, .inl (gs_t30n n)))] → va_S A s.heap H locs → lv_has ls 5 [(4, .int (nI n)), (0, .ref a), (2, .int 64), (3, .int 30)] → W p l e { frames := 1, cells := 0, slots := 0, locals := 22 } s m [.ref a, .int 0, .int 64, .int 30].toArray below meth c H locs 0 0 (MQ below (gi_QA X A a (fun u => [(u 0, .inl (X.2.2 1, 320, .inl gs_t30))])) [.ref a, .int 0, .int 64, .int 30].toArray s 0 0 A) (F0 m 10 ls []) := by
    intro k
    induction k with
    | zero =>
      intro n hn H locs ls hP hD hS hl
      have hn : n = 64 := by omega
      subst hn
      refine lv_iload hx hb dJ7_fill_fda19_10 (lv_at hl 0 rfl) ?_
      refine lv_iload_n hx hb dJ7_fill_fda19_12 rfl (lv_at hl 2 rfl) ?_
      refine lv_icmp_ge (tgt := 27) hx hb dJ7_fill_fda19_13 (by decide) (fun hc => ?_) (fun hc => absurd (by decide) hc)
      exact gi_ret (sh := fun u => [(u 0, .inl (X.2.2 1, 320, .inl gs_t30))]) hx hb hr hlocks (fun _ => a) rfl hP hD hS dJ7_fill_fda19_27
    | succ k ih =>
      intro n hn H locs ls hP hD hS hl
      have hlt : n < 64 := by omega
      refine lv_iload hx hb dJ7_fill_fda19_10 (lv_at hl 0 rfl) ?_
      refine lv_iload_n hx hb dJ7_fill_fda19_12 rfl (lv_at hl 2 rfl) ?_
      refine lv_icmp_ge (tgt := 27) hx hb dJ7_fill_fda19_13 (by decide) (fun hc => absurd hc ((show ∀ n, n < 64 → ¬ (64 : Int32) ≤ nI n by decide +kernel) n hlt)) (fun hc => ?_)
      refine lv_aload_n hx hb dJ7_fill_fda19_16 rfl (lv_at hl 1 rfl) ?_
      refine lv_iload hx hb dJ7_fill_fda19_17 (lv_at hl 0 rfl) ?_
      refine lv_iload_n hx hb dJ7_fill_fda19_19 rfl (lv_at hl 3 rfl) ?_
      refine va_iast hx hb hC.1 hP hD hS 0 1 rfl rfl (vp_in_nI (by omega) (by decide)) dJ7_fill_fda19_20 (fun H locs hP hD hS => ?_)
      have eN : (nI n).toNatClampNeg = n := nI_clamp (by omega)
      rw [eN, gs_t30n_up] at hP hD
      obtain ⟨v, ev⟩ : ∃ v : Int32, v = nI (n + 1) := ⟨_, rfl⟩
      refine lv_iinc (v := v) (lv' := [(4, .int v), (0, .ref a), (2, .int 64), (3, .int 30)]) hx hb dJ7_fill_fda19_21 hl (k := 0) rfl (by rw [ev, ← nI_1]; rfl) (by decide) rfl (fun ls hl => ?_)
      refine lv_goto (tgt := 10) hx hb dJ7_fill_fda19_24 (by decide) ?_
      subst ev
      exact ih (n + 1) (by omega) H locs ls hP hD hS hl
  exact loop 64 0 rfl H locs ls hP hD hS (lv_sub hl [0, 1, 3, 4] rfl)
theorem gi_sheets {X : gw_X} {A : Nat → Prop} {ws : va_W} {H : Heap} {f g : Nat → Option Nat} (k : Nat) {q : Nat} (hfg : ∀ j, j < 4 → f j = g j) (he : ws[k]? = some (q, .inl (X.2.2 4, 4, .inr (.inr (.inr (.inr f)))))) (hP : va_P X.2.1 vwCl ws H) (hD : va_D A ws) : va_P X.2.1 vwCl (ws.set k (q, .inl (X.2.2 4, 4, .inr (.inr (.inr (.inr g)))))) H ∧ va_D A (ws.set k (q, .inl (X.2.2 4, 4, .inr (.inr (.inr (.inr g)))))) := by
  refine ⟨hP.set hD he ?_ (fun _ _ => rfl), hD.set he⟩
  have h1 : H[q]? = some (vp_cell (X.2.2 4) (4, .inr (.inr (.inr (.inr f))))) := hP k _ he
  show H[q]? = some (vp_cell (X.2.2 4) (4, .inr (.inr (.inr (.inr g)))))
  rw [h1]
  congr 1
  show arrV _ 4 (fun j => va_rf (f j)) = arrV _ 4 (fun j => va_rf (g j))
  unfold arrV
  congr 2
  funext j
  show va_rf (f j.val) = va_rf (g j.val)
  rw [hfg j.val j.isLt]
theorem gi_apl {α : Type} {A B : List α} {k : Nat} {x : α} (h : A[k]? = some x) : (A ++ B)[k]? = some x := by rw [List.getElem?_append_left (List.getElem?_eq_some_iff.mp h).1]; exact h
theorem gi_setl {α : Type} {A B : List α} {k : Nat} {x y : α} (h : A[k]? = some x) : (A ++ B).set k y = A.set k y ++ B := by rw [List.set_append_left _ _ (List.getElem?_eq_some_iff.mp h).1]
theorem gi_last {α : Type} (L : List α) (x : α) : (L ++ [x])[L.length]? = some x := by simp
theorem gi_setlast {α : Type} (L : List α) (x y : α) : (L ++ [x]).set L.length y = L ++ [y] := by simp
theorem gi_hd {α : Type} (A : List α) (y : α) (B : List α) : (A ++ (y :: B))[A.length]? = some y := by simp
theorem gi_sheets4 {X : gw_X} {A : Nat → Prop} {L B0 B1 B2 B3 : va_W} {H : Heap} {f g : Nat → Option Nat} {q : Nat} (hfg : ∀ j, j < 4 → f j = g j) (hP : va_P X.2.1 vwCl (L ++ [(q, .inl (X.2.2 4, 4, .inr (.inr (.inr (.inr f)))))] ++ B0 ++ B1 ++ B2 ++ B3) H) (hD : va_D A (L ++ [(q, .inl (X.2.2 4, 4, .inr (.inr (.inr (.inr f)))))] ++ B0 ++ B1 ++ B2 ++ B3)) : va_P X.2.1 vwCl (L ++ [(q, .inl (X.2.2 4, 4, .inr (.inr (.inr (.inr g)))))] ++ B0 ++ B1 ++ B2 ++ B3) H ∧ va_D A (L ++ [(q, .inl (X.2.2 4, 4, .inr (.inr (.inr (.inr g)))))] ++ B0 ++ B1 ++ B2 ++ B3) := by
  have h0 := gi_last L ((q, .inl (X.2.2 4, 4, .inr (.inr (.inr (.inr f))))) : Nat × va_E)
  have h1 := gi_apl (B := B0) h0
  have h2 := gi_apl (B := B1) h1
  have h3 := gi_apl (B := B2) h2
  have h4 := gi_apl (B := B3) h3
  have k9 := gi_sheets L.length hfg h4 hP hD
  rw [gi_setl h3, gi_setl h2, gi_setl h1, gi_setl h0, gi_setlast] at k9
  exact k9
def shX9 (X : gw_X) (u : Nat → Nat) : va_W := [(u 0, .inr (9, [.ref (u 1), .int (0 : Int32)]))] ++ [(u 1, .inl (X.2.2 1, 24, .inl (fun _ => 0)))]
set_option maxHeartbeats 4000000 in
set_option maxRecDepth 100000 in
theorem iX9 (l : Launch) (X : gw_X) (h0 sz : Nat) : Met l yX9_init wsX9_init { frames := 1, cells := 1, slots := 24, locals := 12 } (gi_Pc X sz [(h0, .inr (9, [.null, .int 0]))] [.ref h0]) (gi_QA X (va_A [(h0, .inr (9, [.null, .int 0]))] sz) h0 (shX9 X)) 1 24 (va_A [(h0, .inr (9, [.null, .int 0]))] sz) := by
  refine gi_of RX9 (by decide) rfl rfl (Nat.le_of_ble_eq_true rfl) (fun p e s m below meth c ls A hx hb hml hown hts hr hlocks hin hC hA hP hD hS hl => ?_)
  have hl : lv_has ls 1 [(0, .ref h0)] := hl
  refine lv_aload_n hx hb dX9_init_0 rfl (lv_at hl 0 rfl) ?_
  refine W.objInit hx hb hown (hts (.methodLink RX9 3 objectInit) (by decide +kernel)) (hts (.instanceMethod objectInit) (by decide +kernel)) (hts _ (List.mem_cons_of_mem _ (List.mem_append_left _ (List.mem_of_getElem? (i := 2) rfl)))) rfl (by rw [hml]; exact hl.1) rfl dX9_init_1 (Nat.le_of_ble_eq_true rfl) (Nat.le_of_ble_eq_true rfl) ?_
  refine W.eq (g2 := F0 m 4 ls []) rfl ?_
  refine lv_aload_n hx hb dX9_init_4 rfl (lv_at hl 0 rfl) ?_
  refine lv_bipush (v := 24) hx hb dX9_init_5 (by decide) ?_
  refine gi_newai hx hb (hts (.arrayClass .int) (by decide +kernel)) hC.1 hP hD hS hA (N' := 24) (by decide) (by decide) (by decide) (Nat.le_of_ble_eq_true rfl) (Nat.le_of_ble_eq_true rfl) dX9_init_7 (fun q1 H hP hD hS => ?_)
  have hP : va_P X.2.1 vwCl ([(h0, .inr (9, [.null, .int 0]))] ++ [(q1, .inl (X.2.2 1, 24, .inl (fun _ => 0)))]) H := hP
  have hD : va_D A ([(h0, .inr (9, [.null, .int 0]))] ++ [(q1, .inl (X.2.2 1, 24, .inl (fun _ => 0)))]) := hD
  refine va_putF (D := X.2.1) (ci := 9) (v := .ref q1) (ty := tyX9 0) (C := RX9) (T := TX9) (N := 2) hx hb hts (fun _ h9 => List.mem_cons_of_mem _ (List.mem_append_right _ h9)) tyX9 tyX9_ok nmX9 hown hC.1 hP hD hS 0 rfl rfl 0 (by decide) (hts (.fieldLink RX9 9 "IceByEar$Way" "squares" "[I") (by decide +kernel)) (fun _ h9 => h9) rfl hin rfl (tyX9_ok 0 (by decide)) rfl rfl (Nat.le_of_ble_eq_true rfl) dX9_init_9 (fun H locs hP hD hS => ?_)
  have hP : va_P X.2.1 vwCl ([(h0, .inr (9, [.ref q1, .int 0]))] ++ [(q1, .inl (X.2.2 1, 24, .inl (fun _ => 0)))]) H := hP
  have hD : va_D A ([(h0, .inr (9, [.ref q1, .int 0]))] ++ [(q1, .inl (X.2.2 1, 24, .inl (fun _ => 0)))]) := hD
  refine lv_aload_n hx hb dX9_init_12 rfl (lv_at hl 0 rfl) ?_
  refine lv_iconst (v := 0) hx hb dX9_init_13 (by decide) ?_
  refine va_put (D := X.2.1) (ci := 9) (v := .int (0 : Int32)) (ty := tyX9 1) (C := RX9) (T := TX9) (N := 2) hx hb hts (fun _ h9 => List.mem_cons_of_mem _ (List.mem_append_right _ h9)) tyX9 tyX9_ok nmX9 hown hC.1 hP hD hS 0 rfl rfl 1 (by decide) (hts (.fieldLink RX9 15 "IceByEar$Way" "size" "I") (by decide +kernel)) (fun _ h9 => h9) rfl (tyX9_ok 1 (by decide)) rfl rfl (Nat.le_of_ble_eq_true rfl) dX9_init_14 (fun H locs hP hD hS => ?_)
  have hP : va_P X.2.1 vwCl ([(h0, .inr (9, [.ref q1, .int (0 : Int32)]))] ++ [(q1, .inl (X.2.2 1, 24, .inl (fun _ => 0)))]) H := hP
  have hD : va_D A ([(h0, .inr (9, [.ref q1, .int (0 : Int32)]))] ++ [(q1, .inl (X.2.2 1, 24, .inl (fun _ => 0)))]) := hD
  exact gi_ret (sh := shX9 X) hx hb hr hlocks (fun k => if k = 0 then h0 else if k < 2 then q1 else 0) rfl hP hD hS dX9_init_17
def shX8 (X : gw_X) (u : Nat → Nat) : va_W := [(u 0, .inr (8, [.ref (u 1), .ref (u 2), .ref (u 3), .int (0 : Int32)]))] ++ [(u 1, .inl (X.2.2 1, 6, .inl (fun _ => 0)))] ++ [(u 2, .inl (X.2.2 1, 6, .inl (fun _ => 0)))] ++ [(u 3, .inl (X.2.2 1, 6, .inl (fun _ => 0)))]
set_option maxHeartbeats 4000000 in
set_option maxRecDepth 100000 in
theorem iX8 (l : Launch) (X : gw_X) (h0 sz : Nat) : Met l yX8_init wsX8_init { frames := 1, cells := 3, slots := 18, locals := 12 } (gi_Pc X sz [(h0, .inr (8, [.null, .null, .null, .int 0]))] [.ref h0]) (gi_QA X (va_A [(h0, .inr (8, [.null, .null, .null, .int 0]))] sz) h0 (shX8 X)) 3 18 (va_A [(h0, .inr (8, [.null, .null, .null, .int 0]))] sz) := by
  refine gi_of RX8 (by decide) rfl rfl (Nat.le_of_ble_eq_true rfl) (fun p e s m below meth c ls A hx hb hml hown hts hr hlocks hin hC hA hP hD hS hl => ?_)
  have hl : lv_has ls 1 [(0, .ref h0)] := hl
  refine lv_aload_n hx hb dX8_init_0 rfl (lv_at hl 0 rfl) ?_
  refine W.objInit hx hb hown (hts (.methodLink RX8 3 objectInit) (by decide +kernel)) (hts (.instanceMethod objectInit) (by decide +kernel)) (hts _ (List.mem_cons_of_mem _ (List.mem_append_left _ (List.mem_of_getElem? (i := 2) rfl)))) rfl (by rw [hml]; exact hl.1) rfl dX8_init_1 (Nat.le_of_ble_eq_true rfl) (Nat.le_of_ble_eq_true rfl) ?_
  refine W.eq (g2 := F0 m 4 ls []) rfl ?_
  refine lv_aload_n hx hb dX8_init_4 rfl (lv_at hl 0 rfl) ?_
  refine lv_bipush (v := 6) hx hb dX8_init_5 (by decide) ?_
  refine gi_newai hx hb (hts (.arrayClass .int) (by decide +kernel)) hC.1 hP hD hS hA (N' := 6) (by decide) (by decide) (by decide) (Nat.le_of_ble_eq_true rfl) (Nat.le_of_ble_eq_true rfl) dX8_init_7 (fun q1 H hP hD hS => ?_)
  have hP : va_P X.2.1 vwCl ([(h0, .inr (8, [.null, .null, .null, .int 0]))] ++ [(q1, .inl (X.2.2 1, 6, .inl (fun _ => 0)))]) H := hP
  have hD : va_D A ([(h0, .inr (8, [.null, .null, .null, .int 0]))] ++ [(q1, .inl (X.2.2 1, 6, .inl (fun _ => 0)))]) := hD
  refine va_putF (D := X.2.1) (ci := 8) (v := .ref q1) (ty := tyX8 0) (C := RX8) (T := TX8) (N := 4) hx hb hts (fun _ h9 => List.mem_cons_of_mem _ (List.mem_append_right _ h9)) tyX8 tyX8_ok nmX8 hown hC.1 hP hD hS 0 rfl rfl 0 (by decide) (hts (.fieldLink RX8 9 "IceByEar$Train" "loads" "[I") (by decide +kernel)) (fun _ h9 => h9) rfl hin rfl (tyX8_ok 0 (by decide)) rfl rfl (Nat.le_of_ble_eq_true rfl) dX8_init_9 (fun H locs hP hD hS => ?_)
  have hP : va_P X.2.1 vwCl ([(h0, .inr (8, [.ref q1, .null, .null, .int 0]))] ++ [(q1, .inl (X.2.2 1, 6, .inl (fun _ => 0)))]) H := hP
  have hD : va_D A ([(h0, .inr (8, [.ref q1, .null, .null, .int 0]))] ++ [(q1, .inl (X.2.2 1, 6, .inl (fun _ => 0)))]) := hD
  refine lv_aload_n hx hb dX8_init_12 rfl (lv_at hl 0 rfl) ?_
  refine lv_bipush (v := 6) hx hb dX8_init_13 (by decide) ?_
  refine gi_newai hx hb (hts (.arrayClass .int) (by decide +kernel)) hC.1 hP hD hS hA (N' := 6) (by decide) (by decide) (by decide) (Nat.le_of_ble_eq_true rfl) (Nat.le_of_ble_eq_true rfl) dX8_init_15 (fun q2 H hP hD hS => ?_)
  have hP : va_P X.2.1 vwCl ([(h0, .inr (8, [.ref q1, .null, .null, .int 0]))] ++ [(q1, .inl (X.2.2 1, 6, .inl (fun _ => 0)))] ++ [(q2, .inl (X.2.2 1, 6, .inl (fun _ => 0)))]) H := hP
  have hD : va_D A ([(h0, .inr (8, [.ref q1, .null, .null, .int 0]))] ++ [(q1, .inl (X.2.2 1, 6, .inl (fun _ => 0)))] ++ [(q2, .inl (X.2.2 1, 6, .inl (fun _ => 0)))]) := hD
  refine va_putF (D := X.2.1) (ci := 8) (v := .ref q2) (ty := tyX8 1) (C := RX8) (T := TX8) (N := 4) hx hb hts (fun _ h9 => List.mem_cons_of_mem _ (List.mem_append_right _ h9)) tyX8 tyX8_ok nmX8 hown hC.1 hP hD hS 0 rfl rfl 1 (by decide) (hts (.fieldLink RX8 15 "IceByEar$Train" "paces" "[I") (by decide +kernel)) (fun _ h9 => h9) rfl hin rfl (tyX8_ok 1 (by decide)) rfl rfl (Nat.le_of_ble_eq_true rfl) dX8_init_17 (fun H locs hP hD hS => ?_)
  have hP : va_P X.2.1 vwCl ([(h0, .inr (8, [.ref q1, .ref q2, .null, .int 0]))] ++ [(q1, .inl (X.2.2 1, 6, .inl (fun _ => 0)))] ++ [(q2, .inl (X.2.2 1, 6, .inl (fun _ => 0)))]) H := hP
  have hD : va_D A ([(h0, .inr (8, [.ref q1, .ref q2, .null, .int 0]))] ++ [(q1, .inl (X.2.2 1, 6, .inl (fun _ => 0)))] ++ [(q2, .inl (X.2.2 1, 6, .inl (fun _ => 0)))]) := hD
  refine lv_aload_n hx hb dX8_init_20 rfl (lv_at hl 0 rfl) ?_
  refine lv_bipush (v := 6) hx hb dX8_init_21 (by decide) ?_
  refine gi_newai hx hb (hts (.arrayClass .int) (by decide +kernel)) hC.1 hP hD hS hA (N' := 6) (by decide) (by decide) (by decide) (Nat.le_of_ble_eq_true rfl) (Nat.le_of_ble_eq_true rfl) dX8_init_23 (fun q3 H hP hD hS => ?_)
  have hP : va_P X.2.1 vwCl ([(h0, .inr (8, [.ref q1, .ref q2, .null, .int 0]))] ++ [(q1, .inl (X.2.2 1, 6, .inl (fun _ => 0)))] ++ [(q2, .inl (X.2.2 1, 6, .inl (fun _ => 0)))] ++ [(q3, .inl (X.2.2 1, 6, .inl (fun _ => 0)))]) H := hP
  have hD : va_D A ([(h0, .inr (8, [.ref q1, .ref q2, .null, .int 0]))] ++ [(q1, .inl (X.2.2 1, 6, .inl (fun _ => 0)))] ++ [(q2, .inl (X.2.2 1, 6, .inl (fun _ => 0)))] ++ [(q3, .inl (X.2.2 1, 6, .inl (fun _ => 0)))]) := hD
  refine va_putF (D := X.2.1) (ci := 8) (v := .ref q3) (ty := tyX8 2) (C := RX8) (T := TX8) (N := 4) hx hb hts (fun _ h9 => List.mem_cons_of_mem _ (List.mem_append_right _ h9)) tyX8 tyX8_ok nmX8 hown hC.1 hP hD hS 0 rfl rfl 2 (by decide) (hts (.fieldLink RX8 18 "IceByEar$Train" "starts" "[I") (by decide +kernel)) (fun _ h9 => h9) rfl hin rfl (tyX8_ok 2 (by decide)) rfl rfl (Nat.le_of_ble_eq_true rfl) dX8_init_25 (fun H locs hP hD hS => ?_)
  have hP : va_P X.2.1 vwCl ([(h0, .inr (8, [.ref q1, .ref q2, .ref q3, .int 0]))] ++ [(q1, .inl (X.2.2 1, 6, .inl (fun _ => 0)))] ++ [(q2, .inl (X.2.2 1, 6, .inl (fun _ => 0)))] ++ [(q3, .inl (X.2.2 1, 6, .inl (fun _ => 0)))]) H := hP
  have hD : va_D A ([(h0, .inr (8, [.ref q1, .ref q2, .ref q3, .int 0]))] ++ [(q1, .inl (X.2.2 1, 6, .inl (fun _ => 0)))] ++ [(q2, .inl (X.2.2 1, 6, .inl (fun _ => 0)))] ++ [(q3, .inl (X.2.2 1, 6, .inl (fun _ => 0)))]) := hD
  refine lv_aload_n hx hb dX8_init_28 rfl (lv_at hl 0 rfl) ?_
  refine lv_iconst (v := 0) hx hb dX8_init_29 (by decide) ?_
  refine va_put (D := X.2.1) (ci := 8) (v := .int (0 : Int32)) (ty := tyX8 3) (C := RX8) (T := TX8) (N := 4) hx hb hts (fun _ h9 => List.mem_cons_of_mem _ (List.mem_append_right _ h9)) tyX8 tyX8_ok nmX8 hown hC.1 hP hD hS 0 rfl rfl 3 (by decide) (hts (.fieldLink RX8 21 "IceByEar$Train" "size" "I") (by decide +kernel)) (fun _ h9 => h9) rfl (tyX8_ok 3 (by decide)) rfl rfl (Nat.le_of_ble_eq_true rfl) dX8_init_30 (fun H locs hP hD hS => ?_)
  have hP : va_P X.2.1 vwCl ([(h0, .inr (8, [.ref q1, .ref q2, .ref q3, .int (0 : Int32)]))] ++ [(q1, .inl (X.2.2 1, 6, .inl (fun _ => 0)))] ++ [(q2, .inl (X.2.2 1, 6, .inl (fun _ => 0)))] ++ [(q3, .inl (X.2.2 1, 6, .inl (fun _ => 0)))]) H := hP
  have hD : va_D A ([(h0, .inr (8, [.ref q1, .ref q2, .ref q3, .int (0 : Int32)]))] ++ [(q1, .inl (X.2.2 1, 6, .inl (fun _ => 0)))] ++ [(q2, .inl (X.2.2 1, 6, .inl (fun _ => 0)))] ++ [(q3, .inl (X.2.2 1, 6, .inl (fun _ => 0)))]) := hD
  exact gi_ret (sh := shX8 X) hx hb hr hlocks (fun k => if k = 0 then h0 else if k < 2 then q1 else if k < 3 then q2 else if k < 4 then q3 else 0) rfl hP hD hS dX8_init_33
def shX1 (X : gw_X) (u : Nat → Nat) : va_W := [(u 0, .inr (1, [.ref (u 1), .ref (u 2), .ref (u 3), .ref (u 4), .int (0 : Int32)]))] ++ [(u 1, .inl (X.2.2 1, 4, .inl (fun _ => 0)))] ++ [(u 2, .inl (X.2.2 1, 16, .inl (fun _ => 0)))] ++ [(u 3, .inl (X.2.2 1, 16, .inl (fun _ => 0)))] ++ [(u 4, .inl (X.2.2 1, 16, .inl (fun _ => 0)))]
set_option maxHeartbeats 4000000 in
set_option maxRecDepth 100000 in
theorem iX1 (l : Launch) (X : gw_X) (h0 sz : Nat) : Met l yX1_init wsX1_init { frames := 1, cells := 4, slots := 52, locals := 12 } (gi_Pc X sz [(h0, .inr (1, [.null, .null, .null, .null, .int 0]))] [.ref h0]) (gi_QA X (va_A [(h0, .inr (1, [.null, .null, .null, .null, .int 0]))] sz) h0 (shX1 X)) 4 52 (va_A [(h0, .inr (1, [.null, .null, .null, .null, .int 0]))] sz) := by
  refine gi_of RX1 (by decide) rfl rfl (Nat.le_of_ble_eq_true rfl) (fun p e s m below meth c ls A hx hb hml hown hts hr hlocks hin hC hA hP hD hS hl => ?_)
  have hl : lv_has ls 1 [(0, .ref h0)] := hl
  refine lv_aload_n hx hb dX1_init_0 rfl (lv_at hl 0 rfl) ?_
  refine W.objInit hx hb hown (hts (.methodLink RX1 3 objectInit) (by decide +kernel)) (hts (.instanceMethod objectInit) (by decide +kernel)) (hts _ (List.mem_cons_of_mem _ (List.mem_append_left _ (List.mem_of_getElem? (i := 2) rfl)))) rfl (by rw [hml]; exact hl.1) rfl dX1_init_1 (Nat.le_of_ble_eq_true rfl) (Nat.le_of_ble_eq_true rfl) ?_
  refine W.eq (g2 := F0 m 4 ls []) rfl ?_
  refine lv_aload_n hx hb dX1_init_4 rfl (lv_at hl 0 rfl) ?_
  refine lv_iconst (v := 4) hx hb dX1_init_5 (by decide) ?_
  refine gi_newai hx hb (hts (.arrayClass .int) (by decide +kernel)) hC.1 hP hD hS hA (N' := 4) (by decide) (by decide) (by decide) (Nat.le_of_ble_eq_true rfl) (Nat.le_of_ble_eq_true rfl) dX1_init_6 (fun q1 H hP hD hS => ?_)
  have hP : va_P X.2.1 vwCl ([(h0, .inr (1, [.null, .null, .null, .null, .int 0]))] ++ [(q1, .inl (X.2.2 1, 4, .inl (fun _ => 0)))]) H := hP
  have hD : va_D A ([(h0, .inr (1, [.null, .null, .null, .null, .int 0]))] ++ [(q1, .inl (X.2.2 1, 4, .inl (fun _ => 0)))]) := hD
  refine va_putF (D := X.2.1) (ci := 1) (v := .ref q1) (ty := tyX1 0) (C := RX1) (T := TX1) (N := 5) hx hb hts (fun _ h9 => List.mem_cons_of_mem _ (List.mem_append_right _ h9)) tyX1 tyX1_ok nmX1 hown hC.1 hP hD hS 0 rfl rfl 0 (by decide) (hts (.fieldLink RX1 9 "IceByEar$Ears" "slips" "[I") (by decide +kernel)) (fun _ h9 => h9) rfl hin rfl (tyX1_ok 0 (by decide)) rfl rfl (Nat.le_of_ble_eq_true rfl) dX1_init_8 (fun H locs hP hD hS => ?_)
  have hP : va_P X.2.1 vwCl ([(h0, .inr (1, [.ref q1, .null, .null, .null, .int 0]))] ++ [(q1, .inl (X.2.2 1, 4, .inl (fun _ => 0)))]) H := hP
  have hD : va_D A ([(h0, .inr (1, [.ref q1, .null, .null, .null, .int 0]))] ++ [(q1, .inl (X.2.2 1, 4, .inl (fun _ => 0)))]) := hD
  refine lv_aload_n hx hb dX1_init_11 rfl (lv_at hl 0 rfl) ?_
  refine lv_bipush (v := 16) hx hb dX1_init_12 (by decide) ?_
  refine gi_newai hx hb (hts (.arrayClass .int) (by decide +kernel)) hC.1 hP hD hS hA (N' := 16) (by decide) (by decide) (by decide) (Nat.le_of_ble_eq_true rfl) (Nat.le_of_ble_eq_true rfl) dX1_init_14 (fun q2 H hP hD hS => ?_)
  have hP : va_P X.2.1 vwCl ([(h0, .inr (1, [.ref q1, .null, .null, .null, .int 0]))] ++ [(q1, .inl (X.2.2 1, 4, .inl (fun _ => 0)))] ++ [(q2, .inl (X.2.2 1, 16, .inl (fun _ => 0)))]) H := hP
  have hD : va_D A ([(h0, .inr (1, [.ref q1, .null, .null, .null, .int 0]))] ++ [(q1, .inl (X.2.2 1, 4, .inl (fun _ => 0)))] ++ [(q2, .inl (X.2.2 1, 16, .inl (fun _ => 0)))]) := hD
  refine va_putF (D := X.2.1) (ci := 1) (v := .ref q2) (ty := tyX1 1) (C := RX1) (T := TX1) (N := 5) hx hb hts (fun _ h9 => List.mem_cons_of_mem _ (List.mem_append_right _ h9)) tyX1 tyX1_ok nmX1 hown hC.1 hP hD hS 0 rfl rfl 1 (by decide) (hts (.fieldLink RX1 15 "IceByEar$Ears" "hearers" "[I") (by decide +kernel)) (fun _ h9 => h9) rfl hin rfl (tyX1_ok 1 (by decide)) rfl rfl (Nat.le_of_ble_eq_true rfl) dX1_init_16 (fun H locs hP hD hS => ?_)
  have hP : va_P X.2.1 vwCl ([(h0, .inr (1, [.ref q1, .ref q2, .null, .null, .int 0]))] ++ [(q1, .inl (X.2.2 1, 4, .inl (fun _ => 0)))] ++ [(q2, .inl (X.2.2 1, 16, .inl (fun _ => 0)))]) H := hP
  have hD : va_D A ([(h0, .inr (1, [.ref q1, .ref q2, .null, .null, .int 0]))] ++ [(q1, .inl (X.2.2 1, 4, .inl (fun _ => 0)))] ++ [(q2, .inl (X.2.2 1, 16, .inl (fun _ => 0)))]) := hD
  refine lv_aload_n hx hb dX1_init_19 rfl (lv_at hl 0 rfl) ?_
  refine lv_bipush (v := 16) hx hb dX1_init_20 (by decide) ?_
  refine gi_newai hx hb (hts (.arrayClass .int) (by decide +kernel)) hC.1 hP hD hS hA (N' := 16) (by decide) (by decide) (by decide) (Nat.le_of_ble_eq_true rfl) (Nat.le_of_ble_eq_true rfl) dX1_init_22 (fun q3 H hP hD hS => ?_)
  have hP : va_P X.2.1 vwCl ([(h0, .inr (1, [.ref q1, .ref q2, .null, .null, .int 0]))] ++ [(q1, .inl (X.2.2 1, 4, .inl (fun _ => 0)))] ++ [(q2, .inl (X.2.2 1, 16, .inl (fun _ => 0)))] ++ [(q3, .inl (X.2.2 1, 16, .inl (fun _ => 0)))]) H := hP
  have hD : va_D A ([(h0, .inr (1, [.ref q1, .ref q2, .null, .null, .int 0]))] ++ [(q1, .inl (X.2.2 1, 4, .inl (fun _ => 0)))] ++ [(q2, .inl (X.2.2 1, 16, .inl (fun _ => 0)))] ++ [(q3, .inl (X.2.2 1, 16, .inl (fun _ => 0)))]) := hD
  refine va_putF (D := X.2.1) (ci := 1) (v := .ref q3) (ty := tyX1 2) (C := RX1) (T := TX1) (N := 5) hx hb hts (fun _ h9 => List.mem_cons_of_mem _ (List.mem_append_right _ h9)) tyX1 tyX1_ok nmX1 hown hC.1 hP hD hS 0 rfl rfl 2 (by decide) (hts (.fieldLink RX1 18 "IceByEar$Ears" "squares" "[I") (by decide +kernel)) (fun _ h9 => h9) rfl hin rfl (tyX1_ok 2 (by decide)) rfl rfl (Nat.le_of_ble_eq_true rfl) dX1_init_24 (fun H locs hP hD hS => ?_)
  have hP : va_P X.2.1 vwCl ([(h0, .inr (1, [.ref q1, .ref q2, .ref q3, .null, .int 0]))] ++ [(q1, .inl (X.2.2 1, 4, .inl (fun _ => 0)))] ++ [(q2, .inl (X.2.2 1, 16, .inl (fun _ => 0)))] ++ [(q3, .inl (X.2.2 1, 16, .inl (fun _ => 0)))]) H := hP
  have hD : va_D A ([(h0, .inr (1, [.ref q1, .ref q2, .ref q3, .null, .int 0]))] ++ [(q1, .inl (X.2.2 1, 4, .inl (fun _ => 0)))] ++ [(q2, .inl (X.2.2 1, 16, .inl (fun _ => 0)))] ++ [(q3, .inl (X.2.2 1, 16, .inl (fun _ => 0)))]) := hD
  refine lv_aload_n hx hb dX1_init_27 rfl (lv_at hl 0 rfl) ?_
  refine lv_bipush (v := 16) hx hb dX1_init_28 (by decide) ?_
  refine gi_newai hx hb (hts (.arrayClass .int) (by decide +kernel)) hC.1 hP hD hS hA (N' := 16) (by decide) (by decide) (by decide) (Nat.le_of_ble_eq_true rfl) (Nat.le_of_ble_eq_true rfl) dX1_init_30 (fun q4 H hP hD hS => ?_)
  have hP : va_P X.2.1 vwCl ([(h0, .inr (1, [.ref q1, .ref q2, .ref q3, .null, .int 0]))] ++ [(q1, .inl (X.2.2 1, 4, .inl (fun _ => 0)))] ++ [(q2, .inl (X.2.2 1, 16, .inl (fun _ => 0)))] ++ [(q3, .inl (X.2.2 1, 16, .inl (fun _ => 0)))] ++ [(q4, .inl (X.2.2 1, 16, .inl (fun _ => 0)))]) H := hP
  have hD : va_D A ([(h0, .inr (1, [.ref q1, .ref q2, .ref q3, .null, .int 0]))] ++ [(q1, .inl (X.2.2 1, 4, .inl (fun _ => 0)))] ++ [(q2, .inl (X.2.2 1, 16, .inl (fun _ => 0)))] ++ [(q3, .inl (X.2.2 1, 16, .inl (fun _ => 0)))] ++ [(q4, .inl (X.2.2 1, 16, .inl (fun _ => 0)))]) := hD
  refine va_putF (D := X.2.1) (ci := 1) (v := .ref q4) (ty := tyX1 3) (C := RX1) (T := TX1) (N := 5) hx hb hts (fun _ h9 => List.mem_cons_of_mem _ (List.mem_append_right _ h9)) tyX1 tyX1_ok nmX1 hown hC.1 hP hD hS 0 rfl rfl 3 (by decide) (hts (.fieldLink RX1 21 "IceByEar$Ears" "pitches" "[I") (by decide +kernel)) (fun _ h9 => h9) rfl hin rfl (tyX1_ok 3 (by decide)) rfl rfl (Nat.le_of_ble_eq_true rfl) dX1_init_32 (fun H locs hP hD hS => ?_)
  have hP : va_P X.2.1 vwCl ([(h0, .inr (1, [.ref q1, .ref q2, .ref q3, .ref q4, .int 0]))] ++ [(q1, .inl (X.2.2 1, 4, .inl (fun _ => 0)))] ++ [(q2, .inl (X.2.2 1, 16, .inl (fun _ => 0)))] ++ [(q3, .inl (X.2.2 1, 16, .inl (fun _ => 0)))] ++ [(q4, .inl (X.2.2 1, 16, .inl (fun _ => 0)))]) H := hP
  have hD : va_D A ([(h0, .inr (1, [.ref q1, .ref q2, .ref q3, .ref q4, .int 0]))] ++ [(q1, .inl (X.2.2 1, 4, .inl (fun _ => 0)))] ++ [(q2, .inl (X.2.2 1, 16, .inl (fun _ => 0)))] ++ [(q3, .inl (X.2.2 1, 16, .inl (fun _ => 0)))] ++ [(q4, .inl (X.2.2 1, 16, .inl (fun _ => 0)))]) := hD
  refine lv_aload_n hx hb dX1_init_35 rfl (lv_at hl 0 rfl) ?_
  refine lv_iconst (v := 0) hx hb dX1_init_36 (by decide) ?_
  refine va_put (D := X.2.1) (ci := 1) (v := .int (0 : Int32)) (ty := tyX1 4) (C := RX1) (T := TX1) (N := 5) hx hb hts (fun _ h9 => List.mem_cons_of_mem _ (List.mem_append_right _ h9)) tyX1 tyX1_ok nmX1 hown hC.1 hP hD hS 0 rfl rfl 4 (by decide) (hts (.fieldLink RX1 24 "IceByEar$Ears" "size" "I") (by decide +kernel)) (fun _ h9 => h9) rfl (tyX1_ok 4 (by decide)) rfl rfl (Nat.le_of_ble_eq_true rfl) dX1_init_37 (fun H locs hP hD hS => ?_)
  have hP : va_P X.2.1 vwCl ([(h0, .inr (1, [.ref q1, .ref q2, .ref q3, .ref q4, .int (0 : Int32)]))] ++ [(q1, .inl (X.2.2 1, 4, .inl (fun _ => 0)))] ++ [(q2, .inl (X.2.2 1, 16, .inl (fun _ => 0)))] ++ [(q3, .inl (X.2.2 1, 16, .inl (fun _ => 0)))] ++ [(q4, .inl (X.2.2 1, 16, .inl (fun _ => 0)))]) H := hP
  have hD : va_D A ([(h0, .inr (1, [.ref q1, .ref q2, .ref q3, .ref q4, .int (0 : Int32)]))] ++ [(q1, .inl (X.2.2 1, 4, .inl (fun _ => 0)))] ++ [(q2, .inl (X.2.2 1, 16, .inl (fun _ => 0)))] ++ [(q3, .inl (X.2.2 1, 16, .inl (fun _ => 0)))] ++ [(q4, .inl (X.2.2 1, 16, .inl (fun _ => 0)))]) := hD
  exact gi_ret (sh := shX1 X) hx hb hr hlocks (fun k => if k = 0 then h0 else if k < 2 then q1 else if k < 3 then q2 else if k < 4 then q3 else if k < 5 then q4 else 0) rfl hP hD hS dX1_init_40
def shX7 (X : gw_X) (u : Nat → Nat) : va_W := [(u 0, .inr (7, [.ref (u 1), .int (0 : Int32), .int (0 : Int32)]))] ++ [(u 1, .inl (X.2.2 0, 140, .inl (fun _ => 0)))]
set_option maxHeartbeats 4000000 in
set_option maxRecDepth 100000 in
theorem iX7 (l : Launch) (X : gw_X) (h0 sz : Nat) : Met l yX7_init wsX7_init { frames := 1, cells := 1, slots := 140, locals := 12 } (gi_Pc X sz [(h0, .inr (7, [.null, .int 0, .int 0]))] [.ref h0]) (gi_QA X (va_A [(h0, .inr (7, [.null, .int 0, .int 0]))] sz) h0 (shX7 X)) 1 140 (va_A [(h0, .inr (7, [.null, .int 0, .int 0]))] sz) := by
  refine gi_of RX7 (by decide) rfl rfl (Nat.le_of_ble_eq_true rfl) (fun p e s m below meth c ls A hx hb hml hown hts hr hlocks hin hC hA hP hD hS hl => ?_)
  have hl : lv_has ls 1 [(0, .ref h0)] := hl
  refine lv_aload_n hx hb dX7_init_0 rfl (lv_at hl 0 rfl) ?_
  refine W.objInit hx hb hown (hts (.methodLink RX7 3 objectInit) (by decide +kernel)) (hts (.instanceMethod objectInit) (by decide +kernel)) (hts _ (List.mem_cons_of_mem _ (List.mem_append_left _ (List.mem_of_getElem? (i := 2) rfl)))) rfl (by rw [hml]; exact hl.1) rfl dX7_init_1 (Nat.le_of_ble_eq_true rfl) (Nat.le_of_ble_eq_true rfl) ?_
  refine W.eq (g2 := F0 m 4 ls []) rfl ?_
  refine lv_aload_n hx hb dX7_init_4 rfl (lv_at hl 0 rfl) ?_
  refine lv_sipush (v := 140) hx hb dX7_init_5 (by decide) ?_
  refine gi_newab hx hb (hts (.arrayClass .byte) (by decide +kernel)) hC.1 hP hD hS hA (N' := 140) (by decide) (by decide) (by decide) (Nat.le_of_ble_eq_true rfl) (Nat.le_of_ble_eq_true rfl) dX7_init_8 (fun q1 H hP hD hS => ?_)
  have hP : va_P X.2.1 vwCl ([(h0, .inr (7, [.null, .int 0, .int 0]))] ++ [(q1, .inl (X.2.2 0, 140, .inl (fun _ => 0)))]) H := hP
  have hD : va_D A ([(h0, .inr (7, [.null, .int 0, .int 0]))] ++ [(q1, .inl (X.2.2 0, 140, .inl (fun _ => 0)))]) := hD
  refine va_putF (D := X.2.1) (ci := 7) (v := .ref q1) (ty := tyX7 0) (C := RX7) (T := TX7) (N := 3) hx hb hts (fun _ h9 => List.mem_cons_of_mem _ (List.mem_append_right _ h9)) tyX7 tyX7_ok nmX7 hown hC.1 hP hD hS 0 rfl rfl 0 (by decide) (hts (.fieldLink RX7 9 "IceByEar$Tape" "bytes" "[B") (by decide +kernel)) (fun _ h9 => h9) rfl hin rfl (tyX7_ok 0 (by decide)) rfl rfl (Nat.le_of_ble_eq_true rfl) dX7_init_10 (fun H locs hP hD hS => ?_)
  have hP : va_P X.2.1 vwCl ([(h0, .inr (7, [.ref q1, .int 0, .int 0]))] ++ [(q1, .inl (X.2.2 0, 140, .inl (fun _ => 0)))]) H := hP
  have hD : va_D A ([(h0, .inr (7, [.ref q1, .int 0, .int 0]))] ++ [(q1, .inl (X.2.2 0, 140, .inl (fun _ => 0)))]) := hD
  refine lv_aload_n hx hb dX7_init_13 rfl (lv_at hl 0 rfl) ?_
  refine lv_iconst (v := 0) hx hb dX7_init_14 (by decide) ?_
  refine va_put (D := X.2.1) (ci := 7) (v := .int (0 : Int32)) (ty := tyX7 1) (C := RX7) (T := TX7) (N := 3) hx hb hts (fun _ h9 => List.mem_cons_of_mem _ (List.mem_append_right _ h9)) tyX7 tyX7_ok nmX7 hown hC.1 hP hD hS 0 rfl rfl 1 (by decide) (hts (.fieldLink RX7 15 "IceByEar$Tape" "size" "I") (by decide +kernel)) (fun _ h9 => h9) rfl (tyX7_ok 1 (by decide)) rfl rfl (Nat.le_of_ble_eq_true rfl) dX7_init_15 (fun H locs hP hD hS => ?_)
  have hP : va_P X.2.1 vwCl ([(h0, .inr (7, [.ref q1, .int (0 : Int32), .int 0]))] ++ [(q1, .inl (X.2.2 0, 140, .inl (fun _ => 0)))]) H := hP
  have hD : va_D A ([(h0, .inr (7, [.ref q1, .int (0 : Int32), .int 0]))] ++ [(q1, .inl (X.2.2 0, 140, .inl (fun _ => 0)))]) := hD
  refine lv_aload_n hx hb dX7_init_18 rfl (lv_at hl 0 rfl) ?_
  refine lv_iconst (v := 0) hx hb dX7_init_19 (by decide) ?_
  refine va_put (D := X.2.1) (ci := 7) (v := .int (0 : Int32)) (ty := tyX7 2) (C := RX7) (T := TX7) (N := 3) hx hb hts (fun _ h9 => List.mem_cons_of_mem _ (List.mem_append_right _ h9)) tyX7 tyX7_ok nmX7 hown hC.1 hP hD hS 0 rfl rfl 2 (by decide) (hts (.fieldLink RX7 19 "IceByEar$Tape" "at" "I") (by decide +kernel)) (fun _ h9 => h9) rfl (tyX7_ok 2 (by decide)) rfl rfl (Nat.le_of_ble_eq_true rfl) dX7_init_20 (fun H locs hP hD hS => ?_)
  have hP : va_P X.2.1 vwCl ([(h0, .inr (7, [.ref q1, .int (0 : Int32), .int (0 : Int32)]))] ++ [(q1, .inl (X.2.2 0, 140, .inl (fun _ => 0)))]) H := hP
  have hD : va_D A ([(h0, .inr (7, [.ref q1, .int (0 : Int32), .int (0 : Int32)]))] ++ [(q1, .inl (X.2.2 0, 140, .inl (fun _ => 0)))]) := hD
  exact gi_ret (sh := shX7 X) hx hb hr hlocks (fun k => if k = 0 then h0 else if k < 2 then q1 else 0) rfl hP hD hS dX7_init_23
def shX3 (X : gw_X) (u : Nat → Nat) : va_W := [(u 0, .inr (3, [.ref (u 1), .ref (u 2), .ref (u 3), .ref (u 4)]))] ++ [(u 1, .inl (X.2.2 1, 64, .inl (fun _ => 0)))] ++ [(u 2, .inl (X.2.2 1, 64, .inl (fun _ => 0)))] ++ [(u 3, .inl (X.2.2 1, 64, .inl (fun _ => 0)))] ++ [(u 4, .inl (X.2.2 1, 128, .inl (fun _ => 0)))]
set_option maxHeartbeats 4000000 in
set_option maxRecDepth 100000 in
theorem iX3 (l : Launch) (X : gw_X) (h0 sz : Nat) : Met l yX3_init wsX3_init { frames := 1, cells := 4, slots := 320, locals := 12 } (gi_Pc X sz [(h0, .inr (3, [.null, .null, .null, .null]))] [.ref h0]) (gi_QA X (va_A [(h0, .inr (3, [.null, .null, .null, .null]))] sz) h0 (shX3 X)) 4 320 (va_A [(h0, .inr (3, [.null, .null, .null, .null]))] sz) := by
  refine gi_of RX3 (by decide) rfl rfl (Nat.le_of_ble_eq_true rfl) (fun p e s m below meth c ls A hx hb hml hown hts hr hlocks hin hC hA hP hD hS hl => ?_)
  have hl : lv_has ls 1 [(0, .ref h0)] := hl
  refine lv_aload_n hx hb dX3_init_0 rfl (lv_at hl 0 rfl) ?_
  refine W.objInit hx hb hown (hts (.methodLink RX3 3 objectInit) (by decide +kernel)) (hts (.instanceMethod objectInit) (by decide +kernel)) (hts _ (List.mem_cons_of_mem _ (List.mem_append_left _ (List.mem_of_getElem? (i := 2) rfl)))) rfl (by rw [hml]; exact hl.1) rfl dX3_init_1 (Nat.le_of_ble_eq_true rfl) (Nat.le_of_ble_eq_true rfl) ?_
  refine W.eq (g2 := F0 m 4 ls []) rfl ?_
  refine lv_aload_n hx hb dX3_init_4 rfl (lv_at hl 0 rfl) ?_
  refine lv_bipush (v := 64) hx hb dX3_init_5 (by decide) ?_
  refine gi_newai hx hb (hts (.arrayClass .int) (by decide +kernel)) hC.1 hP hD hS hA (N' := 64) (by decide) (by decide) (by decide) (Nat.le_of_ble_eq_true rfl) (Nat.le_of_ble_eq_true rfl) dX3_init_7 (fun q1 H hP hD hS => ?_)
  have hP : va_P X.2.1 vwCl ([(h0, .inr (3, [.null, .null, .null, .null]))] ++ [(q1, .inl (X.2.2 1, 64, .inl (fun _ => 0)))]) H := hP
  have hD : va_D A ([(h0, .inr (3, [.null, .null, .null, .null]))] ++ [(q1, .inl (X.2.2 1, 64, .inl (fun _ => 0)))]) := hD
  refine va_putF (D := X.2.1) (ci := 3) (v := .ref q1) (ty := tyX3 0) (C := RX3) (T := TX3) (N := 4) hx hb hts (fun _ h9 => List.mem_cons_of_mem _ (List.mem_append_right _ h9)) tyX3 tyX3_ok nmX3 hown hC.1 hP hD hS 0 rfl rfl 0 (by decide) (hts (.fieldLink RX3 9 "IceByEar$Roads" "bears" "[I") (by decide +kernel)) (fun _ h9 => h9) rfl hin rfl (tyX3_ok 0 (by decide)) rfl rfl (Nat.le_of_ble_eq_true rfl) dX3_init_9 (fun H locs hP hD hS => ?_)
  have hP : va_P X.2.1 vwCl ([(h0, .inr (3, [.ref q1, .null, .null, .null]))] ++ [(q1, .inl (X.2.2 1, 64, .inl (fun _ => 0)))]) H := hP
  have hD : va_D A ([(h0, .inr (3, [.ref q1, .null, .null, .null]))] ++ [(q1, .inl (X.2.2 1, 64, .inl (fun _ => 0)))]) := hD
  refine lv_aload_n hx hb dX3_init_12 rfl (lv_at hl 0 rfl) ?_
  refine lv_bipush (v := 64) hx hb dX3_init_13 (by decide) ?_
  refine gi_newai hx hb (hts (.arrayClass .int) (by decide +kernel)) hC.1 hP hD hS hA (N' := 64) (by decide) (by decide) (by decide) (Nat.le_of_ble_eq_true rfl) (Nat.le_of_ble_eq_true rfl) dX3_init_15 (fun q2 H hP hD hS => ?_)
  have hP : va_P X.2.1 vwCl ([(h0, .inr (3, [.ref q1, .null, .null, .null]))] ++ [(q1, .inl (X.2.2 1, 64, .inl (fun _ => 0)))] ++ [(q2, .inl (X.2.2 1, 64, .inl (fun _ => 0)))]) H := hP
  have hD : va_D A ([(h0, .inr (3, [.ref q1, .null, .null, .null]))] ++ [(q1, .inl (X.2.2 1, 64, .inl (fun _ => 0)))] ++ [(q2, .inl (X.2.2 1, 64, .inl (fun _ => 0)))]) := hD
  refine va_putF (D := X.2.1) (ci := 3) (v := .ref q2) (ty := tyX3 1) (C := RX3) (T := TX3) (N := 4) hx hb hts (fun _ h9 => List.mem_cons_of_mem _ (List.mem_append_right _ h9)) tyX3 tyX3_ok nmX3 hown hC.1 hP hD hS 0 rfl rfl 1 (by decide) (hts (.fieldLink RX3 15 "IceByEar$Roads" "costs" "[I") (by decide +kernel)) (fun _ h9 => h9) rfl hin rfl (tyX3_ok 1 (by decide)) rfl rfl (Nat.le_of_ble_eq_true rfl) dX3_init_17 (fun H locs hP hD hS => ?_)
  have hP : va_P X.2.1 vwCl ([(h0, .inr (3, [.ref q1, .ref q2, .null, .null]))] ++ [(q1, .inl (X.2.2 1, 64, .inl (fun _ => 0)))] ++ [(q2, .inl (X.2.2 1, 64, .inl (fun _ => 0)))]) H := hP
  have hD : va_D A ([(h0, .inr (3, [.ref q1, .ref q2, .null, .null]))] ++ [(q1, .inl (X.2.2 1, 64, .inl (fun _ => 0)))] ++ [(q2, .inl (X.2.2 1, 64, .inl (fun _ => 0)))]) := hD
  refine lv_aload_n hx hb dX3_init_20 rfl (lv_at hl 0 rfl) ?_
  refine lv_bipush (v := 64) hx hb dX3_init_21 (by decide) ?_
  refine gi_newai hx hb (hts (.arrayClass .int) (by decide +kernel)) hC.1 hP hD hS hA (N' := 64) (by decide) (by decide) (by decide) (Nat.le_of_ble_eq_true rfl) (Nat.le_of_ble_eq_true rfl) dX3_init_23 (fun q3 H hP hD hS => ?_)
  have hP : va_P X.2.1 vwCl ([(h0, .inr (3, [.ref q1, .ref q2, .null, .null]))] ++ [(q1, .inl (X.2.2 1, 64, .inl (fun _ => 0)))] ++ [(q2, .inl (X.2.2 1, 64, .inl (fun _ => 0)))] ++ [(q3, .inl (X.2.2 1, 64, .inl (fun _ => 0)))]) H := hP
  have hD : va_D A ([(h0, .inr (3, [.ref q1, .ref q2, .null, .null]))] ++ [(q1, .inl (X.2.2 1, 64, .inl (fun _ => 0)))] ++ [(q2, .inl (X.2.2 1, 64, .inl (fun _ => 0)))] ++ [(q3, .inl (X.2.2 1, 64, .inl (fun _ => 0)))]) := hD
  refine va_putF (D := X.2.1) (ci := 3) (v := .ref q3) (ty := tyX3 2) (C := RX3) (T := TX3) (N := 4) hx hb hts (fun _ h9 => List.mem_cons_of_mem _ (List.mem_append_right _ h9)) tyX3 tyX3_ok nmX3 hown hC.1 hP hD hS 0 rfl rfl 2 (by decide) (hts (.fieldLink RX3 18 "IceByEar$Roads" "sums" "[I") (by decide +kernel)) (fun _ h9 => h9) rfl hin rfl (tyX3_ok 2 (by decide)) rfl rfl (Nat.le_of_ble_eq_true rfl) dX3_init_25 (fun H locs hP hD hS => ?_)
  have hP : va_P X.2.1 vwCl ([(h0, .inr (3, [.ref q1, .ref q2, .ref q3, .null]))] ++ [(q1, .inl (X.2.2 1, 64, .inl (fun _ => 0)))] ++ [(q2, .inl (X.2.2 1, 64, .inl (fun _ => 0)))] ++ [(q3, .inl (X.2.2 1, 64, .inl (fun _ => 0)))]) H := hP
  have hD : va_D A ([(h0, .inr (3, [.ref q1, .ref q2, .ref q3, .null]))] ++ [(q1, .inl (X.2.2 1, 64, .inl (fun _ => 0)))] ++ [(q2, .inl (X.2.2 1, 64, .inl (fun _ => 0)))] ++ [(q3, .inl (X.2.2 1, 64, .inl (fun _ => 0)))]) := hD
  refine lv_aload_n hx hb dX3_init_28 rfl (lv_at hl 0 rfl) ?_
  refine lv_sipush (v := 128) hx hb dX3_init_29 (by decide) ?_
  refine gi_newai hx hb (hts (.arrayClass .int) (by decide +kernel)) hC.1 hP hD hS hA (N' := 128) (by decide) (by decide) (by decide) (Nat.le_of_ble_eq_true rfl) (Nat.le_of_ble_eq_true rfl) dX3_init_32 (fun q4 H hP hD hS => ?_)
  have hP : va_P X.2.1 vwCl ([(h0, .inr (3, [.ref q1, .ref q2, .ref q3, .null]))] ++ [(q1, .inl (X.2.2 1, 64, .inl (fun _ => 0)))] ++ [(q2, .inl (X.2.2 1, 64, .inl (fun _ => 0)))] ++ [(q3, .inl (X.2.2 1, 64, .inl (fun _ => 0)))] ++ [(q4, .inl (X.2.2 1, 128, .inl (fun _ => 0)))]) H := hP
  have hD : va_D A ([(h0, .inr (3, [.ref q1, .ref q2, .ref q3, .null]))] ++ [(q1, .inl (X.2.2 1, 64, .inl (fun _ => 0)))] ++ [(q2, .inl (X.2.2 1, 64, .inl (fun _ => 0)))] ++ [(q3, .inl (X.2.2 1, 64, .inl (fun _ => 0)))] ++ [(q4, .inl (X.2.2 1, 128, .inl (fun _ => 0)))]) := hD
  refine va_putF (D := X.2.1) (ci := 3) (v := .ref q4) (ty := tyX3 3) (C := RX3) (T := TX3) (N := 4) hx hb hts (fun _ h9 => List.mem_cons_of_mem _ (List.mem_append_right _ h9)) tyX3 tyX3_ok nmX3 hown hC.1 hP hD hS 0 rfl rfl 3 (by decide) (hts (.fieldLink RX3 21 "IceByEar$Roads" "line" "[I") (by decide +kernel)) (fun _ h9 => h9) rfl hin rfl (tyX3_ok 3 (by decide)) rfl rfl (Nat.le_of_ble_eq_true rfl) dX3_init_34 (fun H locs hP hD hS => ?_)
  have hP : va_P X.2.1 vwCl ([(h0, .inr (3, [.ref q1, .ref q2, .ref q3, .ref q4]))] ++ [(q1, .inl (X.2.2 1, 64, .inl (fun _ => 0)))] ++ [(q2, .inl (X.2.2 1, 64, .inl (fun _ => 0)))] ++ [(q3, .inl (X.2.2 1, 64, .inl (fun _ => 0)))] ++ [(q4, .inl (X.2.2 1, 128, .inl (fun _ => 0)))]) H := hP
  have hD : va_D A ([(h0, .inr (3, [.ref q1, .ref q2, .ref q3, .ref q4]))] ++ [(q1, .inl (X.2.2 1, 64, .inl (fun _ => 0)))] ++ [(q2, .inl (X.2.2 1, 64, .inl (fun _ => 0)))] ++ [(q3, .inl (X.2.2 1, 64, .inl (fun _ => 0)))] ++ [(q4, .inl (X.2.2 1, 128, .inl (fun _ => 0)))]) := hD
  exact gi_ret (sh := shX3 X) hx hb hr hlocks (fun k => if k = 0 then h0 else if k < 2 then q1 else if k < 3 then q2 else if k < 4 then q3 else if k < 5 then q4 else 0) rfl hP hD hS dX3_init_37
def shX6 (X : gw_X) (u : Nat → Nat) : va_W := [(u 0, .inr (6, [.ref (u 1), .ref (u 2)]))] ++ [(u 1, .inl (X.2.2 1, 64, .inl (fun _ => 0)))] ++ [(u 2, .inl (X.2.2 1, 64, .inl (fun _ => 0)))]
set_option maxHeartbeats 4000000 in
set_option maxRecDepth 100000 in
theorem iX6 (l : Launch) (X : gw_X) (h0 sz : Nat) : Met l yX6_init wsX6_init { frames := 1, cells := 2, slots := 128, locals := 12 } (gi_Pc X sz [(h0, .inr (6, [.null, .null]))] [.ref h0]) (gi_QA X (va_A [(h0, .inr (6, [.null, .null]))] sz) h0 (shX6 X)) 2 128 (va_A [(h0, .inr (6, [.null, .null]))] sz) := by
  refine gi_of RX6 (by decide) rfl rfl (Nat.le_of_ble_eq_true rfl) (fun p e s m below meth c ls A hx hb hml hown hts hr hlocks hin hC hA hP hD hS hl => ?_)
  have hl : lv_has ls 1 [(0, .ref h0)] := hl
  refine lv_aload_n hx hb dX6_init_0 rfl (lv_at hl 0 rfl) ?_
  refine W.objInit hx hb hown (hts (.methodLink RX6 3 objectInit) (by decide +kernel)) (hts (.instanceMethod objectInit) (by decide +kernel)) (hts _ (List.mem_cons_of_mem _ (List.mem_append_left _ (List.mem_of_getElem? (i := 2) rfl)))) rfl (by rw [hml]; exact hl.1) rfl dX6_init_1 (Nat.le_of_ble_eq_true rfl) (Nat.le_of_ble_eq_true rfl) ?_
  refine W.eq (g2 := F0 m 4 ls []) rfl ?_
  refine lv_aload_n hx hb dX6_init_4 rfl (lv_at hl 0 rfl) ?_
  refine lv_bipush (v := 64) hx hb dX6_init_5 (by decide) ?_
  refine gi_newai hx hb (hts (.arrayClass .int) (by decide +kernel)) hC.1 hP hD hS hA (N' := 64) (by decide) (by decide) (by decide) (Nat.le_of_ble_eq_true rfl) (Nat.le_of_ble_eq_true rfl) dX6_init_7 (fun q1 H hP hD hS => ?_)
  have hP : va_P X.2.1 vwCl ([(h0, .inr (6, [.null, .null]))] ++ [(q1, .inl (X.2.2 1, 64, .inl (fun _ => 0)))]) H := hP
  have hD : va_D A ([(h0, .inr (6, [.null, .null]))] ++ [(q1, .inl (X.2.2 1, 64, .inl (fun _ => 0)))]) := hD
  refine va_putF (D := X.2.1) (ci := 6) (v := .ref q1) (ty := tyX6 0) (C := RX6) (T := TX6) (N := 2) hx hb hts (fun _ h9 => List.mem_cons_of_mem _ (List.mem_append_right _ h9)) tyX6 tyX6_ok nmX6 hown hC.1 hP hD hS 0 rfl rfl 0 (by decide) (hts (.fieldLink RX6 9 "IceByEar$Spans" "least" "[I") (by decide +kernel)) (fun _ h9 => h9) rfl hin rfl (tyX6_ok 0 (by decide)) rfl rfl (Nat.le_of_ble_eq_true rfl) dX6_init_9 (fun H locs hP hD hS => ?_)
  have hP : va_P X.2.1 vwCl ([(h0, .inr (6, [.ref q1, .null]))] ++ [(q1, .inl (X.2.2 1, 64, .inl (fun _ => 0)))]) H := hP
  have hD : va_D A ([(h0, .inr (6, [.ref q1, .null]))] ++ [(q1, .inl (X.2.2 1, 64, .inl (fun _ => 0)))]) := hD
  refine lv_aload_n hx hb dX6_init_12 rfl (lv_at hl 0 rfl) ?_
  refine lv_bipush (v := 64) hx hb dX6_init_13 (by decide) ?_
  refine gi_newai hx hb (hts (.arrayClass .int) (by decide +kernel)) hC.1 hP hD hS hA (N' := 64) (by decide) (by decide) (by decide) (Nat.le_of_ble_eq_true rfl) (Nat.le_of_ble_eq_true rfl) dX6_init_15 (fun q2 H hP hD hS => ?_)
  have hP : va_P X.2.1 vwCl ([(h0, .inr (6, [.ref q1, .null]))] ++ [(q1, .inl (X.2.2 1, 64, .inl (fun _ => 0)))] ++ [(q2, .inl (X.2.2 1, 64, .inl (fun _ => 0)))]) H := hP
  have hD : va_D A ([(h0, .inr (6, [.ref q1, .null]))] ++ [(q1, .inl (X.2.2 1, 64, .inl (fun _ => 0)))] ++ [(q2, .inl (X.2.2 1, 64, .inl (fun _ => 0)))]) := hD
  refine va_putF (D := X.2.1) (ci := 6) (v := .ref q2) (ty := tyX6 1) (C := RX6) (T := TX6) (N := 2) hx hb hts (fun _ h9 => List.mem_cons_of_mem _ (List.mem_append_right _ h9)) tyX6 tyX6_ok nmX6 hown hC.1 hP hD hS 0 rfl rfl 1 (by decide) (hts (.fieldLink RX6 15 "IceByEar$Spans" "greatest" "[I") (by decide +kernel)) (fun _ h9 => h9) rfl hin rfl (tyX6_ok 1 (by decide)) rfl rfl (Nat.le_of_ble_eq_true rfl) dX6_init_17 (fun H locs hP hD hS => ?_)
  have hP : va_P X.2.1 vwCl ([(h0, .inr (6, [.ref q1, .ref q2]))] ++ [(q1, .inl (X.2.2 1, 64, .inl (fun _ => 0)))] ++ [(q2, .inl (X.2.2 1, 64, .inl (fun _ => 0)))]) H := hP
  have hD : va_D A ([(h0, .inr (6, [.ref q1, .ref q2]))] ++ [(q1, .inl (X.2.2 1, 64, .inl (fun _ => 0)))] ++ [(q2, .inl (X.2.2 1, 64, .inl (fun _ => 0)))]) := hD
  exact gi_ret (sh := shX6 X) hx hb hr hlocks (fun k => if k = 0 then h0 else if k < 2 then q1 else if k < 3 then q2 else 0) rfl hP hD hS dX6_init_20
def shX5 (X : gw_X) (u : Nat → Nat) : va_W := [(u 0, .inr (5, [.ref (u 1), .ref (u 2), .ref (u 3), .int (-1 : Int32), .int (0 : Int32)]))] ++ [(u 1, .inl (X.2.2 3, 24, .inl (fun _ => 0)))] ++ [(u 2, .inl (X.2.2 0, 24, .inl (fun _ => 0)))] ++ [(u 3, .inl (X.2.2 2, 24, .inr (.inl (fun _ => 0))))]
set_option maxHeartbeats 4000000 in
set_option maxRecDepth 100000 in
theorem iX5 (l : Launch) (X : gw_X) (h0 sz : Nat) : Met l yX5_init wsX5_init { frames := 1, cells := 3, slots := 72, locals := 12 } (gi_Pc X sz [(h0, .inr (5, [.null, .null, .null, .int 0, .int 0]))] [.ref h0]) (gi_QA X (va_A [(h0, .inr (5, [.null, .null, .null, .int 0, .int 0]))] sz) h0 (shX5 X)) 3 72 (va_A [(h0, .inr (5, [.null, .null, .null, .int 0, .int 0]))] sz) := by
  refine gi_of RX5 (by decide) rfl rfl (Nat.le_of_ble_eq_true rfl) (fun p e s m below meth c ls A hx hb hml hown hts hr hlocks hin hC hA hP hD hS hl => ?_)
  have hl : lv_has ls 1 [(0, .ref h0)] := hl
  refine lv_aload_n hx hb dX5_init_0 rfl (lv_at hl 0 rfl) ?_
  refine W.objInit hx hb hown (hts (.methodLink RX5 3 objectInit) (by decide +kernel)) (hts (.instanceMethod objectInit) (by decide +kernel)) (hts _ (List.mem_cons_of_mem _ (List.mem_append_left _ (List.mem_of_getElem? (i := 2) rfl)))) rfl (by rw [hml]; exact hl.1) rfl dX5_init_1 (Nat.le_of_ble_eq_true rfl) (Nat.le_of_ble_eq_true rfl) ?_
  refine W.eq (g2 := F0 m 4 ls []) rfl ?_
  refine lv_aload_n hx hb dX5_init_4 rfl (lv_at hl 0 rfl) ?_
  refine lv_bipush (v := 24) hx hb dX5_init_5 (by decide) ?_
  refine gi_newaz hx hb (hts (.arrayClass .boolean) (by decide +kernel)) hC.1 hP hD hS hA (N' := 24) (by decide) (by decide) (by decide) (Nat.le_of_ble_eq_true rfl) (Nat.le_of_ble_eq_true rfl) dX5_init_7 (fun q1 H hP hD hS => ?_)
  have hP : va_P X.2.1 vwCl ([(h0, .inr (5, [.null, .null, .null, .int 0, .int 0]))] ++ [(q1, .inl (X.2.2 3, 24, .inl (fun _ => 0)))]) H := hP
  have hD : va_D A ([(h0, .inr (5, [.null, .null, .null, .int 0, .int 0]))] ++ [(q1, .inl (X.2.2 3, 24, .inl (fun _ => 0)))]) := hD
  refine va_putF (D := X.2.1) (ci := 5) (v := .ref q1) (ty := tyX5 0) (C := RX5) (T := TX5) (N := 5) hx hb hts (fun _ h9 => List.mem_cons_of_mem _ (List.mem_append_right _ h9)) tyX5 tyX5_ok nmX5 hown hC.1 hP hD hS 0 rfl rfl 0 (by decide) (hts (.fieldLink RX5 9 "IceByEar$Sheet" "whether" "[Z") (by decide +kernel)) (fun _ h9 => h9) rfl hin rfl (tyX5_ok 0 (by decide)) rfl rfl (Nat.le_of_ble_eq_true rfl) dX5_init_9 (fun H locs hP hD hS => ?_)
  have hP : va_P X.2.1 vwCl ([(h0, .inr (5, [.ref q1, .null, .null, .int 0, .int 0]))] ++ [(q1, .inl (X.2.2 3, 24, .inl (fun _ => 0)))]) H := hP
  have hD : va_D A ([(h0, .inr (5, [.ref q1, .null, .null, .int 0, .int 0]))] ++ [(q1, .inl (X.2.2 3, 24, .inl (fun _ => 0)))]) := hD
  refine lv_aload_n hx hb dX5_init_12 rfl (lv_at hl 0 rfl) ?_
  refine lv_bipush (v := 24) hx hb dX5_init_13 (by decide) ?_
  refine gi_newab hx hb (hts (.arrayClass .byte) (by decide +kernel)) hC.1 hP hD hS hA (N' := 24) (by decide) (by decide) (by decide) (Nat.le_of_ble_eq_true rfl) (Nat.le_of_ble_eq_true rfl) dX5_init_15 (fun q2 H hP hD hS => ?_)
  have hP : va_P X.2.1 vwCl ([(h0, .inr (5, [.ref q1, .null, .null, .int 0, .int 0]))] ++ [(q1, .inl (X.2.2 3, 24, .inl (fun _ => 0)))] ++ [(q2, .inl (X.2.2 0, 24, .inl (fun _ => 0)))]) H := hP
  have hD : va_D A ([(h0, .inr (5, [.ref q1, .null, .null, .int 0, .int 0]))] ++ [(q1, .inl (X.2.2 3, 24, .inl (fun _ => 0)))] ++ [(q2, .inl (X.2.2 0, 24, .inl (fun _ => 0)))]) := hD
  refine va_putF (D := X.2.1) (ci := 5) (v := .ref q2) (ty := tyX5 1) (C := RX5) (T := TX5) (N := 5) hx hb hts (fun _ h9 => List.mem_cons_of_mem _ (List.mem_append_right _ h9)) tyX5 tyX5_ok nmX5 hown hC.1 hP hD hS 0 rfl rfl 1 (by decide) (hts (.fieldLink RX5 15 "IceByEar$Sheet" "bytes" "[B") (by decide +kernel)) (fun _ h9 => h9) rfl hin rfl (tyX5_ok 1 (by decide)) rfl rfl (Nat.le_of_ble_eq_true rfl) dX5_init_17 (fun H locs hP hD hS => ?_)
  have hP : va_P X.2.1 vwCl ([(h0, .inr (5, [.ref q1, .ref q2, .null, .int 0, .int 0]))] ++ [(q1, .inl (X.2.2 3, 24, .inl (fun _ => 0)))] ++ [(q2, .inl (X.2.2 0, 24, .inl (fun _ => 0)))]) H := hP
  have hD : va_D A ([(h0, .inr (5, [.ref q1, .ref q2, .null, .int 0, .int 0]))] ++ [(q1, .inl (X.2.2 3, 24, .inl (fun _ => 0)))] ++ [(q2, .inl (X.2.2 0, 24, .inl (fun _ => 0)))]) := hD
  refine lv_aload_n hx hb dX5_init_20 rfl (lv_at hl 0 rfl) ?_
  refine lv_bipush (v := 24) hx hb dX5_init_21 (by decide) ?_
  refine gi_newal hx hb (hts (.arrayClass .long) (by decide +kernel)) hC.1 hP hD hS hA (N' := 24) (by decide) (by decide) (by decide) (Nat.le_of_ble_eq_true rfl) (Nat.le_of_ble_eq_true rfl) dX5_init_23 (fun q3 H hP hD hS => ?_)
  have hP : va_P X.2.1 vwCl ([(h0, .inr (5, [.ref q1, .ref q2, .null, .int 0, .int 0]))] ++ [(q1, .inl (X.2.2 3, 24, .inl (fun _ => 0)))] ++ [(q2, .inl (X.2.2 0, 24, .inl (fun _ => 0)))] ++ [(q3, .inl (X.2.2 2, 24, .inr (.inl (fun _ => 0))))]) H := hP
  have hD : va_D A ([(h0, .inr (5, [.ref q1, .ref q2, .null, .int 0, .int 0]))] ++ [(q1, .inl (X.2.2 3, 24, .inl (fun _ => 0)))] ++ [(q2, .inl (X.2.2 0, 24, .inl (fun _ => 0)))] ++ [(q3, .inl (X.2.2 2, 24, .inr (.inl (fun _ => 0))))]) := hD
  refine va_putF (D := X.2.1) (ci := 5) (v := .ref q3) (ty := tyX5 2) (C := RX5) (T := TX5) (N := 5) hx hb hts (fun _ h9 => List.mem_cons_of_mem _ (List.mem_append_right _ h9)) tyX5 tyX5_ok nmX5 hown hC.1 hP hD hS 0 rfl rfl 2 (by decide) (hts (.fieldLink RX5 19 "IceByEar$Sheet" "longs" "[J") (by decide +kernel)) (fun _ h9 => h9) rfl hin rfl (tyX5_ok 2 (by decide)) rfl rfl (Nat.le_of_ble_eq_true rfl) dX5_init_25 (fun H locs hP hD hS => ?_)
  have hP : va_P X.2.1 vwCl ([(h0, .inr (5, [.ref q1, .ref q2, .ref q3, .int 0, .int 0]))] ++ [(q1, .inl (X.2.2 3, 24, .inl (fun _ => 0)))] ++ [(q2, .inl (X.2.2 0, 24, .inl (fun _ => 0)))] ++ [(q3, .inl (X.2.2 2, 24, .inr (.inl (fun _ => 0))))]) H := hP
  have hD : va_D A ([(h0, .inr (5, [.ref q1, .ref q2, .ref q3, .int 0, .int 0]))] ++ [(q1, .inl (X.2.2 3, 24, .inl (fun _ => 0)))] ++ [(q2, .inl (X.2.2 0, 24, .inl (fun _ => 0)))] ++ [(q3, .inl (X.2.2 2, 24, .inr (.inl (fun _ => 0))))]) := hD
  refine lv_aload_n hx hb dX5_init_28 rfl (lv_at hl 0 rfl) ?_
  refine lv_iconst (v := -1) hx hb dX5_init_29 (by decide) ?_
  refine va_put (D := X.2.1) (ci := 5) (v := .int (-1 : Int32)) (ty := tyX5 3) (C := RX5) (T := TX5) (N := 5) hx hb hts (fun _ h9 => List.mem_cons_of_mem _ (List.mem_append_right _ h9)) tyX5 tyX5_ok nmX5 hown hC.1 hP hD hS 0 rfl rfl 3 (by decide) (hts (.fieldLink RX5 23 "IceByEar$Sheet" "lane" "I") (by decide +kernel)) (fun _ h9 => h9) rfl (tyX5_ok 3 (by decide)) rfl rfl (Nat.le_of_ble_eq_true rfl) dX5_init_30 (fun H locs hP hD hS => ?_)
  have hP : va_P X.2.1 vwCl ([(h0, .inr (5, [.ref q1, .ref q2, .ref q3, .int (-1 : Int32), .int 0]))] ++ [(q1, .inl (X.2.2 3, 24, .inl (fun _ => 0)))] ++ [(q2, .inl (X.2.2 0, 24, .inl (fun _ => 0)))] ++ [(q3, .inl (X.2.2 2, 24, .inr (.inl (fun _ => 0))))]) H := hP
  have hD : va_D A ([(h0, .inr (5, [.ref q1, .ref q2, .ref q3, .int (-1 : Int32), .int 0]))] ++ [(q1, .inl (X.2.2 3, 24, .inl (fun _ => 0)))] ++ [(q2, .inl (X.2.2 0, 24, .inl (fun _ => 0)))] ++ [(q3, .inl (X.2.2 2, 24, .inr (.inl (fun _ => 0))))]) := hD
  refine lv_aload_n hx hb dX5_init_33 rfl (lv_at hl 0 rfl) ?_
  refine lv_iconst (v := 0) hx hb dX5_init_34 (by decide) ?_
  refine va_put (D := X.2.1) (ci := 5) (v := .int (0 : Int32)) (ty := tyX5 4) (C := RX5) (T := TX5) (N := 5) hx hb hts (fun _ h9 => List.mem_cons_of_mem _ (List.mem_append_right _ h9)) tyX5 tyX5_ok nmX5 hown hC.1 hP hD hS 0 rfl rfl 4 (by decide) (hts (.fieldLink RX5 27 "IceByEar$Sheet" "size" "I") (by decide +kernel)) (fun _ h9 => h9) rfl (tyX5_ok 4 (by decide)) rfl rfl (Nat.le_of_ble_eq_true rfl) dX5_init_35 (fun H locs hP hD hS => ?_)
  have hP : va_P X.2.1 vwCl ([(h0, .inr (5, [.ref q1, .ref q2, .ref q3, .int (-1 : Int32), .int (0 : Int32)]))] ++ [(q1, .inl (X.2.2 3, 24, .inl (fun _ => 0)))] ++ [(q2, .inl (X.2.2 0, 24, .inl (fun _ => 0)))] ++ [(q3, .inl (X.2.2 2, 24, .inr (.inl (fun _ => 0))))]) H := hP
  have hD : va_D A ([(h0, .inr (5, [.ref q1, .ref q2, .ref q3, .int (-1 : Int32), .int (0 : Int32)]))] ++ [(q1, .inl (X.2.2 3, 24, .inl (fun _ => 0)))] ++ [(q2, .inl (X.2.2 0, 24, .inl (fun _ => 0)))] ++ [(q3, .inl (X.2.2 2, 24, .inr (.inl (fun _ => 0))))]) := hD
  exact gi_ret (sh := shX5 X) hx hb hr hlocks (fun k => if k = 0 then h0 else if k < 2 then q1 else if k < 3 then q2 else if k < 4 then q3 else 0) rfl hP hD hS dX5_init_38
def shX2 (X : gw_X) (u : Nat → Nat) : va_W := [(u 0, .inr (2, [.ref (u 1)]))] ++ [(u 1, .inl (X.2.2 1, 320, .inl gs_t30))]
set_option maxHeartbeats 4000000 in
set_option maxRecDepth 100000 in
theorem iX2 (l : Launch) (X : gw_X) (h0 sz : Nat) : Met l yX2_init wsX2_init { frames := 2, cells := 1, slots := 320, locals := 46 } (gi_Pc X sz [(h0, .inr (2, [.null]))] [.ref h0]) (gi_QA X (va_A [(h0, .inr (2, [.null]))] sz) h0 (shX2 X)) 1 320 (va_A [(h0, .inr (2, [.null]))] sz) := by
  refine gi_of RX2 (by decide) rfl rfl (Nat.le_of_ble_eq_true rfl) (fun p e s m below meth c ls A hx hb hml hown hts hr hlocks hin hC hA hP hD hS hl => ?_)
  have hl : lv_has ls 1 [(0, .ref h0)] := hl
  refine lv_aload_n hx hb dX2_init_0 rfl (lv_at hl 0 rfl) ?_
  refine W.objInit hx hb hown (hts (.methodLink RX2 3 objectInit) (by decide +kernel)) (hts (.instanceMethod objectInit) (by decide +kernel)) (hts _ (List.mem_cons_of_mem _ (List.mem_append_left _ (List.mem_of_getElem? (i := 2) rfl)))) rfl (by rw [hml]; exact hl.1) rfl dX2_init_1 (Nat.le_of_ble_eq_true rfl) (Nat.le_of_ble_eq_true rfl) ?_
  refine W.eq (g2 := F0 m 4 ls []) rfl ?_
  refine lv_aload_n hx hb dX2_init_4 rfl (lv_at hl 0 rfl) ?_
  refine lv_sipush (v := 320) hx hb dX2_init_5 (by decide) ?_
  refine gi_newai hx hb (hts (.arrayClass .int) (by decide +kernel)) hC.1 hP hD hS hA (N' := 320) (by decide) (by decide) (by decide) (Nat.le_of_ble_eq_true rfl) (Nat.le_of_ble_eq_true rfl) dX2_init_8 (fun q1 H hP hD hS => ?_)
  have hP : va_P X.2.1 vwCl ([(h0, .inr (2, [.null]))] ++ [(q1, .inl (X.2.2 1, 320, .inl (fun _ => 0)))]) H := hP
  have hD : va_D A ([(h0, .inr (2, [.null]))] ++ [(q1, .inl (X.2.2 1, 320, .inl (fun _ => 0)))]) := hD
  refine va_putF (D := X.2.1) (ci := 2) (v := .ref q1) (ty := tyX2 0) (C := RX2) (T := TX2) (N := 1) hx hb hts (fun _ h9 => List.mem_cons_of_mem _ (List.mem_append_right _ h9)) tyX2 tyX2_ok nmX2 hown hC.1 hP hD hS 0 rfl rfl 0 (by decide) (hts (.fieldLink RX2 9 "IceByEar$Ice" "traits" "[I") (by decide +kernel)) (fun _ h9 => h9) rfl hin rfl (tyX2_ok 0 (by decide)) rfl rfl (Nat.le_of_ble_eq_true rfl) dX2_init_10 (fun H locs hP hD hS => ?_)
  have hP : va_P X.2.1 vwCl ([(h0, .inr (2, [.ref q1]))] ++ [(q1, .inl (X.2.2 1, 320, .inl (fun _ => 0)))]) H := hP
  have hD : va_D A ([(h0, .inr (2, [.ref q1]))] ++ [(q1, .inl (X.2.2 1, 320, .inl (fun _ => 0)))]) := hD
  refine lv_aload_n hx hb dX2_init_13 rfl (lv_at hl 0 rfl) ?_
  refine va_get (D := X.2.1) (ci := 2) (v := .ref q1) (C := RX2) (T := TX2) (N := 1) hx hb hts (fun _ h9 => List.mem_cons_of_mem _ (List.mem_append_right _ h9)) hown hC.1 hP 0 rfl rfl 0 (by decide) (hts (.fieldLink RX2 9 "IceByEar$Ice" "traits" "[I") (by decide +kernel)) (fun _ h9 => h9) rfl dX2_init_14 ?_
  refine lv_iconst (v := 0) hx hb dX2_init_17 (by decide) ?_
  refine lv_bipush (v := 64) hx hb dX2_init_18 (by decide) ?_
  refine lv_bipush (v := 30) hx hb dX2_init_20 (by decide) ?_
  have hPc : va_P X.2.1 vwCl [(q1, .inl (X.2.2 1, 320, .inl (fun _ => 0)))] H := hP.sub [1] rfl
  have hDc : va_D A [(q1, .inl (X.2.2 1, 320, .inl (fun _ => 0)))] := hD.sub [1] (by decide) rfl
  have hFc := va_free (wc := [(q1, .inl (X.2.2 1, 320, .inl (fun _ => 0)))]) hD hS hA [1] rfl
  refine va_callv (va_runS (As := [.ref q1, .int 0, .int 64, .int 30]) (rest := []) ⟨hx, hb, hml, hown, hts⟩ (iJ7_fill l X q1 H.size) (va_cwS 4 hts gX2_init_J7_fill_fda19 rfl rfl rfl (by decide +kernel) ⟨by decide, by decide⟩) ⟨gi_blind X _ _ _, fun U hU hW => ⟨rfl, by rw [hU], by rw [hU]; exact hPc, hC.go hW, hDc.weaken (fun _ _ _ _ => trivial)⟩⟩ rfl rfl hl.1 rfl (lv_room (Nat.le_of_ble_eq_true rfl)) dX2_init_22 ⟨Nat.le_of_ble_eq_true rfl, Nat.le_of_ble_eq_true rfl⟩) hS (fun q _ h => hFc q h) hFc (fun u t H1 locs ht hvm hw hB hz1 hk1 hS => ?_)
  obtain ⟨hP1, hD1⟩ := hB
  rw [ht] at hP1
  obtain ⟨hP, hD⟩ := gi_join (ws := [(h0, .inr (2, [.ref q1]))]) hP hD hk1 hFc hP1 hD1
  generalize H1 = H at hP hS ⊢
  have hw : u 0 = q1 := hw
  have hP : va_P X.2.1 vwCl ([(h0, .inr (2, [.ref q1]))] ++ [(u 0, .inl (X.2.2 1, 320, .inl gs_t30))]) H := hP
  have hD : va_D A ([(h0, .inr (2, [.ref q1]))] ++ [(u 0, .inl (X.2.2 1, 320, .inl gs_t30))]) := hD
  rw [hw] at hP hD
  have hP : va_P X.2.1 vwCl ([(h0, .inr (2, [.ref q1]))] ++ [(q1, .inl (X.2.2 1, 320, .inl gs_t30))]) H := hP
  have hD : va_D A ([(h0, .inr (2, [.ref q1]))] ++ [(q1, .inl (X.2.2 1, 320, .inl gs_t30))]) := hD
  exact gi_ret (sh := shX2 X) hx hb hr hlocks (fun k => if k = 0 then h0 else if k < 2 then q1 else 0) rfl hP hD hS dX2_init_25
def shX0 (X : gw_X) (u : Nat → Nat) : va_W := [(u 0, .inr (0, [.ref (u 1), .ref (u 2), .ref (u 3)]))] ++ [(u 1, .inl (X.2.2 1, 64, .inl (fun _ => 0)))] ++ [(u 2, .inl (X.2.2 1, 64, .inl (fun _ => 0)))] ++ shX8 X (fun j => u (j + 3))
set_option maxHeartbeats 4000000 in
set_option maxRecDepth 100000 in
theorem iX0 (l : Launch) (X : gw_X) (h0 sz : Nat) : Met l yX0_init wsX0_init { frames := 2, cells := 6, slots := 150, locals := 32 } (gi_Pc X sz [(h0, .inr (0, [.null, .null, .null]))] [.ref h0]) (gi_QA X (va_A [(h0, .inr (0, [.null, .null, .null]))] sz) h0 (shX0 X)) 6 150 (va_A [(h0, .inr (0, [.null, .null, .null]))] sz) := by
  refine gi_of RX0 (by decide) rfl rfl (Nat.le_of_ble_eq_true rfl) (fun p e s m below meth c ls A hx hb hml hown hts hr hlocks hin hC hA hP hD hS hl => ?_)
  have hl : lv_has ls 1 [(0, .ref h0)] := hl
  refine lv_aload_n hx hb dX0_init_0 rfl (lv_at hl 0 rfl) ?_
  refine W.objInit hx hb hown (hts (.methodLink RX0 3 objectInit) (by decide +kernel)) (hts (.instanceMethod objectInit) (by decide +kernel)) (hts _ (List.mem_cons_of_mem _ (List.mem_append_left _ (List.mem_append_left _ (List.mem_of_getElem? (i := 2) rfl))))) rfl (by rw [hml]; exact hl.1) rfl dX0_init_1 (Nat.le_of_ble_eq_true rfl) (Nat.le_of_ble_eq_true rfl) ?_
  refine W.eq (g2 := F0 m 4 ls []) rfl ?_
  refine lv_aload_n hx hb dX0_init_4 rfl (lv_at hl 0 rfl) ?_
  refine lv_bipush (v := 64) hx hb dX0_init_5 (by decide) ?_
  refine gi_newai hx hb (hts (.arrayClass .int) (by decide +kernel)) hC.1 hP hD hS hA (N' := 64) (by decide) (by decide) (by decide) (Nat.le_of_ble_eq_true rfl) (Nat.le_of_ble_eq_true rfl) dX0_init_7 (fun q1 H hP hD hS => ?_)
  have hP : va_P X.2.1 vwCl ([(h0, .inr (0, [.null, .null, .null]))] ++ [(q1, .inl (X.2.2 1, 64, .inl (fun _ => 0)))]) H := hP
  have hD : va_D A ([(h0, .inr (0, [.null, .null, .null]))] ++ [(q1, .inl (X.2.2 1, 64, .inl (fun _ => 0)))]) := hD
  refine va_putF (D := X.2.1) (ci := 0) (v := .ref q1) (ty := tyX0 0) (C := RX0) (T := TX0) (N := 3) hx hb hts (fun _ h9 => List.mem_cons_of_mem _ (List.mem_append_left _ (List.mem_append_right _ h9))) tyX0 tyX0_ok nmX0 hown hC.1 hP hD hS 0 rfl rfl 0 (by decide) (hts (.fieldLink RX0 9 "IceByEar$Drafts" "thickness" "[I") (by decide +kernel)) (fun _ h9 => h9) rfl hin rfl (tyX0_ok 0 (by decide)) rfl rfl (Nat.le_of_ble_eq_true rfl) dX0_init_9 (fun H locs hP hD hS => ?_)
  have hP : va_P X.2.1 vwCl ([(h0, .inr (0, [.ref q1, .null, .null]))] ++ [(q1, .inl (X.2.2 1, 64, .inl (fun _ => 0)))]) H := hP
  have hD : va_D A ([(h0, .inr (0, [.ref q1, .null, .null]))] ++ [(q1, .inl (X.2.2 1, 64, .inl (fun _ => 0)))]) := hD
  refine lv_aload_n hx hb dX0_init_12 rfl (lv_at hl 0 rfl) ?_
  refine lv_bipush (v := 64) hx hb dX0_init_13 (by decide) ?_
  refine gi_newai hx hb (hts (.arrayClass .int) (by decide +kernel)) hC.1 hP hD hS hA (N' := 64) (by decide) (by decide) (by decide) (Nat.le_of_ble_eq_true rfl) (Nat.le_of_ble_eq_true rfl) dX0_init_15 (fun q2 H hP hD hS => ?_)
  have hP : va_P X.2.1 vwCl ([(h0, .inr (0, [.ref q1, .null, .null]))] ++ [(q1, .inl (X.2.2 1, 64, .inl (fun _ => 0)))] ++ [(q2, .inl (X.2.2 1, 64, .inl (fun _ => 0)))]) H := hP
  have hD : va_D A ([(h0, .inr (0, [.ref q1, .null, .null]))] ++ [(q1, .inl (X.2.2 1, 64, .inl (fun _ => 0)))] ++ [(q2, .inl (X.2.2 1, 64, .inl (fun _ => 0)))]) := hD
  refine va_putF (D := X.2.1) (ci := 0) (v := .ref q2) (ty := tyX0 1) (C := RX0) (T := TX0) (N := 3) hx hb hts (fun _ h9 => List.mem_cons_of_mem _ (List.mem_append_left _ (List.mem_append_right _ h9))) tyX0 tyX0_ok nmX0 hown hC.1 hP hD hS 0 rfl rfl 1 (by decide) (hts (.fieldLink RX0 15 "IceByEar$Drafts" "kinds" "[I") (by decide +kernel)) (fun _ h9 => h9) rfl hin rfl (tyX0_ok 1 (by decide)) rfl rfl (Nat.le_of_ble_eq_true rfl) dX0_init_17 (fun H locs hP hD hS => ?_)
  have hP : va_P X.2.1 vwCl ([(h0, .inr (0, [.ref q1, .ref q2, .null]))] ++ [(q1, .inl (X.2.2 1, 64, .inl (fun _ => 0)))] ++ [(q2, .inl (X.2.2 1, 64, .inl (fun _ => 0)))]) H := hP
  have hD : va_D A ([(h0, .inr (0, [.ref q1, .ref q2, .null]))] ++ [(q1, .inl (X.2.2 1, 64, .inl (fun _ => 0)))] ++ [(q2, .inl (X.2.2 1, 64, .inl (fun _ => 0)))]) := hD
  refine lv_aload_n hx hb dX0_init_20 rfl (lv_at hl 0 rfl) ?_
  refine gi_make (rest := [.ref h0]) (ci := 8) (C := RX8) (T := TX8) (N := 4) (fs := [.null, .null, .null, .int 0]) (mc := 3) (ms := 18) (sh := shX8 X) (host := "IceByEar") hx hb hml hl.1 hts (fun _ h9 => List.mem_cons_of_mem _ (List.mem_append_right _ h9)) tyX8 tyX8_ok hown ⟨by decide +kernel, by decide +kernel, by decide +kernel⟩ hC hP hD hS hA rfl (fun j hj => by rcases (show j = 0 ∨ j = 1 ∨ j = 2 ∨ j = 3 by omega) with rfl | rfl | rfl | rfl <;> rfl) (Nat.le_of_ble_eq_true rfl) (Nat.le_of_ble_eq_true rfl) (fun a b => iX8 l X a b) gX0_init_X8_init_n20 rfl ⟨rfl, rfl⟩ (Or.inr (by decide +kernel)) ⟨by decide +kernel, by decide +kernel, rfl⟩ (by decide +kernel) ⟨by decide, by decide⟩ (Nat.le_of_ble_eq_true rfl) dX0_init_21 dX0_init_24 dX0_init_25 (fun u3 H locs hP hD hS => ?_)
  have hP : va_P X.2.1 vwCl ([(h0, .inr (0, [.ref q1, .ref q2, .null]))] ++ [(q1, .inl (X.2.2 1, 64, .inl (fun _ => 0)))] ++ [(q2, .inl (X.2.2 1, 64, .inl (fun _ => 0)))] ++ shX8 X u3) H := hP
  have hD : va_D A ([(h0, .inr (0, [.ref q1, .ref q2, .null]))] ++ [(q1, .inl (X.2.2 1, 64, .inl (fun _ => 0)))] ++ [(q2, .inl (X.2.2 1, 64, .inl (fun _ => 0)))] ++ shX8 X u3) := hD
  refine va_putF (D := X.2.1) (ci := 0) (v := .ref (u3 0)) (ty := tyX0 2) (C := RX0) (T := TX0) (N := 3) hx hb hts (fun _ h9 => List.mem_cons_of_mem _ (List.mem_append_left _ (List.mem_append_right _ h9))) tyX0 tyX0_ok nmX0 hown hC.1 hP hD hS 0 rfl rfl 2 (by decide) (hts (.fieldLink RX0 21 "IceByEar$Drafts" "train" "LIceByEar$Train;") (by decide +kernel)) (fun _ h9 => h9) rfl hin rfl (tyX0_ok 2 (by decide)) rfl rfl (Nat.le_of_ble_eq_true rfl) dX0_init_28 (fun H locs hP hD hS => ?_)
  have hP : va_P X.2.1 vwCl ([(h0, .inr (0, [.ref q1, .ref q2, .ref (u3 0)]))] ++ [(q1, .inl (X.2.2 1, 64, .inl (fun _ => 0)))] ++ [(q2, .inl (X.2.2 1, 64, .inl (fun _ => 0)))] ++ shX8 X u3) H := hP
  have hD : va_D A ([(h0, .inr (0, [.ref q1, .ref q2, .ref (u3 0)]))] ++ [(q1, .inl (X.2.2 1, 64, .inl (fun _ => 0)))] ++ [(q2, .inl (X.2.2 1, 64, .inl (fun _ => 0)))] ++ shX8 X u3) := hD
  exact gi_ret (sh := shX0 X) hx hb hr hlocks (fun k => if k = 0 then h0 else if k < 2 then q1 else if k < 3 then q2 else if k < 7 then u3 (k - 3) else 0) rfl hP hD hS dX0_init_31
def shX4 (X : gw_X) (u : Nat → Nat) : va_W := [(u 0, .inr (4, [.ref (u 1), .ref (u 3), .ref (u 7), .ref (u 9), .int (20 : Int32), .int (10 : Int32)]))] ++ shX2 X (fun j => u (j + 1)) ++ shX8 X (fun j => u (j + 3)) ++ shX9 X (fun j => u (j + 7)) ++ shX1 X (fun j => u (j + 9))
set_option maxHeartbeats 4000000 in
set_option maxRecDepth 100000 in
theorem iX4 (l : Launch) (X : gw_X) (h0 sz : Nat) : Met l yX4_init wsX4_init { frames := 3, cells := 13, slots := 426, locals := 66 } (gi_Pc X sz [(h0, .inr (4, [.null, .null, .null, .null, .int 0, .int 0]))] [.ref h0]) (gi_QA X (va_A [(h0, .inr (4, [.null, .null, .null, .null, .int 0, .int 0]))] sz) h0 (shX4 X)) 13 426 (va_A [(h0, .inr (4, [.null, .null, .null, .null, .int 0, .int 0]))] sz) := by
  refine gi_of RX4 (by decide) rfl rfl (Nat.le_of_ble_eq_true rfl) (fun p e s m below meth c ls A hx hb hml hown hts hr hlocks hin hC hA hP hD hS hl => ?_)
  have hl : lv_has ls 1 [(0, .ref h0)] := hl
  refine lv_aload_n hx hb dX4_init_0 rfl (lv_at hl 0 rfl) ?_
  refine W.objInit hx hb hown (hts (.methodLink RX4 3 objectInit) (by decide +kernel)) (hts (.instanceMethod objectInit) (by decide +kernel)) (hts _ (List.mem_cons_of_mem _ (List.mem_append_left _ (List.mem_append_left _ (List.mem_append_left _ (List.mem_append_left _ (List.mem_append_left _ (List.mem_append_left _ (List.mem_of_getElem? (i := 2) rfl))))))))) rfl (by rw [hml]; exact hl.1) rfl dX4_init_1 (Nat.le_of_ble_eq_true rfl) (Nat.le_of_ble_eq_true rfl) ?_
  refine W.eq (g2 := F0 m 4 ls []) rfl ?_
  refine lv_aload_n hx hb dX4_init_4 rfl (lv_at hl 0 rfl) ?_
  refine gi_make (rest := [.ref h0]) (ci := 2) (C := RX2) (T := TX2) (N := 1) (fs := [.null]) (mc := 1) (ms := 320) (sh := shX2 X) (host := "IceByEar") hx hb hml hl.1 hts (fun _ h9 => List.mem_cons_of_mem _ (List.mem_append_left _ (List.mem_append_left _ (List.mem_append_left _ (List.mem_append_left _ (List.mem_append_right _ h9)))))) tyX2 tyX2_ok hown ⟨by decide +kernel, by decide +kernel, by decide +kernel⟩ hC hP hD hS hA rfl (fun j hj => by rcases (show j = 0 by omega) with rfl <;> rfl) (Nat.le_of_ble_eq_true rfl) (Nat.le_of_ble_eq_true rfl) (fun a b => iX2 l X a b) gX4_init_X2_init rfl ⟨rfl, rfl⟩ (Or.inl (by decide +kernel)) ⟨by decide +kernel, by decide +kernel, rfl⟩ (by decide +kernel) ⟨by decide, by decide⟩ (Nat.le_of_ble_eq_true rfl) dX4_init_5 dX4_init_8 dX4_init_9 (fun u1 H locs hP hD hS => ?_)
  have hP : va_P X.2.1 vwCl ([(h0, .inr (4, [.null, .null, .null, .null, .int 0, .int 0]))] ++ shX2 X u1) H := hP
  have hD : va_D A ([(h0, .inr (4, [.null, .null, .null, .null, .int 0, .int 0]))] ++ shX2 X u1) := hD
  refine va_putF (D := X.2.1) (ci := 4) (v := .ref (u1 0)) (ty := tyX4 0) (C := RX4) (T := TX4) (N := 6) hx hb hts (fun _ h9 => List.mem_cons_of_mem _ (List.mem_append_left _ (List.mem_append_left _ (List.mem_append_left _ (List.mem_append_right _ h9))))) tyX4 tyX4_ok nmX4 hown hC.1 hP hD hS 0 rfl rfl 0 (by decide) (hts (.fieldLink RX4 12 "IceByEar$Scene" "ice" "LIceByEar$Ice;") (by decide +kernel)) (fun _ h9 => h9) rfl hin rfl (tyX4_ok 0 (by decide)) rfl rfl (Nat.le_of_ble_eq_true rfl) dX4_init_12 (fun H locs hP hD hS => ?_)
  have hP : va_P X.2.1 vwCl ([(h0, .inr (4, [.ref (u1 0), .null, .null, .null, .int 0, .int 0]))] ++ shX2 X u1) H := hP
  have hD : va_D A ([(h0, .inr (4, [.ref (u1 0), .null, .null, .null, .int 0, .int 0]))] ++ shX2 X u1) := hD
  refine lv_aload_n hx hb dX4_init_15 rfl (lv_at hl 0 rfl) ?_
  refine gi_make (rest := [.ref h0]) (ci := 8) (C := RX8) (T := TX8) (N := 4) (fs := [.null, .null, .null, .int 0]) (mc := 3) (ms := 18) (sh := shX8 X) (host := "IceByEar") hx hb hml hl.1 hts (fun _ h9 => List.mem_cons_of_mem _ (List.mem_append_left _ (List.mem_append_left _ (List.mem_append_right _ h9)))) tyX8 tyX8_ok hown ⟨by decide +kernel, by decide +kernel, by decide +kernel⟩ hC hP hD hS hA rfl (fun j hj => by rcases (show j = 0 ∨ j = 1 ∨ j = 2 ∨ j = 3 by omega) with rfl | rfl | rfl | rfl <;> rfl) (Nat.le_of_ble_eq_true rfl) (Nat.le_of_ble_eq_true rfl) (fun a b => iX8 l X a b) gX4_init_X8_init_n20 rfl ⟨rfl, rfl⟩ (Or.inr (by decide +kernel)) ⟨by decide +kernel, by decide +kernel, rfl⟩ (by decide +kernel) ⟨by decide, by decide⟩ (Nat.le_of_ble_eq_true rfl) dX4_init_16 dX4_init_19 dX4_init_20 (fun u2 H locs hP hD hS => ?_)
  have hP : va_P X.2.1 vwCl ([(h0, .inr (4, [.ref (u1 0), .null, .null, .null, .int 0, .int 0]))] ++ shX2 X u1 ++ shX8 X u2) H := hP
  have hD : va_D A ([(h0, .inr (4, [.ref (u1 0), .null, .null, .null, .int 0, .int 0]))] ++ shX2 X u1 ++ shX8 X u2) := hD
  refine va_putF (D := X.2.1) (ci := 4) (v := .ref (u2 0)) (ty := tyX4 1) (C := RX4) (T := TX4) (N := 6) hx hb hts (fun _ h9 => List.mem_cons_of_mem _ (List.mem_append_left _ (List.mem_append_left _ (List.mem_append_left _ (List.mem_append_right _ h9))))) tyX4 tyX4_ok nmX4 hown hC.1 hP hD hS 0 rfl rfl 1 (by decide) (hts (.fieldLink RX4 21 "IceByEar$Scene" "train" "LIceByEar$Train;") (by decide +kernel)) (fun _ h9 => h9) rfl hin rfl (tyX4_ok 1 (by decide)) rfl rfl (Nat.le_of_ble_eq_true rfl) dX4_init_23 (fun H locs hP hD hS => ?_)
  have hP : va_P X.2.1 vwCl ([(h0, .inr (4, [.ref (u1 0), .ref (u2 0), .null, .null, .int 0, .int 0]))] ++ shX2 X u1 ++ shX8 X u2) H := hP
  have hD : va_D A ([(h0, .inr (4, [.ref (u1 0), .ref (u2 0), .null, .null, .int 0, .int 0]))] ++ shX2 X u1 ++ shX8 X u2) := hD
  refine lv_aload_n hx hb dX4_init_26 rfl (lv_at hl 0 rfl) ?_
  refine gi_make (rest := [.ref h0]) (ci := 9) (C := RX9) (T := TX9) (N := 2) (fs := [.null, .int 0]) (mc := 1) (ms := 24) (sh := shX9 X) (host := "IceByEar") hx hb hml hl.1 hts (fun _ h9 => List.mem_cons_of_mem _ (List.mem_append_left _ (List.mem_append_right _ h9))) tyX9 tyX9_ok hown ⟨by decide +kernel, by decide +kernel, by decide +kernel⟩ hC hP hD hS hA rfl (fun j hj => by rcases (show j = 0 ∨ j = 1 by omega) with rfl | rfl <;> rfl) (Nat.le_of_ble_eq_true rfl) (Nat.le_of_ble_eq_true rfl) (fun a b => iX9 l X a b) gX4_init_X9_init_n27 rfl ⟨rfl, rfl⟩ (Or.inr (by decide +kernel)) ⟨by decide +kernel, by decide +kernel, rfl⟩ (by decide +kernel) ⟨by decide, by decide⟩ (Nat.le_of_ble_eq_true rfl) dX4_init_27 dX4_init_30 dX4_init_31 (fun u3 H locs hP hD hS => ?_)
  have hP : va_P X.2.1 vwCl ([(h0, .inr (4, [.ref (u1 0), .ref (u2 0), .null, .null, .int 0, .int 0]))] ++ shX2 X u1 ++ shX8 X u2 ++ shX9 X u3) H := hP
  have hD : va_D A ([(h0, .inr (4, [.ref (u1 0), .ref (u2 0), .null, .null, .int 0, .int 0]))] ++ shX2 X u1 ++ shX8 X u2 ++ shX9 X u3) := hD
  refine va_putF (D := X.2.1) (ci := 4) (v := .ref (u3 0)) (ty := tyX4 2) (C := RX4) (T := TX4) (N := 6) hx hb hts (fun _ h9 => List.mem_cons_of_mem _ (List.mem_append_left _ (List.mem_append_left _ (List.mem_append_left _ (List.mem_append_right _ h9))))) tyX4 tyX4_ok nmX4 hown hC.1 hP hD hS 0 rfl rfl 2 (by decide) (hts (.fieldLink RX4 28 "IceByEar$Scene" "way" "LIceByEar$Way;") (by decide +kernel)) (fun _ h9 => h9) rfl hin rfl (tyX4_ok 2 (by decide)) rfl rfl (Nat.le_of_ble_eq_true rfl) dX4_init_34 (fun H locs hP hD hS => ?_)
  have hP : va_P X.2.1 vwCl ([(h0, .inr (4, [.ref (u1 0), .ref (u2 0), .ref (u3 0), .null, .int 0, .int 0]))] ++ shX2 X u1 ++ shX8 X u2 ++ shX9 X u3) H := hP
  have hD : va_D A ([(h0, .inr (4, [.ref (u1 0), .ref (u2 0), .ref (u3 0), .null, .int 0, .int 0]))] ++ shX2 X u1 ++ shX8 X u2 ++ shX9 X u3) := hD
  refine lv_aload_n hx hb dX4_init_37 rfl (lv_at hl 0 rfl) ?_
  refine gi_make (rest := [.ref h0]) (ci := 1) (C := RX1) (T := TX1) (N := 5) (fs := [.null, .null, .null, .null, .int 0]) (mc := 4) (ms := 52) (sh := shX1 X) (host := "IceByEar") hx hb hml hl.1 hts (fun _ h9 => List.mem_cons_of_mem _ (List.mem_append_right _ h9)) tyX1 tyX1_ok hown ⟨by decide +kernel, by decide +kernel, by decide +kernel⟩ hC hP hD hS hA rfl (fun j hj => by rcases (show j = 0 ∨ j = 1 ∨ j = 2 ∨ j = 3 ∨ j = 4 by omega) with rfl | rfl | rfl | rfl | rfl <;> rfl) (Nat.le_of_ble_eq_true rfl) (Nat.le_of_ble_eq_true rfl) (fun a b => iX1 l X a b) gX4_init_X1_init_n34 rfl ⟨rfl, rfl⟩ (Or.inr (by decide +kernel)) ⟨by decide +kernel, by decide +kernel, rfl⟩ (by decide +kernel) ⟨by decide, by decide⟩ (Nat.le_of_ble_eq_true rfl) dX4_init_38 dX4_init_41 dX4_init_42 (fun u4 H locs hP hD hS => ?_)
  have hP : va_P X.2.1 vwCl ([(h0, .inr (4, [.ref (u1 0), .ref (u2 0), .ref (u3 0), .null, .int 0, .int 0]))] ++ shX2 X u1 ++ shX8 X u2 ++ shX9 X u3 ++ shX1 X u4) H := hP
  have hD : va_D A ([(h0, .inr (4, [.ref (u1 0), .ref (u2 0), .ref (u3 0), .null, .int 0, .int 0]))] ++ shX2 X u1 ++ shX8 X u2 ++ shX9 X u3 ++ shX1 X u4) := hD
  refine va_putF (D := X.2.1) (ci := 4) (v := .ref (u4 0)) (ty := tyX4 3) (C := RX4) (T := TX4) (N := 6) hx hb hts (fun _ h9 => List.mem_cons_of_mem _ (List.mem_append_left _ (List.mem_append_left _ (List.mem_append_left _ (List.mem_append_right _ h9))))) tyX4 tyX4_ok nmX4 hown hC.1 hP hD hS 0 rfl rfl 3 (by decide) (hts (.fieldLink RX4 35 "IceByEar$Scene" "ears" "LIceByEar$Ears;") (by decide +kernel)) (fun _ h9 => h9) rfl hin rfl (tyX4_ok 3 (by decide)) rfl rfl (Nat.le_of_ble_eq_true rfl) dX4_init_45 (fun H locs hP hD hS => ?_)
  have hP : va_P X.2.1 vwCl ([(h0, .inr (4, [.ref (u1 0), .ref (u2 0), .ref (u3 0), .ref (u4 0), .int 0, .int 0]))] ++ shX2 X u1 ++ shX8 X u2 ++ shX9 X u3 ++ shX1 X u4) H := hP
  have hD : va_D A ([(h0, .inr (4, [.ref (u1 0), .ref (u2 0), .ref (u3 0), .ref (u4 0), .int 0, .int 0]))] ++ shX2 X u1 ++ shX8 X u2 ++ shX9 X u3 ++ shX1 X u4) := hD
  refine lv_aload_n hx hb dX4_init_48 rfl (lv_at hl 0 rfl) ?_
  refine lv_bipush (v := 20) hx hb dX4_init_49 (by decide) ?_
  refine va_put (D := X.2.1) (ci := 4) (v := .int (20 : Int32)) (ty := tyX4 4) (C := RX4) (T := TX4) (N := 6) hx hb hts (fun _ h9 => List.mem_cons_of_mem _ (List.mem_append_left _ (List.mem_append_left _ (List.mem_append_left _ (List.mem_append_right _ h9))))) tyX4 tyX4_ok nmX4 hown hC.1 hP hD hS 0 rfl rfl 4 (by decide) (hts (.fieldLink RX4 39 "IceByEar$Scene" "crackBelow" "I") (by decide +kernel)) (fun _ h9 => h9) rfl (tyX4_ok 4 (by decide)) rfl rfl (Nat.le_of_ble_eq_true rfl) dX4_init_51 (fun H locs hP hD hS => ?_)
  have hP : va_P X.2.1 vwCl ([(h0, .inr (4, [.ref (u1 0), .ref (u2 0), .ref (u3 0), .ref (u4 0), .int (20 : Int32), .int 0]))] ++ shX2 X u1 ++ shX8 X u2 ++ shX9 X u3 ++ shX1 X u4) H := hP
  have hD : va_D A ([(h0, .inr (4, [.ref (u1 0), .ref (u2 0), .ref (u3 0), .ref (u4 0), .int (20 : Int32), .int 0]))] ++ shX2 X u1 ++ shX8 X u2 ++ shX9 X u3 ++ shX1 X u4) := hD
  refine lv_aload_n hx hb dX4_init_54 rfl (lv_at hl 0 rfl) ?_
  refine lv_bipush (v := 10) hx hb dX4_init_55 (by decide) ?_
  refine va_put (D := X.2.1) (ci := 4) (v := .int (10 : Int32)) (ty := tyX4 5) (C := RX4) (T := TX4) (N := 6) hx hb hts (fun _ h9 => List.mem_cons_of_mem _ (List.mem_append_left _ (List.mem_append_left _ (List.mem_append_left _ (List.mem_append_right _ h9))))) tyX4 tyX4_ok nmX4 hown hC.1 hP hD hS 0 rfl rfl 5 (by decide) (hts (.fieldLink RX4 43 "IceByEar$Scene" "steep" "I") (by decide +kernel)) (fun _ h9 => h9) rfl (tyX4_ok 5 (by decide)) rfl rfl (Nat.le_of_ble_eq_true rfl) dX4_init_57 (fun H locs hP hD hS => ?_)
  have hP : va_P X.2.1 vwCl ([(h0, .inr (4, [.ref (u1 0), .ref (u2 0), .ref (u3 0), .ref (u4 0), .int (20 : Int32), .int (10 : Int32)]))] ++ shX2 X u1 ++ shX8 X u2 ++ shX9 X u3 ++ shX1 X u4) H := hP
  have hD : va_D A ([(h0, .inr (4, [.ref (u1 0), .ref (u2 0), .ref (u3 0), .ref (u4 0), .int (20 : Int32), .int (10 : Int32)]))] ++ shX2 X u1 ++ shX8 X u2 ++ shX9 X u3 ++ shX1 X u4) := hD
  exact gi_ret (sh := shX4 X) hx hb hr hlocks (fun k => if k = 0 then h0 else if k < 3 then u1 (k - 1) else if k < 7 then u2 (k - 3) else if k < 9 then u3 (k - 7) else if k < 14 then u4 (k - 9) else 0) rfl hP hD hS dX4_init_60
theorem gi_hd5 (X : gw_X) (u : Nat → Nat) (A : va_W) : (A ++ shX5 X u)[A.length]? = some (u 0, .inr (5, [.ref (u 1), .ref (u 2), .ref (u 3), .int (-1 : Int32), .int (0 : Int32)])) := by
  rw [List.getElem?_append_right (Nat.le_refl _), Nat.sub_self]
  rfl
set_option maxHeartbeats 4000000 in
set_option maxRecDepth 100000 in
theorem iX10_tail {p : Program} {l : Launch} {e : Env} {s : State} {m : MethodId} {args : Array Value} {below : List Frame} {meth : Method} {c : Code} {H : Heap} {locs : List Loc} {Q : State → Prop} {ls : Array Slot} {X : gw_X} {A : Nat → Prop} {h0 qa : Nat} {f0 f1 f2 f3 f4 f5 f6 : Value} {L : va_W} (hx : p.tables.exec = Jvm.exec) (hb : c.code = cX10_init) (hml : c.maxLocals = 2) (hown : s.vm.findClass RX10 = some m.cls) (hts : ∀ w ∈ wsX10_init, w.before args s = true) (hC : gi_C X s) (hA : ∀ q : Nat, s.heap.size ≤ q → A q) (hP : va_P X.2.1 vwCl ([(h0, .inr (10, [f0, f1, f2, f3, f4, f5, f6, .ref qa]))] ++ L ++ [(qa, .inl (X.2.2 4, 4, .inr (.inr (.inr (.inr (fun _ => none))))))]) H) (hD : va_D A ([(h0, .inr (10, [f0, f1, f2, f3, f4, f5, f6, .ref qa]))] ++ L ++ [(qa, .inl (X.2.2 4, 4, .inr (.inr (.inr (.inr (fun _ => none))))))])) (hS : va_S A s.heap H locs) (hl : lv_has ls 2 [(0, .ref h0)])
    (kk : ∀ (w0 w1 w2 w3 : Nat → Nat) (H : Heap) (locs : List Loc) (ls : Array Slot), va_P X.2.1 vwCl ([(h0, .inr (10, [f0, f1, f2, f3, f4, f5, f6, .ref qa]))] ++ L ++ [(qa, .inl (X.2.2 4, 4, .inr (.inr (.inr (.inr (va_up (va_up (va_up (va_up (fun _ => none) (0 : Int32).toNatClampNeg (some (w0 0))) (1 : Int32).toNatClampNeg (some (w1 0))) (2 : Int32).toNatClampNeg (some (w2 0))) (3 : Int32).toNatClampNeg (some (w3 0))))))))] ++ shX5 X w0 ++ shX5 X w1 ++ shX5 X w2 ++ shX5 X w3) H → va_D A ([(h0, .inr (10, [f0, f1, f2, f3, f4, f5, f6, .ref qa]))] ++ L ++ [(qa, .inl (X.2.2 4, 4, .inr (.inr (.inr (.inr (va_up (va_up (va_up (va_up (fun _ => none) (0 : Int32).toNatClampNeg (some (w0 0))) (1 : Int32).toNatClampNeg (some (w1 0))) (2 : Int32).toNatClampNeg (some (w2 0))) (3 : Int32).toNatClampNeg (some (w3 0))))))))] ++ shX5 X w0 ++ shX5 X w1 ++ shX5 X w2 ++ shX5 X w3) → va_S A s.heap H locs → W p l e { frames := 4, cells := 62, slots := 1926, locals := 86 } s m args below meth c H locs 62 1926 Q (F0 m 109 ls [])) : W p l e { frames := 4, cells := 62, slots := 1926, locals := 86 } s m args below meth c H locs 46 1618 Q (F0 m 83 ls []) := by
  refine lv_iconst (v := 0) hx hb dX10_init_83 (by decide) ?_
  refine lv_istore_n (lv' := [(1, .int 0), (0, .ref h0)]) hx hb dX10_init_84 rfl hl (by decide) rfl (fun ls hl => ?_)
  refine lv_iload_n hx hb dX10_init_85 rfl (lv_at hl 0 rfl) ?_
  refine lv_iconst (v := 4) hx hb dX10_init_86 (by decide) ?_
  refine lv_icmp_ge (tgt := 109) hx hb dX10_init_87 (by decide) (fun hc => absurd hc (by decide)) (fun hc => ?_)
  refine lv_aload_n hx hb dX10_init_90 rfl (lv_at hl 1 rfl) ?_
  refine va_get (D := X.2.1) (ci := 10) (v := .ref qa) (C := RX10) (T := TX10) (N := 8) hx hb hts (fun _ h9 => List.mem_cons_of_mem _ (List.mem_append_left _ (List.mem_append_left _ (List.mem_append_left _ (List.mem_append_left _ (List.mem_append_left _ (List.mem_append_left _ (List.mem_append_left _ (List.mem_append_left _ (List.mem_append_left _ (List.mem_append_right _ h9))))))))))) hown hC.1 hP 0 rfl rfl 7 (by decide) (hts (.fieldLink RX10 53 "IceByEar" "sheets" "[LIceByEar$Sheet;") (by decide +kernel)) (fun _ h9 => h9) rfl dX10_init_91 ?_
  refine lv_iload_n hx hb dX10_init_94 rfl (lv_at hl 0 rfl) ?_
  refine gi_make (rest := [.int (0 : Int32), .ref qa]) (ci := 5) (C := RX5) (T := TX5) (N := 5) (fs := [.null, .null, .null, .int 0, .int 0]) (mc := 3) (ms := 72) (sh := shX5 X) (host := "IceByEar") hx hb hml hl.1 hts (fun _ h9 => List.mem_cons_of_mem _ (List.mem_append_left _ (List.mem_append_left _ (List.mem_append_left _ (List.mem_append_left _ (List.mem_append_right _ h9)))))) tyX5 tyX5_ok hown ⟨by decide +kernel, by decide +kernel, by decide +kernel⟩ hC hP hD hS hA rfl (fun j hj => by rcases (show j = 0 ∨ j = 1 ∨ j = 2 ∨ j = 3 ∨ j = 4 by omega) with rfl | rfl | rfl | rfl | rfl <;> rfl) (Nat.le_of_ble_eq_true rfl) (Nat.le_of_ble_eq_true rfl) (fun a b => iX5 l X a b) gX10_init_X5_init_n57 rfl ⟨rfl, rfl⟩ (Or.inr (by decide +kernel)) ⟨by decide +kernel, by decide +kernel, rfl⟩ (by decide +kernel) ⟨by decide, by decide⟩ (Nat.le_of_ble_eq_true rfl) dX10_init_95 dX10_init_98 dX10_init_99 (fun w0 H locs hP hD hS => ?_)
  have a0 := gi_last ([(h0, .inr (10, [f0, f1, f2, f3, f4, f5, f6, .ref qa]))] ++ L) ((qa, .inl (X.2.2 4, 4, .inr (.inr (.inr (.inr (fun _ => none)))))) : Nat × va_E)
  have a1 := gi_apl (B := shX5 X w0) a0
  have b9 := gi_hd5 X w0 ([(h0, .inr (10, [f0, f1, f2, f3, f4, f5, f6, .ref qa]))] ++ L ++ [(qa, .inl (X.2.2 4, 4, .inr (.inr (.inr (.inr (fun _ => none))))))])
  refine va_astq (r := (RX5, TX5, 5)) hx hb hC.1 hP hD hS ([(h0, .inr (10, [f0, f1, f2, f3, f4, f5, f6, .ref qa]))] ++ L : va_W).length 4 _ 5 (n := 4) (f := (fun _ => none)) a1 rfl b9 rfl (show ¬ ((0 : Int32) < 0 ∨ 4 ≤ (0 : Int32).toNatClampNeg) by decide) dX10_init_102 (fun H locs hP hD hS => ?_)
  rw [gi_setl a0, gi_setlast] at hP hD
  refine lv_iinc (v := 1) (lv' := [(1, .int 1), (0, .ref h0)]) hx hb dX10_init_103 hl (k := 0) rfl (by decide) (by decide) rfl (fun ls hl => ?_)
  refine lv_goto (tgt := 85) hx hb dX10_init_106 (by decide) ?_
  refine lv_iload_n hx hb dX10_init_85 rfl (lv_at hl 0 rfl) ?_
  refine lv_iconst (v := 4) hx hb dX10_init_86 (by decide) ?_
  refine lv_icmp_ge (tgt := 109) hx hb dX10_init_87 (by decide) (fun hc => absurd hc (by decide)) (fun hc => ?_)
  refine lv_aload_n hx hb dX10_init_90 rfl (lv_at hl 1 rfl) ?_
  refine va_get (D := X.2.1) (ci := 10) (v := .ref qa) (C := RX10) (T := TX10) (N := 8) hx hb hts (fun _ h9 => List.mem_cons_of_mem _ (List.mem_append_left _ (List.mem_append_left _ (List.mem_append_left _ (List.mem_append_left _ (List.mem_append_left _ (List.mem_append_left _ (List.mem_append_left _ (List.mem_append_left _ (List.mem_append_left _ (List.mem_append_right _ h9))))))))))) hown hC.1 hP 0 rfl rfl 7 (by decide) (hts (.fieldLink RX10 53 "IceByEar" "sheets" "[LIceByEar$Sheet;") (by decide +kernel)) (fun _ h9 => h9) rfl dX10_init_91 ?_
  refine lv_iload_n hx hb dX10_init_94 rfl (lv_at hl 0 rfl) ?_
  refine gi_make (rest := [.int (1 : Int32), .ref qa]) (ci := 5) (C := RX5) (T := TX5) (N := 5) (fs := [.null, .null, .null, .int 0, .int 0]) (mc := 3) (ms := 72) (sh := shX5 X) (host := "IceByEar") hx hb hml hl.1 hts (fun _ h9 => List.mem_cons_of_mem _ (List.mem_append_left _ (List.mem_append_left _ (List.mem_append_left _ (List.mem_append_left _ (List.mem_append_right _ h9)))))) tyX5 tyX5_ok hown ⟨by decide +kernel, by decide +kernel, by decide +kernel⟩ hC hP hD hS hA rfl (fun j hj => by rcases (show j = 0 ∨ j = 1 ∨ j = 2 ∨ j = 3 ∨ j = 4 by omega) with rfl | rfl | rfl | rfl | rfl <;> rfl) (Nat.le_of_ble_eq_true rfl) (Nat.le_of_ble_eq_true rfl) (fun a b => iX5 l X a b) gX10_init_X5_init_n57 rfl ⟨rfl, rfl⟩ (Or.inr (by decide +kernel)) ⟨by decide +kernel, by decide +kernel, rfl⟩ (by decide +kernel) ⟨by decide, by decide⟩ (Nat.le_of_ble_eq_true rfl) dX10_init_95 dX10_init_98 dX10_init_99 (fun w1 H locs hP hD hS => ?_)
  have a0 := gi_last ([(h0, .inr (10, [f0, f1, f2, f3, f4, f5, f6, .ref qa]))] ++ L) ((qa, .inl (X.2.2 4, 4, .inr (.inr (.inr (.inr (va_up (fun _ => none) (0 : Int32).toNatClampNeg (some (w0 0)))))))) : Nat × va_E)
  have a1 := gi_apl (B := shX5 X w0) a0
  have a2 := gi_apl (B := shX5 X w1) a1
  have b9 := gi_hd5 X w1 ([(h0, .inr (10, [f0, f1, f2, f3, f4, f5, f6, .ref qa]))] ++ L ++ [(qa, .inl (X.2.2 4, 4, .inr (.inr (.inr (.inr (va_up (fun _ => none) (0 : Int32).toNatClampNeg (some (w0 0))))))))] ++ shX5 X w0)
  refine va_astq (r := (RX5, TX5, 5)) hx hb hC.1 hP hD hS ([(h0, .inr (10, [f0, f1, f2, f3, f4, f5, f6, .ref qa]))] ++ L : va_W).length 4 _ 5 (n := 4) (f := (va_up (fun _ => none) (0 : Int32).toNatClampNeg (some (w0 0)))) a2 rfl b9 rfl (show ¬ ((1 : Int32) < 0 ∨ 4 ≤ (1 : Int32).toNatClampNeg) by decide) dX10_init_102 (fun H locs hP hD hS => ?_)
  rw [gi_setl a1, gi_setl a0, gi_setlast] at hP hD
  refine lv_iinc (v := 2) (lv' := [(1, .int 2), (0, .ref h0)]) hx hb dX10_init_103 hl (k := 0) rfl (by decide) (by decide) rfl (fun ls hl => ?_)
  refine lv_goto (tgt := 85) hx hb dX10_init_106 (by decide) ?_
  refine lv_iload_n hx hb dX10_init_85 rfl (lv_at hl 0 rfl) ?_
  refine lv_iconst (v := 4) hx hb dX10_init_86 (by decide) ?_
  refine lv_icmp_ge (tgt := 109) hx hb dX10_init_87 (by decide) (fun hc => absurd hc (by decide)) (fun hc => ?_)
  refine lv_aload_n hx hb dX10_init_90 rfl (lv_at hl 1 rfl) ?_
  refine va_get (D := X.2.1) (ci := 10) (v := .ref qa) (C := RX10) (T := TX10) (N := 8) hx hb hts (fun _ h9 => List.mem_cons_of_mem _ (List.mem_append_left _ (List.mem_append_left _ (List.mem_append_left _ (List.mem_append_left _ (List.mem_append_left _ (List.mem_append_left _ (List.mem_append_left _ (List.mem_append_left _ (List.mem_append_left _ (List.mem_append_right _ h9))))))))))) hown hC.1 hP 0 rfl rfl 7 (by decide) (hts (.fieldLink RX10 53 "IceByEar" "sheets" "[LIceByEar$Sheet;") (by decide +kernel)) (fun _ h9 => h9) rfl dX10_init_91 ?_
  refine lv_iload_n hx hb dX10_init_94 rfl (lv_at hl 0 rfl) ?_
  refine gi_make (rest := [.int (2 : Int32), .ref qa]) (ci := 5) (C := RX5) (T := TX5) (N := 5) (fs := [.null, .null, .null, .int 0, .int 0]) (mc := 3) (ms := 72) (sh := shX5 X) (host := "IceByEar") hx hb hml hl.1 hts (fun _ h9 => List.mem_cons_of_mem _ (List.mem_append_left _ (List.mem_append_left _ (List.mem_append_left _ (List.mem_append_left _ (List.mem_append_right _ h9)))))) tyX5 tyX5_ok hown ⟨by decide +kernel, by decide +kernel, by decide +kernel⟩ hC hP hD hS hA rfl (fun j hj => by rcases (show j = 0 ∨ j = 1 ∨ j = 2 ∨ j = 3 ∨ j = 4 by omega) with rfl | rfl | rfl | rfl | rfl <;> rfl) (Nat.le_of_ble_eq_true rfl) (Nat.le_of_ble_eq_true rfl) (fun a b => iX5 l X a b) gX10_init_X5_init_n57 rfl ⟨rfl, rfl⟩ (Or.inr (by decide +kernel)) ⟨by decide +kernel, by decide +kernel, rfl⟩ (by decide +kernel) ⟨by decide, by decide⟩ (Nat.le_of_ble_eq_true rfl) dX10_init_95 dX10_init_98 dX10_init_99 (fun w2 H locs hP hD hS => ?_)
  have a0 := gi_last ([(h0, .inr (10, [f0, f1, f2, f3, f4, f5, f6, .ref qa]))] ++ L) ((qa, .inl (X.2.2 4, 4, .inr (.inr (.inr (.inr (va_up (va_up (fun _ => none) (0 : Int32).toNatClampNeg (some (w0 0))) (1 : Int32).toNatClampNeg (some (w1 0)))))))) : Nat × va_E)
  have a1 := gi_apl (B := shX5 X w0) a0
  have a2 := gi_apl (B := shX5 X w1) a1
  have a3 := gi_apl (B := shX5 X w2) a2
  have b9 := gi_hd5 X w2 ([(h0, .inr (10, [f0, f1, f2, f3, f4, f5, f6, .ref qa]))] ++ L ++ [(qa, .inl (X.2.2 4, 4, .inr (.inr (.inr (.inr (va_up (va_up (fun _ => none) (0 : Int32).toNatClampNeg (some (w0 0))) (1 : Int32).toNatClampNeg (some (w1 0))))))))] ++ shX5 X w0 ++ shX5 X w1)
  refine va_astq (r := (RX5, TX5, 5)) hx hb hC.1 hP hD hS ([(h0, .inr (10, [f0, f1, f2, f3, f4, f5, f6, .ref qa]))] ++ L : va_W).length 4 _ 5 (n := 4) (f := (va_up (va_up (fun _ => none) (0 : Int32).toNatClampNeg (some (w0 0))) (1 : Int32).toNatClampNeg (some (w1 0)))) a3 rfl b9 rfl (show ¬ ((2 : Int32) < 0 ∨ 4 ≤ (2 : Int32).toNatClampNeg) by decide) dX10_init_102 (fun H locs hP hD hS => ?_)
  rw [gi_setl a2, gi_setl a1, gi_setl a0, gi_setlast] at hP hD
  refine lv_iinc (v := 3) (lv' := [(1, .int 3), (0, .ref h0)]) hx hb dX10_init_103 hl (k := 0) rfl (by decide) (by decide) rfl (fun ls hl => ?_)
  refine lv_goto (tgt := 85) hx hb dX10_init_106 (by decide) ?_
  refine lv_iload_n hx hb dX10_init_85 rfl (lv_at hl 0 rfl) ?_
  refine lv_iconst (v := 4) hx hb dX10_init_86 (by decide) ?_
  refine lv_icmp_ge (tgt := 109) hx hb dX10_init_87 (by decide) (fun hc => absurd hc (by decide)) (fun hc => ?_)
  refine lv_aload_n hx hb dX10_init_90 rfl (lv_at hl 1 rfl) ?_
  refine va_get (D := X.2.1) (ci := 10) (v := .ref qa) (C := RX10) (T := TX10) (N := 8) hx hb hts (fun _ h9 => List.mem_cons_of_mem _ (List.mem_append_left _ (List.mem_append_left _ (List.mem_append_left _ (List.mem_append_left _ (List.mem_append_left _ (List.mem_append_left _ (List.mem_append_left _ (List.mem_append_left _ (List.mem_append_left _ (List.mem_append_right _ h9))))))))))) hown hC.1 hP 0 rfl rfl 7 (by decide) (hts (.fieldLink RX10 53 "IceByEar" "sheets" "[LIceByEar$Sheet;") (by decide +kernel)) (fun _ h9 => h9) rfl dX10_init_91 ?_
  refine lv_iload_n hx hb dX10_init_94 rfl (lv_at hl 0 rfl) ?_
  refine gi_make (rest := [.int (3 : Int32), .ref qa]) (ci := 5) (C := RX5) (T := TX5) (N := 5) (fs := [.null, .null, .null, .int 0, .int 0]) (mc := 3) (ms := 72) (sh := shX5 X) (host := "IceByEar") hx hb hml hl.1 hts (fun _ h9 => List.mem_cons_of_mem _ (List.mem_append_left _ (List.mem_append_left _ (List.mem_append_left _ (List.mem_append_left _ (List.mem_append_right _ h9)))))) tyX5 tyX5_ok hown ⟨by decide +kernel, by decide +kernel, by decide +kernel⟩ hC hP hD hS hA rfl (fun j hj => by rcases (show j = 0 ∨ j = 1 ∨ j = 2 ∨ j = 3 ∨ j = 4 by omega) with rfl | rfl | rfl | rfl | rfl <;> rfl) (Nat.le_of_ble_eq_true rfl) (Nat.le_of_ble_eq_true rfl) (fun a b => iX5 l X a b) gX10_init_X5_init_n57 rfl ⟨rfl, rfl⟩ (Or.inr (by decide +kernel)) ⟨by decide +kernel, by decide +kernel, rfl⟩ (by decide +kernel) ⟨by decide, by decide⟩ (Nat.le_of_ble_eq_true rfl) dX10_init_95 dX10_init_98 dX10_init_99 (fun w3 H locs hP hD hS => ?_)
  have a0 := gi_last ([(h0, .inr (10, [f0, f1, f2, f3, f4, f5, f6, .ref qa]))] ++ L) ((qa, .inl (X.2.2 4, 4, .inr (.inr (.inr (.inr (va_up (va_up (va_up (fun _ => none) (0 : Int32).toNatClampNeg (some (w0 0))) (1 : Int32).toNatClampNeg (some (w1 0))) (2 : Int32).toNatClampNeg (some (w2 0)))))))) : Nat × va_E)
  have a1 := gi_apl (B := shX5 X w0) a0
  have a2 := gi_apl (B := shX5 X w1) a1
  have a3 := gi_apl (B := shX5 X w2) a2
  have a4 := gi_apl (B := shX5 X w3) a3
  have b9 := gi_hd5 X w3 ([(h0, .inr (10, [f0, f1, f2, f3, f4, f5, f6, .ref qa]))] ++ L ++ [(qa, .inl (X.2.2 4, 4, .inr (.inr (.inr (.inr (va_up (va_up (va_up (fun _ => none) (0 : Int32).toNatClampNeg (some (w0 0))) (1 : Int32).toNatClampNeg (some (w1 0))) (2 : Int32).toNatClampNeg (some (w2 0))))))))] ++ shX5 X w0 ++ shX5 X w1 ++ shX5 X w2)
  refine va_astq (r := (RX5, TX5, 5)) hx hb hC.1 hP hD hS ([(h0, .inr (10, [f0, f1, f2, f3, f4, f5, f6, .ref qa]))] ++ L : va_W).length 4 _ 5 (n := 4) (f := (va_up (va_up (va_up (fun _ => none) (0 : Int32).toNatClampNeg (some (w0 0))) (1 : Int32).toNatClampNeg (some (w1 0))) (2 : Int32).toNatClampNeg (some (w2 0)))) a4 rfl b9 rfl (show ¬ ((3 : Int32) < 0 ∨ 4 ≤ (3 : Int32).toNatClampNeg) by decide) dX10_init_102 (fun H locs hP hD hS => ?_)
  rw [gi_setl a3, gi_setl a2, gi_setl a1, gi_setl a0, gi_setlast] at hP hD
  refine lv_iinc (v := 4) (lv' := [(1, .int 4), (0, .ref h0)]) hx hb dX10_init_103 hl (k := 0) rfl (by decide) (by decide) rfl (fun ls hl => ?_)
  refine lv_goto (tgt := 85) hx hb dX10_init_106 (by decide) ?_
  refine lv_iload_n hx hb dX10_init_85 rfl (lv_at hl 0 rfl) ?_
  refine lv_iconst (v := 4) hx hb dX10_init_86 (by decide) ?_
  refine lv_icmp_ge (tgt := 109) hx hb dX10_init_87 (by decide) (fun hc => ?_) (fun hc => absurd (by decide) hc)
  exact kk w0 w1 w2 w3 H locs ls hP hD hS
def shX10 (X : gw_X) (u : Nat → Nat) : va_W := [(u 0, .inr (10, [.ref (u 1), .ref (u 15), .int (0 : Int32), .ref (u 29), .ref (u 31), .ref (u 38), .ref (u 43), .ref (u 46)]))] ++ shX4 X (fun j => u (j + 1)) ++ shX4 X (fun j => u (j + 15)) ++ shX7 X (fun j => u (j + 29)) ++ shX0 X (fun j => u (j + 31)) ++ shX3 X (fun j => u (j + 38)) ++ shX6 X (fun j => u (j + 43)) ++ [(u 46, .inl (X.2.2 4, 4, .inr (.inr (.inr (.inr (fun j => some (u (47 + 4 * j))))))))] ++ shX5 X (fun j => u (j + 47)) ++ shX5 X (fun j => u (j + 51)) ++ shX5 X (fun j => u (j + 55)) ++ shX5 X (fun j => u (j + 59))
set_option maxHeartbeats 4000000 in
set_option maxRecDepth 100000 in
theorem iX10 (l : Launch) (X : gw_X) (h0 sz : Nat) : Met l yX10_init wsX10_init { frames := 4, cells := 62, slots := 1926, locals := 86 } (gi_Pc X sz [(h0, .inr (10, [.null, .null, .int 0, .null, .null, .null, .null, .null]))] [.ref h0]) (gi_QA X (va_A [(h0, .inr (10, [.null, .null, .int 0, .null, .null, .null, .null, .null]))] sz) h0 (shX10 X)) 62 1926 (va_A [(h0, .inr (10, [.null, .null, .int 0, .null, .null, .null, .null, .null]))] sz) := by
  refine gi_of RX10 (by decide) rfl rfl (Nat.le_of_ble_eq_true rfl) (fun p e s m below meth c ls A hx hb hml hown hts hr hlocks hin hC hA hP hD hS hl => ?_)
  have hl : lv_has ls 2 [(0, .ref h0)] := hl
  refine lv_aload_n hx hb dX10_init_0 rfl (lv_at hl 0 rfl) ?_
  refine W.objInit hx hb hown (hts (.methodLink RX10 3 objectInit) (by decide +kernel)) (hts (.instanceMethod objectInit) (by decide +kernel)) (hts _ (List.mem_cons_of_mem _ (List.mem_append_left _ (List.mem_append_left _ (List.mem_append_left _ (List.mem_append_left _ (List.mem_append_left _ (List.mem_append_left _ (List.mem_append_left _ (List.mem_append_left _ (List.mem_append_left _ (List.mem_append_left _ (List.mem_append_left _ (List.mem_append_left _ (List.mem_of_getElem? (i := 2) rfl))))))))))))))) rfl (by rw [hml]; exact hl.1) rfl dX10_init_1 (Nat.le_of_ble_eq_true rfl) (Nat.le_of_ble_eq_true rfl) ?_
  refine W.eq (g2 := F0 m 4 ls []) rfl ?_
  refine lv_aload_n hx hb dX10_init_4 rfl (lv_at hl 0 rfl) ?_
  refine gi_make (rest := [.ref h0]) (ci := 4) (C := RX4) (T := TX4) (N := 6) (fs := [.null, .null, .null, .null, .int 0, .int 0]) (mc := 13) (ms := 426) (sh := shX4 X) (host := "IceByEar") hx hb hml hl.1 hts (fun _ h9 => List.mem_cons_of_mem _ (List.mem_append_left _ (List.mem_append_left _ (List.mem_append_left _ (List.mem_append_left _ (List.mem_append_left _ (List.mem_append_left _ (List.mem_append_left _ (List.mem_append_left _ (List.mem_append_left _ (List.mem_append_left _ (List.mem_append_right _ h9)))))))))))) tyX4 tyX4_ok hown ⟨by decide +kernel, by decide +kernel, by decide +kernel⟩ hC hP hD hS hA rfl (fun j hj => by rcases (show j = 0 ∨ j = 1 ∨ j = 2 ∨ j = 3 ∨ j = 4 ∨ j = 5 by omega) with rfl | rfl | rfl | rfl | rfl | rfl <;> rfl) (Nat.le_of_ble_eq_true rfl) (Nat.le_of_ble_eq_true rfl) (fun a b => iX4 l X a b) gX10_init_X4_init_n11 rfl ⟨rfl, rfl⟩ (Or.inr (by decide +kernel)) ⟨by decide +kernel, by decide +kernel, rfl⟩ (by decide +kernel) ⟨by decide, by decide⟩ (Nat.le_of_ble_eq_true rfl) dX10_init_5 dX10_init_8 dX10_init_9 (fun u1 H locs hP hD hS => ?_)
  have hP : va_P X.2.1 vwCl ([(h0, .inr (10, [.null, .null, .int 0, .null, .null, .null, .null, .null]))] ++ shX4 X u1) H := hP
  have hD : va_D A ([(h0, .inr (10, [.null, .null, .int 0, .null, .null, .null, .null, .null]))] ++ shX4 X u1) := hD
  refine va_putF (D := X.2.1) (ci := 10) (v := .ref (u1 0)) (ty := tyX10 0) (C := RX10) (T := TX10) (N := 8) hx hb hts (fun _ h9 => List.mem_cons_of_mem _ (List.mem_append_left _ (List.mem_append_left _ (List.mem_append_left _ (List.mem_append_left _ (List.mem_append_left _ (List.mem_append_left _ (List.mem_append_left _ (List.mem_append_left _ (List.mem_append_left _ (List.mem_append_right _ h9))))))))))) tyX10 tyX10_ok nmX10 hown hC.1 hP hD hS 0 rfl rfl 0 (by decide) (hts (.fieldLink RX10 12 "IceByEar" "now" "LIceByEar$Scene;") (by decide +kernel)) (fun _ h9 => h9) rfl hin rfl (tyX10_ok 0 (by decide)) rfl rfl (Nat.le_of_ble_eq_true rfl) dX10_init_12 (fun H locs hP hD hS => ?_)
  have hP : va_P X.2.1 vwCl ([(h0, .inr (10, [.ref (u1 0), .null, .int 0, .null, .null, .null, .null, .null]))] ++ shX4 X u1) H := hP
  have hD : va_D A ([(h0, .inr (10, [.ref (u1 0), .null, .int 0, .null, .null, .null, .null, .null]))] ++ shX4 X u1) := hD
  refine lv_aload_n hx hb dX10_init_15 rfl (lv_at hl 0 rfl) ?_
  refine gi_make (rest := [.ref h0]) (ci := 4) (C := RX4) (T := TX4) (N := 6) (fs := [.null, .null, .null, .null, .int 0, .int 0]) (mc := 13) (ms := 426) (sh := shX4 X) (host := "IceByEar") hx hb hml hl.1 hts (fun _ h9 => List.mem_cons_of_mem _ (List.mem_append_left _ (List.mem_append_left _ (List.mem_append_left _ (List.mem_append_left _ (List.mem_append_left _ (List.mem_append_left _ (List.mem_append_left _ (List.mem_append_left _ (List.mem_append_left _ (List.mem_append_left _ (List.mem_append_right _ h9)))))))))))) tyX4 tyX4_ok hown ⟨by decide +kernel, by decide +kernel, by decide +kernel⟩ hC hP hD hS hA rfl (fun j hj => by rcases (show j = 0 ∨ j = 1 ∨ j = 2 ∨ j = 3 ∨ j = 4 ∨ j = 5 by omega) with rfl | rfl | rfl | rfl | rfl | rfl <;> rfl) (Nat.le_of_ble_eq_true rfl) (Nat.le_of_ble_eq_true rfl) (fun a b => iX4 l X a b) gX10_init_X4_init_n11 rfl ⟨rfl, rfl⟩ (Or.inr (by decide +kernel)) ⟨by decide +kernel, by decide +kernel, rfl⟩ (by decide +kernel) ⟨by decide, by decide⟩ (Nat.le_of_ble_eq_true rfl) dX10_init_16 dX10_init_19 dX10_init_20 (fun u2 H locs hP hD hS => ?_)
  have hP : va_P X.2.1 vwCl ([(h0, .inr (10, [.ref (u1 0), .null, .int 0, .null, .null, .null, .null, .null]))] ++ shX4 X u1 ++ shX4 X u2) H := hP
  have hD : va_D A ([(h0, .inr (10, [.ref (u1 0), .null, .int 0, .null, .null, .null, .null, .null]))] ++ shX4 X u1 ++ shX4 X u2) := hD
  refine va_putF (D := X.2.1) (ci := 10) (v := .ref (u2 0)) (ty := tyX10 1) (C := RX10) (T := TX10) (N := 8) hx hb hts (fun _ h9 => List.mem_cons_of_mem _ (List.mem_append_left _ (List.mem_append_left _ (List.mem_append_left _ (List.mem_append_left _ (List.mem_append_left _ (List.mem_append_left _ (List.mem_append_left _ (List.mem_append_left _ (List.mem_append_left _ (List.mem_append_right _ h9))))))))))) tyX10 tyX10_ok nmX10 hown hC.1 hP hD hS 0 rfl rfl 1 (by decide) (hts (.fieldLink RX10 16 "IceByEar" "kept" "LIceByEar$Scene;") (by decide +kernel)) (fun _ h9 => h9) rfl hin rfl (tyX10_ok 1 (by decide)) rfl rfl (Nat.le_of_ble_eq_true rfl) dX10_init_23 (fun H locs hP hD hS => ?_)
  have hP : va_P X.2.1 vwCl ([(h0, .inr (10, [.ref (u1 0), .ref (u2 0), .int 0, .null, .null, .null, .null, .null]))] ++ shX4 X u1 ++ shX4 X u2) H := hP
  have hD : va_D A ([(h0, .inr (10, [.ref (u1 0), .ref (u2 0), .int 0, .null, .null, .null, .null, .null]))] ++ shX4 X u1 ++ shX4 X u2) := hD
  refine lv_aload_n hx hb dX10_init_26 rfl (lv_at hl 0 rfl) ?_
  refine lv_iconst (v := 0) hx hb dX10_init_27 (by decide) ?_
  refine va_put (D := X.2.1) (ci := 10) (v := .int (0 : Int32)) (ty := tyX10 2) (C := RX10) (T := TX10) (N := 8) hx hb hts (fun _ h9 => List.mem_cons_of_mem _ (List.mem_append_left _ (List.mem_append_left _ (List.mem_append_left _ (List.mem_append_left _ (List.mem_append_left _ (List.mem_append_left _ (List.mem_append_left _ (List.mem_append_left _ (List.mem_append_left _ (List.mem_append_right _ h9))))))))))) tyX10 tyX10_ok nmX10 hown hC.1 hP hD hS 0 rfl rfl 2 (by decide) (hts (.fieldLink RX10 19 "IceByEar" "isKept" "Z") (by decide +kernel)) (fun _ h9 => h9) rfl (tyX10_ok 2 (by decide)) rfl rfl (Nat.le_of_ble_eq_true rfl) dX10_init_28 (fun H locs hP hD hS => ?_)
  have hP : va_P X.2.1 vwCl ([(h0, .inr (10, [.ref (u1 0), .ref (u2 0), .int (0 : Int32), .null, .null, .null, .null, .null]))] ++ shX4 X u1 ++ shX4 X u2) H := hP
  have hD : va_D A ([(h0, .inr (10, [.ref (u1 0), .ref (u2 0), .int (0 : Int32), .null, .null, .null, .null, .null]))] ++ shX4 X u1 ++ shX4 X u2) := hD
  refine lv_aload_n hx hb dX10_init_31 rfl (lv_at hl 0 rfl) ?_
  refine gi_make (rest := [.ref h0]) (ci := 7) (C := RX7) (T := TX7) (N := 3) (fs := [.null, .int 0, .int 0]) (mc := 1) (ms := 140) (sh := shX7 X) (host := "IceByEar") hx hb hml hl.1 hts (fun _ h9 => List.mem_cons_of_mem _ (List.mem_append_left _ (List.mem_append_left _ (List.mem_append_left _ (List.mem_append_left _ (List.mem_append_left _ (List.mem_append_left _ (List.mem_append_left _ (List.mem_append_left _ (List.mem_append_right _ h9)))))))))) tyX7 tyX7_ok hown ⟨by decide +kernel, by decide +kernel, by decide +kernel⟩ hC hP hD hS hA rfl (fun j hj => by rcases (show j = 0 ∨ j = 1 ∨ j = 2 by omega) with rfl | rfl | rfl <;> rfl) (Nat.le_of_ble_eq_true rfl) (Nat.le_of_ble_eq_true rfl) (fun a b => iX7 l X a b) gX10_init_X7_init_n25 rfl ⟨rfl, rfl⟩ (Or.inr (by decide +kernel)) ⟨by decide +kernel, by decide +kernel, rfl⟩ (by decide +kernel) ⟨by decide, by decide⟩ (Nat.le_of_ble_eq_true rfl) dX10_init_32 dX10_init_35 dX10_init_36 (fun u3 H locs hP hD hS => ?_)
  have hP : va_P X.2.1 vwCl ([(h0, .inr (10, [.ref (u1 0), .ref (u2 0), .int (0 : Int32), .null, .null, .null, .null, .null]))] ++ shX4 X u1 ++ shX4 X u2 ++ shX7 X u3) H := hP
  have hD : va_D A ([(h0, .inr (10, [.ref (u1 0), .ref (u2 0), .int (0 : Int32), .null, .null, .null, .null, .null]))] ++ shX4 X u1 ++ shX4 X u2 ++ shX7 X u3) := hD
  refine va_putF (D := X.2.1) (ci := 10) (v := .ref (u3 0)) (ty := tyX10 3) (C := RX10) (T := TX10) (N := 8) hx hb hts (fun _ h9 => List.mem_cons_of_mem _ (List.mem_append_left _ (List.mem_append_left _ (List.mem_append_left _ (List.mem_append_left _ (List.mem_append_left _ (List.mem_append_left _ (List.mem_append_left _ (List.mem_append_left _ (List.mem_append_left _ (List.mem_append_right _ h9))))))))))) tyX10 tyX10_ok nmX10 hown hC.1 hP hD hS 0 rfl rfl 3 (by decide) (hts (.fieldLink RX10 26 "IceByEar" "tape" "LIceByEar$Tape;") (by decide +kernel)) (fun _ h9 => h9) rfl hin rfl (tyX10_ok 3 (by decide)) rfl rfl (Nat.le_of_ble_eq_true rfl) dX10_init_39 (fun H locs hP hD hS => ?_)
  have hP : va_P X.2.1 vwCl ([(h0, .inr (10, [.ref (u1 0), .ref (u2 0), .int (0 : Int32), .ref (u3 0), .null, .null, .null, .null]))] ++ shX4 X u1 ++ shX4 X u2 ++ shX7 X u3) H := hP
  have hD : va_D A ([(h0, .inr (10, [.ref (u1 0), .ref (u2 0), .int (0 : Int32), .ref (u3 0), .null, .null, .null, .null]))] ++ shX4 X u1 ++ shX4 X u2 ++ shX7 X u3) := hD
  refine lv_aload_n hx hb dX10_init_42 rfl (lv_at hl 0 rfl) ?_
  refine gi_make (rest := [.ref h0]) (ci := 0) (C := RX0) (T := TX0) (N := 3) (fs := [.null, .null, .null]) (mc := 6) (ms := 150) (sh := shX0 X) (host := "IceByEar") hx hb hml hl.1 hts (fun _ h9 => List.mem_cons_of_mem _ (List.mem_append_left _ (List.mem_append_left _ (List.mem_append_left _ (List.mem_append_left _ (List.mem_append_left _ (List.mem_append_left _ (List.mem_append_left _ (List.mem_append_right _ h9))))))))) tyX0 tyX0_ok hown ⟨by decide +kernel, by decide +kernel, by decide +kernel⟩ hC hP hD hS hA rfl (fun j hj => by rcases (show j = 0 ∨ j = 1 ∨ j = 2 by omega) with rfl | rfl | rfl <;> rfl) (Nat.le_of_ble_eq_true rfl) (Nat.le_of_ble_eq_true rfl) (fun a b => iX0 l X a b) gX10_init_X0_init_n32 rfl ⟨rfl, rfl⟩ (Or.inr (by decide +kernel)) ⟨by decide +kernel, by decide +kernel, rfl⟩ (by decide +kernel) ⟨by decide, by decide⟩ (Nat.le_of_ble_eq_true rfl) dX10_init_43 dX10_init_46 dX10_init_47 (fun u4 H locs hP hD hS => ?_)
  have hP : va_P X.2.1 vwCl ([(h0, .inr (10, [.ref (u1 0), .ref (u2 0), .int (0 : Int32), .ref (u3 0), .null, .null, .null, .null]))] ++ shX4 X u1 ++ shX4 X u2 ++ shX7 X u3 ++ shX0 X u4) H := hP
  have hD : va_D A ([(h0, .inr (10, [.ref (u1 0), .ref (u2 0), .int (0 : Int32), .ref (u3 0), .null, .null, .null, .null]))] ++ shX4 X u1 ++ shX4 X u2 ++ shX7 X u3 ++ shX0 X u4) := hD
  refine va_putF (D := X.2.1) (ci := 10) (v := .ref (u4 0)) (ty := tyX10 4) (C := RX10) (T := TX10) (N := 8) hx hb hts (fun _ h9 => List.mem_cons_of_mem _ (List.mem_append_left _ (List.mem_append_left _ (List.mem_append_left _ (List.mem_append_left _ (List.mem_append_left _ (List.mem_append_left _ (List.mem_append_left _ (List.mem_append_left _ (List.mem_append_left _ (List.mem_append_right _ h9))))))))))) tyX10 tyX10_ok nmX10 hown hC.1 hP hD hS 0 rfl rfl 4 (by decide) (hts (.fieldLink RX10 33 "IceByEar" "drafts" "LIceByEar$Drafts;") (by decide +kernel)) (fun _ h9 => h9) rfl hin rfl (tyX10_ok 4 (by decide)) rfl rfl (Nat.le_of_ble_eq_true rfl) dX10_init_50 (fun H locs hP hD hS => ?_)
  have hP : va_P X.2.1 vwCl ([(h0, .inr (10, [.ref (u1 0), .ref (u2 0), .int (0 : Int32), .ref (u3 0), .ref (u4 0), .null, .null, .null]))] ++ shX4 X u1 ++ shX4 X u2 ++ shX7 X u3 ++ shX0 X u4) H := hP
  have hD : va_D A ([(h0, .inr (10, [.ref (u1 0), .ref (u2 0), .int (0 : Int32), .ref (u3 0), .ref (u4 0), .null, .null, .null]))] ++ shX4 X u1 ++ shX4 X u2 ++ shX7 X u3 ++ shX0 X u4) := hD
  refine lv_aload_n hx hb dX10_init_53 rfl (lv_at hl 0 rfl) ?_
  refine gi_make (rest := [.ref h0]) (ci := 3) (C := RX3) (T := TX3) (N := 4) (fs := [.null, .null, .null, .null]) (mc := 4) (ms := 320) (sh := shX3 X) (host := "IceByEar") hx hb hml hl.1 hts (fun _ h9 => List.mem_cons_of_mem _ (List.mem_append_left _ (List.mem_append_left _ (List.mem_append_left _ (List.mem_append_left _ (List.mem_append_left _ (List.mem_append_left _ (List.mem_append_right _ h9)))))))) tyX3 tyX3_ok hown ⟨by decide +kernel, by decide +kernel, by decide +kernel⟩ hC hP hD hS hA rfl (fun j hj => by rcases (show j = 0 ∨ j = 1 ∨ j = 2 ∨ j = 3 by omega) with rfl | rfl | rfl | rfl <;> rfl) (Nat.le_of_ble_eq_true rfl) (Nat.le_of_ble_eq_true rfl) (fun a b => iX3 l X a b) gX10_init_X3_init_n39 rfl ⟨rfl, rfl⟩ (Or.inr (by decide +kernel)) ⟨by decide +kernel, by decide +kernel, rfl⟩ (by decide +kernel) ⟨by decide, by decide⟩ (Nat.le_of_ble_eq_true rfl) dX10_init_54 dX10_init_57 dX10_init_58 (fun u5 H locs hP hD hS => ?_)
  have hP : va_P X.2.1 vwCl ([(h0, .inr (10, [.ref (u1 0), .ref (u2 0), .int (0 : Int32), .ref (u3 0), .ref (u4 0), .null, .null, .null]))] ++ shX4 X u1 ++ shX4 X u2 ++ shX7 X u3 ++ shX0 X u4 ++ shX3 X u5) H := hP
  have hD : va_D A ([(h0, .inr (10, [.ref (u1 0), .ref (u2 0), .int (0 : Int32), .ref (u3 0), .ref (u4 0), .null, .null, .null]))] ++ shX4 X u1 ++ shX4 X u2 ++ shX7 X u3 ++ shX0 X u4 ++ shX3 X u5) := hD
  refine va_putF (D := X.2.1) (ci := 10) (v := .ref (u5 0)) (ty := tyX10 5) (C := RX10) (T := TX10) (N := 8) hx hb hts (fun _ h9 => List.mem_cons_of_mem _ (List.mem_append_left _ (List.mem_append_left _ (List.mem_append_left _ (List.mem_append_left _ (List.mem_append_left _ (List.mem_append_left _ (List.mem_append_left _ (List.mem_append_left _ (List.mem_append_left _ (List.mem_append_right _ h9))))))))))) tyX10 tyX10_ok nmX10 hown hC.1 hP hD hS 0 rfl rfl 5 (by decide) (hts (.fieldLink RX10 40 "IceByEar" "roads" "LIceByEar$Roads;") (by decide +kernel)) (fun _ h9 => h9) rfl hin rfl (tyX10_ok 5 (by decide)) rfl rfl (Nat.le_of_ble_eq_true rfl) dX10_init_61 (fun H locs hP hD hS => ?_)
  have hP : va_P X.2.1 vwCl ([(h0, .inr (10, [.ref (u1 0), .ref (u2 0), .int (0 : Int32), .ref (u3 0), .ref (u4 0), .ref (u5 0), .null, .null]))] ++ shX4 X u1 ++ shX4 X u2 ++ shX7 X u3 ++ shX0 X u4 ++ shX3 X u5) H := hP
  have hD : va_D A ([(h0, .inr (10, [.ref (u1 0), .ref (u2 0), .int (0 : Int32), .ref (u3 0), .ref (u4 0), .ref (u5 0), .null, .null]))] ++ shX4 X u1 ++ shX4 X u2 ++ shX7 X u3 ++ shX0 X u4 ++ shX3 X u5) := hD
  refine lv_aload_n hx hb dX10_init_64 rfl (lv_at hl 0 rfl) ?_
  refine gi_make (rest := [.ref h0]) (ci := 6) (C := RX6) (T := TX6) (N := 2) (fs := [.null, .null]) (mc := 2) (ms := 128) (sh := shX6 X) (host := "IceByEar") hx hb hml hl.1 hts (fun _ h9 => List.mem_cons_of_mem _ (List.mem_append_left _ (List.mem_append_left _ (List.mem_append_left _ (List.mem_append_left _ (List.mem_append_left _ (List.mem_append_right _ h9))))))) tyX6 tyX6_ok hown ⟨by decide +kernel, by decide +kernel, by decide +kernel⟩ hC hP hD hS hA rfl (fun j hj => by rcases (show j = 0 ∨ j = 1 by omega) with rfl | rfl <;> rfl) (Nat.le_of_ble_eq_true rfl) (Nat.le_of_ble_eq_true rfl) (fun a b => iX6 l X a b) gX10_init_X6_init_n46 rfl ⟨rfl, rfl⟩ (Or.inr (by decide +kernel)) ⟨by decide +kernel, by decide +kernel, rfl⟩ (by decide +kernel) ⟨by decide, by decide⟩ (Nat.le_of_ble_eq_true rfl) dX10_init_65 dX10_init_68 dX10_init_69 (fun u6 H locs hP hD hS => ?_)
  have hP : va_P X.2.1 vwCl ([(h0, .inr (10, [.ref (u1 0), .ref (u2 0), .int (0 : Int32), .ref (u3 0), .ref (u4 0), .ref (u5 0), .null, .null]))] ++ shX4 X u1 ++ shX4 X u2 ++ shX7 X u3 ++ shX0 X u4 ++ shX3 X u5 ++ shX6 X u6) H := hP
  have hD : va_D A ([(h0, .inr (10, [.ref (u1 0), .ref (u2 0), .int (0 : Int32), .ref (u3 0), .ref (u4 0), .ref (u5 0), .null, .null]))] ++ shX4 X u1 ++ shX4 X u2 ++ shX7 X u3 ++ shX0 X u4 ++ shX3 X u5 ++ shX6 X u6) := hD
  refine va_putF (D := X.2.1) (ci := 10) (v := .ref (u6 0)) (ty := tyX10 6) (C := RX10) (T := TX10) (N := 8) hx hb hts (fun _ h9 => List.mem_cons_of_mem _ (List.mem_append_left _ (List.mem_append_left _ (List.mem_append_left _ (List.mem_append_left _ (List.mem_append_left _ (List.mem_append_left _ (List.mem_append_left _ (List.mem_append_left _ (List.mem_append_left _ (List.mem_append_right _ h9))))))))))) tyX10 tyX10_ok nmX10 hown hC.1 hP hD hS 0 rfl rfl 6 (by decide) (hts (.fieldLink RX10 47 "IceByEar" "spans" "LIceByEar$Spans;") (by decide +kernel)) (fun _ h9 => h9) rfl hin rfl (tyX10_ok 6 (by decide)) rfl rfl (Nat.le_of_ble_eq_true rfl) dX10_init_72 (fun H locs hP hD hS => ?_)
  have hP : va_P X.2.1 vwCl ([(h0, .inr (10, [.ref (u1 0), .ref (u2 0), .int (0 : Int32), .ref (u3 0), .ref (u4 0), .ref (u5 0), .ref (u6 0), .null]))] ++ shX4 X u1 ++ shX4 X u2 ++ shX7 X u3 ++ shX0 X u4 ++ shX3 X u5 ++ shX6 X u6) H := hP
  have hD : va_D A ([(h0, .inr (10, [.ref (u1 0), .ref (u2 0), .int (0 : Int32), .ref (u3 0), .ref (u4 0), .ref (u5 0), .ref (u6 0), .null]))] ++ shX4 X u1 ++ shX4 X u2 ++ shX7 X u3 ++ shX0 X u4 ++ shX3 X u5 ++ shX6 X u6) := hD
  refine lv_aload_n hx hb dX10_init_75 rfl (lv_at hl 0 rfl) ?_
  refine lv_iconst (v := 4) hx hb dX10_init_76 (by decide) ?_
  refine gi_newaq hx hb hown (hts (.classLink RX10 51 RX5) (by decide +kernel)) hC.2.2 hC.1 hP hD hS hA (N' := 4) (by decide) (by decide) (by decide) (Nat.le_of_ble_eq_true rfl) (Nat.le_of_ble_eq_true rfl) dX10_init_77 (fun q7 H hP hD hS => ?_)
  have hP : va_P X.2.1 vwCl ([(h0, .inr (10, [.ref (u1 0), .ref (u2 0), .int (0 : Int32), .ref (u3 0), .ref (u4 0), .ref (u5 0), .ref (u6 0), .null]))] ++ shX4 X u1 ++ shX4 X u2 ++ shX7 X u3 ++ shX0 X u4 ++ shX3 X u5 ++ shX6 X u6 ++ [(q7, .inl (X.2.2 4, 4, .inr (.inr (.inr (.inr (fun _ => none))))))]) H := hP
  have hD : va_D A ([(h0, .inr (10, [.ref (u1 0), .ref (u2 0), .int (0 : Int32), .ref (u3 0), .ref (u4 0), .ref (u5 0), .ref (u6 0), .null]))] ++ shX4 X u1 ++ shX4 X u2 ++ shX7 X u3 ++ shX0 X u4 ++ shX3 X u5 ++ shX6 X u6 ++ [(q7, .inl (X.2.2 4, 4, .inr (.inr (.inr (.inr (fun _ => none))))))]) := hD
  refine va_putF (D := X.2.1) (ci := 10) (v := .ref q7) (ty := tyX10 7) (C := RX10) (T := TX10) (N := 8) hx hb hts (fun _ h9 => List.mem_cons_of_mem _ (List.mem_append_left _ (List.mem_append_left _ (List.mem_append_left _ (List.mem_append_left _ (List.mem_append_left _ (List.mem_append_left _ (List.mem_append_left _ (List.mem_append_left _ (List.mem_append_left _ (List.mem_append_right _ h9))))))))))) tyX10 tyX10_ok nmX10 hown hC.1 hP hD hS 0 rfl rfl 7 (by decide) (hts (.fieldLink RX10 53 "IceByEar" "sheets" "[LIceByEar$Sheet;") (by decide +kernel)) (fun _ h9 => h9) rfl hin rfl (tyX10_ok 7 (by decide)) rfl rfl (Nat.le_of_ble_eq_true rfl) dX10_init_80 (fun H locs hP hD hS => ?_)
  have hP : va_P X.2.1 vwCl ([(h0, .inr (10, [.ref (u1 0), .ref (u2 0), .int (0 : Int32), .ref (u3 0), .ref (u4 0), .ref (u5 0), .ref (u6 0), .ref q7]))] ++ shX4 X u1 ++ shX4 X u2 ++ shX7 X u3 ++ shX0 X u4 ++ shX3 X u5 ++ shX6 X u6 ++ [(q7, .inl (X.2.2 4, 4, .inr (.inr (.inr (.inr (fun _ => none))))))]) H := hP
  have hD : va_D A ([(h0, .inr (10, [.ref (u1 0), .ref (u2 0), .int (0 : Int32), .ref (u3 0), .ref (u4 0), .ref (u5 0), .ref (u6 0), .ref q7]))] ++ shX4 X u1 ++ shX4 X u2 ++ shX7 X u3 ++ shX0 X u4 ++ shX3 X u5 ++ shX6 X u6 ++ [(q7, .inl (X.2.2 4, 4, .inr (.inr (.inr (.inr (fun _ => none))))))]) := hD
  refine iX10_tail (L := shX4 X u1 ++ shX4 X u2 ++ shX7 X u3 ++ shX0 X u4 ++ shX3 X u5 ++ shX6 X u6) hx hb hml hown hts hC hA hP hD hS hl (fun w0 w1 w2 w3 H locs ls hP hD hS => ?_)
  obtain ⟨u, eu⟩ : ∃ u : Nat → Nat, u = (fun k => if k = 0 then h0 else if k < 15 then u1 (k - 1) else if k < 29 then u2 (k - 15) else if k < 31 then u3 (k - 29) else if k < 38 then u4 (k - 31) else if k < 43 then u5 (k - 38) else if k < 46 then u6 (k - 43) else if k < 47 then q7 else if k < 51 then w0 (k - 47) else if k < 55 then w1 (k - 51) else if k < 59 then w2 (k - 55) else if k < 63 then w3 (k - 59) else 0) := ⟨_, rfl⟩
  have e9 : [(h0, .inr (10, [.ref (u1 0), .ref (u2 0), .int (0 : Int32), .ref (u3 0), .ref (u4 0), .ref (u5 0), .ref (u6 0), .ref q7]))] ++ (shX4 X u1 ++ shX4 X u2 ++ shX7 X u3 ++ shX0 X u4 ++ shX3 X u5 ++ shX6 X u6) ++ [(q7, .inl (X.2.2 4, 4, .inr (.inr (.inr (.inr (fun j => some (u (47 + 4 * j))))))))] ++ shX5 X w0 ++ shX5 X w1 ++ shX5 X w2 ++ shX5 X w3 = shX10 X u := by
    rw [eu]; simp [shX10, shX4, shX2, shX8, shX9, shX1, shX7, shX0, shX3, shX6, shX5]
  obtain ⟨hP, hD⟩ := gi_sheets4 (g := fun j => some (u (47 + 4 * j))) (by rw [eu]; intro j hj; rcases (show j = 0 ∨ j = 1 ∨ j = 2 ∨ j = 3 by omega) with rfl | rfl | rfl | rfl <;> rfl) hP hD
  rw [e9] at hP hD
  exact gi_ret (sh := shX10 X) hx hb hr hlocks u (by rw [eu]; rfl) hP hD hS dX10_init_109
