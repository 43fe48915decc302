theorem st_arr {s : State} {ty : FieldType} {cA : ClassId} {kA : Class} {comp : ClassId} (h2 : s.vm.classes[cA]? = some kA) (h3 : kA.kind = .array comp ty) : ArrOfT s cA ty := fun n z => ⟨fun k h => (by cases h), kA, h2, comp, h3⟩
set_option maxHeartbeats 8000000 in
set_option maxRecDepth 100000 in
theorem whole_start {p : Program} {e : Env} {s : State} {m : MethodId} {below : List Frame} {meth : Method} {c : Code} (l : Launch) {b L : Nat} {xs : Nat → Int32} (hL : L ≤ 3072) (C0 : lw_At p s m meth c b L xs) : W p l e room_1 s m #[Value.ref b] below meth c s.heap [] 0 0 (lw_Z below #[Value.ref b] s) (entryFrame m ([Value.ref b] : List Value).toArray 4) := by
  obtain ⟨hx, hb, hr, hml, hown, hts, hX, hbl, hlocks, hgv⟩ := id C0
  have hg := flat_of_before _ hgv
  have hts2 : ∀ w ∈ wsL_law, w.before #[Value.ref b] s = true := fun w h => hts w (lq_in w h)
  obtain ⟨c0, iS0, hKn0⟩ := u_known (C := RX0) (T := TX0) (N := 3) (n := 3) hts2 inlX0 (hts (.instantiable RX0 3) (by decide +kernel))
  obtain ⟨c1, iS1, hKn1⟩ := u_known (C := RX1) (T := TX1) (N := 5) (n := 5) hts2 inlX1 (hts (.instantiable RX1 5) (by decide +kernel))
  obtain ⟨c2, iS2, hKn2⟩ := u_known (C := RX2) (T := TX2) (N := 1) (n := 1) hts2 inlX2 (hts (.instantiable RX2 1) (by decide +kernel))
  obtain ⟨c3, iS3, hKn3⟩ := u_known (C := RX3) (T := TX3) (N := 4) (n := 4) hts2 inlX3 (hts (.instantiable RX3 4) (by decide +kernel))
  obtain ⟨c4, iS4, hKn4⟩ := u_known (C := RX4) (T := TX4) (N := 6) (n := 6) hts2 inlX4 (hts (.instantiable RX4 6) (by decide +kernel))
  obtain ⟨c5, iS5, hKn5⟩ := u_known (C := RX5) (T := TX5) (N := 5) (n := 5) hts2 inlX5 (hts (.instantiable RX5 5) (by decide +kernel))
  obtain ⟨c6, iS6, hKn6⟩ := u_known (C := RX6) (T := TX6) (N := 2) (n := 2) hts2 inlX6 (hts (.instantiable RX6 2) (by decide +kernel))
  obtain ⟨c7, iS7, hKn7⟩ := u_known (C := RX7) (T := TX7) (N := 3) (n := 3) hts2 inlX7 (hts (.instantiable RX7 3) (by decide +kernel))
  obtain ⟨c8, iS8, hKn8⟩ := u_known (C := RX8) (T := TX8) (N := 4) (n := 4) hts2 inlX8 (hts (.instantiable RX8 4) (by decide +kernel))
  obtain ⟨c9, iS9, hKn9⟩ := u_known (C := RX9) (T := TX9) (N := 2) (n := 2) hts2 inlX9 (hts (.instantiable RX9 2) (by decide +kernel))
  obtain ⟨c10, iS10, hKn10⟩ := u_known (C := RX10) (T := TX10) (N := 8) (n := 8) hts2 inlX10 (hts (.instantiable RX10 8) (by decide +kernel))
  obtain ⟨c11, iS11, hKn11⟩ := u_known (C := RX11) (T := TX11) (N := 28) (n := 28) hts2 inlX11 (hts (.instantiable RX11 28) (by decide +kernel))
  obtain ⟨dC, dI, hKc⟩ : ∃ (dC : Nat → ClassId) (dI : Nat → Nat → Nat), ∀ (k : Nat) (q : vw_C), vwCl[k]? = some q → u_Kn s q.1 q.2.1 q.2.2 (dC k) (dI k) := by
    refine ⟨fun k => if k = 0 then c0 else if k = 1 then c1 else if k = 2 then c2 else if k = 3 then c3 else if k = 4 then c4 else if k = 5 then c5 else if k = 6 then c6 else if k = 7 then c7 else if k = 8 then c8 else if k = 9 then c9 else if k = 10 then c10 else c11, fun k => if k = 0 then iS0 else if k = 1 then iS1 else if k = 2 then iS2 else if k = 3 then iS3 else if k = 4 then iS4 else if k = 5 then iS5 else if k = 6 then iS6 else if k = 7 then iS7 else if k = 8 then iS8 else if k = 9 then iS9 else if k = 10 then iS10 else iS11, ?_⟩
    intro k q hq
    match k, hq with
    | 0, hq => cases hq; exact hKn0
    | 1, hq => cases hq; exact hKn1
    | 2, hq => cases hq; exact hKn2
    | 3, hq => cases hq; exact hKn3
    | 4, hq => cases hq; exact hKn4
    | 5, hq => cases hq; exact hKn5
    | 6, hq => cases hq; exact hKn6
    | 7, hq => cases hq; exact hKn7
    | 8, hq => cases hq; exact hKn8
    | 9, hq => cases hq; exact hKn9
    | 10, hq => cases hq; exact hKn10
    | 11, hq => cases hq; exact hKn11
    | k + 12, hq => simp at hq
  obtain ⟨cB, kB, pB, aB1, aB2, aB3⟩ := Cond.arrayClass_spec (hts (.arrayClass .byte) (by decide +kernel))
  obtain ⟨cI, kI, pI, aI1, aI2, aI3⟩ := Cond.arrayClass_spec (hts (.arrayClass .int) (by decide +kernel))
  obtain ⟨cJ, kJ, pJ, aJ1, aJ2, aJ3⟩ := Cond.arrayClass_spec (hts (.arrayClass .long) (by decide +kernel))
  obtain ⟨cZ, kZ, pZ, aZ1, aZ2, aZ3⟩ := Cond.arrayClass_spec (hts (.arrayClass .boolean) (by decide +kernel))
  obtain ⟨pO, cO, kO, aO1, -, aO2, aO3, aO4⟩ := Cond.arrayOver_spec (hts (.arrayOver (.object RX5)) (by decide +kernel))
  obtain ⟨cs, ecs⟩ : ∃ cs : Nat → ClassId, cs = (fun k => if k = 0 then cB else if k = 1 then cI else if k = 2 then cJ else if k = 3 then cZ else cO) := ⟨_, rfl⟩
  have hK : va_K (dC, dI) vwCl [(cs 0, .byte), (cs 1, .int), (cs 2, .long), (cs 3, .boolean), (cs 4, .object RX5)] s := by
    refine ⟨hKc, ?_⟩
    rw [ecs]
    intro k q hq
    match k, hq with
    | 0, hq => cases hq; exact ⟨st_arr aB2 aB3, aB1⟩
    | 1, hq => cases hq; exact ⟨st_arr aI2 aI3, aI1⟩
    | 2, hq => cases hq; exact ⟨st_arr aJ2 aJ3, aJ1⟩
    | 3, hq => cases hq; exact ⟨st_arr aZ2 aZ3, aZ1⟩
    | 4, hq => cases hq; exact ⟨st_arr aO2 aO3, kO, pO, aO2, aO3, aO1, aO4⟩
    | k + 5, hq => simp at hq
  have hNe : gw_Ne s := ⟨fun q hq => va_Nw.of rfl (hts _ ((show ∀ q ∈ gn_m, Cond.methodLinkNest q.1 q.2.1 q.2.2.1 q.2.2.2 ∈ lw_tbl by decide +kernel) q hq)), va_Nw.of rfl (hts _ (by decide +kernel))⟩
  have hAO : va_AO RX5 s := va_AO.of (hts (.arrayOver (.object RX5)) (by decide +kernel))
  have hnA : ∀ a : Nat, a < s.heap.size → ¬ (fun q : Nat => s.heap.size ≤ q) a := fun a h => Nat.not_le.mpr h
  obtain ⟨t_TRAIT_MOST, et_TRAIT_MOST, hT_TRAIT_MOST⟩ := va_Tof (f := fun j => .int (gs_most j)) (A := fun q : Nat => s.heap.size ≤ q) (N := 5) (by decide) (hg (.arrayOf (.static "IceByEar" "TRAIT_MOST" "[I") .int) (by decide +kernel)) (va_eqt (hg (.eq (.length (.static "IceByEar" "TRAIT_MOST" "[I")) (.int 5)) (by decide +kernel))) (fun j hj => by
      match j, hj with
      | 0, _ => exact va_eqt (hg (.eq (.elem (.static "IceByEar" "TRAIT_MOST" "[I") (.int 0)) (.int 99)) (by decide +kernel))
      | 1, _ => exact va_eqt (hg (.eq (.elem (.static "IceByEar" "TRAIT_MOST" "[I") (.int 1)) (.int 4)) (by decide +kernel))
      | 2, _ => exact va_eqt (hg (.eq (.elem (.static "IceByEar" "TRAIT_MOST" "[I") (.int 2)) (.int 9)) (by decide +kernel))
      | 3, _ => exact va_eqt (hg (.eq (.elem (.static "IceByEar" "TRAIT_MOST" "[I") (.int 3)) (.int 1)) (by decide +kernel))
      | 4, _ => exact va_eqt (hg (.eq (.elem (.static "IceByEar" "TRAIT_MOST" "[I") (.int 4)) (.int 3)) (by decide +kernel))
      | j + 5, hj => exact absurd hj (by omega)) hnA
  have hZ_TRAIT_MOST := va_Zref (hts (.laysStatic "IceByEar" "TRAIT_MOST" "[I") (by decide +kernel)) (hts (.initialized "IceByEar") (by decide +kernel)) et_TRAIT_MOST hnA
  obtain ⟨t_PART, et_PART, hT_PART⟩ := va_Tof (f := fun j => .int (gs_part j)) (A := fun q : Nat => s.heap.size ≤ q) (N := 5) (by decide) (hg (.arrayOf (.static "IceByEar" "PART" "[I") .int) (by decide +kernel)) (va_eqt (hg (.eq (.length (.static "IceByEar" "PART" "[I")) (.int 5)) (by decide +kernel))) (fun j hj => by
      match j, hj with
      | 0, _ => exact va_eqt (hg (.eq (.elem (.static "IceByEar" "PART" "[I") (.int 0)) (.int 8)) (by decide +kernel))
      | 1, _ => exact va_eqt (hg (.eq (.elem (.static "IceByEar" "PART" "[I") (.int 1)) (.int 5)) (by decide +kernel))
      | 2, _ => exact va_eqt (hg (.eq (.elem (.static "IceByEar" "PART" "[I") (.int 2)) (.int 3)) (by decide +kernel))
      | 3, _ => exact va_eqt (hg (.eq (.elem (.static "IceByEar" "PART" "[I") (.int 3)) (.int 2)) (by decide +kernel))
      | 4, _ => exact va_eqt (hg (.eq (.elem (.static "IceByEar" "PART" "[I") (.int 4)) (.int 7)) (by decide +kernel))
      | j + 5, hj => exact absurd hj (by omega)) hnA
  have hZ_PART := va_Zref (hts (.laysStatic "IceByEar" "PART" "[I") (by decide +kernel)) (hts (.initialized "IceByEar") (by decide +kernel)) et_PART hnA
  have hZc := va_Zof (hts (.laysStatic "java/lang/String" "COMPACT_STRINGS" "Z") (by decide +kernel)) (hts (.initialized "java/lang/String") (by decide +kernel)) (va_eqi (hg (.eq (.static "java/lang/String" "COMPACT_STRINGS" "Z") (.int 1)) (by decide +kernel))) hnA
  have hZs := va_Zqof (hts (.laysStatic "jdk/internal/util/Preconditions" "SIOOBE_FORMATTER" "Ljava/util/function/BiFunction;") (by decide +kernel)) (hts (.initialized "jdk/internal/util/Preconditions") (by decide +kernel)) (hg (.isRef (.static "jdk/internal/util/Preconditions" "SIOOBE_FORMATTER" "Ljava/util/function/BiFunction;")) (by decide +kernel)) hnA
  obtain ⟨adK, adV, hvS, hvE⟩ := vk_Sof (N := 1) (tm := fun _ => .string "IceByEar$Drafts" 62) (len := [5]) (byt := [gs_txt]) (A := fun q : Nat => s.heap.size ≤ q) (by decide) (fun _ _ => hg (.exactly (.string "IceByEar$Drafts" 62) "java/lang/String") (by decide +kernel)) (fun _ _ => hg (.eq (.field (.string "IceByEar$Drafts" 62) "java/lang/String" "coder" "B") (.int 0)) (by decide +kernel)) (fun _ _ => hg (.arrayOf (.field (.string "IceByEar$Drafts" 62) "java/lang/String" "value" "[B") .byte) (by decide +kernel)) (fun i hi => by
      match i, hi with
      | 0, _ => exact hg (.eq (.length (.field (.string "IceByEar$Drafts" 62) "java/lang/String" "value" "[B")) (.int 5)) (by decide +kernel)
      | i + 1, hi => exact absurd hi (by omega)) (fun i hi j hj => by
      match i, hi, j, hj with
      | 0, _, 0, _ => exact hg (.eq (.elem (.field (.string "IceByEar$Drafts" 62) "java/lang/String" "value" "[B") (.int 0)) (.int 103)) (by decide +kernel)
      | 0, _, 1, _ => exact hg (.eq (.elem (.field (.string "IceByEar$Drafts" 62) "java/lang/String" "value" "[B") (.int 1)) (.int 108)) (by decide +kernel)
      | 0, _, 2, _ => exact hg (.eq (.elem (.field (.string "IceByEar$Drafts" 62) "java/lang/String" "value" "[B") (.int 2)) (.int 99)) (by decide +kernel)
      | 0, _, 3, _ => exact hg (.eq (.elem (.field (.string "IceByEar$Drafts" 62) "java/lang/String" "value" "[B") (.int 3)) (.int 111)) (by decide +kernel)
      | 0, _, 4, _ => exact hg (.eq (.elem (.field (.string "IceByEar$Drafts" 62) "java/lang/String" "value" "[B") (.int 4)) (.int 101)) (by decide +kernel)
      | 0, _, j + 5, hj => exact absurd (show j + 5 < 5 from hj) (by omega)
      | i + 1, hi, _, _ => exact absurd hi (by omega)) (fun i j hi hj hij => absurd (show i = j by omega) hij) hnA
  have hvR : vk_R "IceByEar$Drafts" 62 "glcoe" (adK 0) s := vk_R.of (A := #[Value.ref b]) (hts (.stringRef "IceByEar$Drafts" 62 "glcoe") (by decide +kernel)) (hvE 0 (by decide))
  obtain ⟨X0, eX0⟩ : ∃ X : gw_X, X = (fun _ => 0, (dC, dI), cs) := ⟨_, rfl⟩
  have hC : gi_C X0 s := by rw [eX0]; exact ⟨hK, hNe, hAO⟩
  have hA : ∀ q : Nat, s.heap.size ≤ q → (fun q : Nat => s.heap.size ≤ q) q := fun _ h => h
  have hS : va_S (fun q : Nat => s.heap.size ≤ q) s.heap s.heap [] := va_S.rf
  have hP : va_P X0.2.1 vwCl [] s.heap := fun k q h => by simp at h
  have hD : va_D (fun q : Nat => s.heap.size ≤ q) [] := ⟨fun i j p q h => by simp at h, fun k q h => by simp at h⟩
  have hl := lv_entry ([.ref b]) (n := 4) (Nat.le_of_ble_eq_true rfl)
  rw [lg_entry_eq]
  generalize (lg_sl ([.ref b]) ++ List.replicate (4 - (lg_sl ([.ref b])).length) Slot.unset).toArray = ls at hl ⊢
  have hl : lv_has ls 4 [(0, .ref b)] := hl
  refine gi_make (rest := []) (ci := 10) (C := RX10) (T := TX10) (N := 8) (fs := [.null, .null, .int 0, .null, .null, .null, .null, .null]) (mc := 62) (ms := 1926) (sh := shX10 X0) (host := "IceByEar") (own := RL) hx hb hml hl.1 hts2 inlX10 tyX10 tyX10_ok hown ⟨by decide +kernel, by decide +kernel, by decide +kernel⟩ hC hP hD hS hA rfl (fun j hj => by rcases (show j = 0 ∨ j = 1 ∨ j = 2 ∨ j = 3 ∨ j = 4 ∨ j = 5 ∨ j = 6 ∨ j = 7 by omega) with rfl | rfl | rfl | rfl | rfl | rfl | rfl | rfl <;> rfl) (Nat.le_of_ble_eq_true rfl) (Nat.le_of_ble_eq_true rfl) (fun a b => iX10 l X0 a b) gL_law_X10_init rfl ⟨rfl, rfl⟩ (Or.inl (by decide +kernel)) ⟨by decide +kernel, by decide +kernel, rfl⟩ (by decide +kernel) ⟨by decide, by decide⟩ (Nat.le_of_ble_eq_true rfl) dL_law_0 dL_law_3 dL_law_4 (fun u H locs hP hD hS => ?_)
  refine lv_astore_n (lv' := [(1, .ref (u 0)), (0, .ref b)]) hx hb dL_law_7 rfl hl (by decide) rfl (fun ls hl => ?_)
  refine gi_make (rest := []) (ci := 11) (C := RX11) (T := TX11) (N := 28) (fs := [.null, .null, .null, .null, .int 0, .null, .int 0, .null, .null, .null, .int 0, .null, .int 0, .int 0, .int 0, .null, .null, .null, .int 0, .null, .null, .null, .int 0, .null, .null, .null, .null, .null]) (mc := 20) (ms := 1467) (sh := shX11 X0) (host := "IceByEar") (own := RL) hx hb hml hl.1 hts2 inlX11 tyX11 tyX11_ok hown ⟨by decide +kernel, by decide +kernel, by decide +kernel⟩ hC hP hD hS hA rfl (fun j hj => by rcases (show j = 0 ∨ j = 1 ∨ j = 2 ∨ j = 3 ∨ j = 4 ∨ j = 5 ∨ j = 6 ∨ j = 7 ∨ j = 8 ∨ j = 9 ∨ j = 10 ∨ j = 11 ∨ j = 12 ∨ j = 13 ∨ j = 14 ∨ j = 15 ∨ j = 16 ∨ j = 17 ∨ j = 18 ∨ j = 19 ∨ j = 20 ∨ j = 21 ∨ j = 22 ∨ j = 23 ∨ j = 24 ∨ j = 25 ∨ j = 26 ∨ j = 27 by omega) with rfl | rfl | rfl | rfl | rfl | rfl | rfl | rfl | rfl | rfl | rfl | rfl | rfl | rfl | rfl | rfl | rfl | rfl | rfl | rfl | rfl | rfl | rfl | rfl | rfl | rfl | rfl | rfl <;> rfl) (Nat.le_of_ble_eq_true rfl) (Nat.le_of_ble_eq_true rfl) (fun a b => iX11 l X0 a b) gL_law_X11_init rfl ⟨rfl, rfl⟩ (Or.inl (by decide +kernel)) ⟨by decide +kernel, by decide +kernel, rfl⟩ (by decide +kernel) ⟨by decide, by decide⟩ (Nat.le_of_ble_eq_true rfl) dL_law_8 dL_law_11 dL_law_12 (fun v H locs hP hD hS => ?_)
  refine lv_astore_n (lv' := [(2, .ref (v 0)), (1, .ref (u 0)), (0, .ref b)]) hx hb dL_law_15 rfl hl (by decide) rfl (fun ls hl => ?_)
  refine lv_iconst (v := 0) hx hb dL_law_16 (by decide) ?_
  refine lv_istore_n (lv' := [(3, .int 0), (2, .ref (v 0)), (1, .ref (u 0)), (0, .ref b)]) hx hb dL_law_17 rfl hl (by decide) rfl (fun ls hl => ?_)
  refine va_forget (fun q hq => hS.2.2 q hq) ?_
  have hP1 : va_P (dC, dI) vwCl (st_W u v (adK 0) (adV 0) (dC, dI) cs) H := by subst eX0; exact hP
  have hD1 : va_D (fun q : Nat => s.heap.size ≤ q) (st_W u v (adK 0) (adV 0) (dC, dI) cs) := by subst eX0; exact hD
  have gP := st_P hP1
  have gI := st_inj hD1
  have gA := st_A hD1
  obtain ⟨X, eX⟩ : ∃ X : gw_X, X = st_X u v (adK 0) (adV 0) (dC, dI) cs := ⟨_, rfl⟩
  rw [← eX] at gP gI gA
  have e84 : X.1 84 = adK 0 := by rw [eX]; rfl
  have e85 : X.1 85 = adV 0 := by rw [eX]; rfl
  have e00 : X.1 0 = u 0 := by rw [eX]; rfl
  have e63 : X.1 63 = v 0 := by rw [eX]; rfl
  obtain ⟨d1, d2, d3, d4⟩ := hvS.1 0 (by decide)
  have hSt : gw_St X s := by
    refine ⟨⟨_, hZ_TRAIT_MOST.narrow gA, hT_TRAIT_MOST.narrow gA⟩, ⟨_, hZ_PART.narrow gA, hT_PART.narrow gA⟩, hZc.narrow gA, hZs.narrow gA, ?_, ?_, ?_, ?_, ?_⟩
    · rw [e84]; exact d1.narrow gA
    · rw [e84]; exact d2.narrow gA
    · rw [e84, e85]; exact d3.narrow gA
    · rw [e85]; exact d4.narrow gA
    · rw [e84]; exact hvR
  have hKX : va_K X.2.1 vwCl (gw_tys X) s := by rw [eX]; exact hK
  have hCX : gw_C X s := ⟨gI, hKX, hSt, hNe⟩
  have hSX : va_S (gw_A X) s.heap H [] := ⟨hS.1, fun q h1 h2 => hS.2.1 q h1 (Nat.not_le.mpr h1), fun q hq => by cases hq⟩
  have G0 : gm_At p s m #[Value.ref b] meth c X cL_law 4 RL wsL_law ret := ⟨hx, hb, hml, hown, hts2, hr, hlocks, hCX⟩
  have hbA : ¬ gw_A X b := fun h => absurd (gA b h) (Nat.not_le.mpr hbl)
  have hl : lv_has ls 4 [(0, .ref b), (1, .ref (X.1 0)), (2, .ref (X.1 63)), (3, .int (nI 0))] := by rw [e00, e63]; exact lv_sub hl [3, 2, 1, 0] rfl
  refine lw_loop G0 hX hbl hbA hL (fun H locs ls hS => ?_) (L + 1) 0 (Nat.zero_le _) (by omega) st_0 H [] ls st_inv gP hSX hl
  refine lv_iconst (v := 1) hx hb dL_law_1286 (by decide) ?_
  refine va_forget (fun q hq => gA _ (hS.2.2 q hq)) ?_
  refine W.widen (k := 600000) (n := 7302250) (by omega) (by omega) ?_
  exact lw_ret hx hb hr hlocks dL_law_1287
