/-! ONE WORLD: the 84 cells of the class's object and of the reference's, by number; a state is what they hold. Laid by wip/gen_world.py. -/
abbrev gs_S : Type := (Nat → Nat → Int32) × (Nat → Nat → Int64)
def gs_u (σ : gs_S) (c i : Nat) (v : Int32) : gs_S := (fun a => if a = c then upd (σ.1 c) i v else σ.1 a, σ.2)
def gs_ul (σ : gs_S) (c i : Nat) (v : Int64) : gs_S := (σ.1, fun a => if a = c then vp_updL (σ.2 c) i v else σ.2 a)
def gs_w (σ : gs_S) (c : Nat) (f : Nat → Int32) : gs_S := (fun a => if a = c then f else σ.1 a, σ.2)
abbrev gw_X : Type := (Nat → Nat) × va_G × (Nat → ClassId)
def gk_tab : List Nat := [10, 4, 2, 13, 8, 13, 13, 13, 9, 13, 1, 13, 13, 13, 13, 4, 2, 13, 8, 13, 13, 13, 9, 13, 1, 13, 13, 13, 13, 7, 12, 0, 13, 13, 8, 13, 13, 13, 3, 13, 13, 13, 13, 6, 13, 13, 16, 5, 15, 12, 14, 5, 15, 12, 14, 5, 15, 12, 14, 5, 15, 12, 14, 11, 13, 13, 13, 13, 13, 13, 13, 13, 13, 13, 13, 13, 13, 13, 13, 13, 13, 13, 13, 14]
def gk (k : Nat) : Nat := gk_tab.getD k 99
def gl_tab : List Nat := [0, 0, 0, 320, 0, 6, 6, 6, 0, 24, 0, 4, 16, 16, 16, 0, 0, 320, 0, 6, 6, 6, 0, 24, 0, 4, 16, 16, 16, 0, 140, 0, 64, 64, 0, 6, 6, 6, 0, 64, 64, 64, 128, 0, 64, 64, 4, 0, 24, 24, 24, 0, 24, 24, 24, 0, 24, 24, 24, 0, 24, 24, 24, 0, 320, 6, 6, 6, 24, 2, 4, 48, 140, 64, 64, 64, 64, 64, 64, 420, 3, 4, 4, 96]
def gl (k : Nat) : Nat := gl_tab.getD k 0
/-- what cell k is, by its kind, its whole numbers a and its long ones b -/
def gw_cf (X : gw_X) (k : Nat) (a : Nat → Int32) (b : Nat → Int64) : va_E := match gk k with
  | 0 => .inr (0, [.ref (X.1 (k + 1)), .ref (X.1 (k + 2)), .ref (X.1 (k + 3))])
  | 1 => .inr (1, [.ref (X.1 (k + 1)), .ref (X.1 (k + 2)), .ref (X.1 (k + 3)), .ref (X.1 (k + 4)), .int (a 4)])
  | 2 => .inr (2, [.ref (X.1 (k + 1))])
  | 3 => .inr (3, [.ref (X.1 (k + 1)), .ref (X.1 (k + 2)), .ref (X.1 (k + 3)), .ref (X.1 (k + 4))])
  | 4 => .inr (4, [.ref (X.1 (k + 1)), .ref (X.1 (k + 3)), .ref (X.1 (k + 7)), .ref (X.1 (k + 9)), .int (a 4), .int (a 5)])
  | 5 => .inr (5, [.ref (X.1 (k + 1)), .ref (X.1 (k + 2)), .ref (X.1 (k + 3)), .int (a 3), .int (a 4)])
  | 6 => .inr (6, [.ref (X.1 (k + 1)), .ref (X.1 (k + 2))])
  | 7 => .inr (7, [.ref (X.1 (k + 1)), .int (a 1), .int (a 2)])
  | 8 => .inr (8, [.ref (X.1 (k + 1)), .ref (X.1 (k + 2)), .ref (X.1 (k + 3)), .int (a 3)])
  | 9 => .inr (9, [.ref (X.1 (k + 1)), .int (a 1)])
  | 10 => .inr (10, [.ref (X.1 (k + 1)), .ref (X.1 (k + 15)), .int (a 2), .ref (X.1 (k + 29)), .ref (X.1 (k + 31)), .ref (X.1 (k + 38)), .ref (X.1 (k + 43)), .ref (X.1 (k + 46))])
  | 11 => .inr (11, [.ref (X.1 (k + 1)), .ref (X.1 (k + 2)), .ref (X.1 (k + 3)), .ref (X.1 (k + 4)), .int (a 4), .ref (X.1 (k + 5)), .int (a 6), .ref (X.1 (k + 6)), .ref (X.1 (k + 7)), .ref (X.1 (k + 8)), .int (a 10), .ref (X.1 (k + 9)), .int (a 12), .int (a 13), .int (a 14), .ref (X.1 (k + 10)), .ref (X.1 (k + 11)), .ref (X.1 (k + 12)), .int (a 18), .ref (X.1 (k + 13)), .ref (X.1 (k + 14)), .ref (X.1 (k + 15)), .int (a 22), .ref (X.1 (k + 16)), .ref (X.1 (k + 17)), .ref (X.1 (k + 18)), .ref (X.1 (k + 19)), .ref (X.1 (k + 20))])
  | 12 => .inl (X.2.2 0, gl k, .inl a)
  | 13 => .inl (X.2.2 1, gl k, .inl a)
  | 14 => .inl (X.2.2 2, gl k, .inr (.inl b))
  | 15 => .inl (X.2.2 3, gl k, .inl a)
  | _ => .inl (X.2.2 4, gl k, .inr (.inr (.inr (.inr (fun j => some (X.1 (k + 1 + 4 * j)))))))
def gw_ws (X : gw_X) (σ : gs_S) : va_W := (List.range 84).map (fun k => (X.1 k, gw_cf X k (σ.1 k) (σ.2 k)))
def gw_P (X : gw_X) (σ : gs_S) (H : Heap) : Prop := va_P X.2.1 vwCl (gw_ws X σ) H
def gw_A (X : gw_X) : Nat → Prop := fun q => ∃ k, k < 84 ∧ q = X.1 k
def gw_inj (X : gw_X) : Prop := ∀ i j, i < 84 → j < 84 → X.1 i = X.1 j → i = j
def gw_tys (X : gw_X) : List (ClassId × FieldType) := [(X.2.2 0, .byte), (X.2.2 1, .int), (X.2.2 2, .long), (X.2.2 3, .boolean), (X.2.2 4, .object RX5)]
def gs_most (j : Nat) : Int32 := ([99, 4, 9, 1, 3] : List Int32).getD j 0
def gs_part (j : Nat) : Int32 := ([8, 5, 3, 2, 7] : List Int32).getD j 0
def gs_txt : List Int32 := [103, 108, 99, 111, 101]
def gn_m : List (String × Nat × MethodName × String) := [("IceByEar", 11, ⟨"IceByEar$Scene", "<init>", "()V"⟩, "IceByEar"), ("IceByEar$Scene", 20, ⟨"IceByEar$Train", "<init>", "()V"⟩, "IceByEar"), ("IceByEar$Scene", 27, ⟨"IceByEar$Way", "<init>", "()V"⟩, "IceByEar"), ("IceByEar$Scene", 34, ⟨"IceByEar$Ears", "<init>", "()V"⟩, "IceByEar"), ("IceByEar", 25, ⟨"IceByEar$Tape", "<init>", "()V"⟩, "IceByEar"), ("IceByEar", 32, ⟨"IceByEar$Drafts", "<init>", "()V"⟩, "IceByEar"), ("IceByEar$Drafts", 20, ⟨"IceByEar$Train", "<init>", "()V"⟩, "IceByEar"), ("IceByEar", 39, ⟨"IceByEar$Roads", "<init>", "()V"⟩, "IceByEar"), ("IceByEar", 46, ⟨"IceByEar$Spans", "<init>", "()V"⟩, "IceByEar"), ("IceByEar", 57, ⟨"IceByEar$Sheet", "<init>", "()V"⟩, "IceByEar"), ("IceByEar$Tape", 29, ⟨"IceByEar", "isWithin", "(JII)Z"⟩, "IceByEar"), ("IceByEar$Drafts", 88, ⟨"IceByEar", "isWithin", "(JII)Z"⟩, "IceByEar"), ("IceByEar$Train", 35, ⟨"IceByEar", "weightAlone", "(II)I"⟩, "IceByEar"), ("IceByEar$Scene", 63, ⟨"IceByEar", "allBeside", "(J)J"⟩, "IceByEar"), ("IceByEar$Roads", 50, ⟨"IceByEar", "beside", "(II)I"⟩, "IceByEar"), ("IceByEar$Spans", 81, ⟨"IceByEar", "beside", "(II)I"⟩, "IceByEar"), ("IceByEar$Sheet", 38, ⟨"IceByEar", "isSquare", "(J)Z"⟩, "IceByEar"), ("IceByEar$Sheet", 42, ⟨"IceByEar", "areNext", "(II)Z"⟩, "IceByEar")]
/-- the nest mates' words -/
def gw_Ne (U : State) : Prop := (∀ q ∈ gn_m, va_Nw (.methodLinkNest q.1 q.2.1 q.2.2.1 q.2.2.2) U) ∧ va_Nw (.fieldLinkNest "IceByEar$Ice" 31 "IceByEar" "PART" "[I" "IceByEar") U
/-- what never changes: static arrays, the text -/
def gw_St (X : gw_X) (U : State) : Prop := (∃ t, va_Z "IceByEar" "TRAIT_MOST" "[I" (.ref t) (gw_A X) U U.heap ∧ va_T .int t 5 (fun j => .int (gs_most j)) (gw_A X) U U.heap) ∧ (∃ t, va_Z "IceByEar" "PART" "[I" (.ref t) (gw_A X) U U.heap ∧ va_T .int t 5 (fun j => .int (gs_part j)) (gw_A X) U U.heap) ∧ va_Z "java/lang/String" "COMPACT_STRINGS" "Z" (.int 1) (gw_A X) U U.heap ∧ va_Zq "jdk/internal/util/Preconditions" "SIOOBE_FORMATTER" "Ljava/util/function/BiFunction;" (gw_A X) U U.heap ∧ va_O "java/lang/String" (X.1 84) (gw_A X) U U.heap ∧ va_OF "java/lang/String" "coder" "B" (.int 0) (X.1 84) (gw_A X) U U.heap ∧ va_OF "java/lang/String" "value" "[B" (.ref (X.1 85)) (X.1 84) (gw_A X) U U.heap ∧ va_T .byte (X.1 85) 5 (fun j => .int (gs_txt.getD j 0)) (gw_A X) U U.heap ∧ vk_R "IceByEar$Drafts" 62 "glcoe" (X.1 84) U
def gw_C (X : gw_X) (U : State) : Prop := gw_inj X ∧ va_K X.2.1 vwCl (gw_tys X) U ∧ gw_St X U ∧ gw_Ne U
theorem gw_Ne.warm {s U : State} (hW : s.WarmedH U.vm) (h : gw_Ne s) : gw_Ne U := ⟨fun q hq => va_Nw.warmM hW (h.1 q hq), va_Nw.warmF hW h.2⟩
theorem gw_Ne.same {u U : State} (hv : u.vm = U.vm) (h : gw_Ne u) : gw_Ne U := ⟨fun q hq => va_Nw.same rfl hv (h.1 q hq), va_Nw.same rfl hv h.2⟩
theorem gw_St.go {X : gw_X} {s U : State} {H : Heap} {locs : List Loc} (hW : s.WarmedH U.vm) (hU : U.heap = H) (hS : va_S (gw_A X) s.heap H locs) (h : gw_St X s) : gw_St X U := by
  obtain ⟨⟨t1, a1, a2⟩, ⟨t2, b1, b2⟩, c1, c2, d1, d2, d3, d4, d5⟩ := h
  have hq : ∀ a : Nat, a < s.heap.size → ¬ gw_A X a → U.heap[a]? = s.heap[a]? := fun a h1 h2 => by rw [hU]; exact hS.2.1 a h1 h2
  exact ⟨⟨t1, (va_Z.moved hW.alike a1).kept hq, (va_T.moved hW.alike a2).kept hq⟩, ⟨t2, (va_Z.moved hW.alike b1).kept hq, (va_T.moved hW.alike b2).kept hq⟩, (va_Z.moved hW.alike c1).kept hq, (va_Zq.moved hW.alike c2).kept hq, (va_O.moved hW.alike d1).kept hq, (va_OF.moved hW.alike d2).kept hq, (va_OF.moved hW.alike d3).kept hq, (va_T.moved hW.alike d4).kept hq, vk_R.warm hW d5⟩
theorem gw_St.same {X : gw_X} {u U : State} (hv : u.vm = U.vm) (hh : u.heap = U.heap) (h : gw_St X u) : gw_St X U := by
  obtain ⟨⟨t1, a1, a2⟩, ⟨t2, b1, b2⟩, c1, c2, d1, d2, d3, d4, d5⟩ := h
  have hA : u.vm.Alike U.vm := by rw [hv]; exact Vm.Alike.refl _
  rw [hh] at a1 a2 b1 b2 c1 c2 d1 d2 d3 d4
  exact ⟨⟨t1, va_Z.moved hA a1, va_T.moved hA a2⟩, ⟨t2, va_Z.moved hA b1, va_T.moved hA b2⟩, va_Z.moved hA c1, va_Zq.moved hA c2, va_O.moved hA d1, va_OF.moved hA d2, va_OF.moved hA d3, va_T.moved hA d4, vk_R.same hv.symm d5⟩
theorem gw_C.go {X : gw_X} {s U : State} {H : Heap} {locs : List Loc} (hW : s.WarmedH U.vm) (hU : U.heap = H) (hS : va_S (gw_A X) s.heap H locs) (h : gw_C X s) : gw_C X U := ⟨h.1, va_K.moved hW.alike h.2.1, h.2.2.1.go hW hU hS, h.2.2.2.warm hW⟩
theorem gw_C.same {X : gw_X} {u U : State} (hv : u.vm = U.vm) (hh : u.heap = U.heap) (h : gw_C X u) : gw_C X U := ⟨h.1, va_K.moved (by rw [hv]; exact Vm.Alike.refl _) h.2.1, h.2.2.1.same hv hh, h.2.2.2.same hv⟩
theorem gk_lt {k : Nat} (h : gk k ≠ 99) : k < 84 := by
  rcases Nat.lt_or_ge k 84 with q | q
  · exact q
  · exact absurd (by unfold gk; rw [List.getD_eq_getElem?_getD, List.getElem?_eq_none (by show 84 ≤ k; exact q)]; rfl) h
theorem gw_at (X : gw_X) (σ : gs_S) {k : Nat} (h : k < 84) : (gw_ws X σ)[k]? = some (X.1 k, gw_cf X k (σ.1 k) (σ.2 k)) := by
  unfold gw_ws
  rw [List.getElem?_map, List.getElem?_range h]
  rfl
theorem gw_len (X : gw_X) (σ : gs_S) : (gw_ws X σ).length = 84 := by simp [gw_ws]
theorem gw_set {X : gw_X} {σ τ : gs_S} {k : Nat} (hk : k < 84) {e : va_E} (he : gw_cf X k (τ.1 k) (τ.2 k) = e) (ho : ∀ j, j ≠ k → τ.1 j = σ.1 j ∧ τ.2 j = σ.2 j) : (gw_ws X σ).set k (X.1 k, e) = gw_ws X τ := by
  apply List.ext_getElem?
  intro i
  rw [List.getElem?_set]
  by_cases hi : k = i
  · subst hi
    rw [if_pos rfl, if_pos (by rw [gw_len]; exact hk), gw_at X τ hk, he]
  · rw [if_neg hi]
    rcases Nat.lt_or_ge i 84 with q | q
    · rw [gw_at X σ q, gw_at X τ q, (ho i (fun z => hi z.symm)).1, (ho i (fun z => hi z.symm)).2]
    · rw [List.getElem?_eq_none (by rw [gw_len]; exact q), List.getElem?_eq_none (by rw [gw_len]; exact q)]
theorem gw_D {X : gw_X} (h : gw_inj X) (σ : gs_S) : va_D (gw_A X) (gw_ws X σ) := by
  have lt : ∀ (i : Nat) (q : Nat × va_E), (gw_ws X σ)[i]? = some q → i < 84 ∧ q.1 = X.1 i := by
    intro i q hq
    have h1 : i < 84 := by
      have := (List.getElem?_eq_some_iff.mp hq).1
      rwa [gw_len] at this
    rw [gw_at X σ h1] at hq
    exact ⟨h1, by rw [← Option.some.inj hq]⟩
  refine ⟨fun i j p q hp hq e => ?_, fun k q hq => ?_⟩
  · obtain ⟨h1, h2⟩ := lt i p hp
    obtain ⟨h3, h4⟩ := lt j q hq
    exact h i j h1 h3 (by rw [← h2, ← h4]; exact e)
  · obtain ⟨h1, h2⟩ := lt k q hq
    exact ⟨k, h1, h2⟩
theorem gw_o0 (X : gw_X) (σ : gs_S) {k : Nat} (hk : gk k = 0) : (gw_ws X σ)[k]? = some (X.1 k, .inr (0, [.ref (X.1 (k + 1)), .ref (X.1 (k + 2)), .ref (X.1 (k + 3))])) := by
  rw [gw_at X σ (gk_lt (by rw [hk]; decide))]
  simp only [gw_cf, hk]
theorem gw_o1 (X : gw_X) (σ : gs_S) {k : Nat} (hk : gk k = 1) : (gw_ws X σ)[k]? = some (X.1 k, .inr (1, [.ref (X.1 (k + 1)), .ref (X.1 (k + 2)), .ref (X.1 (k + 3)), .ref (X.1 (k + 4)), .int (σ.1 k 4)])) := by
  rw [gw_at X σ (gk_lt (by rw [hk]; decide))]
  simp only [gw_cf, hk]
theorem gw_o2 (X : gw_X) (σ : gs_S) {k : Nat} (hk : gk k = 2) : (gw_ws X σ)[k]? = some (X.1 k, .inr (2, [.ref (X.1 (k + 1))])) := by
  rw [gw_at X σ (gk_lt (by rw [hk]; decide))]
  simp only [gw_cf, hk]
theorem gw_o3 (X : gw_X) (σ : gs_S) {k : Nat} (hk : gk k = 3) : (gw_ws X σ)[k]? = some (X.1 k, .inr (3, [.ref (X.1 (k + 1)), .ref (X.1 (k + 2)), .ref (X.1 (k + 3)), .ref (X.1 (k + 4))])) := by
  rw [gw_at X σ (gk_lt (by rw [hk]; decide))]
  simp only [gw_cf, hk]
theorem gw_o4 (X : gw_X) (σ : gs_S) {k : Nat} (hk : gk k = 4) : (gw_ws X σ)[k]? = some (X.1 k, .inr (4, [.ref (X.1 (k + 1)), .ref (X.1 (k + 3)), .ref (X.1 (k + 7)), .ref (X.1 (k + 9)), .int (σ.1 k 4), .int (σ.1 k 5)])) := by
  rw [gw_at X σ (gk_lt (by rw [hk]; decide))]
  simp only [gw_cf, hk]
theorem gw_o5 (X : gw_X) (σ : gs_S) {k : Nat} (hk : gk k = 5) : (gw_ws X σ)[k]? = some (X.1 k, .inr (5, [.ref (X.1 (k + 1)), .ref (X.1 (k + 2)), .ref (X.1 (k + 3)), .int (σ.1 k 3), .int (σ.1 k 4)])) := by
  rw [gw_at X σ (gk_lt (by rw [hk]; decide))]
  simp only [gw_cf, hk]
theorem gw_o6 (X : gw_X) (σ : gs_S) {k : Nat} (hk : gk k = 6) : (gw_ws X σ)[k]? = some (X.1 k, .inr (6, [.ref (X.1 (k + 1)), .ref (X.1 (k + 2))])) := by
  rw [gw_at X σ (gk_lt (by rw [hk]; decide))]
  simp only [gw_cf, hk]
theorem gw_o7 (X : gw_X) (σ : gs_S) {k : Nat} (hk : gk k = 7) : (gw_ws X σ)[k]? = some (X.1 k, .inr (7, [.ref (X.1 (k + 1)), .int (σ.1 k 1), .int (σ.1 k 2)])) := by
  rw [gw_at X σ (gk_lt (by rw [hk]; decide))]
  simp only [gw_cf, hk]
theorem gw_o8 (X : gw_X) (σ : gs_S) {k : Nat} (hk : gk k = 8) : (gw_ws X σ)[k]? = some (X.1 k, .inr (8, [.ref (X.1 (k + 1)), .ref (X.1 (k + 2)), .ref (X.1 (k + 3)), .int (σ.1 k 3)])) := by
  rw [gw_at X σ (gk_lt (by rw [hk]; decide))]
  simp only [gw_cf, hk]
theorem gw_o9 (X : gw_X) (σ : gs_S) {k : Nat} (hk : gk k = 9) : (gw_ws X σ)[k]? = some (X.1 k, .inr (9, [.ref (X.1 (k + 1)), .int (σ.1 k 1)])) := by
  rw [gw_at X σ (gk_lt (by rw [hk]; decide))]
  simp only [gw_cf, hk]
theorem gw_o10 (X : gw_X) (σ : gs_S) {k : Nat} (hk : gk k = 10) : (gw_ws X σ)[k]? = some (X.1 k, .inr (10, [.ref (X.1 (k + 1)), .ref (X.1 (k + 15)), .int (σ.1 k 2), .ref (X.1 (k + 29)), .ref (X.1 (k + 31)), .ref (X.1 (k + 38)), .ref (X.1 (k + 43)), .ref (X.1 (k + 46))])) := by
  rw [gw_at X σ (gk_lt (by rw [hk]; decide))]
  simp only [gw_cf, hk]
theorem gw_o11 (X : gw_X) (σ : gs_S) {k : Nat} (hk : gk k = 11) : (gw_ws X σ)[k]? = some (X.1 k, .inr (11, [.ref (X.1 (k + 1)), .ref (X.1 (k + 2)), .ref (X.1 (k + 3)), .ref (X.1 (k + 4)), .int (σ.1 k 4), .ref (X.1 (k + 5)), .int (σ.1 k 6), .ref (X.1 (k + 6)), .ref (X.1 (k + 7)), .ref (X.1 (k + 8)), .int (σ.1 k 10), .ref (X.1 (k + 9)), .int (σ.1 k 12), .int (σ.1 k 13), .int (σ.1 k 14), .ref (X.1 (k + 10)), .ref (X.1 (k + 11)), .ref (X.1 (k + 12)), .int (σ.1 k 18), .ref (X.1 (k + 13)), .ref (X.1 (k + 14)), .ref (X.1 (k + 15)), .int (σ.1 k 22), .ref (X.1 (k + 16)), .ref (X.1 (k + 17)), .ref (X.1 (k + 18)), .ref (X.1 (k + 19)), .ref (X.1 (k + 20))])) := by
  rw [gw_at X σ (gk_lt (by rw [hk]; decide))]
  simp only [gw_cf, hk]
theorem gw_ob (X : gw_X) (σ : gs_S) {k ci : Nat} (hk : gk k = ci) (hc : ci < 12) : ∃ fs, (gw_ws X σ)[k]? = some (X.1 k, .inr (ci, fs)) := by
  match ci, hc, hk with
  | 0, _, hk => exact ⟨_, gw_o0 X σ hk⟩
  | 1, _, hk => exact ⟨_, gw_o1 X σ hk⟩
  | 2, _, hk => exact ⟨_, gw_o2 X σ hk⟩
  | 3, _, hk => exact ⟨_, gw_o3 X σ hk⟩
  | 4, _, hk => exact ⟨_, gw_o4 X σ hk⟩
  | 5, _, hk => exact ⟨_, gw_o5 X σ hk⟩
  | 6, _, hk => exact ⟨_, gw_o6 X σ hk⟩
  | 7, _, hk => exact ⟨_, gw_o7 X σ hk⟩
  | 8, _, hk => exact ⟨_, gw_o8 X σ hk⟩
  | 9, _, hk => exact ⟨_, gw_o9 X σ hk⟩
  | 10, _, hk => exact ⟨_, gw_o10 X σ hk⟩
  | 11, _, hk => exact ⟨_, gw_o11 X σ hk⟩
  | n + 12, hc, _ => omega
theorem gw_ab (X : gw_X) (σ : gs_S) {k n : Nat} (hk : gk k = 12) (hn : gl k = n) : (gw_ws X σ)[k]? = some (X.1 k, .inl (X.2.2 0, n, .inl (σ.1 k))) := by
  rw [gw_at X σ (gk_lt (by rw [hk]; decide))]
  simp only [gw_cf, hk, hn]
theorem gw_ai (X : gw_X) (σ : gs_S) {k n : Nat} (hk : gk k = 13) (hn : gl k = n) : (gw_ws X σ)[k]? = some (X.1 k, .inl (X.2.2 1, n, .inl (σ.1 k))) := by
  rw [gw_at X σ (gk_lt (by rw [hk]; decide))]
  simp only [gw_cf, hk, hn]
theorem gw_al (X : gw_X) (σ : gs_S) {k n : Nat} (hk : gk k = 14) (hn : gl k = n) : (gw_ws X σ)[k]? = some (X.1 k, .inl (X.2.2 2, n, .inr (.inl (σ.2 k)))) := by
  rw [gw_at X σ (gk_lt (by rw [hk]; decide))]
  simp only [gw_cf, hk, hn]
theorem gw_az (X : gw_X) (σ : gs_S) {k n : Nat} (hk : gk k = 15) (hn : gl k = n) : (gw_ws X σ)[k]? = some (X.1 k, .inl (X.2.2 3, n, .inl (σ.1 k))) := by
  rw [gw_at X σ (gk_lt (by rw [hk]; decide))]
  simp only [gw_cf, hk, hn]
theorem gw_aq (X : gw_X) (σ : gs_S) {k n : Nat} (hk : gk k = 16) (hn : gl k = n) : (gw_ws X σ)[k]? = some (X.1 k, .inl (X.2.2 4, n, .inr (.inr (.inr (.inr (fun j => some (X.1 (k + 1 + 4 * j)))))))) := by
  rw [gw_at X σ (gk_lt (by rw [hk]; decide))]
  simp only [gw_cf, hk, hn]
theorem gs_u_ne (σ : gs_S) (c i : Nat) (v : Int32) : ∀ j, j ≠ c → (gs_u σ c i v).1 j = σ.1 j ∧ (gs_u σ c i v).2 j = σ.2 j := fun j h => ⟨if_neg h, rfl⟩
theorem gs_u_eq (σ : gs_S) (c i : Nat) (v : Int32) : (gs_u σ c i v).1 c = upd (σ.1 c) i v := if_pos rfl
theorem gs_ul_ne (σ : gs_S) (c i : Nat) (v : Int64) : ∀ j, j ≠ c → (gs_ul σ c i v).1 j = σ.1 j ∧ (gs_ul σ c i v).2 j = σ.2 j := fun j h => ⟨rfl, if_neg h⟩
theorem gs_ul_eq (σ : gs_S) (c i : Nat) (v : Int64) : (gs_ul σ c i v).2 c = vp_updL (σ.2 c) i v := if_pos rfl
theorem gs_w_ne (σ : gs_S) (c : Nat) (f : Nat → Int32) : ∀ j, j ≠ c → (gs_w σ c f).1 j = σ.1 j ∧ (gs_w σ c f).2 j = σ.2 j := fun j h => ⟨if_neg h, rfl⟩
theorem gs_w_eq (σ : gs_S) (c : Nat) (f : Nat → Int32) : (gs_w σ c f).1 c = f := if_pos rfl
theorem gw_s1_4 {X : gw_X} {σ : gs_S} {k : Nat} (hk : gk k = 1) (v : Int32) : (gw_ws X σ).set k (X.1 k, .inr (1, [.ref (X.1 (k + 1)), .ref (X.1 (k + 2)), .ref (X.1 (k + 3)), .ref (X.1 (k + 4)), .int v])) = gw_ws X (gs_u σ k 4 v) := by
  refine gw_set (gk_lt (by rw [hk]; decide)) ?_ (gs_u_ne σ k 4 v)
  rw [gs_u_eq]
  simp [gw_cf, hk, upd]; try rfl
theorem gw_s4_4 {X : gw_X} {σ : gs_S} {k : Nat} (hk : gk k = 4) (v : Int32) : (gw_ws X σ).set k (X.1 k, .inr (4, [.ref (X.1 (k + 1)), .ref (X.1 (k + 3)), .ref (X.1 (k + 7)), .ref (X.1 (k + 9)), .int v, .int (σ.1 k 5)])) = gw_ws X (gs_u σ k 4 v) := by
  refine gw_set (gk_lt (by rw [hk]; decide)) ?_ (gs_u_ne σ k 4 v)
  rw [gs_u_eq]
  simp [gw_cf, hk, upd]; try rfl
theorem gw_s4_5 {X : gw_X} {σ : gs_S} {k : Nat} (hk : gk k = 4) (v : Int32) : (gw_ws X σ).set k (X.1 k, .inr (4, [.ref (X.1 (k + 1)), .ref (X.1 (k + 3)), .ref (X.1 (k + 7)), .ref (X.1 (k + 9)), .int (σ.1 k 4), .int v])) = gw_ws X (gs_u σ k 5 v) := by
  refine gw_set (gk_lt (by rw [hk]; decide)) ?_ (gs_u_ne σ k 5 v)
  rw [gs_u_eq]
  simp [gw_cf, hk, upd]; try rfl
theorem gw_s5_3 {X : gw_X} {σ : gs_S} {k : Nat} (hk : gk k = 5) (v : Int32) : (gw_ws X σ).set k (X.1 k, .inr (5, [.ref (X.1 (k + 1)), .ref (X.1 (k + 2)), .ref (X.1 (k + 3)), .int v, .int (σ.1 k 4)])) = gw_ws X (gs_u σ k 3 v) := by
  refine gw_set (gk_lt (by rw [hk]; decide)) ?_ (gs_u_ne σ k 3 v)
  rw [gs_u_eq]
  simp [gw_cf, hk, upd]; try rfl
theorem gw_s5_4 {X : gw_X} {σ : gs_S} {k : Nat} (hk : gk k = 5) (v : Int32) : (gw_ws X σ).set k (X.1 k, .inr (5, [.ref (X.1 (k + 1)), .ref (X.1 (k + 2)), .ref (X.1 (k + 3)), .int (σ.1 k 3), .int v])) = gw_ws X (gs_u σ k 4 v) := by
  refine gw_set (gk_lt (by rw [hk]; decide)) ?_ (gs_u_ne σ k 4 v)
  rw [gs_u_eq]
  simp [gw_cf, hk, upd]; try rfl
theorem gw_s7_1 {X : gw_X} {σ : gs_S} {k : Nat} (hk : gk k = 7) (v : Int32) : (gw_ws X σ).set k (X.1 k, .inr (7, [.ref (X.1 (k + 1)), .int v, .int (σ.1 k 2)])) = gw_ws X (gs_u σ k 1 v) := by
  refine gw_set (gk_lt (by rw [hk]; decide)) ?_ (gs_u_ne σ k 1 v)
  rw [gs_u_eq]
  simp [gw_cf, hk, upd]; try rfl
theorem gw_s7_2 {X : gw_X} {σ : gs_S} {k : Nat} (hk : gk k = 7) (v : Int32) : (gw_ws X σ).set k (X.1 k, .inr (7, [.ref (X.1 (k + 1)), .int (σ.1 k 1), .int v])) = gw_ws X (gs_u σ k 2 v) := by
  refine gw_set (gk_lt (by rw [hk]; decide)) ?_ (gs_u_ne σ k 2 v)
  rw [gs_u_eq]
  simp [gw_cf, hk, upd]; try rfl
theorem gw_s8_3 {X : gw_X} {σ : gs_S} {k : Nat} (hk : gk k = 8) (v : Int32) : (gw_ws X σ).set k (X.1 k, .inr (8, [.ref (X.1 (k + 1)), .ref (X.1 (k + 2)), .ref (X.1 (k + 3)), .int v])) = gw_ws X (gs_u σ k 3 v) := by
  refine gw_set (gk_lt (by rw [hk]; decide)) ?_ (gs_u_ne σ k 3 v)
  rw [gs_u_eq]
  simp [gw_cf, hk, upd]; try rfl
theorem gw_s9_1 {X : gw_X} {σ : gs_S} {k : Nat} (hk : gk k = 9) (v : Int32) : (gw_ws X σ).set k (X.1 k, .inr (9, [.ref (X.1 (k + 1)), .int v])) = gw_ws X (gs_u σ k 1 v) := by
  refine gw_set (gk_lt (by rw [hk]; decide)) ?_ (gs_u_ne σ k 1 v)
  rw [gs_u_eq]
  simp [gw_cf, hk, upd]; try rfl
theorem gw_s10_2 {X : gw_X} {σ : gs_S} {k : Nat} (hk : gk k = 10) (v : Int32) : (gw_ws X σ).set k (X.1 k, .inr (10, [.ref (X.1 (k + 1)), .ref (X.1 (k + 15)), .int v, .ref (X.1 (k + 29)), .ref (X.1 (k + 31)), .ref (X.1 (k + 38)), .ref (X.1 (k + 43)), .ref (X.1 (k + 46))])) = gw_ws X (gs_u σ k 2 v) := by
  refine gw_set (gk_lt (by rw [hk]; decide)) ?_ (gs_u_ne σ k 2 v)
  rw [gs_u_eq]
  simp [gw_cf, hk, upd]; try rfl
theorem gw_s11_4 {X : gw_X} {σ : gs_S} {k : Nat} (hk : gk k = 11) (v : Int32) : (gw_ws X σ).set k (X.1 k, .inr (11, [.ref (X.1 (k + 1)), .ref (X.1 (k + 2)), .ref (X.1 (k + 3)), .ref (X.1 (k + 4)), .int v, .ref (X.1 (k + 5)), .int (σ.1 k 6), .ref (X.1 (k + 6)), .ref (X.1 (k + 7)), .ref (X.1 (k + 8)), .int (σ.1 k 10), .ref (X.1 (k + 9)), .int (σ.1 k 12), .int (σ.1 k 13), .int (σ.1 k 14), .ref (X.1 (k + 10)), .ref (X.1 (k + 11)), .ref (X.1 (k + 12)), .int (σ.1 k 18), .ref (X.1 (k + 13)), .ref (X.1 (k + 14)), .ref (X.1 (k + 15)), .int (σ.1 k 22), .ref (X.1 (k + 16)), .ref (X.1 (k + 17)), .ref (X.1 (k + 18)), .ref (X.1 (k + 19)), .ref (X.1 (k + 20))])) = gw_ws X (gs_u σ k 4 v) := by
  refine gw_set (gk_lt (by rw [hk]; decide)) ?_ (gs_u_ne σ k 4 v)
  rw [gs_u_eq]
  simp [gw_cf, hk, upd]; try rfl
theorem gw_s11_6 {X : gw_X} {σ : gs_S} {k : Nat} (hk : gk k = 11) (v : Int32) : (gw_ws X σ).set k (X.1 k, .inr (11, [.ref (X.1 (k + 1)), .ref (X.1 (k + 2)), .ref (X.1 (k + 3)), .ref (X.1 (k + 4)), .int (σ.1 k 4), .ref (X.1 (k + 5)), .int v, .ref (X.1 (k + 6)), .ref (X.1 (k + 7)), .ref (X.1 (k + 8)), .int (σ.1 k 10), .ref (X.1 (k + 9)), .int (σ.1 k 12), .int (σ.1 k 13), .int (σ.1 k 14), .ref (X.1 (k + 10)), .ref (X.1 (k + 11)), .ref (X.1 (k + 12)), .int (σ.1 k 18), .ref (X.1 (k + 13)), .ref (X.1 (k + 14)), .ref (X.1 (k + 15)), .int (σ.1 k 22), .ref (X.1 (k + 16)), .ref (X.1 (k + 17)), .ref (X.1 (k + 18)), .ref (X.1 (k + 19)), .ref (X.1 (k + 20))])) = gw_ws X (gs_u σ k 6 v) := by
  refine gw_set (gk_lt (by rw [hk]; decide)) ?_ (gs_u_ne σ k 6 v)
  rw [gs_u_eq]
  simp [gw_cf, hk, upd]; try rfl
theorem gw_s11_10 {X : gw_X} {σ : gs_S} {k : Nat} (hk : gk k = 11) (v : Int32) : (gw_ws X σ).set k (X.1 k, .inr (11, [.ref (X.1 (k + 1)), .ref (X.1 (k + 2)), .ref (X.1 (k + 3)), .ref (X.1 (k + 4)), .int (σ.1 k 4), .ref (X.1 (k + 5)), .int (σ.1 k 6), .ref (X.1 (k + 6)), .ref (X.1 (k + 7)), .ref (X.1 (k + 8)), .int v, .ref (X.1 (k + 9)), .int (σ.1 k 12), .int (σ.1 k 13), .int (σ.1 k 14), .ref (X.1 (k + 10)), .ref (X.1 (k + 11)), .ref (X.1 (k + 12)), .int (σ.1 k 18), .ref (X.1 (k + 13)), .ref (X.1 (k + 14)), .ref (X.1 (k + 15)), .int (σ.1 k 22), .ref (X.1 (k + 16)), .ref (X.1 (k + 17)), .ref (X.1 (k + 18)), .ref (X.1 (k + 19)), .ref (X.1 (k + 20))])) = gw_ws X (gs_u σ k 10 v) := by
  refine gw_set (gk_lt (by rw [hk]; decide)) ?_ (gs_u_ne σ k 10 v)
  rw [gs_u_eq]
  simp [gw_cf, hk, upd]; try rfl
theorem gw_s11_12 {X : gw_X} {σ : gs_S} {k : Nat} (hk : gk k = 11) (v : Int32) : (gw_ws X σ).set k (X.1 k, .inr (11, [.ref (X.1 (k + 1)), .ref (X.1 (k + 2)), .ref (X.1 (k + 3)), .ref (X.1 (k + 4)), .int (σ.1 k 4), .ref (X.1 (k + 5)), .int (σ.1 k 6), .ref (X.1 (k + 6)), .ref (X.1 (k + 7)), .ref (X.1 (k + 8)), .int (σ.1 k 10), .ref (X.1 (k + 9)), .int v, .int (σ.1 k 13), .int (σ.1 k 14), .ref (X.1 (k + 10)), .ref (X.1 (k + 11)), .ref (X.1 (k + 12)), .int (σ.1 k 18), .ref (X.1 (k + 13)), .ref (X.1 (k + 14)), .ref (X.1 (k + 15)), .int (σ.1 k 22), .ref (X.1 (k + 16)), .ref (X.1 (k + 17)), .ref (X.1 (k + 18)), .ref (X.1 (k + 19)), .ref (X.1 (k + 20))])) = gw_ws X (gs_u σ k 12 v) := by
  refine gw_set (gk_lt (by rw [hk]; decide)) ?_ (gs_u_ne σ k 12 v)
  rw [gs_u_eq]
  simp [gw_cf, hk, upd]; try rfl
theorem gw_s11_13 {X : gw_X} {σ : gs_S} {k : Nat} (hk : gk k = 11) (v : Int32) : (gw_ws X σ).set k (X.1 k, .inr (11, [.ref (X.1 (k + 1)), .ref (X.1 (k + 2)), .ref (X.1 (k + 3)), .ref (X.1 (k + 4)), .int (σ.1 k 4), .ref (X.1 (k + 5)), .int (σ.1 k 6), .ref (X.1 (k + 6)), .ref (X.1 (k + 7)), .ref (X.1 (k + 8)), .int (σ.1 k 10), .ref (X.1 (k + 9)), .int (σ.1 k 12), .int v, .int (σ.1 k 14), .ref (X.1 (k + 10)), .ref (X.1 (k + 11)), .ref (X.1 (k + 12)), .int (σ.1 k 18), .ref (X.1 (k + 13)), .ref (X.1 (k + 14)), .ref (X.1 (k + 15)), .int (σ.1 k 22), .ref (X.1 (k + 16)), .ref (X.1 (k + 17)), .ref (X.1 (k + 18)), .ref (X.1 (k + 19)), .ref (X.1 (k + 20))])) = gw_ws X (gs_u σ k 13 v) := by
  refine gw_set (gk_lt (by rw [hk]; decide)) ?_ (gs_u_ne σ k 13 v)
  rw [gs_u_eq]
  simp [gw_cf, hk, upd]; try rfl
theorem gw_s11_14 {X : gw_X} {σ : gs_S} {k : Nat} (hk : gk k = 11) (v : Int32) : (gw_ws X σ).set k (X.1 k, .inr (11, [.ref (X.1 (k + 1)), .ref (X.1 (k + 2)), .ref (X.1 (k + 3)), .ref (X.1 (k + 4)), .int (σ.1 k 4), .ref (X.1 (k + 5)), .int (σ.1 k 6), .ref (X.1 (k + 6)), .ref (X.1 (k + 7)), .ref (X.1 (k + 8)), .int (σ.1 k 10), .ref (X.1 (k + 9)), .int (σ.1 k 12), .int (σ.1 k 13), .int v, .ref (X.1 (k + 10)), .ref (X.1 (k + 11)), .ref (X.1 (k + 12)), .int (σ.1 k 18), .ref (X.1 (k + 13)), .ref (X.1 (k + 14)), .ref (X.1 (k + 15)), .int (σ.1 k 22), .ref (X.1 (k + 16)), .ref (X.1 (k + 17)), .ref (X.1 (k + 18)), .ref (X.1 (k + 19)), .ref (X.1 (k + 20))])) = gw_ws X (gs_u σ k 14 v) := by
  refine gw_set (gk_lt (by rw [hk]; decide)) ?_ (gs_u_ne σ k 14 v)
  rw [gs_u_eq]
  simp [gw_cf, hk, upd]; try rfl
theorem gw_s11_18 {X : gw_X} {σ : gs_S} {k : Nat} (hk : gk k = 11) (v : Int32) : (gw_ws X σ).set k (X.1 k, .inr (11, [.ref (X.1 (k + 1)), .ref (X.1 (k + 2)), .ref (X.1 (k + 3)), .ref (X.1 (k + 4)), .int (σ.1 k 4), .ref (X.1 (k + 5)), .int (σ.1 k 6), .ref (X.1 (k + 6)), .ref (X.1 (k + 7)), .ref (X.1 (k + 8)), .int (σ.1 k 10), .ref (X.1 (k + 9)), .int (σ.1 k 12), .int (σ.1 k 13), .int (σ.1 k 14), .ref (X.1 (k + 10)), .ref (X.1 (k + 11)), .ref (X.1 (k + 12)), .int v, .ref (X.1 (k + 13)), .ref (X.1 (k + 14)), .ref (X.1 (k + 15)), .int (σ.1 k 22), .ref (X.1 (k + 16)), .ref (X.1 (k + 17)), .ref (X.1 (k + 18)), .ref (X.1 (k + 19)), .ref (X.1 (k + 20))])) = gw_ws X (gs_u σ k 18 v) := by
  refine gw_set (gk_lt (by rw [hk]; decide)) ?_ (gs_u_ne σ k 18 v)
  rw [gs_u_eq]
  simp [gw_cf, hk, upd]; try rfl
theorem gw_s11_22 {X : gw_X} {σ : gs_S} {k : Nat} (hk : gk k = 11) (v : Int32) : (gw_ws X σ).set k (X.1 k, .inr (11, [.ref (X.1 (k + 1)), .ref (X.1 (k + 2)), .ref (X.1 (k + 3)), .ref (X.1 (k + 4)), .int (σ.1 k 4), .ref (X.1 (k + 5)), .int (σ.1 k 6), .ref (X.1 (k + 6)), .ref (X.1 (k + 7)), .ref (X.1 (k + 8)), .int (σ.1 k 10), .ref (X.1 (k + 9)), .int (σ.1 k 12), .int (σ.1 k 13), .int (σ.1 k 14), .ref (X.1 (k + 10)), .ref (X.1 (k + 11)), .ref (X.1 (k + 12)), .int (σ.1 k 18), .ref (X.1 (k + 13)), .ref (X.1 (k + 14)), .ref (X.1 (k + 15)), .int v, .ref (X.1 (k + 16)), .ref (X.1 (k + 17)), .ref (X.1 (k + 18)), .ref (X.1 (k + 19)), .ref (X.1 (k + 20))])) = gw_ws X (gs_u σ k 22 v) := by
  refine gw_set (gk_lt (by rw [hk]; decide)) ?_ (gs_u_ne σ k 22 v)
  rw [gs_u_eq]
  simp [gw_cf, hk, upd]; try rfl
theorem gw_ub {X : gw_X} {σ : gs_S} {k n : Nat} (hk : gk k = 12) (hn : gl k = n) (i : Nat) (v : Int32) : (gw_ws X σ).set k (X.1 k, .inl (X.2.2 0, n, .inl (upd (σ.1 k) i v))) = gw_ws X (gs_u σ k i v) := by
  refine gw_set (gk_lt (by rw [hk]; decide)) ?_ (gs_u_ne σ k i v)
  rw [gs_u_eq]
  simp only [gw_cf, hk, hn]
theorem gw_ui {X : gw_X} {σ : gs_S} {k n : Nat} (hk : gk k = 13) (hn : gl k = n) (i : Nat) (v : Int32) : (gw_ws X σ).set k (X.1 k, .inl (X.2.2 1, n, .inl (upd (σ.1 k) i v))) = gw_ws X (gs_u σ k i v) := by
  refine gw_set (gk_lt (by rw [hk]; decide)) ?_ (gs_u_ne σ k i v)
  rw [gs_u_eq]
  simp only [gw_cf, hk, hn]
theorem gw_uz {X : gw_X} {σ : gs_S} {k n : Nat} (hk : gk k = 15) (hn : gl k = n) (i : Nat) (v : Int32) : (gw_ws X σ).set k (X.1 k, .inl (X.2.2 3, n, .inl (upd (σ.1 k) i v))) = gw_ws X (gs_u σ k i v) := by
  refine gw_set (gk_lt (by rw [hk]; decide)) ?_ (gs_u_ne σ k i v)
  rw [gs_u_eq]
  simp only [gw_cf, hk, hn]
theorem gw_ul {X : gw_X} {σ : gs_S} {k n : Nat} (hk : gk k = 14) (hn : gl k = n) (i : Nat) (v : Int64) : (gw_ws X σ).set k (X.1 k, .inl (X.2.2 2, n, .inr (.inl (vp_updL (σ.2 k) i v)))) = gw_ws X (gs_ul σ k i v) := by
  refine gw_set (gk_lt (by rw [hk]; decide)) ?_ (gs_ul_ne σ k i v)
  rw [gs_ul_eq]
  simp only [gw_cf, hk, hn]
theorem gw_wi {X : gw_X} {σ : gs_S} {k n : Nat} (hk : gk k = 13) (hn : gl k = n) (f : Nat → Int32) : (gw_ws X σ).set k (X.1 k, .inl (X.2.2 1, n, .inl f)) = gw_ws X (gs_w σ k f) := by
  refine gw_set (gk_lt (by rw [hk]; decide)) ?_ (gs_w_ne σ k f)
  rw [gs_w_eq]
  simp only [gw_cf, hk, hn]
theorem gk_0 : gk 0 = 10 ∧ gl 0 = 0 := ⟨rfl, rfl⟩
theorem gk_1 : gk 1 = 4 ∧ gl 1 = 0 := ⟨rfl, rfl⟩
theorem gk_2 : gk 2 = 2 ∧ gl 2 = 0 := ⟨rfl, rfl⟩
theorem gk_3 : gk 3 = 13 ∧ gl 3 = 320 := ⟨rfl, rfl⟩
theorem gk_4 : gk 4 = 8 ∧ gl 4 = 0 := ⟨rfl, rfl⟩
theorem gk_5 : gk 5 = 13 ∧ gl 5 = 6 := ⟨rfl, rfl⟩
theorem gk_6 : gk 6 = 13 ∧ gl 6 = 6 := ⟨rfl, rfl⟩
theorem gk_7 : gk 7 = 13 ∧ gl 7 = 6 := ⟨rfl, rfl⟩
theorem gk_8 : gk 8 = 9 ∧ gl 8 = 0 := ⟨rfl, rfl⟩
theorem gk_9 : gk 9 = 13 ∧ gl 9 = 24 := ⟨rfl, rfl⟩
theorem gk_10 : gk 10 = 1 ∧ gl 10 = 0 := ⟨rfl, rfl⟩
theorem gk_11 : gk 11 = 13 ∧ gl 11 = 4 := ⟨rfl, rfl⟩
theorem gk_12 : gk 12 = 13 ∧ gl 12 = 16 := ⟨rfl, rfl⟩
theorem gk_13 : gk 13 = 13 ∧ gl 13 = 16 := ⟨rfl, rfl⟩
theorem gk_14 : gk 14 = 13 ∧ gl 14 = 16 := ⟨rfl, rfl⟩
theorem gk_15 : gk 15 = 4 ∧ gl 15 = 0 := ⟨rfl, rfl⟩
theorem gk_16 : gk 16 = 2 ∧ gl 16 = 0 := ⟨rfl, rfl⟩
theorem gk_17 : gk 17 = 13 ∧ gl 17 = 320 := ⟨rfl, rfl⟩
theorem gk_18 : gk 18 = 8 ∧ gl 18 = 0 := ⟨rfl, rfl⟩
theorem gk_19 : gk 19 = 13 ∧ gl 19 = 6 := ⟨rfl, rfl⟩
theorem gk_20 : gk 20 = 13 ∧ gl 20 = 6 := ⟨rfl, rfl⟩
theorem gk_21 : gk 21 = 13 ∧ gl 21 = 6 := ⟨rfl, rfl⟩
theorem gk_22 : gk 22 = 9 ∧ gl 22 = 0 := ⟨rfl, rfl⟩
theorem gk_23 : gk 23 = 13 ∧ gl 23 = 24 := ⟨rfl, rfl⟩
theorem gk_24 : gk 24 = 1 ∧ gl 24 = 0 := ⟨rfl, rfl⟩
theorem gk_25 : gk 25 = 13 ∧ gl 25 = 4 := ⟨rfl, rfl⟩
theorem gk_26 : gk 26 = 13 ∧ gl 26 = 16 := ⟨rfl, rfl⟩
theorem gk_27 : gk 27 = 13 ∧ gl 27 = 16 := ⟨rfl, rfl⟩
theorem gk_28 : gk 28 = 13 ∧ gl 28 = 16 := ⟨rfl, rfl⟩
theorem gk_29 : gk 29 = 7 ∧ gl 29 = 0 := ⟨rfl, rfl⟩
theorem gk_30 : gk 30 = 12 ∧ gl 30 = 140 := ⟨rfl, rfl⟩
theorem gk_31 : gk 31 = 0 ∧ gl 31 = 0 := ⟨rfl, rfl⟩
theorem gk_32 : gk 32 = 13 ∧ gl 32 = 64 := ⟨rfl, rfl⟩
theorem gk_33 : gk 33 = 13 ∧ gl 33 = 64 := ⟨rfl, rfl⟩
theorem gk_34 : gk 34 = 8 ∧ gl 34 = 0 := ⟨rfl, rfl⟩
theorem gk_35 : gk 35 = 13 ∧ gl 35 = 6 := ⟨rfl, rfl⟩
theorem gk_36 : gk 36 = 13 ∧ gl 36 = 6 := ⟨rfl, rfl⟩
theorem gk_37 : gk 37 = 13 ∧ gl 37 = 6 := ⟨rfl, rfl⟩
theorem gk_38 : gk 38 = 3 ∧ gl 38 = 0 := ⟨rfl, rfl⟩
theorem gk_39 : gk 39 = 13 ∧ gl 39 = 64 := ⟨rfl, rfl⟩
theorem gk_40 : gk 40 = 13 ∧ gl 40 = 64 := ⟨rfl, rfl⟩
theorem gk_41 : gk 41 = 13 ∧ gl 41 = 64 := ⟨rfl, rfl⟩
theorem gk_42 : gk 42 = 13 ∧ gl 42 = 128 := ⟨rfl, rfl⟩
theorem gk_43 : gk 43 = 6 ∧ gl 43 = 0 := ⟨rfl, rfl⟩
theorem gk_44 : gk 44 = 13 ∧ gl 44 = 64 := ⟨rfl, rfl⟩
theorem gk_45 : gk 45 = 13 ∧ gl 45 = 64 := ⟨rfl, rfl⟩
theorem gk_46 : gk 46 = 16 ∧ gl 46 = 4 := ⟨rfl, rfl⟩
theorem gk_47 : gk 47 = 5 ∧ gl 47 = 0 := ⟨rfl, rfl⟩
theorem gk_48 : gk 48 = 15 ∧ gl 48 = 24 := ⟨rfl, rfl⟩
theorem gk_49 : gk 49 = 12 ∧ gl 49 = 24 := ⟨rfl, rfl⟩
theorem gk_50 : gk 50 = 14 ∧ gl 50 = 24 := ⟨rfl, rfl⟩
theorem gk_51 : gk 51 = 5 ∧ gl 51 = 0 := ⟨rfl, rfl⟩
theorem gk_52 : gk 52 = 15 ∧ gl 52 = 24 := ⟨rfl, rfl⟩
theorem gk_53 : gk 53 = 12 ∧ gl 53 = 24 := ⟨rfl, rfl⟩
theorem gk_54 : gk 54 = 14 ∧ gl 54 = 24 := ⟨rfl, rfl⟩
theorem gk_55 : gk 55 = 5 ∧ gl 55 = 0 := ⟨rfl, rfl⟩
theorem gk_56 : gk 56 = 15 ∧ gl 56 = 24 := ⟨rfl, rfl⟩
theorem gk_57 : gk 57 = 12 ∧ gl 57 = 24 := ⟨rfl, rfl⟩
theorem gk_58 : gk 58 = 14 ∧ gl 58 = 24 := ⟨rfl, rfl⟩
theorem gk_59 : gk 59 = 5 ∧ gl 59 = 0 := ⟨rfl, rfl⟩
theorem gk_60 : gk 60 = 15 ∧ gl 60 = 24 := ⟨rfl, rfl⟩
theorem gk_61 : gk 61 = 12 ∧ gl 61 = 24 := ⟨rfl, rfl⟩
theorem gk_62 : gk 62 = 14 ∧ gl 62 = 24 := ⟨rfl, rfl⟩
theorem gk_63 : gk 63 = 11 ∧ gl 63 = 0 := ⟨rfl, rfl⟩
theorem gk_64 : gk 64 = 13 ∧ gl 64 = 320 := ⟨rfl, rfl⟩
theorem gk_65 : gk 65 = 13 ∧ gl 65 = 6 := ⟨rfl, rfl⟩
theorem gk_66 : gk 66 = 13 ∧ gl 66 = 6 := ⟨rfl, rfl⟩
theorem gk_67 : gk 67 = 13 ∧ gl 67 = 6 := ⟨rfl, rfl⟩
theorem gk_68 : gk 68 = 13 ∧ gl 68 = 24 := ⟨rfl, rfl⟩
theorem gk_69 : gk 69 = 13 ∧ gl 69 = 2 := ⟨rfl, rfl⟩
theorem gk_70 : gk 70 = 13 ∧ gl 70 = 4 := ⟨rfl, rfl⟩
theorem gk_71 : gk 71 = 13 ∧ gl 71 = 48 := ⟨rfl, rfl⟩
theorem gk_72 : gk 72 = 13 ∧ gl 72 = 140 := ⟨rfl, rfl⟩
theorem gk_73 : gk 73 = 13 ∧ gl 73 = 64 := ⟨rfl, rfl⟩
theorem gk_74 : gk 74 = 13 ∧ gl 74 = 64 := ⟨rfl, rfl⟩
theorem gk_75 : gk 75 = 13 ∧ gl 75 = 64 := ⟨rfl, rfl⟩
theorem gk_76 : gk 76 = 13 ∧ gl 76 = 64 := ⟨rfl, rfl⟩
theorem gk_77 : gk 77 = 13 ∧ gl 77 = 64 := ⟨rfl, rfl⟩
theorem gk_78 : gk 78 = 13 ∧ gl 78 = 64 := ⟨rfl, rfl⟩
theorem gk_79 : gk 79 = 13 ∧ gl 79 = 420 := ⟨rfl, rfl⟩
theorem gk_80 : gk 80 = 13 ∧ gl 80 = 3 := ⟨rfl, rfl⟩
theorem gk_81 : gk 81 = 13 ∧ gl 81 = 4 := ⟨rfl, rfl⟩
theorem gk_82 : gk 82 = 13 ∧ gl 82 = 4 := ⟨rfl, rfl⟩
theorem gk_83 : gk 83 = 14 ∧ gl 83 = 96 := ⟨rfl, rfl⟩
theorem gk_o0_0 {k : Nat} (h : gk k = 0) : gk (k + 1) = 13 ∧ gl (k + 1) = 64 := (show ∀ k, k < 84 → gk k = 0 → gk (k + 1) = 13 ∧ gl (k + 1) = 64 by decide +kernel) k (gk_lt (by rw [h]; decide)) h
theorem gk_o0_1 {k : Nat} (h : gk k = 0) : gk (k + 2) = 13 ∧ gl (k + 2) = 64 := (show ∀ k, k < 84 → gk k = 0 → gk (k + 2) = 13 ∧ gl (k + 2) = 64 by decide +kernel) k (gk_lt (by rw [h]; decide)) h
theorem gk_o0_2 {k : Nat} (h : gk k = 0) : gk (k + 3) = 8 ∧ gl (k + 3) = 0 := (show ∀ k, k < 84 → gk k = 0 → gk (k + 3) = 8 ∧ gl (k + 3) = 0 by decide +kernel) k (gk_lt (by rw [h]; decide)) h
theorem gk_o1_0 {k : Nat} (h : gk k = 1) : gk (k + 1) = 13 ∧ gl (k + 1) = 4 := (show ∀ k, k < 84 → gk k = 1 → gk (k + 1) = 13 ∧ gl (k + 1) = 4 by decide +kernel) k (gk_lt (by rw [h]; decide)) h
theorem gk_o1_1 {k : Nat} (h : gk k = 1) : gk (k + 2) = 13 ∧ gl (k + 2) = 16 := (show ∀ k, k < 84 → gk k = 1 → gk (k + 2) = 13 ∧ gl (k + 2) = 16 by decide +kernel) k (gk_lt (by rw [h]; decide)) h
theorem gk_o1_2 {k : Nat} (h : gk k = 1) : gk (k + 3) = 13 ∧ gl (k + 3) = 16 := (show ∀ k, k < 84 → gk k = 1 → gk (k + 3) = 13 ∧ gl (k + 3) = 16 by decide +kernel) k (gk_lt (by rw [h]; decide)) h
theorem gk_o1_3 {k : Nat} (h : gk k = 1) : gk (k + 4) = 13 ∧ gl (k + 4) = 16 := (show ∀ k, k < 84 → gk k = 1 → gk (k + 4) = 13 ∧ gl (k + 4) = 16 by decide +kernel) k (gk_lt (by rw [h]; decide)) h
theorem gk_o2_0 {k : Nat} (h : gk k = 2) : gk (k + 1) = 13 ∧ gl (k + 1) = 320 := (show ∀ k, k < 84 → gk k = 2 → gk (k + 1) = 13 ∧ gl (k + 1) = 320 by decide +kernel) k (gk_lt (by rw [h]; decide)) h
theorem gk_o3_0 {k : Nat} (h : gk k = 3) : gk (k + 1) = 13 ∧ gl (k + 1) = 64 := (show ∀ k, k < 84 → gk k = 3 → gk (k + 1) = 13 ∧ gl (k + 1) = 64 by decide +kernel) k (gk_lt (by rw [h]; decide)) h
theorem gk_o3_1 {k : Nat} (h : gk k = 3) : gk (k + 2) = 13 ∧ gl (k + 2) = 64 := (show ∀ k, k < 84 → gk k = 3 → gk (k + 2) = 13 ∧ gl (k + 2) = 64 by decide +kernel) k (gk_lt (by rw [h]; decide)) h
theorem gk_o3_2 {k : Nat} (h : gk k = 3) : gk (k + 3) = 13 ∧ gl (k + 3) = 64 := (show ∀ k, k < 84 → gk k = 3 → gk (k + 3) = 13 ∧ gl (k + 3) = 64 by decide +kernel) k (gk_lt (by rw [h]; decide)) h
theorem gk_o3_3 {k : Nat} (h : gk k = 3) : gk (k + 4) = 13 ∧ gl (k + 4) = 128 := (show ∀ k, k < 84 → gk k = 3 → gk (k + 4) = 13 ∧ gl (k + 4) = 128 by decide +kernel) k (gk_lt (by rw [h]; decide)) h
theorem gk_o4_0 {k : Nat} (h : gk k = 4) : gk (k + 1) = 2 ∧ gl (k + 1) = 0 := (show ∀ k, k < 84 → gk k = 4 → gk (k + 1) = 2 ∧ gl (k + 1) = 0 by decide +kernel) k (gk_lt (by rw [h]; decide)) h
theorem gk_o4_1 {k : Nat} (h : gk k = 4) : gk (k + 3) = 8 ∧ gl (k + 3) = 0 := (show ∀ k, k < 84 → gk k = 4 → gk (k + 3) = 8 ∧ gl (k + 3) = 0 by decide +kernel) k (gk_lt (by rw [h]; decide)) h
theorem gk_o4_2 {k : Nat} (h : gk k = 4) : gk (k + 7) = 9 ∧ gl (k + 7) = 0 := (show ∀ k, k < 84 → gk k = 4 → gk (k + 7) = 9 ∧ gl (k + 7) = 0 by decide +kernel) k (gk_lt (by rw [h]; decide)) h
theorem gk_o4_3 {k : Nat} (h : gk k = 4) : gk (k + 9) = 1 ∧ gl (k + 9) = 0 := (show ∀ k, k < 84 → gk k = 4 → gk (k + 9) = 1 ∧ gl (k + 9) = 0 by decide +kernel) k (gk_lt (by rw [h]; decide)) h
theorem gk_o5_0 {k : Nat} (h : gk k = 5) : gk (k + 1) = 15 ∧ gl (k + 1) = 24 := (show ∀ k, k < 84 → gk k = 5 → gk (k + 1) = 15 ∧ gl (k + 1) = 24 by decide +kernel) k (gk_lt (by rw [h]; decide)) h
theorem gk_o5_1 {k : Nat} (h : gk k = 5) : gk (k + 2) = 12 ∧ gl (k + 2) = 24 := (show ∀ k, k < 84 → gk k = 5 → gk (k + 2) = 12 ∧ gl (k + 2) = 24 by decide +kernel) k (gk_lt (by rw [h]; decide)) h
theorem gk_o5_2 {k : Nat} (h : gk k = 5) : gk (k + 3) = 14 ∧ gl (k + 3) = 24 := (show ∀ k, k < 84 → gk k = 5 → gk (k + 3) = 14 ∧ gl (k + 3) = 24 by decide +kernel) k (gk_lt (by rw [h]; decide)) h
theorem gk_o6_0 {k : Nat} (h : gk k = 6) : gk (k + 1) = 13 ∧ gl (k + 1) = 64 := (show ∀ k, k < 84 → gk k = 6 → gk (k + 1) = 13 ∧ gl (k + 1) = 64 by decide +kernel) k (gk_lt (by rw [h]; decide)) h
theorem gk_o6_1 {k : Nat} (h : gk k = 6) : gk (k + 2) = 13 ∧ gl (k + 2) = 64 := (show ∀ k, k < 84 → gk k = 6 → gk (k + 2) = 13 ∧ gl (k + 2) = 64 by decide +kernel) k (gk_lt (by rw [h]; decide)) h
theorem gk_o7_0 {k : Nat} (h : gk k = 7) : gk (k + 1) = 12 ∧ gl (k + 1) = 140 := (show ∀ k, k < 84 → gk k = 7 → gk (k + 1) = 12 ∧ gl (k + 1) = 140 by decide +kernel) k (gk_lt (by rw [h]; decide)) h
theorem gk_o8_0 {k : Nat} (h : gk k = 8) : gk (k + 1) = 13 ∧ gl (k + 1) = 6 := (show ∀ k, k < 84 → gk k = 8 → gk (k + 1) = 13 ∧ gl (k + 1) = 6 by decide +kernel) k (gk_lt (by rw [h]; decide)) h
theorem gk_o8_1 {k : Nat} (h : gk k = 8) : gk (k + 2) = 13 ∧ gl (k + 2) = 6 := (show ∀ k, k < 84 → gk k = 8 → gk (k + 2) = 13 ∧ gl (k + 2) = 6 by decide +kernel) k (gk_lt (by rw [h]; decide)) h
theorem gk_o8_2 {k : Nat} (h : gk k = 8) : gk (k + 3) = 13 ∧ gl (k + 3) = 6 := (show ∀ k, k < 84 → gk k = 8 → gk (k + 3) = 13 ∧ gl (k + 3) = 6 by decide +kernel) k (gk_lt (by rw [h]; decide)) h
theorem gk_o9_0 {k : Nat} (h : gk k = 9) : gk (k + 1) = 13 ∧ gl (k + 1) = 24 := (show ∀ k, k < 84 → gk k = 9 → gk (k + 1) = 13 ∧ gl (k + 1) = 24 by decide +kernel) k (gk_lt (by rw [h]; decide)) h
theorem gk_sh {i : Int32} (h : vp_in i 4) : gk (46 + 1 + 4 * i.toNatClampNeg) = 5 := (show ∀ k, k < 4 → gk (46 + 1 + 4 * k) = 5 by decide +kernel) _ (Nat.not_le.mp fun q => h (Or.inr q))
