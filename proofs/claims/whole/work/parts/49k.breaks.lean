/-! PURE, 49k: breaks -/
def zBr (σ : gs_S) (m s p : Nat) : Prop := (∃ k, k < s ∧ zM (σ.1 7) (σ.1 6) p k = zM (σ.1 7) (σ.1 6) p s) ∨ ¬ nI (zWt (σ.1 5) (σ.1 6) (σ.1 7) s p m) ≤ zB (σ.1 3) (zN (σ.1 9 p))
def zFP (σ : gs_S) (m w s p : Nat) : Prop := p < w ∧ zBr σ m s p ∧ ∀ j, j < p → ¬ zBr σ m s j
def zBest (σ : gs_S) (m w : Nat) (A : Nat → Prop) (o : Option (Nat × Nat)) : Prop := match o with
  | none => ∀ s p, A s → ¬ zFP σ m w s p
  | some x => A x.1 ∧ zFP σ m w x.1 x.2 ∧ ∀ s p, A s → zFP σ m w s p → zM (σ.1 7) (σ.1 6) x.2 x.1 ≤ zM (σ.1 7) (σ.1 6) p s ∧ (s < x.1 → zM (σ.1 7) (σ.1 6) x.2 x.1 < zM (σ.1 7) (σ.1 6) p s)
theorem zFP_one {σ : gs_S} {m w s p q : Nat} (h1 : zFP σ m w s p) (h2 : zFP σ m w s q) : p = q := by
  rcases Nat.lt_trichotomy p q with z | z | z
  · exact absurd h1.2.1 (h2.2.2 p z)
  · exact z
  · exact absurd h2.2.1 (h1.2.2 q z)
theorem zBest_one {σ : gs_S} {m w : Nat} {A B : Nat → Prop} (hAB : ∀ s, A s ↔ B s) {o o' : Option (Nat × Nat)} (h1 : zBest σ m w A o) (h2 : zBest σ m w B o') : o = o' := by
  cases o with
  | none =>
    cases o' with
    | none => rfl
    | some y => exact absurd h2.2.1 (h1 y.1 y.2 ((hAB _).mpr h2.1))
  | some x =>
    cases o' with
    | none => exact absurd h1.2.1 (h2 x.1 x.2 ((hAB _).mp h1.1))
    | some y =>
      obtain ⟨x1, x2⟩ := x
      obtain ⟨y1, y2⟩ := y
      have a := h1.2.2 y1 y2 ((hAB _).mpr h2.1) h2.2.1
      have b := h2.2.2 x1 x2 ((hAB _).mp h1.1) h1.2.1
      dsimp only at a b
      have e : x1 = y1 := by
        rcases Nat.lt_trichotomy x1 y1 with z | z | z
        · have := b.2 z; omega
        · exact z
        · have := a.2 z; omega
      subst e
      have f := zFP_one h1.2.1 h2.2.1
      dsimp only at f
      rw [f]
theorem zM_up {st pa : Nat → Int32} {lo : Nat → Int32} {m k p q : Nat} (h : zOk lo pa st m) (hk : k < m) (hpq : p ≤ q) : zM st pa p k ≤ zM st pa q k := by
  unfold zM
  have := Nat.mul_le_mul_right (10 - zN (pa k)) hpq
  omega
theorem pz_place {m w s : Nat} (σ : gs_S) (h : zOk (σ.1 5) (σ.1 6) (σ.1 7) m) (hm : m ≤ 6) (e : σ.1 4 3 = nI m) (hs : s < m) (hw : w ≤ 24) (e2 : σ.1 8 1 = nI w) (hq : ∀ k, k < w → iv_in (σ.1 9 k) 0 63) (hk : ∀ k, k < 64 → iv_in (σ.1 3 (64 + k)) 0 4) : (∃ p, zFP σ m w s p ∧ pX4_breakingPlace (nI s) σ = some (nI p)) ∨ ((∀ p, ¬ zFP σ m w s p) ∧ pX4_breakingPlace (nI s) σ = some (-1)) := by
  unfold pX4_breakingPlace
  have b : ∀ k, k < w → pX2_bearing (σ.1 9 k) σ = some (zB (σ.1 3) (zN (σ.1 9 k))) := fun k kw => by
    obtain ⟨a1, a2, a3⟩ := zN_of (lo := 0) (hi := 63) (hq k kw) (by decide)
    rw [a1, pz_bear (by omega) σ (hk _ (by omega)), zN_nI (by omega)]
  have h9 := gv_find (fun q : Int32 => pX4_breakingPlace_L2 σ (nI s) q) (fun k => nI k) (fun k => zBr σ m s k) (fun k => .inr (nI k)) w gv_N (gv_N_lt (by omega)) (.inl (nI w)) ?_ ?_ ?_
  · rcases h9 with ⟨k, k1, k2, k3, k4⟩ | ⟨k1, k4⟩
    · refine Or.inl ⟨k, ⟨k1, k2, k3⟩, ?_⟩
      have h2 : gv_loop (fun q : Int32 => pX4_breakingPlace_L2 σ (nI s) q) gv_N (0 : Int32) = some (.inr (nI k)) := k4
      rw [h2]; rfl
    · refine Or.inr ⟨fun p hp => k1 p hp.1 hp.2.1, ?_⟩
      have h2 : gv_loop (fun q : Int32 => pX4_breakingPlace_L2 σ (nI s) q) gv_N (0 : Int32) = some (.inl (nI w)) := k4
      rw [h2]; rfl
  · intro k kw c
    show pX4_breakingPlace_L2 σ (nI s) (nI k) = _
    unfold pX4_breakingPlace_L2
    rw [e2, if_neg (nI_ge kw (by omega))]
    rcases pz_meets σ h hm hs (show k < 24 by omega) with ⟨j, j1, j2, j3⟩ | ⟨j1, j3⟩
    · exact absurd (Or.inl ⟨j, j1, j2⟩) c
    · rw [j3, pz_weight σ h hm e hs (by omega)]
      simp only [gv_bind, gv_let, if_true, pz_inN (show k < 24 by omega) (show 24 < 2 ^ 31 by decide), nI_clamp (show k < 2 ^ 31 by omega), b k kw, nI_1]
      rw [if_pos (Classical.byContradiction fun z => c (Or.inr z))]
  · intro k kw c
    show pX4_breakingPlace_L2 σ (nI s) (nI k) = _
    unfold pX4_breakingPlace_L2
    rw [e2, if_neg (nI_ge kw (by omega))]
    rcases pz_meets σ h hm hs (show k < 24 by omega) with ⟨j, j1, j2, j3⟩ | ⟨j1, j3⟩
    · rw [j3]
      simp only [gv_bind]
      rw [if_neg (by decide)]
    · rw [j3, pz_weight σ h hm e hs (by omega)]
      simp only [gv_bind, gv_let, if_true, pz_inN (show k < 24 by omega) (show 24 < 2 ^ 31 by decide), nI_clamp (show k < 2 ^ 31 by omega), b k kw]
      rcases c with ⟨j, c1, c2⟩ | c
      · exact absurd c2 (j1 j c1)
      · rw [if_neg c]
  · show pX4_breakingPlace_L2 σ (nI s) (nI w) = _
    unfold pX4_breakingPlace_L2
    rw [e2, if_pos (nI_le (Nat.le_refl w) (by omega))]
def zE1 (σ : gs_S) (o : Option (Nat × Nat)) (k : Int32) : Int32 × Int32 × Int32 := match o with
  | none => (-1, 0, k)
  | some x => (nI x.1, nI (zM (σ.1 7) (σ.1 6) x.2 x.1), k)
theorem zBest_s {σ : gs_S} {m w k : Nat} {o : Option (Nat × Nat)} (h : zBest σ m w (fun s => s < k) o) (hn : ∀ p, ¬ zFP σ m w k p) : zBest σ m w (fun s => s < k + 1) o := by
  have c : ∀ s p, s < k + 1 → zFP σ m w s p → s < k := fun s p h1 h2 => by
    by_cases z : s = k
    · subst z; exact absurd h2 (hn p)
    · omega
  cases o with
  | none => exact fun s p a b => h s p (c s p a b) b
  | some x => exact ⟨Nat.lt_succ_of_lt h.1, h.2.1, fun s p a b => h.2.2 s p (c s p a b) b⟩
theorem pz_first {m w : Nat} (σ : gs_S) (h : zOk (σ.1 5) (σ.1 6) (σ.1 7) m) (hm : m ≤ 6) (e : σ.1 4 3 = nI m) (hw : w ≤ 24) (e2 : σ.1 8 1 = nI w) (hq : ∀ k, k < w → iv_in (σ.1 9 k) 0 63) (hk : ∀ k, k < 64 → iv_in (σ.1 3 (64 + k)) 0 4) : ∃ o, zBest σ m w (fun s => s < m) o ∧ pX4_firstToBreak σ = some (zE1 σ o 0).1 := by
  unfold pX4_firstToBreak
  have L := gv_rel (fun q : Int32 × Int32 × Int32 => pX4_firstToBreak_L6 σ q.1 q.2.1 q.2.2) (fun k q => ∃ o, zBest σ m w (fun s => s < k) o ∧ q = zE1 σ o (nI k)) m gv_N (gv_N_lt (by omega)) (fun q => ∃ o, zBest σ m w (fun s => s < m) o ∧ q = zE1 σ o (nI m)) ?_ ?_ ((-1 : Int32), (0 : Int32), (0 : Int32)) ⟨none, fun s p a => absurd a (by omega), rfl⟩
  · obtain ⟨q, l1, o, l2, l3⟩ := L
    refine ⟨o, l2, ?_⟩
    rw [l1, l3]
    cases o <;> rfl
  · rintro k q hk2 ⟨o, b, rfl⟩
    rcases pz_place σ h hm e hk2 hw e2 hq hk with ⟨p, p1, p2⟩ | ⟨p1, p2⟩
    rotate_left
    · have e3 : ∀ x, (zE1 σ o x).2.2 = x := fun x => by cases o <;> rfl
      unfold pX4_firstToBreak_L6
      rw [e3, e, if_neg (nI_ge hk2 (by omega)), p2]
      simp only [gv_bind]
      rw [if_pos (by decide)]
      refine ⟨_, rfl, o, zBest_s b p1, ?_⟩
      simp only [gv_let, nI_1]
      cases o <;> rfl
    have mi := pz_minute σ h hm hk2 (show p < 24 by have := p1.1; omega)
    rcases o with _ | ⟨x1, x2⟩
    · show ∃ t, pX4_firstToBreak_L6 σ (-1) 0 (nI k) = some (.inl t) ∧ _
      unfold pX4_firstToBreak_L6 pX4_firstToBreak_J47
      rw [e, if_neg (nI_ge hk2 (by omega)), p2]
      simp only [gv_bind]
      rw [if_neg (nI_pos (by have := p1.1; omega)), if_pos (by decide), mi]
      refine ⟨_, rfl, some (k, p), ⟨by show k < k + 1; omega, p1, fun s p' a b' => ?_⟩, ?_⟩
      · by_cases z : s = k
        · subst z
          rw [zFP_one b' p1]
          exact ⟨Nat.le_refl _, fun y => absurd y (Nat.lt_irrefl _)⟩
        · exact absurd b' (b s p' (by omega))
      · simp only [gv_let, nI_1]; rfl
    · obtain ⟨b1, b2, b3⟩ := b
      have b1 : x1 < k := b1
      have b2 : zFP σ m w x1 x2 := b2
      have m1 := (pz_min h (show x1 < m by omega) (show x2 < 24 by have := b2.1; omega)).2
      have m2 := (pz_min h hk2 (show p < 24 by have := p1.1; omega)).2
      show ∃ t, pX4_firstToBreak_L6 σ (nI x1) (nI (zM (σ.1 7) (σ.1 6) x2 x1)) (nI k) = some (.inl t) ∧ _
      unfold pX4_firstToBreak_L6 pX4_firstToBreak_J47
      rw [e, if_neg (nI_ge hk2 (by omega)), p2]
      simp only [gv_bind]
      rw [if_neg (show ¬ nI p < 0 from nI_pos (by have := p1.1; omega)), if_neg (show ¬ nI x1 < 0 from nI_pos (by omega)), mi]
      simp only
      by_cases c : zM (σ.1 7) (σ.1 6) x2 x1 ≤ zM (σ.1 7) (σ.1 6) p k
      · rw [if_pos (nI_le c (by omega))]
        refine ⟨_, rfl, some (x1, x2), ⟨by show x1 < k + 1; omega, b2, fun s p' a b' => ?_⟩, ?_⟩
        · by_cases z : s = k
          · subst z
            rw [zFP_one b' p1]
            exact ⟨c, fun y => absurd y (by dsimp only; omega)⟩
          · exact b3 s p' (by omega) b'
        · simp only [gv_let, nI_1]; rfl
      · rw [if_neg (nI_ge (by omega) (by omega))]
        refine ⟨_, rfl, some (k, p), ⟨by show k < k + 1; omega, p1, fun s p' a b' => ?_⟩, ?_⟩
        · by_cases z : s = k
          · subst z
            rw [zFP_one b' p1]
            exact ⟨Nat.le_refl _, fun y => absurd y (Nat.lt_irrefl _)⟩
          · have := (b3 s p' (by omega) b').1
            dsimp only at this ⊢
            exact ⟨by omega, fun _ => by omega⟩
        · simp only [gv_let, nI_1]; rfl
  · rintro q ⟨o, b, rfl⟩
    have e3 : ∀ x, (zE1 σ o x).2.2 = x := fun x => by cases o <;> rfl
    unfold pX4_firstToBreak_L6
    rw [e3, e, if_pos (nI_le (Nat.le_refl m) (by omega))]
    exact ⟨_, rfl, o, b, by cases o <;> rfl⟩
/-- the reference's state -/
def zE2 (σ : gs_S) (o : Option (Nat × Nat)) (k : Int32) : Int32 × Int32 × Int32 × Int32 := match o with
  | none => (-4, 0, 0, k)
  | some x => (nI x.1, σ.1 9 x.2, nI (zM (σ.1 7) (σ.1 6) x.2 x.1), k)
theorem zE2_k (σ : gs_S) (o : Option (Nat × Nat)) (k : Int32) : (zE2 σ o k).2.2.2 = k := by cases o <;> rfl
theorem zE2_e (σ : gs_S) (o : Option (Nat × Nat)) (k j : Int32) : ((zE2 σ o k).1, (zE2 σ o k).2.1, (zE2 σ o k).2.2.1, j) = zE2 σ o j := by cases o <;> rfl
def zLP (σ : gs_S) (m w s j p : Nat) : Prop := j ≤ p ∧ p < w ∧ zBr σ m s p ∧ ∀ i, j ≤ i → i < p → ¬ zBr σ m s i
def zCd (σ : gs_S) (o : Option (Nat × Nat)) (s p : Nat) : Prop := match o with
  | none => True
  | some x => zM (σ.1 7) (σ.1 6) p s ≤ zM (σ.1 7) (σ.1 6) x.2 x.1
def zIn (σ : gs_S) (m w s : Nat) (o : Option (Nat × Nat)) (j : Nat) (o' : Option (Nat × Nat)) : Prop := ((∀ p, j ≤ p → p < w → ¬ zBr σ m s p) ∧ o' = o) ∨ ∃ p, zLP σ m w s j p ∧ ((zCd σ o s p ∧ o' = some (s, p)) ∨ (¬ zCd σ o s p ∧ o' = o))
theorem zIn_n {σ : gs_S} {m w s j : Nat} {o o' : Option (Nat × Nat)} (h : zIn σ m w s o (j + 1) o') (hn : ¬ zBr σ m s j) : zIn σ m w s o j o' := by
  rcases h with ⟨h1, h2⟩ | ⟨p, ⟨h1, h2, h3, h4⟩, h5⟩
  · refine Or.inl ⟨fun p p1 p2 => ?_, h2⟩
    by_cases z : p = j
    · rw [z]; exact hn
    · exact h1 p (by omega) p2
  · refine Or.inr ⟨p, ⟨by omega, h2, h3, fun i i1 i2 => ?_⟩, h5⟩
    by_cases z : i = j
    · rw [z]; exact hn
    · exact h4 i (by omega) i2
theorem zIn_y {σ : gs_S} {m w s j : Nat} {o : Option (Nat × Nat)} (hj : j < w) (hn : zBr σ m s j) (o' : Option (Nat × Nat)) (h : (zCd σ o s j ∧ o' = some (s, j)) ∨ (¬ zCd σ o s j ∧ o' = o)) : zIn σ m w s o j o' := Or.inr ⟨j, ⟨Nat.le_refl _, hj, hn, fun i i1 i2 => absurd i1 (by omega)⟩, h⟩
theorem zIn_0 {σ : gs_S} {m w s : Nat} {o o' : Option (Nat × Nat)} (h : zIn σ m w s o 0 o') (b : zBest σ m w (fun k => s + 1 ≤ k ∧ k < m) o) (hs : s < m) : zBest σ m w (fun k => s ≤ k ∧ k < m) o' := by
  rcases h with ⟨h1, h2⟩ | ⟨p, ⟨h1, h2, h3, h4⟩, h5⟩
  · rw [h2]
    have c : ∀ k p, s ≤ k ∧ k < m → zFP σ m w k p → s + 1 ≤ k ∧ k < m := fun k p a b => by
      by_cases z : k = s
      · rw [z] at b; exact absurd b.2.1 (h1 p (by omega) b.1)
      · omega
    cases o with
    | none => exact fun k p a d => b k p (c k p a d) d
    | some x =>
      obtain ⟨b1, b2, b3⟩ := b
      have b1 : s + 1 ≤ x.1 ∧ x.1 < m := b1
      exact ⟨⟨by omega, b1.2⟩, b2, fun k p a d => b3 k p (c k p a d) d⟩
  · have fp : zFP σ m w s p := ⟨h2, h3, fun j hj => h4 j (by omega) hj⟩
    rcases h5 with ⟨c1, c2⟩ | ⟨c1, c2⟩
    · rw [c2]
      refine ⟨⟨Nat.le_refl _, hs⟩, fp, fun k q a d => ?_⟩
      dsimp only
      by_cases z : k = s
      · rw [z] at d ⊢
        rw [zFP_one d fp]
        exact ⟨Nat.le_refl _, fun y => absurd y (by omega)⟩
      · refine ⟨?_, fun y => absurd y (by omega)⟩
        cases o with
        | none => exact absurd d (b k q ⟨by omega, a.2⟩)
        | some x =>
          have := (b.2.2 k q ⟨by omega, a.2⟩ d).1
          have c1' : zM (σ.1 7) (σ.1 6) p s ≤ zM (σ.1 7) (σ.1 6) x.2 x.1 := c1
          omega
    · rw [c2]
      cases o with
      | none => exact absurd trivial c1
      | some x =>
        obtain ⟨b1, b2, b3⟩ := b
        have b1 : s + 1 ≤ x.1 ∧ x.1 < m := b1
        have c1' : ¬ zM (σ.1 7) (σ.1 6) p s ≤ zM (σ.1 7) (σ.1 6) x.2 x.1 := c1
        refine ⟨⟨by omega, b1.2⟩, b2, fun k q a d => ?_⟩
        by_cases z : k = s
        · rw [z] at d ⊢
          rw [zFP_one d fp]
          exact ⟨by omega, fun _ => by omega⟩
        · exact b3 k q ⟨by omega, a.2⟩ d
theorem op_breaks (σ : gs_S) (hI : inv σ) (a1 : Int32) : ∃ (r : Int32) (σ2 : gs_S), pX10_breaks a1 σ = some r ∧ pX11_breaks a1 σ = some (r, σ2) ∧ inv σ2 := by
  obtain ⟨m, hm, e1, e2, o1, o2, eq⟩ := inv_tr hI
  obtain ⟨⟨i1, i2, i3⟩, -, ⟨w, hw, f1, f2, iw⟩, i4⟩ := id hI
  unfold pX10_breaks pX11_breaks
  by_cases h1 : iv_in a1 0 3
  rotate_left
  · exact ⟨-1, σ, pz_if_f (pz_w10 a1 0 3) h1 _ _, pz_if_f (pz_x11 a1 0 3) h1 _ _, hI⟩
  rw [pz_if_t (pz_w10 a1 0 3) h1, pz_if_t (pz_x11 a1 0 3) h1]
  have hq : ∀ k, k < w → iv_in (σ.1 9 k) 0 63 := fun k hk => (iw k hk).2
  obtain ⟨o, c1, c2⟩ := pz_first σ o1 hm e1 hw f1 hq i3
  have Tm : ∀ p k, k < m → zM (σ.1 67) (σ.1 66) p k = zM (σ.1 7) (σ.1 6) p k := fun p k hk => (zM_eq p (eq k hk).2.2 (eq k hk).2.1).symm
  -- the reference at one place
  have does : ∀ s p, s < m → p < w → ∀ (o : Option (Nat × Nat)) (x : Int32), (∀ y, o = some y → y.1 < m ∧ y.2 < w) → (zBr σ m s p → (zCd σ o s p → pX11_breaks_L43 (nI s) σ (zE2 σ o (nI p)).1 (zE2 σ o (nI p)).2.1 (zE2 σ o (nI p)).2.2.1 (nI p) = some (.inl (zE2 σ (some (s, p)) (nI p + (-1))))) ∧ (¬ zCd σ o s p → pX11_breaks_L43 (nI s) σ (zE2 σ o (nI p)).1 (zE2 σ o (nI p)).2.1 (zE2 σ o (nI p)).2.2.1 (nI p) = some (.inl (zE2 σ o (nI p + (-1)))))) ∧ (¬ zBr σ m s p → pX11_breaks_L43 (nI s) σ (zE2 σ o (nI p)).1 (zE2 σ o (nI p)).2.1 (zE2 σ o (nI p)).2.2.1 (nI p) = some (.inl (zE2 σ o (nI p + (-1))))) := by
    intro s p hs hp o x ho
    have xm := pz_xminute σ o2 hm hs (show p < 24 by omega)
    rw [Tm p s hs] at xm
    have m2 := (pz_min o1 hs (show p < 24 by omega)).2
    have way : σ.1 68 p = σ.1 9 p := (iw p hp).1.symm
    obtain ⟨n1, n2, n3⟩ := zN_of (lo := 0) (hi := 63) (hq p hp) (by decide)
    have bear : pX11_bears (σ.1 9 p) σ = some (zB (σ.1 3) (zN (σ.1 9 p))) := by
      conv => lhs; rw [n1]
      rw [pz_xbear (by omega) σ, zB_eq i1 (by omega)]
    have J84 : zBr σ m s p → (zCd σ o s p → pX11_breaks_J84 (nI p) (zE2 σ o (nI p)).1 (zE2 σ o (nI p)).2.1 (zE2 σ o (nI p)).2.2.1 σ (nI s) 1 = some (.inl (zE2 σ (some (s, p)) (nI p + (-1))))) ∧ (¬ zCd σ o s p → pX11_breaks_J84 (nI p) (zE2 σ o (nI p)).1 (zE2 σ o (nI p)).2.1 (zE2 σ o (nI p)).2.2.1 σ (nI s) 1 = some (.inl (zE2 σ o (nI p + (-1))))) := by
      intro hb
      have J108 : pX11_breaks_J108 (nI p) σ (nI s) = some (.inl (zE2 σ (some (s, p)) (nI p + (-1)))) := by
        unfold pX11_breaks_J108
        rw [pz_inN (by omega) (by decide), nI_clamp (by omega), way, xm]
        rfl
      unfold pX11_breaks_J84
      rw [if_neg (by decide)]
      cases o with
      | none =>
        refine ⟨fun _ => ?_, fun z => absurd trivial z⟩
        rw [if_pos (show (zE2 σ none (nI p)).1 < 0 from (show (-4 : Int32) < 0 by decide))]; exact J108
      | some y =>
        obtain ⟨y1, y2⟩ := ho y rfl
        have m1 := (pz_min o1 y1 (show y.2 < 24 by omega)).2
        rw [if_neg (show ¬ (zE2 σ (some y) (nI p)).1 < 0 from nI_pos (by omega)), xm]
        simp only [gv_bind]
        refine ⟨fun z => ?_, fun z => ?_⟩
        · have z' : zM (σ.1 7) (σ.1 6) p s ≤ zM (σ.1 7) (σ.1 6) y.2 y.1 := z
          rw [if_neg (show ¬ (zE2 σ (some y) (nI p)).2.2.1 < nI (zM (σ.1 7) (σ.1 6) p s) from nI_nlt z' (by omega))]
          exact J108
        · have z' : ¬ zM (σ.1 7) (σ.1 6) p s ≤ zM (σ.1 7) (σ.1 6) y.2 y.1 := z
          rw [if_pos (show (zE2 σ (some y) (nI p)).2.2.1 < nI (zM (σ.1 7) (σ.1 6) p s) from nI_lt (by omega) (by omega))]
          rfl
    have J84n : pX11_breaks_J84 (nI p) (zE2 σ o (nI p)).1 (zE2 σ o (nI p)).2.1 (zE2 σ o (nI p)).2.2.1 σ (nI s) 0 = some (.inl (zE2 σ o (nI p + (-1)))) := by
      unfold pX11_breaks_J84
      rw [if_pos rfl]
      simp only [gv_let]
      rw [zE2_e]
    unfold pX11_breaks_L43 pX11_breaks_J79
    rw [if_neg (nI_pos (by omega))]
    rcases pz_need σ o2 hm e2 hs (show p < 24 by omega) with ⟨k, k1, k2, k3⟩ | ⟨k1, k3⟩
    · rw [k3]
      simp only [gv_bind]
      rw [if_pos (by decide)]
      rw [Tm p k (by omega), Tm p s hs] at k2
      exact ⟨J84, fun z => absurd (Or.inl ⟨k, k1, k2⟩) z⟩
    · rw [k3, ← zWt_eq p eq hs m (Nat.le_refl m)]
      simp only [gv_bind]
      have wl := zWt_le (p := p) o1 hs m (Nat.le_refl m)
      rw [if_neg (nI_pos (by omega)), pz_inN (by omega) (by decide), nI_clamp (by omega), way, bear]
      simp only
      by_cases z : nI (zWt (σ.1 5) (σ.1 6) (σ.1 7) s p m) ≤ zB (σ.1 3) (zN (σ.1 9 p))
      · rw [if_pos z]
        refine ⟨fun y => ?_, fun _ => J84n⟩
        rcases y with ⟨k, y1, y2⟩ | y
        · exact absurd (by rw [Tm p k (by omega), Tm p s hs]; exact y2) (k1 k y1)
        · exact absurd z y
      · rw [if_neg z]
        exact ⟨J84, fun y => absurd (Or.inr z) y⟩
  have ok : ∀ s' (o : Option (Nat × Nat)), zBest σ m w (fun k => s' ≤ k ∧ k < m) o → ∀ y, o = some y → y.1 < m ∧ y.2 < w := fun s' o b y hy => by
    subst hy
    exact ⟨b.1.2, b.2.1.1⟩
  have d0 : ∀ n, zDn n 0 = nI n - 1 := fun n => by
    unfold zDn
    by_cases c : 0 < n
    · rw [if_pos c]
      obtain ⟨j, rfl⟩ : ∃ j, n = j + 1 := ⟨n - 1, by omega⟩
      rw [nI_pred]; rfl
    · have : n = 0 := by omega
      subst this
      rfl
  have inner : ∀ s, s < m → ∀ o, (∀ y, o = some y → y.1 < m ∧ y.2 < w) → ∃ o', zIn σ m w s o 0 o' ∧ gv_loop (fun q : Int32 × Int32 × Int32 × Int32 => pX11_breaks_L43 (nI s) σ q.1 q.2.1 q.2.2.1 q.2.2.2) gv_N (zE2 σ o (nI w - 1)) = some (zE2 σ o' (-1)) := by
    intro s hs o ho
    have L := gv_rel (fun q : Int32 × Int32 × Int32 × Int32 => pX11_breaks_L43 (nI s) σ q.1 q.2.1 q.2.2.1 q.2.2.2) (fun k q => ∃ o', zIn σ m w s o (w - k) o' ∧ (∀ y, o' = some y → y.1 < m ∧ y.2 < w) ∧ q = zE2 σ o' (zDn w k)) w gv_N (gv_N_lt (by omega)) (fun q => ∃ o', zIn σ m w s o 0 o' ∧ q = zE2 σ o' (-1)) ?_ ?_ (zE2 σ o (nI w - 1)) ⟨o, Or.inl ⟨fun p p1 p2 => absurd p1 (by omega), rfl⟩, ho, by rw [d0]⟩
    · obtain ⟨q, l1, o', l2, l3⟩ := L
      exact ⟨o', l2, by rw [l1, l3]⟩
    · rintro k q hk ⟨o', a1, a2, rfl⟩
      rw [zE2_k, show zDn w k = nI (w - 1 - k) from if_pos hk]
      obtain ⟨D1, D2⟩ := does s (w - 1 - k) hs (by omega) o' 0 a2
      have dn := zDn_s hk
      rw [show w - k = (w - 1 - k) + 1 by omega] at a1
      rw [show w - (k + 1) = w - 1 - k by omega]
      by_cases b : zBr σ m s (w - 1 - k)
      · -- what is carried is o, or a later place of s
        have cd : zCd σ o' s (w - 1 - k) ↔ zCd σ o s (w - 1 - k) := by
          rcases a1 with ⟨x1, x2⟩ | ⟨p, p1, ⟨p2, p3⟩ | ⟨p2, p3⟩⟩
          · rw [x2]
          · rw [p3]
            have up := zM_up o1 hs (show w - 1 - k ≤ p by have := p1.1; omega)
            refine ⟨fun _ => ?_, fun _ => up⟩
            cases o with
            | none => trivial
            | some y =>
              have p2' : zM (σ.1 7) (σ.1 6) p s ≤ zM (σ.1 7) (σ.1 6) y.2 y.1 := p2
              show zM (σ.1 7) (σ.1 6) (w - 1 - k) s ≤ zM (σ.1 7) (σ.1 6) y.2 y.1
              omega
          · rw [p3]
        have keep : ¬ zCd σ o s (w - 1 - k) → o' = o := fun z => by
          rcases a1 with ⟨x1, x2⟩ | ⟨p, p1, ⟨p2, p3⟩ | ⟨p2, p3⟩⟩
          · exact x2
          · have : zCd σ o' s (w - 1 - k) := by rw [p3]; exact zM_up o1 hs (show w - 1 - k ≤ p by have := p1.1; omega)
            exact absurd (cd.mp this) z
          · exact p3
        by_cases z : zCd σ o' s (w - 1 - k)
        · refine ⟨_, (D1 b).1 z, some (s, w - 1 - k), zIn_y (by omega) b _ (Or.inl ⟨cd.mp z, rfl⟩), fun y hy => by cases hy; exact ⟨hs, by dsimp only; omega⟩, ?_⟩
          rw [dn]
        · refine ⟨_, (D1 b).2 z, o', zIn_y (by omega) b _ (Or.inr ⟨fun y => z (cd.mpr y), keep (fun y => z (cd.mpr y))⟩), a2, ?_⟩
          rw [dn]
      · refine ⟨_, D2 b, o', zIn_n a1 b, a2, ?_⟩
        rw [dn]
    · rintro q ⟨o', a1, a2, rfl⟩
      rw [zE2_k, show zDn w w = -1 from if_neg (by omega)]
      unfold pX11_breaks_L43
      rw [if_pos (by decide), zE2_e]
      rw [Nat.sub_self] at a1
      exact ⟨_, rfl, o', a1, rfl⟩
  have outer : ∃ o', zBest σ m w (fun k => 0 ≤ k ∧ k < m) o' ∧ gv_loop (fun q : Int32 × Int32 × Int32 × Int32 => pX11_breaks_L30 σ q.1 q.2.1 q.2.2.1 q.2.2.2) gv_N ((-4 : Int32), (0 : Int32), (0 : Int32), nI m - 1) = some (zE2 σ o' (-1)) := by
    have L := gv_rel (fun q : Int32 × Int32 × Int32 × Int32 => pX11_breaks_L30 σ q.1 q.2.1 q.2.2.1 q.2.2.2) (fun k q => ∃ o', zBest σ m w (fun j => m - k ≤ j ∧ j < m) o' ∧ q = zE2 σ o' (zDn m k)) m gv_N (gv_N_lt (by omega)) (fun q => ∃ o', zBest σ m w (fun k => 0 ≤ k ∧ k < m) o' ∧ q = zE2 σ o' (-1)) ?_ ?_ ((-4 : Int32), (0 : Int32), (0 : Int32), nI m - 1) ⟨none, fun s p a => absurd a (by omega), by rw [d0]; rfl⟩
    · obtain ⟨q, l1, o', l2, l3⟩ := L
      exact ⟨o', l2, by rw [l1, l3]⟩
    · rintro k q hk ⟨o', a1, rfl⟩
      rw [zE2_k, show zDn m k = nI (m - 1 - k) from if_pos hk]
      unfold pX11_breaks_L30
      rw [if_neg (nI_pos (by omega)), f2]
      simp only [gv_let]
      obtain ⟨o2', b1, b2⟩ := inner (m - 1 - k) (by omega) o' (ok _ _ a1)
      rw [zE2_e, b2]
      simp only [gv_bind]
      rw [zDn_s hk, zE2_e]
      refine ⟨_, rfl, o2', ?_, rfl⟩
      rw [show m - (k + 1) = m - 1 - k by omega]
      rw [show m - k = (m - 1 - k) + 1 by omega] at a1
      exact zIn_0 b1 a1 (by omega)
    · rintro q ⟨o', a1, rfl⟩
      rw [zE2_k, show zDn m m = -1 from if_neg (by omega)]
      unfold pX11_breaks_L30
      rw [if_pos (by decide), zE2_e]
      rw [Nat.sub_self] at a1
      exact ⟨_, rfl, o', a1, rfl⟩
  obtain ⟨o', u1, u2⟩ := outer
  have oe : o = o' := zBest_one (fun s => by constructor <;> intro z <;> omega) c1 u1
  subst oe
  rw [c2, e2]
  simp only [gv_let]
  rw [u2]
  simp only [gv_bind]
  cases o with
  | none =>
    refine ⟨-4, σ, ?_, ?_, hI⟩
    · rw [if_neg (show ¬ 0 ≤ (zE1 σ none 0).1 from (show ¬ (0 : Int32) ≤ -1 by decide))]
    · rw [if_neg (show ¬ 0 ≤ (zE2 σ none (-1)).1 from (show ¬ (0 : Int32) ≤ -4 by decide))]
  | some x =>
    obtain ⟨s, p⟩ := x
    obtain ⟨b1, b2, b3⟩ := c1
    dsimp only at b1 b2
    have bp := b2.1
    rw [if_pos (show 0 ≤ (zE1 σ (some (s, p)) 0).1 from nI_pos' (by omega)), if_pos (show 0 ≤ (zE2 σ (some (s, p)) (-1)).1 from nI_pos' (by omega))]
    have pl : pX4_breakingPlace (zE1 σ (some (s, p)) 0).1 σ = some (nI p) := by
      show pX4_breakingPlace (nI s) σ = some (nI p)
      rcases pz_place σ o1 hm e1 b1 hw f1 hq i3 with ⟨p', p1, p2⟩ | ⟨p1, -⟩
      · rw [p2, zFP_one p1 b2]
      · exact absurd b2 (p1 p)
    rw [pl]
    simp only
    rw [pz_inN (by omega) (by decide), nI_clamp (by omega)]
    rw [show (zE1 σ (some (s, p)) 0).1 = nI s from rfl, show (zE2 σ (some (s, p)) (-1)).1 = nI s from rfl, show (zE2 σ (some (s, p)) (-1)).2.1 = σ.1 9 p from rfl, show (zE2 σ (some (s, p)) (-1)).2.2.1 = nI (zM (σ.1 7) (σ.1 6) p s) from rfl]
    by_cases g0 : a1 = 0
    · rw [if_pos g0, if_pos g0]; exact ⟨_, σ, rfl, rfl, hI⟩
    rw [if_neg g0, if_neg g0]
    by_cases g1 : a1 = 1
    · rw [if_pos g1, if_pos g1]; exact ⟨_, σ, rfl, rfl, hI⟩
    rw [if_neg g1, if_neg g1]
    by_cases g2 : a1 = 2
    · rw [if_pos g2, if_pos g2, pz_minute σ o1 hm b1 (by omega)]
      exact ⟨_, σ, rfl, rfl, hI⟩
    rw [if_neg g2, if_neg g2]
    obtain ⟨n1, n2, n3⟩ := zN_of (lo := 0) (hi := 63) (hq p bp) (by decide)
    rw [n1]
    obtain ⟨x, x1, x2⟩ := pz_cracked (s0 := zN (σ.1 9 p)) (by omega) σ
    obtain ⟨B, n, Q, τ, y1, y2, y3, y4, y5, y6, y7⟩ := pz_xcrack (s0 := zN (σ.1 9 p)) (by omega) σ
    have eqq := zCk_one (fun q hq => hI.1.1 q (by omega)) hI.2.2.2.1.1 x2 y7
    have bc : pJ13_bitCount_95d88 x = nI n := by rw [pc_bc, fb_ct_cong eqq, ← y4]
    rw [x1, y1]
    simp only [gv_bind2]
    exact ⟨nI n, τ, by rw [bc], rfl, inv_sm hI y2⟩
