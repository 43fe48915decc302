/-! PURE, 49j: cracks -/
def zCk (f : Nat → Int32) (cr : Int32) (s0 : Nat) (B : Nat → Bool) : Prop := B s0 = true ∧ (∀ u, u < 64 → B u = true → ∀ k, k < 4 → zNb u k < 64 → ¬ cr ≤ f (zNb u k) → B (zNb u k) = true) ∧ ∀ P : Nat → Prop, P s0 → (∀ u, u < 64 → P u → ∀ k, k < 4 → zNb u k < 64 → ¬ cr ≤ f (zNb u k) → P (zNb u k)) → ∀ q, q < 64 → B q = true → P q
theorem zCk_one {f g : Nat → Int32} {cr cs : Int32} {s0 : Nat} {A B : Nat → Bool} (hf : ∀ q, q < 64 → f q = g q) (hc : cr = cs) (a : zCk f cr s0 A) (b : zCk g cs s0 B) : ∀ q, q < 64 → A q = B q := by
  subst hc
  have a1 := a.2.2 (fun q => B q = true) b.1 (fun u u1 u2 k k1 k2 k3 => b.2.1 u u1 u2 k k1 k2 (by rw [← hf _ k2]; exact k3))
  have b1 := b.2.2 (fun q => A q = true) a.1 (fun u u1 u2 k k1 k2 k3 => a.2.1 u u1 u2 k k1 k2 (by rw [hf _ k2]; exact k3))
  intro q hq
  cases e : A q with
  | true => exact (a1 q hq e).symm
  | false =>
    cases e2 : B q with
    | true => have := b1 q hq e2; rw [e] at this; cases this
    | false => rfl
theorem bM1 : ∀ i, i < 64 → bL (-72340172838076674 : Int64) i = decide (¬ i % 8 = 0) := by decide +kernel
theorem bM2 : ∀ i, i < 64 → bL (9187201950435737471 : Int64) i = decide (¬ i % 8 = 7) := by decide +kernel
theorem bL_lt {x : Int64} {i : Nat} (h : bL x i = true) : i < 64 := by
  rcases Nat.lt_or_ge i 64 with z | z
  · exact z
  · rw [bL_big z] at h; cases h
theorem bL_beside (x : Int64) {j : Nat} (hj : j < 64) : bL (pX10_allBeside x) j = true ↔ ∃ s, s < 4 ∧ zNb j s < 64 ∧ bL x (zNb j s) = true := by
  have e : bL (pX10_allBeside x) j = (((bL x (8 + j) || (decide (8 ≤ j) && bL x (j - 8))) || (bL x (1 + j) && bL (-72340172838076674 : Int64) (1 + j))) || (decide (1 ≤ j) && (bL x (j - 1) && bL (9187201950435737471 : Int64) (j - 1)))) := by
    unfold pX10_allBeside
    rw [bL_or, bL_or, bL_or, show (8 : Int32) = nI 8 from rfl, show (1 : Int32) = nI 1 from rfl, bL_ushr 8 (by decide), bL_shl 8 (by decide) _ hj, bL_ushr 1 (by decide), bL_shl 1 (by decide) _ hj, bL_and, bL_and]
  rw [e]
  simp only [Bool.or_eq_true, Bool.and_eq_true, decide_eq_true_eq]
  constructor
  · rintro (((h | h) | h) | h)
    · have := bL_lt h
      refine ⟨3, by omega, ?_⟩
      have z : zNb j 3 = 8 + j := by unfold zNb; rw [if_neg (by omega), if_neg (by omega), if_neg (by omega), if_pos (by omega)]; omega
      rw [z]; exact ⟨this, h⟩
    · refine ⟨0, by omega, ?_⟩
      have z : zNb j 0 = j - 8 := by unfold zNb; rw [if_pos rfl, if_neg (by omega)]
      rw [z]; exact ⟨by omega, h.2⟩
    · have := bL_lt h.1
      have h2 := h.2
      rw [bM1 _ this, decide_eq_true_eq] at h2
      refine ⟨2, by omega, ?_⟩
      have z : zNb j 2 = 1 + j := by unfold zNb; rw [if_neg (by omega), if_neg (by omega), if_pos rfl, if_neg (by omega)]; omega
      rw [z]; exact ⟨this, h.1⟩
    · have h2 := h.2.2
      rw [bM2 _ (by omega), decide_eq_true_eq] at h2
      refine ⟨1, by omega, ?_⟩
      have z : zNb j 1 = j - 1 := by unfold zNb; rw [if_neg (by omega), if_pos rfl, if_neg (by omega)]
      rw [z]; exact ⟨by omega, h.2.1⟩
  · rintro ⟨s, s1, s2, s3⟩
    have : s = 0 ∨ s = 1 ∨ s = 2 ∨ s = 3 := by omega
    rcases this with rfl | rfl | rfl | rfl
    · have c : ¬ j < 8 := by intro q; unfold zNb at s2; rw [if_pos rfl, if_pos q] at s2; omega
      have z : zNb j 0 = j - 8 := by unfold zNb; rw [if_pos rfl, if_neg c]
      rw [z] at s3
      exact Or.inl (Or.inl (Or.inr ⟨by omega, s3⟩))
    · have c : ¬ j % 8 = 0 := by intro q; unfold zNb at s2; rw [if_neg (by omega), if_pos rfl, if_pos q] at s2; omega
      have z : zNb j 1 = j - 1 := by unfold zNb; rw [if_neg (by omega), if_pos rfl, if_neg c]
      rw [z] at s3
      exact Or.inr ⟨by omega, s3, by rw [bM2 _ (by omega), decide_eq_true_eq]; omega⟩
    · have c : ¬ j % 8 = 7 := by intro q; unfold zNb at s2; rw [if_neg (by omega), if_neg (by omega), if_pos rfl, if_pos q] at s2; omega
      have z : zNb j 2 = 1 + j := by unfold zNb; rw [if_neg (by omega), if_neg (by omega), if_pos rfl, if_neg c]; omega
      rw [z] at s3
      exact Or.inl (Or.inr ⟨s3, by rw [bM1 _ (bL_lt s3), decide_eq_true_eq]; omega⟩)
    · have c : j < 56 := Classical.byContradiction fun q => by unfold zNb at s2; rw [if_neg (by omega), if_neg (by omega), if_neg (by omega), if_neg q] at s2; omega
      have z : zNb j 3 = 8 + j := by unfold zNb; rw [if_neg (by omega), if_neg (by omega), if_neg (by omega), if_pos c]; omega
      rw [z] at s3
      exact Or.inl (Or.inl (Or.inl s3))
theorem fb_ct_more {p q : Nat → Bool} {n j : Nat} (h : ∀ k, k < n → p k = true → q k = true) (hj : j < n) (h1 : p j = false) (h2 : q j = true) : fb_ct p n < fb_ct q n := by
  have e : fb_ct q n = fb_ct (fun k => p k || (q k && !p k)) n := fb_ct_cong (fun k hk => by
    cases e1 : p k with
    | true => rw [h k hk e1]; rfl
    | false => cases q k <;> rfl)
  rw [e, fb_ct_or (fun k _ z => by
    obtain ⟨z1, z2⟩ := z
    rw [z1] at z2
    simp at z2)]
  have : 0 < fb_ct (fun k => q k && !p k) n := fb_ct_pos.mpr ⟨j, hj, by rw [h1, h2]; rfl⟩
  omega
theorem pz_cracked {s0 : Nat} (h0 : s0 < 64) (σ : gs_S) : ∃ x, pX4_crackedFrom (nI s0) σ = some x ∧ zCk (σ.1 3) (σ.1 1 4) s0 (bL x) := by
  unfold pX4_crackedFrom
  rw [pz_thin]
  simp only [gv_bind, gv_let]
  have wk : ∀ i, i < 64 → (bL (zTh (σ.1 3) (σ.1 1 4) 64) i = true ↔ ¬ σ.1 1 4 ≤ σ.1 3 i) := fun i hi => by
    rw [zTh_bit _ _ hi 64 (Nat.le_refl _), decide_eq_true_eq]
    exact ⟨fun q => q.2, fun q => ⟨hi, q⟩⟩
  generalize zTh (σ.1 3) (σ.1 1 4) 64 = w at wk
  have L := gv_wh (fun q : Int64 × Int32 => pX4_crackedFrom_L20 w q.1 q.2) (fun q => ∃ r, r ≤ 64 ∧ q.2 = nI r ∧ r + 1 ≤ fb_ct (bL q.1) 64 ∧ bL q.1 s0 = true ∧ ∀ P : Nat → Prop, P s0 → (∀ u, u < 64 → P u → ∀ k, k < 4 → zNb u k < 64 → ¬ σ.1 1 4 ≤ σ.1 3 (zNb u k) → P (zNb u k)) → ∀ q', q' < 64 → bL q.1 q' = true → P q') (fun q => 100 - q.2.toNatClampNeg) (fun e => zCk (σ.1 3) (σ.1 1 4) s0 (bL e.1)) ?_ gv_N ((1 : Int64) <<< ((nI s0).toInt64 &&& 63), (0 : Int32)) ?_ (gv_N_lt (Nat.lt_of_le_of_lt (Nat.sub_le _ _) (by decide)))
  · obtain ⟨⟨x, y⟩, l1, l2⟩ := L
    rw [l1]
    exact ⟨x, rfl, l2⟩
  · rintro ⟨x, y⟩ ⟨r, r1, r2, r3, r4, r5⟩
    dsimp only at r2 r3 r4 r5 ⊢
    subst r2
    have le := fb_ct_le (bL x) 64
    unfold pX4_crackedFrom_L20
    rw [if_neg (show ¬ (64 : Int32) ≤ nI r from nI_ge (b := 64) (by omega) (by decide))]
    simp only [gv_let]
    have nb : ∀ j, j < 64 → (bL (x ||| (pX10_allBeside x &&& w)) j = true ↔ bL x j = true ∨ ((∃ s, s < 4 ∧ zNb j s < 64 ∧ bL x (zNb j s) = true) ∧ ¬ σ.1 1 4 ≤ σ.1 3 j)) := fun j hj => by
      rw [bL_or, bL_and, Bool.or_eq_true, Bool.and_eq_true, bL_beside x hj, wk j hj]
    by_cases e : x ||| (pX10_allBeside x &&& w) = x
    · right
      rw [e, if_pos (by rw [lg_cmp, if_neg (by intro z; exact absurd z (by rw [gt_iff_lt, Int64.lt_iff_toInt_lt]; omega)), if_pos rfl])]
      refine ⟨_, rfl, r4, fun u u1 u2 k k1 k2 k3 => ?_, r5⟩
      have := (nb (zNb u k) k2).mpr (Or.inr ⟨⟨3 - k, by omega, by rw [(zNb_b u u1 k k1).2.2 k2]; exact u1, by rw [(zNb_b u u1 k k1).2.2 k2]; exact u2⟩, k3⟩)
      rw [e] at this
      exact this
    · left
      rw [if_neg (by
        unfold lg_cmp
        by_cases z : x ||| (pX10_allBeside x &&& w) > x
        · rw [if_pos z]; decide
        · rw [if_neg z, if_neg e]; decide), nI_1]
      refine ⟨_, rfl, ⟨r + 1, by omega, rfl, ?_, (nb s0 h0).mpr (Or.inl r4), fun P p1 p2 q q1 q2 => ?_⟩, ?_⟩
      · obtain ⟨j, j1, j2⟩ : ∃ j, j < 64 ∧ ¬ bL (x ||| (pX10_allBeside x &&& w)) j = bL x j := Classical.byContradiction fun z => e (bL_ext fun i hi => Classical.byContradiction fun y => z ⟨i, hi, y⟩)
        have s1 : ∀ k, k < 64 → bL x k = true → bL (x ||| (pX10_allBeside x &&& w)) k = true := fun k hk z => (nb k hk).mpr (Or.inl z)
        have := fb_ct_more (n := 64) (j := j) s1 j1 (by
          cases z : bL x j with
          | false => rfl
          | true => rw [s1 j j1 z, z] at j2; exact absurd rfl j2) (by
          cases z : bL (x ||| (pX10_allBeside x &&& w)) j with
          | true => rfl
          | false =>
            rw [z] at j2
            cases z2 : bL x j with
            | false => rw [z2] at j2; exact absurd rfl j2
            | true => rw [s1 j j1 z2] at z; exact z.symm)
        dsimp only
        omega
      · rcases (nb q q1).mp q2 with z | ⟨⟨s, s1, s2, s3⟩, z⟩
        · exact r5 P p1 p2 q q1 z
        · have := p2 (zNb q s) s2 (r5 P p1 p2 _ s2 s3) (3 - s) (by omega)
          rw [(zNb_b q q1 s s1).2.2 s2] at this
          exact this q1 z
      · rw [nI_clamp (by omega), nI_clamp (by omega)]; omega
  · refine ⟨0, by omega, rfl, ?_, ?_, fun P p1 p2 q q1 q2 => ?_⟩
    · exact fb_ct_pos.mpr ⟨s0, h0, by dsimp only; rw [bL_one s0 h0 h0]; simp⟩
    · dsimp only; rw [bL_one s0 h0 h0]; simp
    · dsimp only at q2
      rw [bL_one s0 h0 q1, decide_eq_true_eq] at q2
      rw [q2]; exact p1
def zCc (f : Nat → Int32) (cr : Int32) (s0 : Nat) : Nat → Int := fun v => if v = s0 then 1 else if cr ≤ f v then -1 else 1
theorem zCc_one (f : Nat → Int32) (cr : Int32) (s0 : Nat) : dqOne (zCc f cr s0) := fun q _ => by
  unfold zCc
  by_cases c : q = s0
  · rw [if_pos c]; exact Or.inr rfl
  · rw [if_neg c]
    by_cases d : cr ≤ f q
    · rw [if_pos d]; exact Or.inl rfl
    · rw [if_neg d]; exact Or.inr rfl
theorem zCc_ok (f : Nat → Int32) (cr : Int32) (s0 v : Nat) (h : ¬ cr ≤ f v) : ¬ zCc f cr s0 v = -1 := by
  unfold zCc
  rw [if_neg h]
  split <;> decide
theorem pz_xcrack {s0 : Nat} (h0 : s0 < 64) (σ : gs_S) : ∃ (B : Nat → Bool) (n : Nat) (Q : Nat → Nat) (τ : gs_S), pX11_crackFrom (nI s0) σ = some (nI n, τ) ∧ sm σ τ ∧ τ.1 63 18 = nI n ∧ n = fb_ct B 64 ∧ (∀ j, j < n → Q j < 64 ∧ τ.1 74 j = nI (Q j)) ∧ (∀ q, q < 64 → (B q = true ↔ ∃ j, j < n ∧ Q j = q)) ∧ zCk (σ.1 64) (σ.1 69 0) s0 B := by
  obtain ⟨c, hcc⟩ : ∃ c, c = zCc (σ.1 64) (σ.1 69 0) s0 := ⟨_, rfl⟩
  have one : dqOne c := by rw [hcc]; exact zCc_one _ _ _
  have cs : c s0 = 1 := by rw [hcc]; exact if_pos rfl
  have ne : ¬ c s0 = -1 := by rw [cs]; decide
  obtain ⟨τ, b1, b2⟩ := pz_begin h0 c cs False σ
  obtain ⟨K, υ, l1, l2, l3, l4⟩ := xq_loop one h0 ne (fun v q => pX11_crackFrom_L17 v q.1 q.2) (σ := σ) (τ := τ) (rd := False) (by
    intro u k s τ S hk hs hx hQ hN u1 u2 u3 u4 u5 u6 u7
    dsimp only
    unfold pX11_crackFrom_L17
    have e74 : τ.1 74 k = nI u := by
      have := hx.2.2.1 (64 + k) (by omega) u5
      rw [show 64 + k - 64 = k by omega, u6] at this
      exact this
    rw [if_neg (show ¬ (4 : Int32) ≤ nI s from nI_ge (b := 4) hs (by decide)), pz_inN hk (by decide), nI_clamp (by omega), e74, (zNb_x u u4 s hs).1]
    simp only [gv_let]
    by_cases v : zNb u s < 64
    rotate_left
    · rw [if_neg v, if_pos (by decide), nI_1]
      refine ⟨τ, rfl, ?_⟩
      unfold dqS
      rw [if_neg (fun z => v z.1)]
      exact hx
    rw [if_pos v, if_neg (nI_pos (by omega)), pz_inN (by omega) (by decide), nI_clamp (by omega), hx.1.1 69 (by decide) (by decide) (by decide), hx.1.1 64 (by decide) (by decide) (by decide)]
    by_cases w : σ.1 69 (0 : Int32).toNatClampNeg ≤ σ.1 64 (zNb u s)
    · rw [if_pos w, nI_1]
      refine ⟨τ, rfl, ?_⟩
      unfold dqS
      rw [if_neg (fun z => by
        by_cases y : zNb u s = s0
        · have := z.2.2; rw [y, u7, cs] at this; exact absurd this (by decide)
        · apply z.2.1
          rw [hcc]
          unfold zCc
          rw [if_neg y]
          exact if_pos w)]
      exact hx
    · rw [if_neg w]
      obtain ⟨τ', t1, t2⟩ := xq_reach one (a := 1) hx hQ hN u1 v (by rw [hcc]; exact zCc_ok _ _ _ _ w) (by decide) (fun z => z.elim)
      rw [t1]
      simp only [gv_bind, nI_1]
      exact ⟨τ', rfl, t2⟩) (by
    intro k τ
    dsimp only
    unfold pX11_crackFrom_L17
    rw [if_pos (by decide)]) b2
  obtain ⟨A, F⟩ := dq_fin c s0 (dqOne_C one) h0 ne
  have nl := dqN_le (dqF c s0)
  have e : dqN (dqF c s0) = fb_ct (fun q => decide (¬ dqF c s0 q = -1)) 64 := rfl
  have t63 : υ.1 63 18 = nI (dqN (dqF c s0)) := by rw [l2.2.1, l4, show 64 + dqN (dqF c s0) - 64 = dqN (dqF c s0) by omega]
  refine ⟨fun q => decide (¬ dqF c s0 q = -1), dqN (dqF c s0), fun j => (dqR c (dq0 c s0) 64).2.2.1 (64 + j), υ, ?_, xq_sm l2, t63, rfl, fun j hj => ⟨l3.2.1 _ (by omega) (by omega), ?_⟩, fun q hq => ?_, ?_, fun u u1 u2 k k1 k2 k3 => ?_, fun P p1 p2 q q1 q2 => ?_⟩
  · unfold pX11_crackFrom
    rw [b1]
    simp only [gv_bind]
    have l1' : gv_loop (fun q : Int32 × gs_S => pX11_crackFrom_L7 q.1 q.2) gv_N ((0 : Int32), τ) = some (nI K, υ) := l1
    rw [l1']
    simp only [gv_let]
    rw [t63]
  · have := l2.2.2.1 (64 + j) (by omega) (by omega)
    rw [show 64 + j - 64 = j by omega] at this
    exact this
  · rw [decide_eq_true_eq]
    have := l3.2.2 q hq
    rw [show ¬ dqF c s0 q = -1 ↔ ∃ i, 64 ≤ i ∧ i < (dqR c (dq0 c s0) 64).2.1 ∧ (dqR c (dq0 c s0) 64).2.2.1 i = q from this]
    exact ⟨fun ⟨i, i1, i2, i3⟩ => ⟨i - 64, by omega, by dsimp only; rw [show 64 + (i - 64) = i by omega]; exact i3⟩, fun ⟨j, j1, j2⟩ => ⟨64 + j, by omega, by omega, j2⟩⟩
  · rw [decide_eq_true_eq, A.1]; exact ne
  · rw [decide_eq_true_eq] at u2 ⊢
    exact (F u u1 u2 k k1 k2 (by rw [hcc]; exact zCc_ok _ _ _ _ k3)).1
  · rw [decide_eq_true_eq] at q2
    obtain ⟨g, hg⟩ : ∃ g : Nat → Int, ∀ q, (P q → g q = 0) ∧ (¬ P q → g q = 1000) := ⟨fun q => @ite Int (P q) (Classical.propDecidable (P q)) 0 1000, fun q => ⟨fun z => if_pos z, fun z => if_neg z⟩⟩
    have G : dqG c s0 g := by
      refine ⟨by rw [(hg s0).1 p1, cs]; decide, fun u u1 k k1 k2 k3 => ?_⟩
      have k4 : c (zNb u k) = 1 := by rcases one _ k2 with z | z; exact absurd z k3; exact z
      have gb : g (zNb u k) ≤ 1000 := by
        by_cases z : P (zNb u k)
        · rw [(hg _).1 z]; decide
        · rw [(hg _).2 z]; decide
      by_cases z : P u
      · have : P (zNb u k) := by
          by_cases y : zNb u k = s0
          · rw [y]; exact p1
          · refine p2 u u1 z k k1 k2 (fun w => k3 ?_)
            rw [hcc]
            unfold zCc
            rw [if_neg y, if_pos w]
        rw [(hg _).1 this, (hg _).1 z, k4]; decide
      · rw [(hg _).2 z, k4]; omega
    have a1 := A.2.2 g G q q1 q2
    have a2 := (A.2.1 q q1 q2).2.1
    refine Classical.byContradiction fun z => ?_
    rw [(hg q).2 z] at a1
    omega
theorem op_cracks (σ : gs_S) (hI : inv σ) (a1 : Int32) : ∃ (r : Int64) (σ2 : gs_S), pX10_cracks a1 σ = some r ∧ pX11_cracks a1 σ = some (r, σ2) ∧ inv σ2 := by
  unfold pX10_cracks pX11_cracks
  by_cases h1 : iv_in a1 0 63
  rotate_left
  · exact ⟨-1, σ, pz_if_f (pz_sq10 a1) h1 _ _, pz_if_f (pz_sq11 a1) h1 _ _, hI⟩
  rw [pz_if_t (pz_sq10 a1) h1, pz_if_t (pz_sq11 a1) h1]
  obtain ⟨s0, h0, rfl⟩ := pz_nat 63 h1 (by decide)
  obtain ⟨x, x1, x2⟩ := pz_cracked (s0 := s0) (by omega) σ
  obtain ⟨B, n, Q, τ, y1, y2, y3, y4, y5, y6, y7⟩ := pz_xcrack (s0 := s0) (by omega) σ
  have eq := zCk_one (fun q hq => hI.1.1 q (by omega)) hI.2.2.2.1.1 x2 y7
  have nl : n ≤ 64 := by rw [y4]; exact fb_ct_le _ _
  rw [x1, y1]
  simp only [gv_bind, gv_bind2]
  have L := gv_rel (fun q : Int64 × Int32 => pX11_cracks_L23 τ q.1 q.2) (fun k q => q.2 = nI k ∧ ∀ i, i < 64 → (bL q.1 i = true ↔ ∃ j, j < k ∧ Q j = i)) n gv_N (gv_N_lt (by omega)) (fun e => ∀ i, i < 64 → (bL e.1 i = true ↔ ∃ j, j < n ∧ Q j = i)) ?_ ?_ ((0 : Int64), (0 : Int32)) ⟨rfl, fun i _ => ⟨fun z => (by dsimp only at z; rw [bL_0] at z; cases z), fun ⟨j, j1, _⟩ => absurd j1 (by omega)⟩⟩
  · obtain ⟨⟨e1, e2⟩, l1, l2⟩ := L
    rw [l1]
    refine ⟨x, τ, rfl, ?_, inv_sm hI y2⟩
    simp only [gv_let]
    have : e1 = x := bL_ext (fun i hi => by
      rw [eq i hi]
      rw [Bool.eq_iff_iff, y6 i hi]
      exact l2 i hi)
    rw [this]
  · rintro k ⟨v, w⟩ hk ⟨r1, r2⟩
    dsimp only at r1 r2 ⊢
    subst r1
    unfold pX11_cracks_L23
    rw [y3, if_neg (nI_ge hk (by omega)), pz_inN (by omega) (by decide), nI_clamp (by omega), (y5 k hk).2]
    simp only [gv_let, nI_1]
    refine ⟨_, rfl, rfl, fun i hi => ?_⟩
    dsimp only
    rw [bL_or, Bool.or_eq_true, r2 i hi, bL_one _ (y5 k hk).1 hi, decide_eq_true_eq]
    constructor
    · rintro (⟨j, j1, j2⟩ | z)
      · exact ⟨j, by omega, j2⟩
      · exact ⟨k, by omega, z.symm⟩
    · rintro ⟨j, j1, j2⟩
      by_cases e : j = k
      · subst e; exact Or.inr j2.symm
      · exact Or.inl ⟨j, by omega, j2⟩
  · rintro ⟨v, w⟩ ⟨r1, r2⟩
    dsimp only at r1 r2 ⊢
    subst r1
    unfold pX11_cracks_L23
    rw [y3, if_pos (nI_le (Nat.le_refl _) (by omega))]
    exact ⟨_, rfl, r2⟩
def zMe (f : Nat → Int32) (x : Int64) : Nat → Nat → Int32
  | 0 => f
  | k + 1 => if bL x k = true then upd (zMe f x k) k 0 else zMe f x k
theorem zMe_at (f : Nat → Int32) (x : Int64) (i : Nat) : ∀ k, zMe f x k i = if i < k ∧ bL x i = true then 0 else f i := by
  intro k
  induction k with
  | zero => rw [if_neg (by omega)]; rfl
  | succ k ih =>
    unfold zMe
    by_cases c : bL x k = true
    · rw [if_pos c, pz_upd]
      by_cases e : i = k
      · rw [if_pos e, if_pos ⟨by omega, by rw [e]; exact c⟩]
      · rw [if_neg e, ih]
        exact pz_ite ⟨fun z => ⟨by omega, z.2⟩, fun z => ⟨by omega, z.2⟩⟩ _ _
    · rw [if_neg c, ih]
      exact pz_ite ⟨fun z => ⟨by omega, z.2⟩, fun z => ⟨by
        have : ¬ i = k := fun q => c (by rw [← q]; exact z.2)
        omega, z.2⟩⟩ _ _
theorem pz_bit (x : Int64) {k : Nat} (hk : k < 64) : (lg_cmp (((x.toUInt64 >>> ((nI k).toInt64.toUInt64 &&& Int64.toUInt64 63)).toInt64) &&& (1 : Int64)) (0 : Int64) = 0) ↔ ¬ bL x k = true := by
  have e : ∀ y : Int64, lg_cmp y 0 = 0 ↔ y = 0 := by
    intro y
    unfold lg_cmp
    by_cases c : y > 0
    · rw [if_pos c]
      exact ⟨fun z => absurd z (by decide), fun z => by rw [z] at c; exact absurd c (by decide)⟩
    · rw [if_neg c]
      by_cases d : y = 0
      · rw [if_pos d]; exact ⟨fun _ => d, fun _ => rfl⟩
      · rw [if_neg d]; exact ⟨fun z => absurd z (by decide), fun z => absurd z d⟩
  rw [e]
  constructor
  · intro z y
    have : bL ((((x.toUInt64 >>> ((nI k).toInt64.toUInt64 &&& Int64.toUInt64 63)).toInt64) &&& (1 : Int64))) 0 = true := by
      rw [bL_and, bL_ushr k hk, bL_1, Nat.add_zero, y]; rfl
    rw [z, bL_0] at this
    cases this
  · intro z
    apply bL_ext
    intro i hi
    rw [bL_and, bL_ushr k hk, bL_1, bL_0]
    by_cases c : i = 0
    · subst c
      rw [Nat.add_zero]
      cases y : bL x k with
      | true => exact absurd y z
      | false => rfl
    · rw [decide_eq_false c, Bool.and_false]
theorem pz_melt (x : Int64) (σ : gs_S) : pX2_melt x σ = some (gs_w σ 3 (zMe (σ.1 3) x 64)) := by
  unfold pX2_melt
  have h := gv_for (fun q : Int32 × gs_S => pX2_melt_L2 x q.1 q.2) (fun k => (nI k, gs_w σ 3 (zMe (σ.1 3) x k))) 64 gv_N (gv_N_lt (by decide)) (nI 64, gs_w σ 3 (zMe (σ.1 3) x 64)) ?_ ?_
  · have e : gs_w σ 3 (zMe (σ.1 3) x 0) = σ := pz_ws σ 3
    rw [e] at h
    have h2 : gv_loop (fun q : Int32 × gs_S => pX2_melt_L2 x q.1 q.2) gv_N ((0 : Int32), σ) = some (nI 64, gs_w σ 3 (zMe (σ.1 3) x 64)) := h
    rw [h2]; rfl
  · intro k hk
    dsimp only
    unfold pX2_melt_L2
    rw [if_neg (show ¬ (64 : Int32) ≤ nI k from nI_ge (b := 64) hk (by decide))]
    by_cases c : bL x k = true
    · rw [if_neg (fun z => (pz_bit x hk).mp z c), pz_p0 hk]
      simp only [gv_bind, gv_let, nI_1]
      rw [pz_uw, show zMe (σ.1 3) x (k + 1) = upd (zMe (σ.1 3) x k) k 0 by conv => lhs; unfold zMe; rw [if_pos c]]
    · rw [if_pos ((pz_bit x hk).mpr c)]
      simp only [gv_let, nI_1]
      rw [show zMe (σ.1 3) x (k + 1) = zMe (σ.1 3) x k by conv => lhs; unfold zMe; rw [if_neg c]]
  · dsimp only
    unfold pX2_melt_L2
    rw [if_pos (by decide)]
theorem op_crack (σ : gs_S) (hI : inv σ) (a1 : Int32) : ∃ (r : Int32) (σ1 : gs_S) (σ2 : gs_S), pX10_crack a1 σ = some (r, σ1) ∧ pX11_crack a1 σ1 = some (r, σ2) ∧ inv σ2 := by
  unfold pX10_crack pX11_crack
  by_cases h1 : iv_in a1 0 63
  rotate_left
  · exact ⟨-1, σ, σ, pz_if_f (pz_sq10 a1) h1 _ _, pz_if_f (pz_sq11 a1) h1 _ _, hI⟩
  rw [pz_if_t (pz_sq10 a1) h1]
  obtain ⟨s0, h0, rfl⟩ := pz_nat 63 h1 (by decide)
  obtain ⟨x, x1, x2⟩ := pz_cracked (s0 := s0) (by omega) σ
  obtain ⟨φ, eφ⟩ : ∃ φ, φ = gs_w σ 3 (zMe (σ.1 3) x 64) := ⟨_, rfl⟩
  have p1 : ∀ c, ¬ c = 3 → φ.1 c = σ.1 c := fun c hc => by rw [eφ, pz_w, if_neg hc]
  obtain ⟨B, n, Q, τ, y1, y2, y3, y4, y5, y6, y7⟩ := pz_xcrack (s0 := s0) (by omega) φ
  rw [p1 64 (by decide), p1 69 (by decide)] at y7
  have eq := zCk_one (fun q hq => hI.1.1 q (by omega)) hI.2.2.2.1.1 x2 y7
  have nl : n ≤ 64 := by rw [y4]; exact fb_ct_le _ _
  have bc : pJ13_bitCount_95d88 x = nI n := by rw [pc_bc, fb_ct_cong eq, ← y4]
  have L := gv_rel (fun q : Int32 × gs_S => pX11_crack_L18 (nI n) q.1 q.2) (fun k q => q.1 = nI k ∧ (∀ c, ¬ c = 64 → q.2.1 c = τ.1 c) ∧ q.2.2 = τ.2 ∧ (∀ i, (∃ j, j < k ∧ Q j = i) → q.2.1 64 i = 0) ∧ (∀ i, ¬ (∃ j, j < k ∧ Q j = i) → q.2.1 64 i = τ.1 64 i)) n gv_N (gv_N_lt (by omega)) (fun e => (∀ c, ¬ c = 64 → e.2.1 c = τ.1 c) ∧ e.2.2 = τ.2 ∧ (∀ i, (∃ j, j < n ∧ Q j = i) → e.2.1 64 i = 0) ∧ (∀ i, ¬ (∃ j, j < n ∧ Q j = i) → e.2.1 64 i = τ.1 64 i)) ?_ ?_ ((0 : Int32), τ) ⟨rfl, fun _ _ => rfl, rfl, fun i ⟨j, j1, _⟩ => absurd j1 (by omega), fun _ _ => rfl⟩
  rotate_left
  · rintro k ⟨v, ρ⟩ hk ⟨r1, r2, r3, r4, r5⟩
    dsimp only at r1 r2 r3 r4 r5 ⊢
    subst r1
    unfold pX11_crack_L18
    have q1 := (y5 k hk).1
    rw [if_neg (nI_ge hk (by omega)), pz_inN (by omega) (by decide), nI_clamp (by omega), r2 74 (by decide), (y5 k hk).2, pz_inN (by omega) (by decide), nI_clamp (by omega)]
    simp only [gv_let, nI_1]
    refine ⟨_, rfl, rfl, fun c hc => ?_, r3, fun i hi => ?_, fun i hi => ?_⟩
    · dsimp only
      rw [pz_u, if_neg hc]; exact r2 c hc
    · dsimp only
      rw [pz_u, if_pos rfl, pz_upd]
      by_cases e : i = Q k
      · rw [if_pos e]
      · rw [if_neg e]
        obtain ⟨j, j1, j2⟩ := hi
        refine r4 i ⟨j, ?_, j2⟩
        by_cases e2 : j = k
        · subst e2; exact absurd j2.symm e
        · omega
    · dsimp only
      rw [pz_u, if_pos rfl, pz_upd, if_neg (fun e => hi ⟨k, by omega, e.symm⟩)]
      exact r5 i (fun ⟨j, j1, j2⟩ => hi ⟨j, by omega, j2⟩)
  · rintro ⟨v, ρ⟩ ⟨r1, r2, r3, r4, r5⟩
    dsimp only at r1 r2 r3 r4 r5 ⊢
    subst r1
    unfold pX11_crack_L18
    rw [if_pos (nI_le (Nat.le_refl _) (by omega))]
    exact ⟨_, rfl, r2, r3, r4, r5⟩
  obtain ⟨⟨e1, ρ⟩, l1, l2, l3, l4, l5⟩ := L
  dsimp only at l2 l3 l4 l5
  refine ⟨nI n, φ, ρ, ?_, ?_, ?_⟩
  · rw [x1]
    simp only [gv_bind]
    rw [pz_melt]
    simp only
    rw [bc, eφ]
  · rw [pz_if_t (pz_sq11 (nI s0)) h1, y1]
    simp only [gv_bind2]
    rw [l1]
    simp only [gv_bind, gv_let]
  · obtain ⟨s1, s2, s3⟩ := y2
    obtain ⟨i1, i2, i3⟩ := hI.1
    have G : ∀ c, ¬ c = 3 → ¬ c = 64 → (c ≤ 30 ∨ (46 ≤ c ∧ c ≤ 62) ∨ (64 ≤ c ∧ c ≤ 72) ∨ 79 ≤ c) → ρ.1 c = σ.1 c := fun c c1 c2 c3 => by rw [l2 c c2, s1 c c3, p1 c c1]
    have G6 : ∀ i, ¬ i = 13 → ¬ i = 14 → ¬ i = 18 → ρ.1 63 i = σ.1 63 i := fun i a b c => by rw [l2 63 (by decide), s2 i a b c, p1 63 (by decide)]
    have f3 : ∀ i, ρ.1 3 i = if i < 64 ∧ bL x i = true then 0 else σ.1 3 i := fun i => by rw [l2 3 (by decide), s1 3 (by omega), eφ, pz_wc, zMe_at]
    have f64 : ∀ i, ρ.1 64 i = if i < 64 ∧ bL x i = true then 0 else σ.1 64 i := fun i => by
      by_cases c : i < 64 ∧ bL x i = true
      · rw [if_pos c]
        exact l4 i ((y6 i c.1).mp (by rw [← eq i c.1]; exact c.2))
      · rw [if_neg c, l5 i (fun z => by
          obtain ⟨j, j1, j2⟩ := z
          have i64 : i < 64 := by rw [← j2]; exact (y5 j j1).1
          exact c ⟨i64, by rw [eq i i64]; exact (y6 i i64).mpr ⟨j, j1, j2⟩⟩), s1 64 (by omega), p1 64 (by decide)]
    refine inv_mk ⟨fun k hk => ?_, fun k hk => ?_, fun k hk => ?_⟩ (fr_tr hI (G _ (by omega) (by omega) (by omega)) (G6 _ (by omega) (by omega) (by omega)) (G _ (by omega) (by omega) (by omega)) (G _ (by omega) (by omega) (by omega)) (G _ (by omega) (by omega) (by omega)) (G _ (by omega) (by omega) (by omega)) (G _ (by omega) (by omega) (by omega)) (G _ (by omega) (by omega) (by omega))) (fr_way hI (G _ (by omega) (by omega) (by omega)) (G6 _ (by omega) (by omega) (by omega)) (G _ (by omega) (by omega) (by omega)) (G _ (by omega) (by omega) (by omega))) (fr_set hI (G _ (by omega) (by omega) (by omega)) (G _ (by omega) (by omega) (by omega))) (fr_ears hI (G _ (by omega) (by omega) (by omega)) (G6 _ (by omega) (by omega) (by omega)) (G _ (by omega) (by omega) (by omega)) (G _ (by omega) (by omega) (by omega)) (G _ (by omega) (by omega) (by omega)) (G _ (by omega) (by omega) (by omega)) (G _ (by omega) (by omega) (by omega)) (G _ (by omega) (by omega) (by omega))) (fr_tape hI (by rw [G 29 (by omega) (by omega) (by omega)]) (G6 _ (by omega) (by omega) (by omega)) (G _ (by omega) (by omega) (by omega)) (G _ (by omega) (by omega) (by omega))) (fr_kept hI (G _ (by omega) (by omega) (by omega)) (G6 _ (by omega) (by omega) (by omega)) (fun c c1 c2 => G _ (by omega) (by omega) (by omega)) (G _ (by omega) (by omega) (by omega)) (G _ (by omega) (by omega) (by omega))) (fr_shs hI (fun c c1 c2 => G _ (by omega) (by omega) (by omega)) (G _ (by omega) (by omega) (by omega)) (G _ (by omega) (by omega) (by omega)) (by rw [l3, s3, eφ, pz_w2]))
    · rw [f3, f64, i1 k hk]
    · rw [f3]
      by_cases c : k < 64 ∧ bL x k = true
      · rw [if_pos c]; unfold iv_in; decide
      · rw [if_neg c]; exact i2 k hk
    · rw [f3, if_neg (by omega)]; exact i3 k hk
