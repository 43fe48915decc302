/-! PURE, 49n: most -/
theorem dqE_mono {c c2 : Nat → Int} (h1 : dqOne c) (h2 : dqOne c2) (h : ∀ q, q < 64 → ¬ c q = -1 → ¬ c2 q = -1) {s q : Nat} (hs : s < 64) (hq : q < 64) (hE : ¬ dqE c s q = -1) : ¬ dqE c2 s q = -1 := by
  have cs : ¬ c s = -1 := fun z => hE (by unfold dqE; rw [if_pos z])
  have cs2 : ¬ c2 s = -1 := h s hs cs
  unfold dqE at hE ⊢
  rw [if_neg cs] at hE
  rw [if_neg cs2]
  obtain ⟨A, -⟩ := dq_fin c s (dqOne_C h1) hs cs
  obtain ⟨A2, F2⟩ := dq_fin c2 s (dqOne_C h2) hs cs2
  obtain ⟨g, hg⟩ : ∃ g : Nat → Int, ∀ q, (¬ dqF c2 s q = -1 → g q = 0) ∧ (dqF c2 s q = -1 → g q = 1000) := ⟨fun q => if dqF c2 s q = -1 then 1000 else 0, fun q => ⟨fun z => if_neg z, fun z => if_pos z⟩⟩
  have G : dqG c s g := by
    refine ⟨?_, fun u u1 k k1 k2 k3 => ?_⟩
    · rw [(hg s).1 (by rw [A2.1]; exact cs2)]
      rcases h1 s hs with z | z
      · exact absurd z cs
      · omega
    · have k4 : c (zNb u k) = 1 := by rcases h1 _ k2 with z | z; exact absurd z k3; exact z
      have gb : g (zNb u k) ≤ 1000 := by
        by_cases z : dqF c2 s (zNb u k) = -1
        · rw [(hg _).2 z]; decide
        · rw [(hg _).1 z]; decide
      by_cases z : dqF c2 s u = -1
      · rw [(hg _).2 z, k4]; omega
      · rw [(hg _).1 (F2 u u1 z k k1 k2 (h _ k2 k3)).1, (hg _).1 z, k4]; decide
  intro z
  have a1 := A.2.2 g G q hq hE
  have a2 := (A.2.1 q hq hE).2.1
  have a3 := dqN_le (dqF c s)
  rw [(hg q).2 z] at a1
  omega
theorem zCo_mono (b : Nat → Int32) {w w2 : Int32} (h : w2 ≤ w) : ∀ q, q < 64 → ¬ zCo b w q = -1 → ¬ zCo b w2 q = -1 := by
  intro q _ z y
  apply z
  unfold zCo at y ⊢
  by_cases c : b q < w2
  · rw [if_pos]
    rw [Int32.lt_iff_toInt_lt] at c ⊢
    rw [Int32.le_iff_toInt_le] at h
    omega
  · rw [if_neg c] at y; exact absurd y (by decide)
theorem pz_wt {l p : Nat} (hl : l ≤ 100) (hp : p ≤ 9) : pX10_weightAlone (nI l) (nI p) = nI (l * (10 + p) / 10) := by
  unfold pX10_weightAlone
  have : l * (10 + p) ≤ 100 * 19 := Nat.mul_le_mul hl (by omega)
  rw [show (10 : Int32) = nI 10 from rfl, nI_add, nI_mul, nI_div (by omega) (by decide)]
theorem op_most (σ : gs_S) (hI : inv σ) (a1 : Int32) (a2 : Int32) (a3 : Int32) : ∃ (r : Int32) (σ1 : gs_S) (σ2 : gs_S), pX10_most a1 a2 a3 σ = some (r, σ1) ∧ pX11_most a1 a2 a3 σ1 = some (r, σ2) ∧ inv σ2 := by
  unfold pX10_most pX11_most pX10_isPace
  have one99 : iv_in 1 1 99 := by unfold iv_in; decide
  by_cases h1 : iv_in a1 0 63
  rotate_left
  · exact ⟨-1, σ, σ, pz_if_f (pz_sq10 a1) h1 _ _, pz_if_f (pz_xasked a1 a2 1 a3) (fun z => h1 z.1) _ _, hI⟩
  rw [pz_if_t (pz_sq10 a1) h1]
  by_cases h2 : iv_in a2 0 63
  rotate_left
  · exact ⟨-1, σ, σ, pz_if_f (pz_sq10 a2) h2 _ _, pz_if_f (pz_xasked a1 a2 1 a3) (fun z => h2 z.2.1) _ _, hI⟩
  rw [pz_if_t (pz_sq10 a2) h2]
  by_cases h3 : iv_in a3 1 9
  rotate_left
  · exact ⟨-1, σ, σ, pz_if_f (pz_w10 a3 1 9) h3 _ _, pz_if_f (pz_xasked a1 a2 1 a3) (fun z => h3 z.2.2.2) _ _, hI⟩
  rw [pz_if_t (pz_w10 a3 1 9) h3]
  have X := fun (β : Type) (x y : β) => pz_if_t (pz_xasked a1 a2 1 a3) ⟨h1, h2, one99, h3⟩ x y
  obtain ⟨a, ha, rfl⟩ := pz_nat 63 h1 (by decide)
  obtain ⟨b, hb, rfl⟩ := pz_nat 63 h2 (by decide)
  obtain ⟨p, hp, rfl⟩ := pz_nat 9 (x := a3) ⟨by have := h3.1; omega, h3.2⟩ (by decide)
  obtain ⟨⟨i1, i2, i3⟩, -⟩ := id hI
  obtain ⟨φ, f1, f2, f3, f4⟩ := pz_weigh σ i3
  obtain ⟨Rd, hR⟩ : ∃ Rd : Nat → Prop, ∀ l, Rd l ↔ ¬ dqE (zCo (zB (σ.1 3)) (nI (l * (10 + p) / 10))) b a = -1 := ⟨_, fun _ => Iff.rfl⟩
  have mono : ∀ l l2, l2 ≤ l → l ≤ 100 → Rd l → Rd l2 := fun l l2 h h100 z => by
    rw [hR] at z ⊢
    have e1 : l2 * (10 + p) ≤ l * (10 + p) := Nat.mul_le_mul_right _ h
    have e2 : l * (10 + p) ≤ 100 * 19 := Nat.mul_le_mul h100 (by omega)
    exact dqE_mono (zCo_one _ _) (zCo_one _ _) (zCo_mono _ (nI_le (by omega) (by omega))) (by omega) (by omega) z
  -- the class: halving
  have L := gv_wh (fun q : Int32 × Int32 × Int32 × gs_S => pX10_most_L49 (nI a) (nI b) (nI p) q.1 q.2.1 q.2.2.1 q.2.2.2) (fun q => ∃ f t k, q.1 = nI f ∧ q.2.1 = nI t ∧ q.2.2.1 = nI k ∧ k ≤ 7 ∧ f < t ∧ t ≤ 100 ∧ t - f ≤ 2 ^ (7 - k) ∧ (f = 0 ∨ Rd f) ∧ (t = 100 ∨ ¬ Rd t) ∧ (∀ x, ¬ x = 40 → ¬ x = 41 → ¬ x = 42 → q.2.2.2.1 x = φ.1 x) ∧ q.2.2.2.2 = φ.2) (fun q => 10 - q.2.2.1.toNatClampNeg) (fun q => ∃ f, q.1 = nI f ∧ f ≤ 99 ∧ (f = 0 ∨ Rd f) ∧ (f + 1 = 100 ∨ ¬ Rd (f + 1)) ∧ (∀ x, ¬ x = 40 → ¬ x = 41 → ¬ x = 42 → q.2.2.2.1 x = φ.1 x) ∧ q.2.2.2.2 = φ.2) ?_ gv_N ((0 : Int32), (100 : Int32), (0 : Int32), φ) ⟨0, 100, 0, rfl, rfl, rfl, by omega, by omega, by omega, by decide, Or.inl rfl, Or.inl rfl, fun _ _ _ _ => rfl, rfl⟩ (gv_N_lt (Nat.lt_of_le_of_lt (Nat.sub_le _ _) (by decide)))
  rotate_left
  · rintro ⟨x, y, z, ρ⟩ ⟨f, t, k, r1, r2, r3, r4, r5, r6, r7, r8, r9, r10, r11⟩
    dsimp only at r1 r2 r3 r10 r11 ⊢
    subst r1 r2 r3
    unfold pX10_most_L49
    by_cases k7 : 7 ≤ k
    · right
      have : k = 7 := by omega
      subst this
      have r7 : t - f ≤ 1 := r7
      rw [if_pos (by decide)]
      refine ⟨_, rfl, f, rfl, by omega, r8, ?_, r10, r11⟩
      rw [show f + 1 = t by omega]; exact r9
    rw [if_neg (show ¬ (7 : Int32) ≤ nI k from nI_ge (b := 7) (by omega) (by decide)), nI_sub (show f ≤ t by omega)]
    by_cases g1 : t - f ≤ 1
    · right
      rw [if_pos (show nI (t - f) ≤ (1 : Int32) from nI_le (b := 1) g1 (by decide))]
      refine ⟨_, rfl, f, rfl, by omega, r8, ?_, r10, r11⟩
      rw [show f + 1 = t by omega]; exact r9
    left
    rw [if_neg (show ¬ nI (t - f) ≤ (1 : Int32) from nI_ge (a := 1) (by omega) (by omega)), gv_let_p, nI_add, show (2 : Int32) = nI 2 from rfl, nI_div (by omega) (by decide), pz_wt (by omega) hp]
    have p2 : 2 ^ (7 - k) = 2 * 2 ^ (6 - k) := by rw [show 7 - k = (6 - k) + 1 by omega, Nat.pow_succ]; omega
    rw [p2] at r7
    obtain ⟨τ, t1, t2, t3, -⟩ := pz_length (a := a) (b := b) (by omega) (by omega) (nI ((f + t) / 2 * (10 + p) / 10)) ρ
    rw [dqE_cong (c2 := zCo (zB (σ.1 3)) (nI ((f + t) / 2 * (10 + p) / 10))) (by rw [r10 39 (by decide) (by decide) (by decide)]; exact zCo_eq _ f4) (by omega)] at t1
    have E := dqE_b (zCo (zB (σ.1 3)) (nI ((f + t) / 2 * (10 + p) / 10))) b a (dqOne_C (zCo_one _ _)) (by omega) (by omega)
    have fr : (∀ x, ¬ x = 40 → ¬ x = 41 → ¬ x = 42 → τ.1 x = φ.1 x) ∧ τ.2 = φ.2 := ⟨fun x x1 x2 x3 => by rw [t2 x x1 x2 x3, r10 x x1 x2 x3], by rw [t3, r11]⟩
    rw [t1, gv_bind2_some]
    by_cases e : dqE (zCo (zB (σ.1 3)) (nI ((f + t) / 2 * (10 + p) / 10))) b a = -1
    · rw [if_pos e, if_pos rfl, gv_let_p, nI_1]
      refine ⟨_, rfl, ⟨f, (f + t) / 2, k + 1, rfl, rfl, rfl, by omega, by omega, by omega, ?_, r8, Or.inr (fun z => ((hR _).mp z) e), fr.1, fr.2⟩, ?_⟩
      · rw [show 7 - (k + 1) = 6 - k by omega]; omega
      · dsimp only
        rw [nI_clamp (by omega), nI_clamp (by omega)]; omega
    · rw [if_neg e, if_neg (by rw [show (-4 : Int32) = zI (-4) from by decide, zI_eq (by omega) (by omega) (by omega) (by omega)]; omega), gv_let_p, nI_1]
      refine ⟨_, rfl, ⟨(f + t) / 2, t, k + 1, rfl, rfl, rfl, by omega, by omega, r6, ?_, Or.inr ((hR _).mpr e), r9, fr.1, fr.2⟩, ?_⟩
      · rw [show 7 - (k + 1) = 6 - k by omega]; omega
      · dsimp only
        rw [nI_clamp (by omega), nI_clamp (by omega)]; omega
  obtain ⟨⟨x, y, z, τ⟩, l1, f, l2, l3, l4, l5, l6, l7⟩ := L
  dsimp only at l2 l6 l7
  subst l2
  have st : sm σ τ := ⟨fun x hx => by rw [l6 x (by omega) (by omega) (by omega), f2 x (by omega)], fun i _ _ _ => by rw [l6 63 (by decide) (by decide) (by decide), f2 63 (by decide)], by rw [l7, f3]⟩
  have e64 : τ.1 64 = σ.1 64 := st.1 64 (by omega)
  obtain ⟨ψ, g1, g2, g3, g4⟩ := pz_xbearNow τ
  rw [e64] at g4
  -- the reference: from the greatest down
  have M := gv_wh (fun q : Int32 × gs_S => pX11_most_L20 (nI a) (nI b) (nI p) q.1 q.2) (fun q => ∃ l, q.1 = nI l ∧ l ≤ 99 ∧ (∀ j, l < j → j ≤ 99 → ¬ Rd j) ∧ ((∀ c, ¬ c = 63 → ¬ c = 74 → ¬ c = 75 → q.2.1 c = ψ.1 c) ∧ (∀ i, ¬ i = 18 → q.2.1 63 i = ψ.1 63 i) ∧ q.2.2 = ψ.2)) (fun q => q.1.toNatClampNeg) (fun q => ∃ l, q.1 = nI l ∧ l ≤ 99 ∧ (l = 0 ∨ Rd l) ∧ (∀ j, l < j → j ≤ 99 → ¬ Rd j) ∧ ((∀ c, ¬ c = 63 → ¬ c = 74 → ¬ c = 75 → q.2.1 c = ψ.1 c) ∧ (∀ i, ¬ i = 18 → q.2.1 63 i = ψ.1 63 i) ∧ q.2.2 = ψ.2)) ?_ gv_N ((99 : Int32), ψ) ⟨99, rfl, by omega, fun j j1 j2 => absurd j1 (by omega), ⟨fun _ _ _ _ => rfl, fun _ _ => rfl, rfl⟩⟩ (gv_N_lt (by show (99 : Int32).toNatClampNeg < 100000; decide))
  rotate_left
  · rintro ⟨x, ρ⟩ ⟨l, r1, r2, r3, r4, r5, r6⟩
    dsimp only at r1 r4 r5 r6 ⊢
    subst r1
    unfold pX11_most_L20
    by_cases z : l = 0
    · right
      subst z
      rw [if_pos (by decide)]
      exact ⟨_, rfl, 0, rfl, by omega, Or.inl rfl, r3, r4, r5, r6⟩
    rw [if_neg (nI_nle (by omega) (by omega)), show pX11_needBy (nI l) (nI p) = pX10_weightAlone (nI l) (nI p) from rfl, pz_wt (by omega) hp]
    obtain ⟨υ, u1, ⟨u2, u3, u4⟩, -⟩ := pz_size (a := a) (b := b) (by omega) (by omega) (nI (l * (10 + p) / 10)) ρ
    have cc : ∀ q, q < 64 → zCo (ρ.1 76) (nI (l * (10 + p) / 10)) q = zCo (zB (σ.1 3)) (nI (l * (10 + p) / 10)) q := fun q hq => by
      rw [r4 76 (by decide) (by decide) (by decide), zCo_eq _ g4 q hq]
      exact zCo_eq _ (fun q hq => (zB_eq i1 hq).symm) q hq
    rw [dqE_cong cc (by omega)] at u1
    have E := dqE_b (zCo (zB (σ.1 3)) (nI (l * (10 + p) / 10))) b a (dqOne_C (zCo_one _ _)) (by omega) (by omega)
    have fr : (∀ c, ¬ c = 63 → ¬ c = 74 → ¬ c = 75 → υ.1 c = ψ.1 c) ∧ (∀ i, ¬ i = 18 → υ.1 63 i = ψ.1 63 i) ∧ υ.2 = ψ.2 := ⟨fun c c1 c2 c3 => by rw [u2 c c1 c2 c3, r4 c c1 c2 c3], fun i hi => by rw [u3 i hi, r5 i hi], by rw [u4, r6]⟩
    rw [u1, gv_bind2_some]
    by_cases e : dqE (zCo (zB (σ.1 3)) (nI (l * (10 + p) / 10))) b a = -1
    · left
      obtain ⟨m, rfl⟩ : ∃ m, l = m + 1 := ⟨l - 1, by omega⟩
      rw [if_pos e, if_pos rfl, gv_let_p, pk_m1]
      refine ⟨_, rfl, ⟨m, rfl, by omega, fun j j1 j2 => ?_, fr⟩, ?_⟩
      · by_cases y : j = m + 1
        · rw [y]; exact fun q => ((hR _).mp q) e
        · exact r3 j (by omega) j2
      · dsimp only
        rw [nI_clamp (by omega), nI_clamp (by omega)]; omega
    · right
      have E1 : ¬ dqE (zCo (zB (σ.1 3)) (nI (l * (10 + p) / 10))) b a = 0 := by
        intro z0
        have cs : ¬ zCo (zB (σ.1 3)) (nI (l * (10 + p) / 10)) b = -1 := fun y => e (by unfold dqE; rw [if_pos y])
        unfold dqE at e z0
        rw [if_neg cs] at e z0
        obtain ⟨A, -⟩ := dq_fin _ b (dqOne_C (zCo_one (zB (σ.1 3)) (nI (l * (10 + p) / 10)))) (by omega) cs
        obtain ⟨x1, x2, x3, x4⟩ := A.2.1 a (by omega) e
        have cq : zCo (zB (σ.1 3)) (nI (l * (10 + p) / 10)) a = 1 := by rcases zCo_one (zB (σ.1 3)) (nI (l * (10 + p) / 10)) a (by omega) with y | y; exact absurd y x3; exact y
        rcases x4 with x4 | ⟨k, k1, k2, k3, k4⟩
        · have h7 := A.1
          rw [x4] at cq z0
          omega
        · have := (A.2.1 _ k2 k3).1
          omega
      rw [if_neg e, if_neg (by rw [zI_0, zI_eq (by omega) (by omega) (by omega) (by omega)]; exact E1)]
      exact ⟨_, rfl, l, rfl, r2, Or.inr ((hR _).mpr e), r3, fr⟩
  obtain ⟨⟨x', υ⟩, m1, l, m2, m3, m4, m5, m6, m7, m8⟩ := M
  dsimp only at m2 m6 m7 m8
  subst m2
  have fl : f = l := by
    rcases Nat.lt_trichotomy f l with z | z | z
    · have : Rd l := by rcases m4 with y | y; omega; exact y
      rcases l5 with y | y
      · omega
      · exact absurd (mono l (f + 1) (by omega) (by omega) this) y
    · exact z
    · have : Rd f := by rcases l4 with y | y; omega; exact y
      exact absurd this (m5 f z l3)
  subst fl
  have su : sm σ υ := ⟨fun x hx => by rw [m6 x (by omega) (by omega) (by omega), g2 x (by omega), st.1 x hx], fun i x1 x2 x3 => by rw [m7 i x3, g2 63 (by decide), st.2.1 i x1 x2 x3], by rw [m8, g3, st.2.2]⟩
  rw [f1, gv_bind_some, l1, gv_bind_some, gv_let_p, gv_let_p, gv_let_p, gv_let_p]
  dsimp only
  by_cases z : f = 0
  · refine ⟨-4, τ, υ, ?_, ?_, inv_sm hI su⟩
    · rw [if_pos (by rw [z]; decide)]
    · rw [X, g1, gv_bind_some, m1, gv_bind_some, gv_let_p, gv_let_p]
      dsimp only
      rw [if_pos (by rw [z]; rfl)]
  · refine ⟨nI f, τ, υ, ?_, ?_, inv_sm hI su⟩
    · rw [if_neg (nI_nle (by omega) (by omega))]
    · rw [X, g1, gv_bind_some, m1, gv_bind_some, gv_let_p, gv_let_p]
      dsimp only
      rw [if_neg (nI_ne0 (by omega) (by omega))]
