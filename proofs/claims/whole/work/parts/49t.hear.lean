/-! PURE, 49t: span, drum, safe, liars -/
theorem sm_44 {σ σ' τ : gs_S} (s : sm σ σ') (h1 : ∀ x, ¬ x = 44 → ¬ x = 45 → τ.1 x = σ'.1 x) (h2 : τ.2 = σ'.2) : sm σ τ := ⟨fun x hx => by rw [h1 x (by omega) (by omega)]; exact s.1 x hx, fun i a b c => by rw [h1 63 (by decide) (by decide)]; exact s.2.1 i a b c, h2.trans s.2.2⟩
theorem sm_77 {σ σ' τ : gs_S} (s : sm σ σ') (h1 : ∀ x, ¬ x = 77 → ¬ x = 78 → τ.1 x = σ'.1 x) (h2 : τ.2 = σ'.2) : sm σ τ := ⟨fun x hx => by rw [h1 x (by omega) (by omega)]; exact s.1 x hx, fun i a b c => by rw [h1 63 (by decide) (by decide)]; exact s.2.1 i a b c, h2.trans s.2.2⟩
theorem op_span (σ : gs_S) (hI : inv σ) (a1 : Int32) (a2 : Int32) (a3 : Int32) : ∃ (r : Int32) (σ1 : gs_S) (σ2 : gs_S), pX10_span a1 a2 a3 σ = some (r, σ1) ∧ pX11_span a1 a2 a3 σ1 = some (r, σ2) ∧ inv σ2 := by
  unfold pX10_span pX11_span
  by_cases h1 : iv_in a1 0 15
  rotate_left
  · exact ⟨-1, σ, σ, pz_if_f (pz_w10 a1 0 15) h1 _ _, pz_if_f (pz_x11 a1 0 15) h1 _ _, hI⟩
  rw [pz_if_t (pz_w10 a1 0 15) h1]
  have X1 := fun (β : Type) (x y : β) => pz_if_t (pz_x11 a1 0 15) h1 x y
  by_cases h2 : iv_in a2 0 63
  rotate_left
  · exact ⟨-1, σ, σ, pz_if_f (pz_sq10 a2) h2 _ _, by rw [X1]; exact pz_if_f (pz_sq11 a2) h2 _ _, hI⟩
  rw [pz_if_t (pz_sq10 a2) h2]
  have X2 := fun (β : Type) (x y : β) => pz_if_t (pz_sq11 a2) h2 x y
  by_cases h3 : iv_in a3 0 1
  rotate_left
  · exact ⟨-1, σ, σ, pz_if_f (pz_w10 a3 0 1) h3 _ _, by rw [X1, X2]; exact pz_if_f (pz_x11 a3 0 1) h3 _ _, hI⟩
  rw [pz_if_t (pz_w10 a3 0 1) h3]
  have X3 := fun (β : Type) (x y : β) => pz_if_t (pz_x11 a3 0 1) h3 x y
  obtain ⟨r, A, B, r1, r2, r3, r4⟩ := pz_spans hI a1
  obtain ⟨τ, t1, t2, t3, t4⟩ := r3 σ (sm_rf σ)
  have st := sm_44 (sm_rf σ) t2 t3
  obtain ⟨υ, u1, u2, u3, u4⟩ := r4 τ st
  have su := sm_77 st u2 u3
  obtain ⟨q, hq, rfl⟩ := pz_nat 63 h2 (by decide)
  rw [t1, gv_bind2_some]
  rcases r1 with z | z
  · rw [if_pos z]
    refine ⟨-4, τ, υ, rfl, ?_, inv_sm hI su⟩
    rw [X1, X2, X3, u1, gv_bind2_some, if_pos z]
  · have nz : ¬ r = 0 := by rw [z]; decide
    rw [if_neg nz, pz_inN (by omega) (by decide), pz_inN (by omega) (by decide), nI_clamp (by omega), (t4 z q (by omega)).1, (t4 z q (by omega)).2]
    by_cases c : a3 = 0
    · rw [if_pos c]
      refine ⟨_, τ, υ, rfl, ?_, inv_sm hI su⟩
      rw [X1, X2, X3, u1, gv_bind2_some, if_neg nz, if_pos c, pz_inN (by omega) (by decide), (u4 z q (by omega)).1]
    · rw [if_neg c]
      refine ⟨_, τ, υ, rfl, ?_, inv_sm hI su⟩
      rw [X1, X2, X3, u1, gv_bind2_some, if_neg nz, if_neg c, pz_inN (by omega) (by decide), (u4 z q (by omega)).2]
/-! drum -/
def zBe (W : Nat → Int) : Nat → Nat
  | 0 => 0
  | k + 1 => if W (k + 1) ≤ W (zBe W k) then zBe W k else k + 1
theorem zBe_le (W : Nat → Int) : ∀ k, zBe W k ≤ k := by
  intro k
  induction k with
  | zero => exact Nat.le_refl _
  | succ k ih =>
    unfold zBe
    split
    · omega
    · omega
theorem pz_widest {τ : gs_S} {A B : Nat → Int} (h : ∀ q, q < 64 → τ.1 44 q = zI (A q) ∧ τ.1 45 q = zI (B q)) (hb : ∀ q, q < 64 → 1 ≤ A q ∧ A q ≤ B q ∧ B q ≤ 99) : pX6_widest τ = some (nI (zBe (fun q => B q - A q) 63)) := by
  unfold pX6_widest
  have L := gv_for (fun q : Int32 × Int32 => pX6_widest_L4 τ q.1 q.2) (fun k => (nI (zBe (fun q => B q - A q) k), nI (k + 1))) 63 gv_N (gv_N_lt (by decide)) (nI (zBe (fun q => B q - A q) 63), nI 64) ?_ ?_
  · have h2 : gv_loop (fun q : Int32 × Int32 => pX6_widest_L4 τ q.1 q.2) gv_N ((0 : Int32), (1 : Int32)) = some (nI (zBe (fun q => B q - A q) 63), nI 64) := L
    rw [h2]; rfl
  · intro k hk
    dsimp only
    have b := zBe_le (fun q => B q - A q) k
    have e : zBe (fun q => B q - A q) (k + 1) = if B (k + 1) - A (k + 1) ≤ B (zBe (fun q => B q - A q) k) - A (zBe (fun q => B q - A q) k) then zBe (fun q => B q - A q) k else k + 1 := rfl
    rw [e]
    generalize zBe (fun q => B q - A q) k = j at b
    unfold pX6_widest_L4
    have b1 := hb (k + 1) (by omega)
    have b2 := hb j (by omega)
    rw [if_neg (show ¬ (64 : Int32) ≤ nI (k + 1) from nI_ge (b := 64) (by omega) (by decide)), pz_inN (by omega) (by decide), pz_inN (by omega) (by decide), pz_inN (by omega) (by decide), pz_inN (by omega) (by decide), nI_clamp (show k + 1 < 2 ^ 31 by omega), nI_clamp (show j < 2 ^ 31 by omega), (h (k + 1) (by omega)).1, (h (k + 1) (by omega)).2, (h j (by omega)).1, (h j (by omega)).2, zI_sub, zI_sub]
    by_cases c : B (k + 1) - A (k + 1) ≤ B j - A j
    · rw [if_pos ((zI_le (by omega) (by omega) (by omega) (by omega)).mpr c), if_pos c, gv_let_p, nI_1]
    · rw [if_neg (fun z => c ((zI_le (by omega) (by omega) (by omega) (by omega)).mp z)), if_neg c, gv_let_p, nI_1]
  · dsimp only
    unfold pX6_widest_L4
    rw [if_pos (by decide)]
theorem pz_xwidest {τ : gs_S} {A B : Nat → Int} (h : ∀ q, q < 64 → τ.1 77 q = zI (A q) ∧ τ.1 78 q = zI (B q)) (hb : ∀ q, q < 64 → 1 ≤ A q ∧ A q ≤ B q ∧ B q ≤ 99) : gv_loop (fun q : Int32 × Int32 => pX11_drum_L16 τ q.1 q.2) gv_N ((0 : Int32), (1 : Int32)) = some (nI (zBe (fun q => B q - A q) 63), nI 64) := by
  refine gv_for (fun q : Int32 × Int32 => pX11_drum_L16 τ q.1 q.2) (fun k => (nI (zBe (fun q => B q - A q) k), nI (k + 1))) 63 gv_N (gv_N_lt (by decide)) (nI (zBe (fun q => B q - A q) 63), nI 64) ?_ ?_
  · intro k hk
    dsimp only
    have b := zBe_le (fun q => B q - A q) k
    have e : zBe (fun q => B q - A q) (k + 1) = if B (k + 1) - A (k + 1) ≤ B (zBe (fun q => B q - A q) k) - A (zBe (fun q => B q - A q) k) then zBe (fun q => B q - A q) k else k + 1 := rfl
    rw [e]
    generalize zBe (fun q => B q - A q) k = j at b
    unfold pX11_drum_L16
    have b1 := hb (k + 1) (by omega)
    have b2 := hb j (by omega)
    rw [if_neg (show ¬ (64 : Int32) ≤ nI (k + 1) from nI_ge (b := 64) (by omega) (by decide)), pz_inN (by omega) (by decide), pz_inN (by omega) (by decide), pz_inN (by omega) (by decide), pz_inN (by omega) (by decide), nI_clamp (show k + 1 < 2 ^ 31 by omega), nI_clamp (show j < 2 ^ 31 by omega), (h (k + 1) (by omega)).1, (h (k + 1) (by omega)).2, (h j (by omega)).1, (h j (by omega)).2, zI_sub, zI_sub]
    by_cases c : B (k + 1) - A (k + 1) ≤ B j - A j
    · rw [if_pos ((zI_le (by omega) (by omega) (by omega) (by omega)).mpr c), if_pos c, gv_let_p, nI_1]
    · rw [if_neg (fun z => c ((zI_le (by omega) (by omega) (by omega) (by omega)).mp z)), if_neg c, gv_let_p, nI_1]
  · dsimp only
    unfold pX11_drum_L16
    rw [if_pos (by decide)]
theorem op_drum (σ : gs_S) (hI : inv σ)  : ∃ (r : Int32) (σ1 : gs_S) (σ2 : gs_S), pX10_drum  σ = some (r, σ1) ∧ pX11_drum  σ1 = some (r, σ2) ∧ inv σ2 := by
  unfold pX10_drum pX11_drum
  obtain ⟨r, A, B, r1, r2, r3, r4⟩ := pz_spans hI 15
  obtain ⟨τ, t1, t2, t3, t4⟩ := r3 σ (sm_rf σ)
  have st := sm_44 (sm_rf σ) t2 t3
  obtain ⟨υ, u1, u2, u3, u4⟩ := r4 τ st
  have su := sm_77 st u2 u3
  rw [t1, gv_bind2_some]
  rcases r1 with z | z
  · rw [if_pos z]
    refine ⟨-4, τ, υ, rfl, ?_, inv_sm hI su⟩
    rw [u1, gv_bind2_some, if_pos z]
  · have nz : ¬ r = 0 := by rw [z]; decide
    rw [if_neg nz, pz_widest (t4 z) (r2 z), gv_bind_some]
    refine ⟨_, τ, υ, rfl, ?_, inv_sm hI su⟩
    rw [u1, gv_bind2_some, if_neg nz, pz_xwidest (u4 z) (r2 z), gv_bind_some, gv_let_p, gv_let_p]
/-! safe -/
theorem dqE_1 {c : Nat → Int} (hc : dqOne c) {s q : Nat} (hs : s < 64) (hq : q < 64) (z : ¬ dqE c s q = -1) : 1 ≤ dqE c s q := by
  have cs : ¬ c s = -1 := fun y => z (by unfold dqE; rw [if_pos y])
  have e : ∀ x, dqE c s x = dqF c s x := fun x => by unfold dqE; rw [if_neg cs]
  obtain ⟨A, -⟩ := dq_fin c s (dqOne_C hc) hs cs
  rw [e] at z ⊢
  obtain ⟨x1, x2, x3, x4⟩ := A.2.1 q hq z
  have cq : c q = 1 := by rcases hc q hq with y | y; exact absurd y x3; exact y
  rcases x4 with x4 | ⟨k, k1, k2, k3, k4⟩
  · have h7 := A.1
    rw [x4, h7]
    rw [x4] at cq
    omega
  · have := (A.2.1 _ k2 k3).1
    omega
def zBa (f : Nat → Int32) (A : Nat → Int) (q : Nat) : Int32 := pX11_bearsBy (zI (A q)) (f (64 + q)) + (60 : Int32) * f (256 + q)
theorem pz_weighAt {A : Nat → Int} (σ : gs_S) (hk : ∀ k, k < 64 → iv_in (σ.1 3 (64 + k)) 0 4) (h44 : ∀ q, q < 64 → σ.1 44 q = zI (A q)) : ∃ τ, pX3_weighAt σ = some τ ∧ (∀ x, ¬ x = 39 → τ.1 x = σ.1 x) ∧ τ.2 = σ.2 ∧ ∀ q, q < 64 → τ.1 39 q = zBa (σ.1 3) A q := by
  unfold pX3_weighAt
  have L := gv_rel (fun q : Int32 × gs_S => pX3_weighAt_L2 q.1 q.2) (fun k q => q.1 = nI k ∧ (∀ x, ¬ x = 39 → q.2.1 x = σ.1 x) ∧ q.2.2 = σ.2 ∧ ∀ j, j < k → q.2.1 39 j = zBa (σ.1 3) A j) 64 gv_N (gv_N_lt (by decide)) (fun q => (∀ x, ¬ x = 39 → q.2.1 x = σ.1 x) ∧ q.2.2 = σ.2 ∧ ∀ j, j < 64 → q.2.1 39 j = zBa (σ.1 3) A j) ?_ ?_ ((0 : Int32), σ) ⟨rfl, fun _ _ => rfl, rfl, fun j hj => absurd hj (by omega)⟩
  · obtain ⟨⟨v, φ⟩, l1, l2, l3, l4⟩ := L
    rw [l1]
    exact ⟨φ, rfl, l2, l3, l4⟩
  · rintro k ⟨v, ρ⟩ k1 ⟨r1, r2, r3, r4⟩
    dsimp only at r1 r2 r3 r4 ⊢
    subst r1
    unfold pX3_weighAt_L2
    rw [if_neg (show ¬ (64 : Int32) ≤ nI k from nI_ge (b := 64) k1 (by decide)), pz_inN k1 (by decide), nI_clamp (by omega), r2 44 (by decide), h44 k k1, pz_bearAt k1 _ ρ (by rw [r2 3 (by decide)]; exact hk k k1), r2 3 (by decide), gv_bind_some, pz_inN k1 (by decide), gv_let_p, gv_let_p, nI_1]
    refine ⟨_, rfl, rfl, fun x hx => by dsimp only; rw [pz_u, if_neg hx]; exact r2 x hx, r3, fun j hj => ?_⟩
    dsimp only
    rw [pz_u, if_pos rfl, pz_upd]
    by_cases z : j = k
    · rw [if_pos z, z]; rfl
    · rw [if_neg z]; exact r4 j (by omega)
  · rintro ⟨v, ρ⟩ ⟨r1, r2, r3, r4⟩
    dsimp only at r1 r2 r3 r4 ⊢
    subst r1
    unfold pX3_weighAt_L2
    rw [if_pos (by decide)]
    exact ⟨_, rfl, r2, r3, r4⟩
theorem pz_xweighAt {A : Nat → Int} (σ : gs_S) (h77 : ∀ q, q < 64 → σ.1 77 q = zI (A q)) : ∃ v τ, gv_loop (fun q : Int32 × gs_S => pX11_safe_L28 q.1 q.2) gv_N ((0 : Int32), σ) = some (v, τ) ∧ (∀ x, ¬ x = 76 → τ.1 x = σ.1 x) ∧ τ.2 = σ.2 ∧ ∀ q, q < 64 → τ.1 76 q = zBa (σ.1 64) A q := by
  have L := gv_rel (fun q : Int32 × gs_S => pX11_safe_L28 q.1 q.2) (fun k q => q.1 = nI k ∧ (∀ x, ¬ x = 76 → q.2.1 x = σ.1 x) ∧ q.2.2 = σ.2 ∧ ∀ j, j < k → q.2.1 76 j = zBa (σ.1 64) A j) 64 gv_N (gv_N_lt (by decide)) (fun q => (∀ x, ¬ x = 76 → q.2.1 x = σ.1 x) ∧ q.2.2 = σ.2 ∧ ∀ j, j < 64 → q.2.1 76 j = zBa (σ.1 64) A j) ?_ ?_ ((0 : Int32), σ) ⟨rfl, fun _ _ => rfl, rfl, fun j hj => absurd hj (by omega)⟩
  · obtain ⟨⟨v, φ⟩, l1, l2, l3, l4⟩ := L
    exact ⟨v, φ, l1, l2, l3, l4⟩
  · rintro k ⟨v, ρ⟩ k1 ⟨r1, r2, r3, r4⟩
    dsimp only at r1 r2 r3 r4 ⊢
    subst r1
    unfold pX11_safe_L28
    rw [if_neg (show ¬ (64 : Int32) ≤ nI k from nI_ge (b := 64) k1 (by decide)), pz_inN k1 (by decide), show (64 : Int32) + nI k = nI (64 + k) from nI_add 64 k, show (256 : Int32) + nI k = nI (256 + k) from nI_add 256 k, pz_inN (by omega) (by decide), pz_inN (by omega) (by decide), pz_inN k1 (by decide), nI_clamp (show k < 2 ^ 31 by omega), nI_clamp (show 64 + k < 2 ^ 31 by omega), nI_clamp (show 256 + k < 2 ^ 31 by omega), r2 77 (by decide), h77 k k1, r2 64 (by decide), gv_let_p, gv_let_p, nI_1]
    refine ⟨_, rfl, rfl, fun x hx => by dsimp only; rw [pz_u, if_neg hx]; exact r2 x hx, r3, fun j hj => ?_⟩
    dsimp only
    rw [pz_u, if_pos rfl, pz_upd]
    by_cases z : j = k
    · rw [if_pos z, z]; rfl
    · rw [if_neg z]; exact r4 j (by omega)
  · rintro ⟨v, ρ⟩ ⟨r1, r2, r3, r4⟩
    dsimp only at r1 r2 r3 r4 ⊢
    subst r1
    unfold pX11_safe_L28
    rw [if_pos (by decide)]
    exact ⟨_, rfl, r2, r3, r4⟩
theorem op_safe (σ : gs_S) (hI : inv σ) (a1 : Int32) (a2 : Int32) (a3 : Int32) (a4 : Int32) : ∃ (r : Int32) (σ1 : gs_S) (σ2 : gs_S), pX10_safe a1 a2 a3 a4 σ = some (r, σ1) ∧ pX11_safe a1 a2 a3 a4 σ1 = some (r, σ2) ∧ inv σ2 := by
  unfold pX10_safe pX11_safe
  by_cases h1 : iv_in a1 0 63 ∧ iv_in a2 0 63 ∧ iv_in a3 1 99 ∧ iv_in a4 1 9
  rotate_left
  · exact ⟨-1, σ, σ, pz_if_f (pz_asked a1 a2 a3 a4) h1 _ _, pz_if_f (pz_xasked a1 a2 a3 a4) h1 _ _, hI⟩
  rw [pz_if_t (pz_asked a1 a2 a3 a4) h1]
  have X := fun (β : Type) (x y : β) => pz_if_t (pz_xasked a1 a2 a3 a4) h1 x y
  obtain ⟨a, ha, rfl⟩ := pz_nat 63 h1.1 (by decide)
  obtain ⟨b, hb, rfl⟩ := pz_nat 63 h1.2.1 (by decide)
  obtain ⟨⟨i1, i2, i3⟩, -⟩ := id hI
  rw [show pX11_needBy a3 a4 = pX10_weightAlone a3 a4 from rfl]
  generalize pX10_weightAlone a3 a4 = w
  obtain ⟨r, A, B, r1, r2, r3, r4⟩ := pz_spans hI 15
  obtain ⟨τ, t1, t2, t3, t4⟩ := r3 σ (sm_rf σ)
  have st := sm_44 (sm_rf σ) t2 t3
  rw [t1, gv_bind2_some]
  rcases r1 with z | z
  · obtain ⟨υ, u1, u2, u3, u4⟩ := r4 τ st
    have su := sm_77 st u2 u3
    rw [if_pos z]
    refine ⟨-2, τ, υ, rfl, ?_, inv_sm hI su⟩
    rw [X, u1, gv_bind2_some, if_pos z]
  have nz : ¬ r = 0 := by rw [z]; decide
  rw [if_neg nz]
  obtain ⟨φ, f1, f2, f3, f4⟩ := pz_weighAt (A := A) τ (by rw [st.1 3 (by omega)]; exact i3) (fun q hq => (t4 z q hq).1)
  rw [st.1 3 (by omega)] at f4
  obtain ⟨c, hcc⟩ : ∃ c, c = zCo (zBa (σ.1 3) A) w := ⟨_, rfl⟩
  have one : dqOne c := by rw [hcc]; exact zCo_one _ _
  obtain ⟨ρ, p1, p2, p3, -⟩ := pz_length (a := a) (b := b) (by omega) (by omega) w φ
  rw [dqE_cong (c2 := c) (by rw [hcc]; exact zCo_eq w f4) (by omega)] at p1
  have sr : sm σ ρ := ⟨fun x hx => by rw [p2 x (by omega) (by omega) (by omega), f2 x (by omega)]; exact st.1 x hx, fun i x1 x2 x3 => by rw [p2 63 (by decide) (by decide) (by decide), f2 63 (by decide)]; exact st.2.1 i x1 x2 x3, by rw [p3, f3]; exact st.2.2⟩
  obtain ⟨υ, u1, u2, u3, u4⟩ := r4 ρ sr
  have su := sm_77 sr u2 u3
  obtain ⟨v, ψ, w1, w2, w3, w4⟩ := pz_xweighAt (A := A) υ (fun q hq => (u4 z q hq).1)
  rw [su.1 64 (by omega)] at w4
  obtain ⟨χ, y1, ⟨y2, y3, y4⟩, -⟩ := pz_size (a := a) (b := b) (by omega) (by omega) w ψ
  have cc : ∀ q, q < 64 → zCo (ψ.1 76) w q = c q := fun q hq => by
    rw [hcc, zCo_eq w w4 q hq]
    exact zCo_eq w (fun q hq => by unfold zBa; rw [i1 (64 + q) (by omega), i1 (256 + q) (by omega)]) q hq
  rw [dqE_cong cc (by omega)] at y1
  have sx : sm σ χ := ⟨fun x hx => by rw [y2 x (by omega) (by omega) (by omega), w2 x (by omega)]; exact su.1 x hx, fun i x1 x2 x3 => by rw [y3 i x3, w2 63 (by decide)]; exact su.2.1 i x1 x2 x3, by rw [y4, w3]; exact su.2.2⟩
  rw [f1, gv_bind_some, p1, gv_bind2_some]
  refine ⟨_, ρ, χ, rfl, ?_, inv_sm hI sx⟩
  rw [X, u1, gv_bind2_some, if_neg nz, w1, gv_bind_some, gv_let_p, gv_let_p]
  dsimp only
  rw [y1, gv_bind2_some]
  by_cases e : dqE c b a = -1
  · rw [if_pos e, if_pos e, if_pos rfl]
  · have E := dqE_b c b a (dqOne_C one) (by omega) (by omega)
    have E1 := dqE_1 one (show b < 64 by omega) (show a < 64 by omega) e
    rw [if_neg e, if_neg e, if_neg (by rw [zI_0, zI_eq (by omega) (by omega) (by omega) (by omega)]; omega)]
/-! liars -/
def pcn (k : Nat) : Nat := k % 2 + k / 2 % 2 + k / 4 % 2 + k / 8 % 2
theorem pcn_b : ∀ k, k < 16 → pJ6_bitCount_0f7a4 (nI k) = nI (pcn k) ∧ ((((nI k &&& (1 : Int32)) + ((nI k >>> ((1 : Int32) &&& 31)) &&& (1 : Int32))) + ((nI k >>> ((2 : Int32) &&& 31)) &&& (1 : Int32))) + ((nI k >>> ((3 : Int32) &&& 31)) &&& (1 : Int32))) = nI (pcn k) ∧ pcn k ≤ 4 := by decide +kernel
def lzC (R : Nat → Int32) (f : Nat) : Nat → Nat
  | 0 => 0
  | k + 1 => if pcn k = f ∧ R k = 1 then lzC R f k + 1 else lzC R f k
def lzL (R : Nat → Int32) (f : Nat) : Nat → Nat
  | 0 => 0
  | k + 1 => if pcn k = f ∧ R k = 1 then k else lzL R f k
theorem lzC_le (R : Nat → Int32) (f : Nat) : ∀ k, lzC R f k ≤ k := by
  intro k
  induction k with
  | zero => exact Nat.le_refl _
  | succ k ih =>
    unfold lzC
    split <;> omega
theorem lzL_le (R : Nat → Int32) (f : Nat) : ∀ k, lzL R f k ≤ k := by
  intro k
  induction k with
  | zero => exact Nat.le_refl _
  | succ k ih =>
    unfold lzL
    split <;> omega
theorem op_liars (σ : gs_S) (hI : inv σ)  : ∃ (r : Int32) (σ1 : gs_S) (σ2 : gs_S), pX10_liars  σ = some (r, σ1) ∧ pX11_liars  σ1 = some (r, σ2) ∧ inv σ2 := by
  obtain ⟨R, hR⟩ : ∃ R : Nat → Int32, ∀ k, ∃ A B, zSp σ ((15 : Int32) &&& (nI k ^^^ (-1 : Int32))) (R k) A B := ⟨fun k => (pz_spans hI ((15 : Int32) &&& (nI k ^^^ (-1 : Int32)))).choose, fun k => (pz_spans hI ((15 : Int32) &&& (nI k ^^^ (-1 : Int32)))).choose_spec⟩
  have cls : ∀ k σ', sm σ σ' → ∃ τ, pX6_find ((15 : Int32) &&& (nI k ^^^ (-1 : Int32))) σ' = some (R k, τ) ∧ sm σ τ := fun k σ' s => by
    obtain ⟨A, B, r1, r2, r3, r4⟩ := hR k
    obtain ⟨τ, t1, t2, t3, -⟩ := r3 σ' s
    exact ⟨τ, t1, sm_44 s t2 t3⟩
  have rfx : ∀ k σ', sm σ σ' → ∃ τ, pX11_findSpans ((15 : Int32) &&& (nI k ^^^ (-1 : Int32))) σ' = some (R k, τ) ∧ sm σ τ := fun k σ' s => by
    obtain ⟨A, B, r1, r2, r3, r4⟩ := hR k
    obtain ⟨τ, t1, t2, t3, -⟩ := r4 σ' s
    exact ⟨τ, t1, sm_77 s t2 t3⟩
  have R01 : ∀ k, R k = 0 ∨ R k = 1 := fun k => by obtain ⟨A, B, r1, -⟩ := hR k; exact r1
  have eC : ∀ f k, lzC R f (k + 1) = if pcn k = f ∧ R k = 1 then lzC R f k + 1 else lzC R f k := fun _ _ => rfl
  have eL : ∀ f k, lzL R f (k + 1) = if pcn k = f ∧ R k = 1 then k else lzL R f k := fun _ _ => rfl
  -- the class: all sets of f
  have inner : ∀ f σ', f ≤ 4 → sm σ σ' → ∃ τ, gv_loop (fun q : Int32 × Int32 × Int32 × gs_S => pX10_liars_L14 (nI f) q.1 q.2.1 q.2.2.1 q.2.2.2) gv_N ((0 : Int32), (0 : Int32), (0 : Int32), σ') = some (nI (lzC R f 16), nI (lzL R f 16), nI 16, τ) ∧ sm σ τ := by
    intro f σ' hf s
    have L := gv_rel (fun q : Int32 × Int32 × Int32 × gs_S => pX10_liars_L14 (nI f) q.1 q.2.1 q.2.2.1 q.2.2.2) (fun k q => q.1 = nI (lzC R f k) ∧ q.2.1 = nI (lzL R f k) ∧ q.2.2.1 = nI k ∧ sm σ q.2.2.2) 16 gv_N (gv_N_lt (by decide)) (fun q => q.1 = nI (lzC R f 16) ∧ q.2.1 = nI (lzL R f 16) ∧ q.2.2.1 = nI 16 ∧ sm σ q.2.2.2) ?_ ?_ ((0 : Int32), (0 : Int32), (0 : Int32), σ') ⟨rfl, rfl, rfl, s⟩
    · obtain ⟨⟨x, y, n, τ⟩, l1, l2, l3, l4, l5⟩ := L
      dsimp only at l2 l3 l4 l5
      subst l2 l3 l4
      exact ⟨τ, l1, l5⟩
    · rintro k ⟨x, y, n, ρ⟩ hk ⟨r1, r2, r3, r4⟩
      dsimp only at r1 r2 r3 r4 ⊢
      subst r1 r2 r3
      obtain ⟨p1, p2, p3⟩ := pcn_b k hk
      unfold pX10_liars_L14
      rw [if_neg (show ¬ (15 : Int32) < nI k from nI_nlt (a := 15) (by omega) (by decide)), p1, eC, eL]
      by_cases c : pcn k = f
      · rw [if_pos (by rw [c])]
        obtain ⟨τ, t1, t2⟩ := cls k ρ r4
        rw [t1, gv_bind2_some]
        rcases R01 k with z | z
        · have n : ¬ (pcn k = f ∧ R k = 1) := fun y => by have := y.2; rw [z] at this; exact absurd this (by decide)
          rw [if_pos z, if_neg n, if_neg n, gv_let_p, nI_1]
          exact ⟨_, rfl, rfl, rfl, rfl, t2⟩
        · rw [if_neg (by rw [z]; decide), if_pos ⟨c, z⟩, if_pos ⟨c, z⟩, gv_let_p, gv_let_p, nI_1, nI_1]
          exact ⟨_, rfl, rfl, rfl, rfl, t2⟩
      · have n : ¬ (pcn k = f ∧ R k = 1) := fun y => c y.1
        rw [if_neg (fun y => c ((nI_eq (by omega) (by omega)).mp y)), if_neg n, if_neg n, gv_let_p, nI_1]
        exact ⟨_, rfl, rfl, rfl, rfl, r4⟩
    · rintro ⟨x, y, n, ρ⟩ ⟨r1, r2, r3, r4⟩
      dsimp only at r1 r2 r3 r4 ⊢
      subst r1 r2 r3
      unfold pX10_liars_L14
      rw [if_pos (by decide)]
      exact ⟨_, rfl, rfl, rfl, rfl, r4⟩
  have C := gv_wh (fun q : Int32 × gs_S => pX10_liars_L2 q.1 q.2) (fun q => ∃ f, f ≤ 5 ∧ q.1 = nI f ∧ sm σ q.2 ∧ ∀ g, g < f → lzC R g 16 = 0) (fun q => 10 - q.1.toNatClampNeg) (fun e => (∃ τ, e = .inl (nI 5, τ) ∧ sm σ τ ∧ ∀ g, g < 5 → lzC R g 16 = 0) ∨ (∃ f τ, f ≤ 4 ∧ e = .inr (if lzC R f 16 = 1 then nI (lzL R f 16) else -4, τ) ∧ sm σ τ ∧ 0 < lzC R f 16 ∧ ∀ g, g < f → lzC R g 16 = 0)) ?_ gv_N ((0 : Int32), σ) ⟨0, by omega, rfl, sm_rf σ, fun g hg => absurd hg (by omega)⟩ (gv_N_lt (Nat.lt_of_le_of_lt (Nat.sub_le _ _) (by decide)))
  rotate_left
  · rintro ⟨v, ρ⟩ ⟨f, r1, r2, r3, r4⟩
    dsimp only at r2 r3 ⊢
    subst r2
    unfold pX10_liars_L2
    by_cases c : f = 5
    · right
      subst c
      rw [if_pos (by decide)]
      exact ⟨_, rfl, Or.inl ⟨ρ, rfl, r3, r4⟩⟩
    obtain ⟨τ, t1, t2⟩ := inner f ρ (by omega) r3
    have cl := lzC_le R f 16
    rw [if_neg (show ¬ (4 : Int32) < nI f from nI_nlt (a := 4) (by omega) (by decide)), t1, gv_bind_some, gv_let_p, gv_let_p, gv_let_p, gv_let_p]
    dsimp only
    by_cases d : lzC R f 16 = 0
    · left
      rw [if_pos (by rw [d]; decide), gv_let_p, nI_1]
      refine ⟨_, rfl, ⟨f + 1, by omega, rfl, t2, fun g hg => ?_⟩, ?_⟩
      · by_cases e : g = f
        · rw [e]; exact d
        · exact r4 g (by omega)
      · dsimp only
        rw [nI_clamp (by omega), nI_clamp (by omega)]; omega
    · right
      rw [if_neg (nI_nle (by omega) (by omega))]
      by_cases e : lzC R f 16 = 1
      · rw [if_pos (by rw [e]; rfl)]
        exact ⟨_, rfl, Or.inr ⟨f, τ, by omega, by rw [if_pos e], t2, by omega, r4⟩⟩
      · rw [if_neg (show ¬ nI (lzC R f 16) = (1 : Int32) from fun y => e ((nI_eq (by omega) (by decide)).mp (show nI (lzC R f 16) = nI 1 from y)))]
        exact ⟨_, rfl, Or.inr ⟨f, τ, by omega, by rw [if_neg e], t2, by omega, r4⟩⟩
  -- the reference: all sets once
  have M : ∀ σ', sm σ σ' → ∃ (r : Int32) (τ : gs_S), pX11_liars σ' = some (r, τ) ∧ sm σ τ ∧ (((∀ g, g ≤ 4 → lzC R g 16 = 0) ∧ r = -4) ∨ ∃ f, f ≤ 4 ∧ 0 < lzC R f 16 ∧ (∀ g, g < f → lzC R g 16 = 0) ∧ r = if lzC R f 16 = 1 then nI (lzL R f 16) else -4) := by
    intro σ' s
    have L := gv_rel (fun q : Int32 × Int32 × Int32 × gs_S => pX11_liars_L8 q.1 q.2.1 q.2.2.1 q.2.2.2) (fun k q => q.2.2.1 = nI k ∧ sm σ q.2.2.2 ∧ (((∀ g, g ≤ 4 → lzC R g k = 0) ∧ q.1 = -4 ∧ q.2.1 = nI 9) ∨ ∃ f, f ≤ 4 ∧ 0 < lzC R f k ∧ (∀ g, g < f → lzC R g k = 0) ∧ q.2.1 = nI f ∧ q.1 = if lzC R f k = 1 then nI (lzL R f k) else -4)) 16 gv_N (gv_N_lt (by decide)) (fun q => sm σ q.2.2.2 ∧ (((∀ g, g ≤ 4 → lzC R g 16 = 0) ∧ q.1 = -4) ∨ ∃ f, f ≤ 4 ∧ 0 < lzC R f 16 ∧ (∀ g, g < f → lzC R g 16 = 0) ∧ q.1 = if lzC R f 16 = 1 then nI (lzL R f 16) else -4)) ?_ ?_ ((-4 : Int32), (9 : Int32), (0 : Int32), σ') ⟨rfl, s, Or.inl ⟨fun _ _ => rfl, rfl, rfl⟩⟩
    · obtain ⟨⟨x, y, n, τ⟩, l1, l2, l3⟩ := L
      refine ⟨x, τ, ?_, l2, l3⟩
      unfold pX11_liars
      rw [l1, gv_bind_some, gv_let_p, gv_let_p, gv_let_p, gv_let_p]
    · rintro k ⟨x, y, n, ρ⟩ hk ⟨r1, r2, r3⟩
      dsimp only at r1 r2 r3 ⊢
      subst r1
      obtain ⟨p1, p2, p3⟩ := pcn_b k hk
      unfold pX11_liars_L8 pX11_liars_J68
      rw [if_neg (show ¬ (16 : Int32) ≤ nI k from nI_ge (b := 16) hk (by decide)), p2, gv_let_p]
      obtain ⟨τ, t1, t2⟩ := rfx k ρ r2
      -- what does not count
      have keep : (∀ g, g ≤ 4 → ¬ (pcn k = g ∧ R k = 1) ∨ (0 < lzC R g k ∧ False) ∨ ∃ f, f ≤ 4 ∧ y = nI f ∧ f < g ∧ 0 < lzC R f k) → (((∀ g, g ≤ 4 → lzC R g (k + 1) = 0) ∧ x = -4 ∧ y = nI 9) ∨ ∃ f, f ≤ 4 ∧ 0 < lzC R f (k + 1) ∧ (∀ g, g < f → lzC R g (k + 1) = 0) ∧ y = nI f ∧ x = if lzC R f (k + 1) = 1 then nI (lzL R f (k + 1)) else -4) := by
        intro nk
        rcases r3 with ⟨q1, q2, q3⟩ | ⟨f, q1, q2, q3, q4, q5⟩
        · refine Or.inl ⟨fun g hg => ?_, q2, q3⟩
          rcases nk g hg with z | z | ⟨f, z1, z2, z3, z4⟩
          · rw [eC, if_neg z]; exact q1 g hg
          · exact z.2.elim
          · have := q1 f z1; omega
        · have nf : ¬ (pcn k = f ∧ R k = 1) := by
            rcases nk f q1 with z | z | ⟨f2, z1, z2, z3, z4⟩
            · exact z
            · exact z.2.elim
            · have := (nI_eq (by omega) (by omega)).mp (z2.symm.trans q4); omega
          refine Or.inr ⟨f, q1, by rw [eC, if_neg nf]; exact q2, fun g hg => ?_, q4, by rw [eC, eL, if_neg nf, if_neg nf]; exact q5⟩
          rcases nk g (by omega) with z | z | ⟨f2, z1, z2, z3, z4⟩
          · rw [eC, if_neg z]; exact q3 g hg
          · exact z.2.elim
          · have := (nI_eq (by omega) (by omega)).mp (z2.symm.trans q4); omega
      by_cases c : y < nI (pcn k)
      · rw [if_pos c, gv_let_p, nI_1]
        refine ⟨_, rfl, rfl, r2, keep (fun g hg => ?_)⟩
        by_cases e : pcn k = g ∧ R k = 1
        · right
          right
          rcases r3 with ⟨q1, q2, q3⟩ | ⟨f, q1, q2, q3, q4, q5⟩
          · rw [q3] at c
            exact absurd c (nI_nlt (by omega) (by omega))
          · rw [q4] at c
            exact ⟨f, q1, q4, by have := (nI_ltI (by omega) (by omega)).mp c; omega, q2⟩
        · exact Or.inl e
      · rw [if_neg c, t1, gv_bind2_some]
        rcases R01 k with z | z
        · rw [if_pos z, gv_let_p, nI_1]
          refine ⟨_, rfl, rfl, t2, keep (fun g hg => Or.inl (fun y => ?_))⟩
          have := y.2
          rw [z] at this
          exact absurd this (by decide)
        · rw [if_neg (by rw [z]; decide)]
          have low : ∀ g, g < pcn k → lzC R g k = 0 ∧ lzC R g (k + 1) = 0 := fun g hg => by
            have g0 : lzC R g k = 0 := by
              rcases r3 with ⟨q1, q2, q3⟩ | ⟨f, q1, q2, q3, q4, q5⟩
              · exact q1 g (by omega)
              · rw [q4] at c
                have : pcn k ≤ f := by
                  rcases Nat.lt_or_ge f (pcn k) with w | w
                  · exact absurd (nI_lt w (by omega)) c
                  · exact w
                exact q3 g (by omega)
            refine ⟨g0, ?_⟩
            rw [eC, if_neg (fun w => by omega)]; exact g0
          have e1 : lzC R (pcn k) (k + 1) = lzC R (pcn k) k + 1 := by rw [eC, if_pos ⟨rfl, z⟩]
          have e2 : lzL R (pcn k) (k + 1) = k := by rw [eL, if_pos ⟨rfl, z⟩]
          by_cases d : nI (pcn k) = y
          · rw [if_pos d, gv_let_p, nI_1]
            refine ⟨_, rfl, rfl, t2, Or.inr ⟨pcn k, p3, by omega, fun g hg => (low g hg).2, rfl, ?_⟩⟩
            rcases r3 with ⟨q1, q2, q3⟩ | ⟨f, q1, q2, q3, q4, q5⟩
            · have := (nI_eq (by omega) (by decide)).mp (d.trans q3); omega
            · have ff : pcn k = f := (nI_eq (by omega) (by omega)).mp (d.trans q4)
              dsimp only
              rw [if_neg]
              rw [e1, ff]; omega
          · rw [if_neg d, gv_let_p, nI_1]
            refine ⟨_, rfl, rfl, t2, Or.inr ⟨pcn k, p3, by omega, fun g hg => (low g hg).2, rfl, ?_⟩⟩
            have z0 : lzC R (pcn k) k = 0 := by
              rcases r3 with ⟨q1, q2, q3⟩ | ⟨f, q1, q2, q3, q4, q5⟩
              · exact q1 _ p3
              · rw [q4] at c d
                have : pcn k < f := by
                  rcases Nat.lt_trichotomy f (pcn k) with w | w | w
                  · exact absurd (nI_lt w (by omega)) c
                  · exact absurd (by rw [w]) d
                  · exact w
                exact q3 _ this
            dsimp only
            rw [if_pos (by omega), e2]
    · rintro ⟨x, y, n, ρ⟩ ⟨r1, r2, r3⟩
      dsimp only at r1 r2 r3 ⊢
      subst r1
      unfold pX11_liars_L8
      rw [if_pos (by decide)]
      refine ⟨_, rfl, r2, ?_⟩
      rcases r3 with ⟨q1, q2, q3⟩ | ⟨f, q1, q2, q3, q4, q5⟩
      · exact Or.inl ⟨q1, q2⟩
      · exact Or.inr ⟨f, q1, q2, q3, q5⟩
  obtain ⟨e, c1, c2⟩ := C
  unfold pX10_liars
  rw [c1]
  rcases c2 with ⟨τ, e1, e2, e3⟩ | ⟨f, τ, e1, e2, e3, e4, e5⟩
  · obtain ⟨r, υ, m1, m2, m3⟩ := M τ e2
    rw [e1]
    refine ⟨-4, τ, υ, rfl, ?_, inv_sm hI m2⟩
    rcases m3 with ⟨m3, m4⟩ | ⟨f, q1, q2, -⟩
    · rw [m1, m4]
    · have := e3 f (by omega); omega
  · obtain ⟨r, υ, m1, m2, m3⟩ := M τ e3
    rw [e2]
    refine ⟨_, τ, υ, rfl, ?_, inv_sm hI m2⟩
    rcases m3 with ⟨m3, m4⟩ | ⟨g, q1, q2, q3, q4⟩
    · have := m3 f e1; omega
    · have fg : f = g := by
        rcases Nat.lt_trichotomy f g with w | w | w
        · have := q3 f w; omega
        · exact w
        · have := e5 g w; omega
      rw [m1, q4, fg]
