/-! PURE, 49i: the reference's breadth first walk is the line's -/
def zI (z : Int) : Int32 := Int32.ofInt z
theorem zI_t {z : Int} (h1 : -1000000 ≤ z) (h2 : z ≤ 1000000) : (zI z).toInt = z := fb_ofI (by omega) (by omega)
theorem zI_n (n : Nat) : zI (n : Int) = nI n := by
  unfold zI nI
  exact Int32.ofInt_eq_ofNat
theorem zI_add (a b : Int) : zI a + zI b = zI (a + b) := (Int32.ofInt_add a b).symm
theorem zI_sub (a b : Int) : zI a - zI b = zI (a - b) := (Int32.ofInt_sub a b).symm
theorem zI_le {a b : Int} (a1 : -1000000 ≤ a) (a2 : a ≤ 1000000) (b1 : -1000000 ≤ b) (b2 : b ≤ 1000000) : zI a ≤ zI b ↔ a ≤ b := by
  rw [Int32.le_iff_toInt_le, zI_t a1 a2, zI_t b1 b2]
theorem zI_lt {a b : Int} (a1 : -1000000 ≤ a) (a2 : a ≤ 1000000) (b1 : -1000000 ≤ b) (b2 : b ≤ 1000000) : zI a < zI b ↔ a < b := by
  rw [Int32.lt_iff_toInt_lt, zI_t a1 a2, zI_t b1 b2]
theorem zI_eq {a b : Int} (a1 : -1000000 ≤ a) (a2 : a ≤ 1000000) (b1 : -1000000 ≤ b) (b2 : b ≤ 1000000) : zI a = zI b ↔ a = b := by
  rw [← Int32.toInt_inj, zI_t a1 a2, zI_t b1 b2]
theorem zI_z {x : Int32} (h1 : -1000000 ≤ x.toInt) (h2 : x.toInt ≤ 1000000) : x = zI x.toInt := (Int32.ofInt_toInt x).symm
def dqOne (c : Nat → Int) : Prop := ∀ q, q < 64 → c q = -1 ∨ c q = 1
theorem dqOne_C {c : Nat → Int} (h : dqOne c) : dqC c := fun q hq => by rcases h q hq with z | z <;> simp [z]
def dqQ (S : dS) : Prop := 65 ≤ S.2.1 ∧ (∀ i, 64 ≤ i → i < S.2.1 → S.2.2.1 i < 64) ∧ ∀ q, q < 64 → (¬ S.2.2.2 q = -1 ↔ ∃ i, 64 ≤ i ∧ i < S.2.1 ∧ S.2.2.1 i = q)
theorem dqQ_S {c : Nat → Int} (hc : dqOne c) {u : Nat} {S : dS} (h : dqQ S) (hu : 0 ≤ S.2.2.2 u) (s : Nat) : dqQ (dqS c u S s) ∧ (dqS c u S s).1 = S.1 ∧ S.2.1 ≤ (dqS c u S s).2.1 ∧ (∀ i, i < S.2.1 → (dqS c u S s).2.2.1 i = S.2.2.1 i) := by
  unfold dqS
  by_cases C : zNb u s < 64 ∧ ¬ c (zNb u s) = -1 ∧ S.2.2.2 (zNb u s) = -1
  rotate_left
  · rw [if_neg C]; exact ⟨h, rfl, Nat.le_refl _, fun _ _ => rfl⟩
  rw [if_pos C]
  obtain ⟨v1, v2, v3⟩ := C
  have c1 : c (zNb u s) = 1 := by rcases hc _ v1 with q | q <;> omega
  rw [if_neg (by omega)]
  obtain ⟨h1, h2, h3⟩ := h
  refine ⟨⟨?_, fun i i1 i2 => ?_, fun q q1 => ?_⟩, rfl, by show S.2.1 ≤ S.2.1 + 1; omega, fun i i1 => ?_⟩
  · show 65 ≤ S.2.1 + 1
    omega
  · dsimp only at i2 ⊢
    by_cases e : i = S.2.1
    · rw [if_pos e]; exact v1
    · rw [if_neg e]; exact h2 i i1 (by omega)
  · dsimp only
    by_cases e : q = zNb u s
    · rw [if_pos e]
      refine ⟨fun _ => ⟨S.2.1, by omega, by omega, by rw [if_pos rfl, e]⟩, fun _ => by omega⟩
    · rw [if_neg e, h3 q q1]
      refine ⟨fun ⟨i, i1, i2, i3⟩ => ⟨i, i1, by omega, by rw [if_neg (by omega)]; exact i3⟩, fun ⟨i, i1, i2, i3⟩ => ⟨i, i1, ?_, ?_⟩⟩
      · by_cases e2 : i = S.2.1
        · rw [if_pos e2] at i3; exact absurd i3.symm e
        · omega
      · by_cases e2 : i = S.2.1
        · rw [if_pos e2] at i3; exact absurd i3.symm e
        · rw [if_neg e2] at i3; exact i3
  · dsimp only
    rw [if_neg (by omega)]
/-- the reference's cells hold the line -/
def xq (σ τ : gs_S) (S : dS) (rd : Prop) : Prop := ((∀ c, ¬ c = 63 → ¬ c = 74 → ¬ c = 75 → τ.1 c = σ.1 c) ∧ (∀ i, ¬ i = 18 → τ.1 63 i = σ.1 63 i) ∧ τ.2 = σ.2) ∧ τ.1 63 18 = nI (S.2.1 - 64) ∧ (∀ i, 64 ≤ i → i < S.2.1 → τ.1 74 (i - 64) = nI (S.2.2.1 i)) ∧ (∀ q, q < 64 → (0 ≤ τ.1 75 q ↔ ¬ S.2.2.2 q = -1)) ∧ (rd → ∀ q, q < 64 → ¬ S.2.2.2 q = -1 → τ.1 75 q = zI (S.2.2.2 q - 1)) ∧ (∀ q, q < 64 → S.2.2.2 q = -1 → τ.1 75 q = -1)
theorem xq_sm {σ τ : gs_S} {S : dS} {rd : Prop} (h : xq σ τ S rd) : sm σ τ := ⟨fun c hc => h.1.1 c (by omega) (by omega) (by omega), fun i _ _ h3 => h.1.2.1 i h3, h.1.2.2⟩
theorem xq_reach {c : Nat → Int} (hc : dqOne c) {σ τ : gs_S} {S : dS} {rd : Prop} {u s : Nat} {a : Int32} (h : xq σ τ S rd) (hQ : dqQ S) (hN : S.2.1 = 64 + dqN S.2.2.2) (hu : 0 ≤ S.2.2.2 u) (hv : zNb u s < 64) (hv2 : ¬ c (zNb u s) = -1) (ha : 0 ≤ a) (ha2 : rd → a = zI (S.2.2.2 u + c (zNb u s) - 1)) : ∃ τ', pX11_reach (nI (zNb u s)) a τ = some τ' ∧ xq σ τ' (dqS c u S s) rd := by
  obtain ⟨⟨f1, f2, f3⟩, h1, h2, h3, h4, h5⟩ := h
  obtain ⟨q1, q2, q3⟩ := hQ
  have c1 : c (zNb u s) = 1 := by rcases hc _ hv with q | q <;> omega
  unfold pX11_reach
  rw [pz_inN hv (by decide), nI_clamp (by omega)]
  by_cases C : S.2.2.2 (zNb u s) = -1
  rotate_left
  · rw [if_pos ((h3 _ hv).mpr C)]
    refine ⟨τ, rfl, ?_⟩
    unfold dqS
    rw [if_neg (fun z => C z.2.2)]
    exact ⟨⟨f1, f2, f3⟩, h1, h2, h3, h4, h5⟩
  have lt := dqN_lt S.2.2.2 _ hv C
  have e63 : (gs_u τ 75 (zNb u s) a).1 63 18 = nI (S.2.1 - 64) := by rw [pz_u, if_neg (by decide)]; exact h1
  rw [if_neg (fun z => ((h3 _ hv).mp z) C), pz_inN hv (by decide)]
  simp only [gv_let]
  rw [e63, pz_inN (by omega) (by decide), nI_clamp (by omega)]
  refine ⟨_, rfl, ?_⟩
  have e64 : (gs_u (gs_u τ 75 (zNb u s) a) 74 (S.2.1 - 64) (nI (zNb u s))).1 63 18 = nI (S.2.1 - 64) := by rw [pz_u, if_neg (by decide)]; exact e63
  rw [e64, nI_1]
  unfold dqS
  rw [if_pos ⟨hv, hv2, C⟩, if_neg (by omega)]
  refine ⟨⟨fun x x1 x2 x3 => ?_, fun i i1 => ?_, ?_⟩, ?_, fun i i1 i2 => ?_, fun q z1 => ?_, fun r q z1 z2 => ?_, fun q z1 z2 => ?_⟩
  · rw [pz_u, if_neg x1, pz_u, if_neg x2, pz_u, if_neg x3]; exact f1 x x1 x2 x3
  · rw [pz_u, if_pos rfl, pz_upd, if_neg i1, pz_u, if_neg (by decide), pz_u, if_neg (by decide)]; exact f2 i i1
  · rw [pz_u2, pz_u2, pz_u2]; exact f3
  · show _ = nI (S.2.1 + 1 - 64)
    rw [pz_ua, show S.2.1 + 1 - 64 = S.2.1 - 64 + 1 by omega]
  · dsimp only at i2 ⊢
    rw [pz_u, if_neg (by decide), pz_u, if_pos rfl, pz_upd]
    by_cases e : i = S.2.1
    · rw [if_pos (by omega), if_pos e]
    · rw [if_neg (by omega), if_neg e, pz_u, if_neg (by decide)]
      exact h2 i i1 (by omega)
  · dsimp only
    rw [pz_u, if_neg (by decide), pz_u, if_neg (by decide), pz_u, if_pos rfl, pz_upd]
    by_cases e : q = zNb u s
    · rw [if_pos e, if_pos e]
      exact ⟨fun _ => by omega, fun _ => ha⟩
    · rw [if_neg e, if_neg e]; exact h3 q z1
  · dsimp only at z2 ⊢
    rw [pz_u, if_neg (by decide), pz_u, if_neg (by decide), pz_u, if_pos rfl, pz_upd]
    by_cases e : q = zNb u s
    · rw [if_pos e, if_pos e]; exact ha2 r
    · rw [if_neg e] at z2
      rw [if_neg e, if_neg e]; exact h4 r q z1 z2
  · dsimp only at z2 ⊢
    rw [pz_u, if_neg (by decide), pz_u, if_neg (by decide), pz_u, if_pos rfl, pz_upd]
    by_cases e : q = zNb u s
    · rw [if_pos e] at z2; omega
    · rw [if_neg e] at z2
      rw [if_neg e]; exact h5 q z1 z2
/-- all sides of one -/
theorem xq_sides {c : Nat → Int} (hc : dqOne c) {s0 k : Nat} (hs : ¬ c s0 = -1) {σ τ : gs_S} {S : dS} {rd : Prop} {u : Nat} (body : Int32 × gs_S → Option ((Int32 × gs_S) ⊕ (Int32 × gs_S)))
    (hstep : ∀ (s : Nat) (τ : gs_S) (S : dS), s < 4 → xq σ τ S rd → dqQ S → S.2.1 = 64 + dqN S.2.2.2 → 0 ≤ S.2.2.2 u → S.2.2.2 u ≤ 64 → ¬ S.2.2.2 u = -1 → u < 64 → 64 + k < S.2.1 → S.2.2.1 (64 + k) = u → S.2.2.2 s0 = c s0 → ∃ τ', body (nI s, τ) = some (.inl (nI (s + 1), τ')) ∧ xq σ τ' (dqS c u S s) rd)
    (hexit : ∀ τ, body (nI 4, τ) = some (.inr (nI 4, τ)))
    (h : xq σ τ S rd) (hQ : dqQ S) (hJ : dqJ1 c s0 (k + 1) S u 0) (h1 : S.1 = 64 + (k + 1)) (h2 : 64 + k < S.2.1) (h3 : S.2.2.1 (64 + k) = u) :
    ∃ τ', gv_loop body gv_N ((0 : Int32), τ) = some (nI 4, τ') ∧ xq σ τ' (dqP c u S 4) rd ∧ dqQ (dqP c u S 4) ∧ (dqP c u S 4).1 = 64 + (k + 1) := by
  have L := gv_rel body (fun s q => q.1 = nI s ∧ xq σ q.2 (dqP c u S s) rd ∧ dqQ (dqP c u S s) ∧ (dqP c u S s).1 = 64 + (k + 1) ∧ 64 + k < (dqP c u S s).2.1 ∧ (dqP c u S s).2.2.1 (64 + k) = u) 4 gv_N (gv_N_lt (by decide)) (fun e => e.1 = nI 4 ∧ xq σ e.2 (dqP c u S 4) rd ∧ dqQ (dqP c u S 4) ∧ (dqP c u S 4).1 = 64 + (k + 1)) ?_ ?_ ((0 : Int32), τ) ⟨rfl, h, hQ, h1, h2, h3⟩
  · obtain ⟨⟨e1, e2⟩, l1, l2, l3, l4, l5⟩ := L
    dsimp only at l2 l3
    subst l2
    exact ⟨e2, l1, l3, l4, l5⟩
  · rintro s ⟨v, ρ⟩ hs4 ⟨r1, r2, r3, r4, r5, r6⟩
    dsimp only at r1 r2
    subst r1
    obtain ⟨Pd, f, b, ⟨k1, k2, k3⟩, hL, hA, -, -, ⟨u1, u2, -⟩, -⟩ := dq_sides c s0 (k + 1) S u (dqOne_C hc) hs hJ s (by omega)
    have b1 := hA.2.1 u u1 u2
    have b2 := dqN_le (dqP c u S s).2.2.2
    obtain ⟨τ', t1, t2⟩ := hstep s ρ (dqP c u S s) hs4 r2 r3 (by omega) b1.1 (by omega) u2 u1 r5 r6 hA.1
    obtain ⟨g1, g2, g3, g4⟩ := dqQ_S hc (u := u) r3 b1.1 s
    exact ⟨_, t1, rfl, t2, g1, g2.trans r4, Nat.lt_of_lt_of_le r5 g3, (g4 _ r5).trans r6⟩
  · rintro ⟨v, ρ⟩ ⟨r1, r2, r3, r4, -⟩
    dsimp only at r1 r2
    subst r1
    exact ⟨_, hexit ρ, rfl, r2, r3, r4⟩
def xqO (body : Int32 → Int32 × gs_S → Option ((Int32 × gs_S) ⊕ (Int32 × gs_S))) (q : Int32 × gs_S) : Option ((Int32 × gs_S) ⊕ (Int32 × gs_S)) := if (q.2.1 63 18) ≤ q.1 then some (.inr q) else gv_bind (gv_loop (body q.1) gv_N ((0 : Int32), q.2)) (fun r => some (.inl (q.1 + 1, r.2)))
theorem xq_loop {c : Nat → Int} (hc : dqOne c) {s0 : Nat} (h0 : s0 < 64) (hs : ¬ c s0 = -1) {σ τ : gs_S} {rd : Prop} (body : Int32 → Int32 × gs_S → Option ((Int32 × gs_S) ⊕ (Int32 × gs_S)))
    (hstep : ∀ (u k s : Nat) (τ : gs_S) (S : dS), k < 64 → s < 4 → xq σ τ S rd → dqQ S → S.2.1 = 64 + dqN S.2.2.2 → 0 ≤ S.2.2.2 u → S.2.2.2 u ≤ 64 → ¬ S.2.2.2 u = -1 → u < 64 → 64 + k < S.2.1 → S.2.2.1 (64 + k) = u → S.2.2.2 s0 = c s0 → ∃ τ', body (nI k) (nI s, τ) = some (.inl (nI (s + 1), τ')) ∧ xq σ τ' (dqS c u S s) rd)
    (hexit : ∀ k τ, body (nI k) (nI 4, τ) = some (.inr (nI 4, τ)))
    (h : xq σ τ (dq0 c s0) rd) : ∃ K τ', gv_loop (xqO body) gv_N ((0 : Int32), τ) = some (nI K, τ') ∧ xq σ τ' (dqR c (dq0 c s0) 64) rd ∧ dqQ (dqR c (dq0 c s0) 64) ∧ (dqR c (dq0 c s0) 64).2.1 = 64 + dqN (dqF c s0) := by
  obtain ⟨K, k1, k2, k3⟩ := dq_stop c s0 (dqOne_C hc) h0 hs
  have e : dqR c (dq0 c s0) 64 = dqR c (dq0 c s0) K := by
    have := dq_stay c (dq0 c s0) K k3 (64 - K)
    rw [show K + (64 - K) = 64 by omega] at this
    exact this
  have Q0 : dqQ (dq0 c s0) := by
    refine ⟨Nat.le_refl _, fun i i1 i2 => h0, fun q q1 => ?_⟩
    show ¬ (if q = s0 then c s0 else -1) = -1 ↔ ∃ i, 64 ≤ i ∧ i < 65 ∧ s0 = q
    by_cases z : q = s0
    · rw [if_pos z]; exact ⟨fun _ => ⟨64, Nat.le_refl _, by omega, z.symm⟩, fun _ => hs⟩
    · rw [if_neg z]; exact ⟨fun q => absurd rfl q, fun ⟨_, _, _, q⟩ => absurd q.symm z⟩
  have L := gv_rel (xqO body) (fun k q => q.1 = nI k ∧ xq σ q.2 (dqR c (dq0 c s0) k) rd ∧ dqQ (dqR c (dq0 c s0) k) ∧ (dqR c (dq0 c s0) k).1 = 64 + k) K gv_N (gv_N_lt (by omega)) (fun e => e.1 = nI K ∧ xq σ e.2 (dqR c (dq0 c s0) K) rd ∧ dqQ (dqR c (dq0 c s0) K) ∧ (dqR c (dq0 c s0) K).1 = 64 + K) ?_ ?_ ((0 : Int32), τ) ⟨rfl, h, Q0, rfl⟩
  · obtain ⟨⟨e1, e2⟩, l1, l2, l3, l4, l5⟩ := L
    dsimp only at l2 l3
    subst l2
    refine ⟨K, e2, l1, by rw [e]; exact l3, by rw [e]; exact l4, ?_⟩
    obtain ⟨Pd, m, f, b, ⟨j1, j2, j3⟩, -⟩ := dq_round c s0 (dqOne_C hc) h0 hs K k2
    unfold dqF
    rw [e]
    omega
  · rintro k ⟨v, ρ⟩ hk ⟨r1, r2, r3, r4⟩
    dsimp only at r1 r2
    subst r1
    have J := dq_round c s0 (dqOne_C hc) h0 hs k (fun j hj => k2 j (by omega))
    have lt := k2 k hk
    have J1 := dq_pop c s0 k _ J lt
    obtain ⟨Pd, m, f, b, ⟨j1, j2, j3⟩, -⟩ := id J
    have nl := dqN_le (dqR c (dq0 c s0) k).2.2.2
    have e1 : dqR c (dq0 c s0) (k + 1) = dqP c ((dqR c (dq0 c s0) k).2.2.1 (dqR c (dq0 c s0) k).1) ((dqR c (dq0 c s0) k).1 + 1, (dqR c (dq0 c s0) k).2.1, (dqR c (dq0 c s0) k).2.2.1, (dqR c (dq0 c s0) k).2.2.2) 4 := by
      conv => lhs; unfold dqR
      rw [if_pos lt]
    have xx : xq σ ρ ((dqR c (dq0 c s0) k).1 + 1, (dqR c (dq0 c s0) k).2.1, (dqR c (dq0 c s0) k).2.2.1, (dqR c (dq0 c s0) k).2.2.2) rd := r2
    have qq : dqQ ((dqR c (dq0 c s0) k).1 + 1, (dqR c (dq0 c s0) k).2.1, (dqR c (dq0 c s0) k).2.2.1, (dqR c (dq0 c s0) k).2.2.2) := r3
    obtain ⟨τ', t1, t2, t3, t4⟩ := xq_sides hc (k := k) hs (body (nI k)) (fun s τ S a1 a2 a3 a4 a5 a6 a7 a8 a9 a10 a11 => hstep _ k s τ S (by omega) a1 a2 a3 a4 a5 a6 a7 a8 a9 a10 a11) (hexit k) xx qq J1 (by dsimp only; omega) (by dsimp only; omega) (by dsimp only; rw [r4])
    refine ⟨(nI (k + 1), τ'), ?_, rfl, by rw [e1]; exact t2, by rw [e1]; exact t3, by rw [e1]; exact t4⟩
    unfold xqO
    dsimp only
    rw [r2.2.1, if_neg (nI_ge (by omega) (by omega)), t1]
    simp only [gv_bind, nI_1]
  · rintro ⟨v, ρ⟩ ⟨r1, r2, r3, r4⟩
    dsimp only at r1 r2
    subst r1
    refine ⟨(nI K, ρ), ?_, rfl, r2, r3, r4⟩
    unfold xqO
    dsimp only
    rw [r2.2.1, if_pos (nI_le (by omega) (by omega))]
theorem pz_begin {s0 : Nat} (h0 : s0 < 64) (c : Nat → Int) (hc : c s0 = 1) (rd : Prop) (σ : gs_S) : ∃ τ, pX11_beginAt (nI s0) σ = some τ ∧ xq σ τ (dq0 c s0) rd := by
  unfold pX11_beginAt
  have L := gv_rel (fun q : Int32 × gs_S => pX11_beginAt_L2 q.1 q.2) (fun k q => q.1 = nI k ∧ (∀ x, ¬ x = 75 → q.2.1 x = σ.1 x) ∧ q.2.2 = σ.2 ∧ ∀ j, j < k → q.2.1 75 j = -1) 64 gv_N (gv_N_lt (by decide)) (fun e => (∀ x, ¬ x = 75 → e.2.1 x = σ.1 x) ∧ e.2.2 = σ.2 ∧ ∀ j, j < 64 → e.2.1 75 j = -1) ?_ ?_ ((0 : Int32), σ) ⟨rfl, fun _ _ => rfl, rfl, fun j hj => absurd hj (by omega)⟩
  rotate_left
  · rintro k ⟨v, ρ⟩ hk ⟨r1, r2, r3, r4⟩
    dsimp only at r1 r2 r3 r4 ⊢
    subst r1
    refine ⟨(nI (k + 1), gs_u ρ 75 k (-1)), ?_, rfl, fun x x1 => ?_, r3, fun j hj => ?_⟩
    · unfold pX11_beginAt_L2
      rw [if_neg (show ¬ (64 : Int32) ≤ nI k from nI_ge (b := 64) hk (by decide)), pz_inN hk (by decide), nI_clamp (by omega)]
      simp only [gv_let, nI_1]
    · dsimp only
      rw [pz_u, if_neg x1]; exact r2 x x1
    · dsimp only
      rw [pz_u, if_pos rfl, pz_upd]
      by_cases e : j = k
      · rw [if_pos e]
      · rw [if_neg e]; exact r4 j (by omega)
  · rintro ⟨v, ρ⟩ ⟨r1, r2, r3, r4⟩
    dsimp only at r1 r2 r3 r4 ⊢
    subst r1
    refine ⟨(nI 64, ρ), ?_, r2, r3, r4⟩
    unfold pX11_beginAt_L2
    rw [if_pos (by decide)]
  obtain ⟨⟨e1, ρ⟩, l1, l2, l3, l4⟩ := L
  dsimp only at l2 l3 l4
  rw [l1]
  simp only [gv_bind, gv_let]
  unfold pX11_reach
  have a1 : (gs_u ρ 63 18 (0 : Int32)).1 75 s0 = -1 := by rw [pz_u, if_neg (by decide)]; exact l4 s0 h0
  rw [pz_inN h0 (by decide), nI_clamp (by omega), a1, if_neg (by decide), pz_inN h0 (by decide)]
  simp only [gv_let]
  have a2 : (gs_u (gs_u ρ 63 18 (0 : Int32)) 75 s0 0).1 63 18 = nI 0 := by rw [pz_u, if_neg (by decide), pz_ua]; rfl
  rw [a2, pz_inN (by decide) (by decide), nI_clamp (by decide)]
  have a3 : (gs_u (gs_u (gs_u ρ 63 18 (0 : Int32)) 75 s0 0) 74 0 (nI s0)).1 63 18 = nI 0 := by rw [pz_u, if_neg (by decide)]; exact a2
  simp only [a3, nI_1]
  refine ⟨_, rfl, ⟨fun x x1 x2 x3 => ?_, fun i i1 => ?_, ?_⟩, ?_, fun i i1 i2 => ?_, fun q q1 => ?_, fun r q q1 q2 => ?_, fun q q1 q2 => ?_⟩
  · rw [pz_u, if_neg x1, pz_u, if_neg x2, pz_u, if_neg x3, pz_u, if_neg x1]; exact l2 x x3
  · rw [pz_u, if_pos rfl, pz_upd, if_neg i1, pz_u, if_neg (by decide), pz_u, if_neg (by decide), pz_u, if_pos rfl, pz_upd, if_neg i1, l2 63 (by decide)]
  · rw [pz_u2, pz_u2, pz_u2, pz_u2]; exact l3
  · rw [pz_ua]; rfl
  · have e : i = 64 := by
      have : i < 65 := i2
      omega
    subst e
    rw [pz_u, if_neg (by decide), pz_ua]
    rfl
  · rw [pz_u, if_neg (by decide), pz_u, if_neg (by decide), pz_u, if_pos rfl, pz_upd]
    show _ ↔ ¬ (if q = s0 then c s0 else -1) = -1
    by_cases e : q = s0
    · rw [if_pos e, if_pos e, hc]; exact ⟨fun _ => by decide, fun _ => by decide⟩
    · rw [if_neg e, if_neg e, pz_u, if_neg (by decide), l4 q q1]; exact ⟨fun z => absurd z (by decide), fun z => absurd rfl z⟩
  · rw [pz_u, if_neg (by decide), pz_u, if_neg (by decide), pz_u, if_pos rfl, pz_upd]
    have e : q = s0 := Classical.byContradiction fun z => q2 (if_neg z)
    rw [if_pos e]
    show (0 : Int32) = zI ((if q = s0 then c s0 else -1) - 1)
    rw [if_pos e, hc]
    rfl
  · rw [pz_u, if_neg (by decide), pz_u, if_neg (by decide), pz_u, if_pos rfl, pz_upd]
    have e : ¬ q = s0 := fun e => by
      have : (if q = s0 then c s0 else -1) = -1 := q2
      rw [if_pos e, hc] at this
      exact absurd this (by decide)
    rw [if_neg e, pz_u, if_neg (by decide)]
    exact l4 q q1
