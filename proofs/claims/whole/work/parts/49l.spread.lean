/-! PURE, 49l: the class's spread is the line's; lengths of roads on both sides -/
theorem zI_m1 : (-1 : Int32) = zI (-1) := by decide
theorem zI_0 : (0 : Int32) = zI 0 := by decide
theorem zI_1 : (1 : Int32) = zI 1 := by decide
theorem nI_m1 {n : Nat} (h : n < 1000) : ¬ nI n = (-1 : Int32) := by
  rw [← zI_n, zI_m1, zI_eq (by omega) (by omega) (by omega) (by omega)]
  omega
theorem pz_fill (t : Nat) (a : Int32) (σ : gs_S) (hg : gl t < 1000) : pJ7_fill_53178 t a σ = some (gs_w σ t (fun i => if i < gl t then a else σ.1 t i)) := by
  unfold pJ7_fill_53178
  have h := gv_for (fun q : Int32 × gs_S => pJ7_fill_53178_L5 (Int32.ofNat (gl t)) t a q.1 q.2) (fun k => (nI k, gs_w σ t (fun i => if i < k then a else σ.1 t i))) (gl t) gv_N (gv_N_lt (by omega)) (nI (gl t), gs_w σ t (fun i => if i < gl t then a else σ.1 t i)) ?_ ?_
  · have e : gs_w σ t (fun i => if i < 0 then a else σ.1 t i) = σ := by
      rw [show (fun i => if i < 0 then a else σ.1 t i) = σ.1 t from funext fun i => if_neg (by omega)]
      exact pz_ws σ t
    rw [e] at h
    have h2 : gv_loop (fun q : Int32 × gs_S => pJ7_fill_53178_L5 (Int32.ofNat (gl t)) t a q.1 q.2) gv_N ((0 : Int32), σ) = some (nI (gl t), gs_w σ t (fun i => if i < gl t then a else σ.1 t i)) := h
    simp only [gv_let]
    rw [h2]; rfl
  · intro k hk
    dsimp only
    unfold pJ7_fill_53178_L5
    rw [if_neg (show ¬ Int32.ofNat (gl t) ≤ nI k from nI_ge hk (by omega)), pz_inN hk (by omega), nI_clamp (by omega)]
    simp only [gv_let, nI_1, pz_uw]
    congr 4
    funext i
    rw [pz_upd]
    by_cases e : i = k
    · rw [if_pos e, if_pos (by omega)]
    · rw [if_neg e]
      exact pz_ite (by omega) _ _
  · dsimp only
    unfold pJ7_fill_53178_L5
    rw [if_pos (show Int32.ofNat (gl t) ≤ nI (gl t) from nI_le (Nat.le_refl _) (by omega))]
def yq (σ τ : gs_S) (S : dS) : Prop := (∀ x, ¬ x = 41 → ¬ x = 42 → τ.1 x = σ.1 x) ∧ τ.2 = σ.2 ∧ (∀ q, q < 64 → τ.1 41 q = zI (S.2.2.2 q)) ∧ (∀ i, S.1 ≤ i → i < S.2.1 → τ.1 42 i = nI (S.2.2.1 i))
theorem yq_side {c : Nat → Int} (hc : dqC c) {σ τ : gs_S} {S : dS} {s0 p u k : Nat} (hcost : ∀ q, q < 64 → σ.1 40 q = zI (c q)) (hk : k < 4) (h : yq σ τ S) (hJ : dqJ1 c s0 p S u k) : ∃ τ', pX3_spread_L73 (nI u) (nI S.1) (nI S.2.1) (nI k) τ = some (.inl (nI (dqS c u S k).1, nI (dqS c u S k).2.1, nI (k + 1), τ')) ∧ yq σ τ' (dqS c u S k) := by
  obtain ⟨Pd, f, b, ⟨k1, k2, k3⟩, ⟨l1, l2, l3⟩, hA, -, -, ⟨u1, u2, -⟩, -⟩ := hJ
  obtain ⟨y1, y2, y3, y4⟩ := id h
  have nle := dqN_le S.2.2.2
  have Db : ∀ q, q < 64 → -1 ≤ S.2.2.2 q ∧ S.2.2.2 q ≤ 64 := fun q hq => by
    by_cases z : S.2.2.2 q = -1
    · omega
    · have := hA.2.1 q hq z; omega
  have e40 : ∀ q, q < 64 → τ.1 40 q = zI (c q) := fun q hq => by rw [y1 40 (by decide) (by decide)]; exact hcost q hq
  unfold pX3_spread_L73
  rw [if_neg (show ¬ (4 : Int32) ≤ nI k from nI_ge (b := 4) hk (by decide)), (zNb_x u u1 k hk).2]
  by_cases v : zNb u k < 64
  rotate_left
  · rw [if_neg v, gv_let_p, if_pos rfl, gv_let_p, nI_1]
    have e : dqS c u S k = S := by unfold dqS; rw [if_neg (fun z => v z.1)]
    rw [e]
    exact ⟨τ, rfl, h⟩
  have cb : -1 ≤ c (zNb u k) ∧ c (zNb u k) ≤ 1 := by rcases hc _ v with q | q | q <;> omega
  rw [if_pos v, gv_let_p, if_neg (nI_m1 (by omega)), pz_inN v (by decide), nI_clamp (by omega), e40 _ v]
  by_cases c1 : c (zNb u k) = -1
  · rw [if_pos (by rw [c1]; exact zI_m1.symm), gv_let_p, nI_1]
    have e : dqS c u S k = S := by unfold dqS; rw [if_neg (fun z => z.2.1 c1)]
    rw [e]
    exact ⟨τ, rfl, h⟩
  rw [if_neg (fun z => c1 ((zI_eq (by omega) (by omega) (by omega) (by omega)).mp (z.trans zI_m1))), pz_inN v (by decide), y3 _ v]
  by_cases d1 : S.2.2.2 (zNb u k) = -1
  rotate_left
  · rw [if_neg (fun z => d1 ((zI_eq (by have := Db _ v; omega) (by have := Db _ v; omega) (by omega) (by omega)).mp (z.trans zI_m1))), gv_let_p, nI_1]
    have e : dqS c u S k = S := by unfold dqS; rw [if_neg (fun z => d1 z.2.2)]
    rw [e]
    exact ⟨τ, rfl, h⟩
  have nlt := dqN_lt _ _ v d1
  rw [if_pos (by rw [d1]; exact zI_m1.symm), pz_inN u1 (by decide), pz_inN v (by decide), pz_inN v (by decide), nI_clamp (show u < 2 ^ 31 by omega), y3 u u1, zI_add, gv_let_p, pz_inN v (by decide)]
  have f40 : (gs_u τ 41 (zNb u k) (zI (S.2.2.2 u + c (zNb u k)))).1 40 (zNb u k) = zI (c (zNb u k)) := by rw [pz_u, if_neg (by decide)]; exact e40 _ v
  rw [f40]
  by_cases c0 : c (zNb u k) = 0
  · have e : dqS c u S k = (S.1 - 1, S.2.1, (fun i => if i = S.1 - 1 then zNb u k else S.2.2.1 i), (fun q => if q = zNb u k then S.2.2.2 u + c (zNb u k) else S.2.2.2 q)) := by
      unfold dqS
      rw [if_pos ⟨v, c1, d1⟩, if_pos c0]
    rw [e]
    have hm : nI S.1 + (-1 : Int32) = nI (S.1 - 1) := by
      obtain ⟨j, hj⟩ : ∃ j, S.1 = j + 1 := ⟨S.1 - 1, by omega⟩
      rw [hj, pk_m1, Nat.add_sub_cancel]
    rw [if_pos (by rw [c0]; exact zI_0.symm), hm, gv_let_p, pz_inN (by omega) (by decide), nI_clamp (by omega), gv_let_p, gv_let_p, nI_1]
    refine ⟨_, rfl, fun x x1 x2 => ?_, y2, fun q hq => ?_, fun i i1 i2 => ?_⟩
    · rw [pz_u, if_neg x2, pz_u, if_neg x1]; exact y1 x x1 x2
    · dsimp only
      rw [pz_u, if_neg (by decide), pz_u, if_pos rfl, pz_upd]
      by_cases z : q = zNb u k
      · rw [if_pos z, if_pos z]
      · rw [if_neg z, if_neg z]; exact y3 q hq
    · dsimp only at i1 i2 ⊢
      rw [pz_u, if_pos rfl, pz_upd]
      by_cases z : i = S.1 - 1
      · rw [if_pos z, if_pos z]
      · rw [if_neg z, if_neg z, pz_u, if_neg (by decide)]; exact y4 i (by omega) i2
  · have e : dqS c u S k = (S.1, S.2.1 + 1, (fun i => if i = S.2.1 then zNb u k else S.2.2.1 i), (fun q => if q = zNb u k then S.2.2.2 u + c (zNb u k) else S.2.2.2 q)) := by
      unfold dqS
      rw [if_pos ⟨v, c1, d1⟩, if_neg c0]
    rw [e]
    rw [if_neg (fun z => c0 ((zI_eq (by omega) (by omega) (by omega) (by omega)).mp (z.trans zI_0))), pz_inN (by omega) (by decide), nI_clamp (by omega), gv_let_p, gv_let_p, gv_let_p, nI_1, nI_1]
    refine ⟨_, rfl, fun x x1 x2 => ?_, y2, fun q hq => ?_, fun i i1 i2 => ?_⟩
    · rw [pz_u, if_neg x2, pz_u, if_neg x1]; exact y1 x x1 x2
    · dsimp only
      rw [pz_u, if_neg (by decide), pz_u, if_pos rfl, pz_upd]
      by_cases z : q = zNb u k
      · rw [if_pos z, if_pos z]
      · rw [if_neg z, if_neg z]; exact y3 q hq
    · dsimp only at i1 i2 ⊢
      rw [pz_u, if_pos rfl, pz_upd]
      by_cases z : i = S.2.1
      · rw [if_pos z, if_pos z]
      · rw [if_neg z, if_neg z, pz_u, if_neg (by decide)]; exact y4 i i1 (by omega)
theorem yq_sides {c : Nat → Int} (hc : dqC c) {σ τ : gs_S} {S : dS} {s0 p u : Nat} (hs : ¬ c s0 = -1) (hcost : ∀ q, q < 64 → σ.1 40 q = zI (c q)) (h : yq σ τ S) (hJ : dqJ1 c s0 p S u 0) : ∃ τ', gv_loop (fun q : Int32 × Int32 × Int32 × gs_S => pX3_spread_L73 (nI u) q.1 q.2.1 q.2.2.1 q.2.2.2) gv_N (nI S.1, nI S.2.1, (0 : Int32), τ) = some (nI (dqP c u S 4).1, nI (dqP c u S 4).2.1, nI 4, τ') ∧ yq σ τ' (dqP c u S 4) := by
  have L := gv_rel (fun q : Int32 × Int32 × Int32 × gs_S => pX3_spread_L73 (nI u) q.1 q.2.1 q.2.2.1 q.2.2.2) (fun k q => q.1 = nI (dqP c u S k).1 ∧ q.2.1 = nI (dqP c u S k).2.1 ∧ q.2.2.1 = nI k ∧ yq σ q.2.2.2 (dqP c u S k)) 4 gv_N (gv_N_lt (by decide)) (fun q => q.1 = nI (dqP c u S 4).1 ∧ q.2.1 = nI (dqP c u S 4).2.1 ∧ q.2.2.1 = nI 4 ∧ yq σ q.2.2.2 (dqP c u S 4)) ?_ ?_ (nI S.1, nI S.2.1, (0 : Int32), τ) ⟨rfl, rfl, rfl, h⟩
  · obtain ⟨⟨a, b, d, τ'⟩, l1, l2, l3, l4, l5⟩ := L
    dsimp only at l2 l3 l4 l5
    subst l2 l3 l4
    exact ⟨τ', l1, l5⟩
  · rintro k ⟨a, b, d, ρ⟩ hk ⟨r1, r2, r3, r4⟩
    dsimp only at r1 r2 r3 r4
    subst r1 r2 r3
    obtain ⟨τ', t1, t2⟩ := yq_side hc hcost hk r4 (dq_sides c s0 p S u hc hs hJ k (by omega))
    exact ⟨_, t1, rfl, rfl, rfl, t2⟩
  · rintro ⟨a, b, d, ρ⟩ ⟨r1, r2, r3, r4⟩
    dsimp only at r1 r2 r3 r4
    subst r1 r2 r3
    refine ⟨(nI (dqP c u S 4).1, nI (dqP c u S 4).2.1, nI 4, ρ), ?_, rfl, rfl, rfl, r4⟩
    dsimp only
    unfold pX3_spread_L73
    rw [if_pos (by decide)]
def dqE (c : Nat → Int) (s q : Nat) : Int := if c s = -1 then -1 else dqF c s q
theorem pz_spread {s0 : Nat} (h0 : s0 < 64) (c : Nat → Int) (hc : dqC c) (σ : gs_S) (hcost : ∀ q, q < 64 → σ.1 40 q = zI (c q)) : ∃ τ, pX3_spread (nI s0) σ = some τ ∧ (∀ x, ¬ x = 41 → ¬ x = 42 → τ.1 x = σ.1 x) ∧ τ.2 = σ.2 ∧ ∀ q, q < 64 → τ.1 41 q = zI (dqE c s0 q) := by
  unfold pX3_spread
  rw [pz_fill 41 (-1) σ (by decide)]
  simp only [gv_bind]
  obtain ⟨φ, eφ⟩ : ∃ φ, φ = gs_w σ 41 (fun i => if i < gl 41 then (-1 : Int32) else σ.1 41 i) := ⟨_, rfl⟩
  rw [← eφ]
  have p1 : ∀ x, ¬ x = 41 → φ.1 x = σ.1 x := fun x hx => by rw [eφ, pz_w, if_neg hx]
  have p41 : ∀ q, q < 64 → φ.1 41 q = -1 := fun q hq => by rw [eφ, pz_wc]; exact if_pos hq
  have cb : -1 ≤ c s0 ∧ c s0 ≤ 1 := by rcases hc _ h0 with q | q | q <;> omega
  rw [pz_inN h0 (by decide), nI_clamp (by omega), p1 40 (by decide), hcost s0 h0]
  by_cases cs : c s0 = -1
  · rw [if_pos (by rw [cs]; exact zI_m1.symm)]
    refine ⟨φ, rfl, fun x x1 _ => p1 x x1, by rw [eφ]; rfl, fun q hq => ?_⟩
    unfold dqE
    rw [if_pos cs, p41 q hq]; exact zI_m1
  rw [if_neg (fun z => cs ((zI_eq (by omega) (by omega) (by omega) (by omega)).mp (z.trans zI_m1)))]
  simp only [gv_let]
  rw [pz_inN h0 (by decide), pz_inN h0 (by decide), show (64 : Int32).toNatClampNeg = 64 from rfl]
  have e40 : (gs_u φ 42 64 (nI s0)).1 40 s0 = zI (c s0) := by rw [pz_u, if_neg (by decide), p1 40 (by decide), hcost s0 h0]
  rw [e40]
  obtain ⟨ψ, eψ⟩ : ∃ ψ, ψ = gs_u (gs_u φ 42 64 (nI s0)) 41 s0 (zI (c s0)) := ⟨_, rfl⟩
  rw [← eψ]
  have Y0 : yq σ ψ (dq0 c s0) := by
    refine ⟨fun x x1 x2 => ?_, ?_, fun q hq => ?_, fun i i1 i2 => ?_⟩
    · rw [eψ, pz_u, if_neg x1, pz_u, if_neg x2, p1 x x1]
    · rw [eψ, pz_u2, pz_u2, eφ, pz_w2]
    · rw [eψ, pz_u, if_pos rfl, pz_upd]
      show _ = zI (if q = s0 then c s0 else -1)
      by_cases z : q = s0
      · rw [if_pos z, if_pos z]
      · rw [if_neg z, if_neg z, pz_u, if_neg (by decide), p41 q hq]; exact zI_m1
    · have : i < 65 := i2
      have : 64 ≤ i := i1
      have e : i = 64 := by omega
      subst e
      rw [eψ, pz_u, if_neg (by decide), pz_ua]
      rfl
  obtain ⟨K, k1, k2, k3⟩ := dq_stop c s0 hc h0 cs
  have e : dqR c (dq0 c s0) 64 = dqR c (dq0 c s0) K := by
    have := dq_stay c (dq0 c s0) K k3 (64 - K)
    rw [show K + (64 - K) = 64 by omega] at this
    exact this
  have L := gv_rel (fun q : Int32 × Int32 × Int32 × gs_S => pX3_spread_L47 q.1 q.2.1 q.2.2.1 q.2.2.2) (fun k q => q.1 = nI (dqR c (dq0 c s0) k).1 ∧ q.2.1 = nI (dqR c (dq0 c s0) k).2.1 ∧ q.2.2.1 = nI k ∧ yq σ q.2.2.2 (dqR c (dq0 c s0) k)) K gv_N (gv_N_lt (by omega)) (fun q => yq σ q.2.2.2 (dqR c (dq0 c s0) K)) ?_ ?_ ((64 : Int32), (65 : Int32), (0 : Int32), ψ) ⟨rfl, rfl, rfl, Y0⟩
  · obtain ⟨⟨a, b, d, τ⟩, l1, l2⟩ := L
    dsimp only at l2
    rw [l1]
    refine ⟨τ, rfl, l2.1, l2.2.1, fun q hq => ?_⟩
    unfold dqE dqF
    rw [if_neg cs, e]
    exact l2.2.2.1 q hq
  · rintro k ⟨a, b, d, ρ⟩ hk ⟨r1, r2, r3, r4⟩
    dsimp only at r1 r2 r3 r4
    subst r1 r2 r3
    have J := dq_round c s0 hc h0 cs k (fun j hj => k2 j (by omega))
    have lt := k2 k hk
    have J1 := dq_pop c s0 k _ J lt
    obtain ⟨Pd, m, f, b, ⟨j1, j2, j3⟩, -⟩ := id J
    have nl := dqN_le (dqR c (dq0 c s0) k).2.2.2
    have e1 : dqR c (dq0 c s0) (k + 1) = dqP c ((dqR c (dq0 c s0) k).2.2.1 (dqR c (dq0 c s0) k).1) ((dqR c (dq0 c s0) k).1 + 1, (dqR c (dq0 c s0) k).2.1, (dqR c (dq0 c s0) k).2.2.1, (dqR c (dq0 c s0) k).2.2.2) 4 := by
      conv => lhs; unfold dqR
      rw [if_pos lt]
    have yy : yq σ ρ ((dqR c (dq0 c s0) k).1 + 1, (dqR c (dq0 c s0) k).2.1, (dqR c (dq0 c s0) k).2.2.1, (dqR c (dq0 c s0) k).2.2.2) := ⟨r4.1, r4.2.1, r4.2.2.1, fun i i1 i2 => r4.2.2.2 i (by dsimp only at i1; omega) i2⟩
    obtain ⟨τ', t1, t2⟩ := yq_sides hc cs hcost yy J1
    refine ⟨(nI (dqR c (dq0 c s0) (k + 1)).1, nI (dqR c (dq0 c s0) (k + 1)).2.1, nI (k + 1), τ'), ?_, rfl, rfl, rfl, by rw [e1]; exact t2⟩
    dsimp only at t1 ⊢
    unfold pX3_spread_L47
    rw [if_neg (show ¬ (64 : Int32) ≤ nI k from nI_ge (b := 64) (by omega) (by decide)), if_neg (nI_ge lt (by omega)), pz_inN (by omega) (by decide), nI_clamp (by omega), r4.2.2.2 _ (Nat.le_refl _) lt]
    simp only [gv_let, nI_1]
    rw [t1]
    simp only [gv_bind]
    rw [e1]
  · rintro ⟨a, b, d, ρ⟩ ⟨r1, r2, r3, r4⟩
    dsimp only at r1 r2 r3 r4
    subst r1 r2 r3
    obtain ⟨Pd, m, f, b, ⟨j1, j2, j3⟩, -⟩ := dq_round c s0 hc h0 cs K k2
    have nl := dqN_le (dqR c (dq0 c s0) K).2.2.2
    refine ⟨(nI (dqR c (dq0 c s0) K).1, nI (dqR c (dq0 c s0) K).2.1, nI K, ρ), ?_, r4⟩
    dsimp only
    unfold pX3_spread_L47
    by_cases z : 64 ≤ K
    · rw [if_pos (show (64 : Int32) ≤ nI K from nI_le z (by omega))]
    · rw [if_neg (show ¬ (64 : Int32) ≤ nI K from nI_ge (b := 64) (by omega) (by decide)), if_pos (nI_le (by omega) (by omega))]
def zCo (b : Nat → Int32) (w : Int32) : Nat → Int := fun q => if b q < w then -1 else 1
theorem zCo_one (b : Nat → Int32) (w : Int32) : dqOne (zCo b w) := fun q _ => by
  unfold zCo
  by_cases c : b q < w
  · rw [if_pos c]; exact Or.inl rfl
  · rw [if_neg c]; exact Or.inr rfl
theorem zCo_eq {b b2 : Nat → Int32} (w : Int32) (h : ∀ q, q < 64 → b q = b2 q) : ∀ q, q < 64 → zCo b w q = zCo b2 w q := fun q hq => by unfold zCo; rw [h q hq]
theorem dqE_b (c : Nat → Int) (s q : Nat) (hc : dqC c) (hs : s < 64) (hq : q < 64) : dqE c s q = -1 ∨ (0 ≤ dqE c s q ∧ dqE c s q ≤ 64) := by
  unfold dqE
  by_cases z : c s = -1
  · rw [if_pos z]; exact Or.inl rfl
  · rw [if_neg z]
    by_cases y : dqF c s q = -1
    · exact Or.inl y
    · have := (dq_fin c s hc hs z).1.2.1 q hq y
      have := dqN_le (dqF c s)
      exact Or.inr (by omega)
/-- the class's length -/
theorem pz_length {a b : Nat} (ha : a < 64) (hb : b < 64) (w : Int32) (σ : gs_S) : ∃ τ, pX3_length (nI a) (nI b) w σ = some (if dqE (zCo (σ.1 39) w) b a = -1 then -4 else zI (dqE (zCo (σ.1 39) w) b a), τ) ∧ (∀ x, ¬ x = 40 → ¬ x = 41 → ¬ x = 42 → τ.1 x = σ.1 x) ∧ τ.2 = σ.2 ∧ ∀ q, q < 64 → τ.1 41 q = zI (dqE (zCo (σ.1 39) w) b q) := by
  unfold pX3_length
  have L := gv_rel (fun q : Int32 × gs_S => pX3_length_L3 w q.1 q.2) (fun k q => q.1 = nI k ∧ (∀ x, ¬ x = 40 → q.2.1 x = σ.1 x) ∧ q.2.2 = σ.2 ∧ ∀ j, j < k → q.2.1 40 j = zI (zCo (σ.1 39) w j)) 64 gv_N (gv_N_lt (by decide)) (fun q => (∀ x, ¬ x = 40 → q.2.1 x = σ.1 x) ∧ q.2.2 = σ.2 ∧ ∀ j, j < 64 → q.2.1 40 j = zI (zCo (σ.1 39) w j)) ?_ ?_ ((0 : Int32), σ) ⟨rfl, fun _ _ => rfl, rfl, fun j hj => absurd hj (by omega)⟩
  · obtain ⟨⟨v, φ⟩, l1, l2, l3, l4⟩ := L
    dsimp only at l2 l3 l4
    rw [l1]
    simp only [gv_bind, gv_let]
    obtain ⟨τ, t1, t2, t3, t4⟩ := pz_spread hb (zCo (σ.1 39) w) (dqOne_C (zCo_one _ _)) φ l4
    rw [t1]
    simp only
    rw [pz_inN ha (by decide), nI_clamp (by omega), t4 a ha]
    have eb := dqE_b (zCo (σ.1 39) w) b a (dqOne_C (zCo_one _ _)) hb ha
    refine ⟨τ, ?_, fun x x1 x2 x3 => by rw [t2 x x2 x3, l2 x x1], by rw [t3, l3], t4⟩
    by_cases z : dqE (zCo (σ.1 39) w) b a = -1
    · rw [if_pos z, if_pos (by rw [z]; exact zI_m1.symm)]
    · rw [if_neg z, if_neg (fun y => z ((zI_eq (by omega) (by omega) (by omega) (by omega)).mp (y.trans zI_m1))), pz_inN ha (by decide)]
  · rintro k ⟨v, ρ⟩ hk ⟨r1, r2, r3, r4⟩
    dsimp only at r1 r2 r3 r4 ⊢
    subst r1
    unfold pX3_length_L3
    rw [if_neg (show ¬ (64 : Int32) ≤ nI k from nI_ge (b := 64) hk (by decide)), pz_inN hk (by decide), nI_clamp (by omega), r2 39 (by decide)]
    have fin : ∀ y : Int32, y = zI (zCo (σ.1 39) w k) → (∀ x, ¬ x = 40 → (gs_u ρ 40 k y).1 x = σ.1 x) ∧ (gs_u ρ 40 k y).2 = σ.2 ∧ ∀ j, j < k + 1 → (gs_u ρ 40 k y).1 40 j = zI (zCo (σ.1 39) w j) := fun y hy => by
      refine ⟨fun x hx => by rw [pz_u, if_neg hx]; exact r2 x hx, r3, fun j hj => ?_⟩
      rw [pz_u, if_pos rfl, pz_upd]
      by_cases z : j = k
      · rw [if_pos z, hy, z]
      · rw [if_neg z]; exact r4 j (by omega)
    by_cases z : σ.1 39 k < w
    · rw [if_pos z, pz_inN hk (by decide)]
      simp only [gv_let, nI_1]
      exact ⟨_, rfl, rfl, fin (-1) (by unfold zCo; rw [if_pos z]; exact zI_m1)⟩
    · rw [if_neg z, pz_inN hk (by decide)]
      simp only [gv_let, nI_1]
      exact ⟨_, rfl, rfl, fin 1 (by unfold zCo; rw [if_neg z]; exact zI_1)⟩
  · rintro ⟨v, ρ⟩ ⟨r1, r2, r3, r4⟩
    dsimp only at r1 r2 r3 r4 ⊢
    subst r1
    unfold pX3_length_L3
    rw [if_pos (by decide)]
    exact ⟨_, rfl, r2, r3, r4⟩
/-- the reference's length -/
theorem pz_size {a b : Nat} (ha : a < 64) (hb : b < 64) (w : Int32) (σ : gs_S) : ∃ τ, pX11_roadSize (nI a) (nI b) w σ = some (if dqE (zCo (σ.1 76) w) b a = -1 then 0 else zI (dqE (zCo (σ.1 76) w) b a), τ) ∧ ((∀ c, ¬ c = 63 → ¬ c = 74 → ¬ c = 75 → τ.1 c = σ.1 c) ∧ (∀ i, ¬ i = 18 → τ.1 63 i = σ.1 63 i) ∧ τ.2 = σ.2) ∧ (¬ zCo (σ.1 76) w b = -1 → ∀ q, q < 64 → (0 ≤ τ.1 75 q ↔ ¬ dqE (zCo (σ.1 76) w) b q = -1) ∧ (¬ dqE (zCo (σ.1 76) w) b q = -1 → τ.1 75 q = zI (dqE (zCo (σ.1 76) w) b q - 1))) := by
  obtain ⟨c, hcc⟩ : ∃ c, c = zCo (σ.1 76) w := ⟨_, rfl⟩
  rw [← hcc]
  have one : dqOne c := by rw [hcc]; exact zCo_one _ _
  unfold pX11_roadSize
  by_cases cs : c b = -1
  · -- begin with any costs that are 1 there
    obtain ⟨τ, b1, b2⟩ := pz_begin hb (fun _ => 1) rfl False σ
    rw [b1]
    simp only [gv_bind]
    rw [pz_inN hb (by decide), nI_clamp (by omega), b2.1.1 76 (by decide) (by decide) (by decide)]
    have lt : σ.1 76 b < w := by
      rw [hcc] at cs
      unfold zCo at cs
      by_cases z : σ.1 76 b < w
      · exact z
      · rw [if_neg z] at cs; exact absurd cs (by decide)
    rw [if_neg (by rw [Int32.not_le]; exact lt)]
    refine ⟨τ, ?_, b2.1, fun z => absurd cs z⟩
    have e : dqE c b a = -1 := by unfold dqE; rw [if_pos cs]
    rw [if_pos e]
  have cs1 : c b = 1 := by rcases one b hb with z | z; exact absurd z cs; exact z
  have nlt : ¬ σ.1 76 b < w := fun z => cs (by rw [hcc]; exact if_pos z)
  obtain ⟨τ, b1, b2⟩ := pz_begin hb c cs1 True σ
  obtain ⟨K, υ, l1, l2, l3, l4⟩ := xq_loop one hb cs (fun v q => pX11_roadSize_L32 v w q.1 q.2) (σ := σ) (τ := τ) (rd := True) (by
    intro u k s τ S hk hs hx hQ hN u1 u2 u3 u4 u5 u6 u7
    dsimp only
    unfold pX11_roadSize_L32
    have e74 : τ.1 74 k = nI u := by
      have := hx.2.2.1 (64 + k) (by omega) u5
      rw [show 64 + k - 64 = k by omega, u6] at this
      exact this
    rw [if_neg (show ¬ (4 : Int32) ≤ nI s from nI_ge (b := 4) hs (by decide)), pz_inN hk (by decide), nI_clamp (show k < 2 ^ 31 by omega), e74, (zNb_x u u4 s hs).1]
    simp only [gv_let]
    by_cases v : zNb u s < 64
    rotate_left
    · rw [if_neg v, if_pos (by decide), nI_1]
      refine ⟨τ, rfl, ?_⟩
      unfold dqS
      rw [if_neg (fun z => v z.1)]
      exact hx
    rw [if_pos v, if_neg (nI_pos (by omega)), pz_inN v (by decide), nI_clamp (show zNb u s < 2 ^ 31 by omega), hx.1.1 76 (by decide) (by decide) (by decide)]
    by_cases z : σ.1 76 (zNb u s) < w
    · rw [if_pos z, nI_1]
      refine ⟨τ, rfl, ?_⟩
      unfold dqS
      rw [if_neg (fun y => y.2.1 (by rw [hcc]; exact if_pos z))]
      exact hx
    · have cv : c (zNb u s) = 1 := by rw [hcc]; exact if_neg z
      rw [if_neg z, pz_inN hk (by decide), pz_inN u4 (by decide), nI_clamp (show u < 2 ^ 31 by omega), hx.2.2.2.2.1 trivial u u4 u3, zI_1, zI_add]
      obtain ⟨τ', t1, t2⟩ := xq_reach one (a := zI (S.2.2.2 u - 1 + 1)) hx hQ hN u1 v (by rw [cv]; decide) (by rw [zI_0, zI_le (by omega) (by omega) (by omega) (by omega)]; omega) (fun _ => by rw [cv]; exact congrArg zI (by omega))
      rw [t1]
      simp only [gv_bind]
      rw [← zI_1, nI_1]
      exact ⟨τ', rfl, t2⟩) (by
    intro k τ
    dsimp only
    unfold pX11_roadSize_L32
    rw [if_pos (by decide)]) b2
  obtain ⟨A, F⟩ := dq_fin c b (dqOne_C one) hb cs
  have nl := dqN_le (dqF c b)
  rw [b1]
  simp only [gv_bind]
  rw [pz_inN hb (by decide), nI_clamp (show b < 2 ^ 31 by omega), b2.1.1 76 (by decide) (by decide) (by decide), if_pos (by rw [← Int32.not_lt]; exact nlt)]
  have l1' : gv_loop (fun q : Int32 × gs_S => pX11_roadSize_L20 w q.1 q.2) gv_N ((0 : Int32), τ) = some (nI K, υ) := l1
  rw [l1']
  simp only [gv_let]
  rw [pz_inN ha (by decide), nI_clamp (show a < 2 ^ 31 by omega)]
  have eE : ∀ q, dqE c b q = dqF c b q := fun q => by unfold dqE; rw [if_neg cs]
  refine ⟨υ, ?_, l2.1, fun _ q hq => ⟨by rw [eE]; exact l2.2.2.2.1 q hq, fun z => by rw [eE] at z ⊢; exact l2.2.2.2.2.1 trivial q hq z⟩⟩
  rw [eE]
  by_cases z : dqF c b a = -1
  · rw [if_pos z, l2.2.2.2.2.2 a ha z, show (-1 : Int32) + 1 = 0 from by decide]
  · rw [if_neg z, l2.2.2.2.2.1 trivial a ha z, zI_1, zI_add]
    show some (zI (dqF c b a - 1 + 1), υ) = _
    rw [show dqF c b a - 1 + 1 = dqF c b a by omega]
