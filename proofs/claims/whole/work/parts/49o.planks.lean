/-! PURE, 49o: planks -/
def zPc (f : Nat → Int32) (w : Int32) : Nat → Int := fun q => if pX11_bearsBy (f q) (f (64 + q)) < w then (if pX11_bearsBy (f q) (f (64 + q)) + (180 : Int32) < w then -1 else 1) else 0
theorem zPc_C (f : Nat → Int32) (w : Int32) : dqC (zPc f w) := fun q _ => by
  unfold zPc
  by_cases c : pX11_bearsBy (f q) (f (64 + q)) < w
  · rw [if_pos c]
    by_cases d : pX11_bearsBy (f q) (f (64 + q)) + (180 : Int32) < w
    · rw [if_pos d]; exact Or.inl rfl
    · rw [if_neg d]; exact Or.inr (Or.inr rfl)
  · rw [if_neg c]; exact Or.inr (Or.inl rfl)
theorem zPc_eq {f g : Nat → Int32} (w : Int32) (h : ∀ q, q < 320 → f q = g q) : ∀ q, q < 64 → zPc f w q = zPc g w q := fun q hq => by unfold zPc; rw [h q (by omega), h (64 + q) (by omega)]
/-- the class's fewest -/
theorem pz_laid {a b : Nat} (ha : a < 64) (hb : b < 64) (w : Int32) (σ : gs_S) (hk : ∀ k, k < 64 → iv_in (σ.1 3 (64 + k)) 0 4) : ∃ τ, pX3_fewestLaid (nI a) (nI b) w σ = some (if dqE (zPc (σ.1 3) w) a b = -1 then -4 else zI (dqE (zPc (σ.1 3) w) a b), τ) ∧ (∀ x, ¬ x = 40 → ¬ x = 41 → ¬ x = 42 → τ.1 x = σ.1 x) ∧ τ.2 = σ.2 := by
  unfold pX3_fewestLaid
  have L := gv_rel (fun q : Int32 × gs_S => pX3_fewestLaid_L3 w q.1 q.2) (fun k q => q.1 = nI k ∧ (∀ x, ¬ x = 40 → q.2.1 x = σ.1 x) ∧ q.2.2 = σ.2 ∧ ∀ j, j < k → q.2.1 40 j = zI (zPc (σ.1 3) w j)) 64 gv_N (gv_N_lt (by decide)) (fun q => (∀ x, ¬ x = 40 → q.2.1 x = σ.1 x) ∧ q.2.2 = σ.2 ∧ ∀ j, j < 64 → q.2.1 40 j = zI (zPc (σ.1 3) w j)) ?_ ?_ ((0 : Int32), σ) ⟨rfl, fun _ _ => rfl, rfl, fun j hj => absurd hj (by omega)⟩
  · obtain ⟨⟨v, φ⟩, l1, l2, l3, l4⟩ := L
    dsimp only at l2 l3 l4
    rw [l1, gv_bind_some, gv_let_p, gv_let_p]
    dsimp only
    obtain ⟨τ, t1, t2, t3, t4⟩ := pz_spread ha (zPc (σ.1 3) w) (zPc_C _ _) φ l4
    rw [t1, gv_bind_some, pz_inN hb (by decide), nI_clamp (by omega), t4 b hb]
    have eb := dqE_b (zPc (σ.1 3) w) a b (zPc_C _ _) ha hb
    refine ⟨τ, ?_, fun x x1 x2 x3 => by rw [t2 x x2 x3, l2 x x1], by rw [t3, l3]⟩
    by_cases z : dqE (zPc (σ.1 3) w) a b = -1
    · rw [if_pos z, if_pos (by rw [z]; exact zI_m1.symm)]
    · rw [if_neg z, if_neg (fun y => z ((zI_eq (by omega) (by omega) (by omega) (by omega)).mp (y.trans zI_m1))), pz_inN hb (by decide)]
  · rintro k ⟨v, ρ⟩ k1 ⟨r1, r2, r3, r4⟩
    dsimp only at r1 r2 r3 r4 ⊢
    subst r1
    unfold pX3_fewestLaid_L3 pX3_fewestLaid_J41
    have fin : ∀ y : Int32, y = zI (zPc (σ.1 3) w k) → (∀ x, ¬ x = 40 → (gs_u ρ 40 k y).1 x = σ.1 x) ∧ (gs_u ρ 40 k y).2 = σ.2 ∧ ∀ j, j < k + 1 → (gs_u ρ 40 k y).1 40 j = zI (zPc (σ.1 3) w j) := fun y hy => by
      refine ⟨fun x hx => by rw [pz_u, if_neg hx]; exact r2 x hx, r3, fun j hj => ?_⟩
      rw [pz_u, if_pos rfl, pz_upd]
      by_cases z : j = k
      · rw [if_pos z, hy, z]
      · rw [if_neg z]; exact r4 j (by omega)
    rw [if_neg (show ¬ (64 : Int32) ≤ nI k from nI_ge (b := 64) k1 (by decide)), pz_t0 k1, gv_bind_some, pz_bare k1 _ ρ (by rw [r2 3 (by decide)]; exact hk k k1), gv_bind_some, r2 3 (by decide)]
    simp only [pz_inN k1 (show 64 < 2 ^ 31 by decide), nI_clamp (show k < 2 ^ 31 by omega), gv_let, nI_1]
    by_cases z : pX11_bearsBy (σ.1 3 k) (σ.1 3 (64 + k)) < w
    · by_cases y : pX11_bearsBy (σ.1 3 k) (σ.1 3 (64 + k)) + (180 : Int32) < w
      · rw [if_pos y, if_pos z]
        exact ⟨_, rfl, rfl, fin (-1) (by unfold zPc; rw [if_pos z, if_pos y]; exact zI_m1)⟩
      · rw [if_neg y, if_pos z]
        exact ⟨_, rfl, rfl, fin 1 (by unfold zPc; rw [if_pos z, if_neg y]; exact zI_1)⟩
    · have e : zI (zPc (σ.1 3) w k) = 0 := by unfold zPc; rw [if_neg z]; exact zI_0.symm
      by_cases y : pX11_bearsBy (σ.1 3 k) (σ.1 3 (64 + k)) + (180 : Int32) < w
      · rw [if_pos y, if_neg z]
        exact ⟨_, rfl, rfl, fin 0 e.symm⟩
      · rw [if_neg y, if_neg z]
        exact ⟨_, rfl, rfl, fin 0 e.symm⟩
  · rintro ⟨v, ρ⟩ ⟨r1, r2, r3, r4⟩
    dsimp only at r1 r2 r3 r4 ⊢
    subst r1
    unfold pX3_fewestLaid_L3
    rw [if_pos (by decide)]
    exact ⟨_, rfl, r2, r3, r4⟩
/-! the reference: sums that fall until none does -/
def zcF (c : Nat → Int) (q : Nat) : Nat := if c q = -1 then 999 else (c q).toNat
def bfM (c : Nat → Int) (s : Nat) (F : Nat → Nat) : Prop := (∀ q, q < 64 → F q ≤ 999) ∧ F s ≤ zcF c s ∧ ∀ g : Nat → Int, g s ≤ (zcF c s : Int) → (∀ q, q < 64 → ∀ k, k < 4 → zNb q k < 64 → ¬ c q = -1 → g q ≤ g (zNb q k) + c q) → (∀ q, q < 64 → g q ≤ 999) → ∀ q, q < 64 → g q ≤ (F q : Int)
def bfO (c : Nat → Int) (F : Nat → Nat) (q k : Nat) : Prop := zNb q k < 64 → ¬ c q = -1 → (F q : Int) ≤ F (zNb q k) + c q
def bfP (c : Nat → Int) (F0 F : Nat → Nat) (more : Int32) (D : Nat → Nat → Prop) : Prop := (more = 0 ∧ F = F0 ∧ ∀ q k, D q k → bfO c F q k) ∨ (more = 1 ∧ fb_sm F 64 < fb_sm F0 64)
def bfR (ψ τ : gs_S) (F : Nat → Nat) : Prop := (∀ x, ¬ x = 75 → τ.1 x = ψ.1 x) ∧ τ.2 = ψ.2 ∧ ∀ q, q < 64 → τ.1 75 q = nI (F q)
theorem bf_step {c : Nat → Int} (hc : dqC c) {ψ τ : gs_S} {F F0 : Nat → Nat} {more : Int32} {s q k : Nat} {D : Nat → Nat → Prop} (hs : s < 64) (hq : q < 64) (hk : k < 4) (h76 : ∀ q, q < 64 → ψ.1 76 q = nI (zcF c q)) (h : bfR ψ τ F) (hM : bfM c s F) (hP : bfP c F0 F more D) : ∃ more' τ' F', pX11_planks_L141 (nI q) more (nI k) τ = some (.inl (more', nI (k + 1), τ')) ∧ bfR ψ τ' F' ∧ bfM c s F' ∧ bfP c F0 F' more' (fun a b => D a b ∨ (a = q ∧ b = k)) := by
  obtain ⟨y1, y2, y3⟩ := id h
  obtain ⟨m1, m2, m3⟩ := id hM
  have e76 : τ.1 76 q = nI (zcF c q) := by rw [y1 76 (by decide)]; exact h76 q hq
  have fq := m1 q hq
  have keep : (bfO c F q k) → bfP c F0 F more (fun a b => D a b ∨ (a = q ∧ b = k)) := fun ok => by
    rcases hP with ⟨p1, p2, p3⟩ | p
    · refine Or.inl ⟨p1, p2, fun a b d => ?_⟩
      rcases d with d | ⟨rfl, rfl⟩
      · exact p3 a b d
      · exact ok
    · exact Or.inr p
  have J999 : pX11_planks_J195 (nI q) τ (nI k) more 999 = some (.inl (more, nI (k + 1), τ)) := by
    unfold pX11_planks_J195
    rw [pz_inN hq (by decide), nI_clamp (by omega), y3 q hq, if_pos (show nI (F q) ≤ (999 : Int32) from nI_le (b := 999) fq (by decide)), gv_let_p, nI_1]
  unfold pX11_planks_L141 pX11_planks_J174
  rw [if_neg (show ¬ (4 : Int32) ≤ nI k from nI_ge (b := 4) hk (by decide)), (zNb_x q hq k hk).1, J999]
  by_cases v : zNb q k < 64
  rotate_left
  · rw [if_neg v, gv_let_p, if_pos (by decide)]
    exact ⟨more, τ, F, rfl, h, hM, keep (fun z => absurd z v)⟩
  rw [if_pos v, gv_let_p, if_neg (nI_pos (by omega)), pz_inN hq (by decide), nI_clamp (show q < 2 ^ 31 by omega), e76]
  have cq := hc q hq
  by_cases c1 : c q = -1
  · rw [if_pos (by unfold zcF; rw [if_pos c1]; rfl)]
    exact ⟨more, τ, F, rfl, h, hM, keep (fun _ z => absurd c1 z)⟩
  have cz : zcF c q = (c q).toNat := by unfold zcF; rw [if_neg c1]
  have cb : (c q).toNat ≤ 1 ∧ ((c q).toNat : Int) = c q := by rcases cq with z | z | z <;> omega
  have fv := m1 _ v
  rw [if_neg (show ¬ nI (zcF c q) = (999 : Int32) from fun z => by
    have := (nI_eq (by omega) (by decide)).mp (show nI (zcF c q) = nI 999 from z)
    omega), pz_inN v (by decide), pz_inN hq (by decide), nI_clamp (show zNb q k < 2 ^ 31 by omega), y3 _ v, nI_add]
  unfold pX11_planks_J195
  rw [pz_inN hq (by decide), nI_clamp (show q < 2 ^ 31 by omega), y3 q hq]
  by_cases le : F q ≤ F (zNb q k) + zcF c q
  · rw [if_pos (nI_le le (by omega)), gv_let_p, nI_1]
    exact ⟨more, τ, F, rfl, h, hM, keep (fun _ _ => by omega)⟩
  · rw [if_neg (nI_ge (by omega) (by omega)), pz_inN hq (by decide), gv_let_p, gv_let_p, nI_1]
    have nq : ¬ zNb q k = q := (zNb_b q hq k hk).2.1
    refine ⟨1, _, (fun x => if x = q then F (zNb q k) + zcF c q else F x), rfl, ⟨fun x hx => by rw [pz_u, if_neg hx]; exact y1 x hx, y2, fun x hx => ?_⟩, ⟨fun x hx => ?_, ?_, fun g g1 g2 g3 x hx => ?_⟩, Or.inr ⟨rfl, ?_⟩⟩
    · rw [pz_u, if_pos rfl, pz_upd]
      dsimp only
      by_cases z : x = q
      · rw [if_pos z, if_pos z]
      · rw [if_neg z, if_neg z]; exact y3 x hx
    · dsimp only
      by_cases z : x = q
      · rw [if_pos z]; omega
      · rw [if_neg z]; exact m1 x hx
    · dsimp only
      by_cases z : s = q
      · rw [if_pos z, z]
        rw [z] at m2
        omega
      · rw [if_neg z]; exact m2
    · dsimp only
      by_cases z : x = q
      · rw [if_pos z, z]
        have a1 := m3 g g1 g2 g3 (zNb q k) v
        have a2 := g2 q hq k hk v c1
        omega
      · rw [if_neg z]; exact m3 g g1 g2 g3 x hx
    · have sm := fb_sm_upd F (F (zNb q k) + zcF c q) (i := q) (n := 64) hq
      rcases hP with ⟨p1, p2, p3⟩ | ⟨p1, p2⟩
      · rw [← p2]; omega
      · omega
theorem bfP_imp {c : Nat → Int} {F0 F : Nat → Nat} {more : Int32} {D D' : Nat → Nat → Prop} (h : bfP c F0 F more D) (hd : ∀ a b, D' a b → D a b) : bfP c F0 F more D' := by
  rcases h with ⟨p1, p2, p3⟩ | p
  · exact Or.inl ⟨p1, p2, fun q k z => p3 q k (hd q k z)⟩
  · exact Or.inr p
theorem bf_sides {c : Nat → Int} (hc : dqC c) {ψ τ : gs_S} {F F0 : Nat → Nat} {more : Int32} {s q : Nat} (hs : s < 64) (hq : q < 64) (h76 : ∀ q, q < 64 → ψ.1 76 q = nI (zcF c q)) (h : bfR ψ τ F) (hM : bfM c s F) (hP : bfP c F0 F more (fun a b => a < q ∧ b < 4)) : ∃ more' τ' F', gv_loop (fun x : Int32 × Int32 × gs_S => pX11_planks_L141 (nI q) x.1 x.2.1 x.2.2) gv_N (more, (0 : Int32), τ) = some (more', nI 4, τ') ∧ bfR ψ τ' F' ∧ bfM c s F' ∧ bfP c F0 F' more' (fun a b => a < q + 1 ∧ b < 4) := by
  have L := gv_rel (fun x : Int32 × Int32 × gs_S => pX11_planks_L141 (nI q) x.1 x.2.1 x.2.2) (fun k x => x.2.1 = nI k ∧ ∃ F', bfR ψ x.2.2 F' ∧ bfM c s F' ∧ bfP c F0 F' x.1 (fun a b => (a < q ∧ b < 4) ∨ (a = q ∧ b < k))) 4 gv_N (gv_N_lt (by decide)) (fun x => x.2.1 = nI 4 ∧ ∃ F', bfR ψ x.2.2 F' ∧ bfM c s F' ∧ bfP c F0 F' x.1 (fun a b => a < q + 1 ∧ b < 4)) ?_ ?_ (more, (0 : Int32), τ) ⟨rfl, F, h, hM, bfP_imp hP (fun a b z => by omega)⟩
  · obtain ⟨⟨m, n, τ'⟩, l1, l2, F', l3, l4, l5⟩ := L
    dsimp only at l2 l3 l5
    subst l2
    exact ⟨m, τ', F', l1, l3, l4, l5⟩
  · rintro k ⟨m, n, ρ⟩ hk ⟨r1, F', r2, r3, r4⟩
    dsimp only at r1 r2 r4 ⊢
    subst r1
    obtain ⟨m', τ', F2, t1, t2, t3, t4⟩ := bf_step hc hs hq hk h76 r2 r3 r4
    exact ⟨_, t1, rfl, F2, t2, t3, bfP_imp t4 (fun a b z => by omega)⟩
  · rintro ⟨m, n, ρ⟩ ⟨r1, F', r2, r3, r4⟩
    dsimp only at r1 r2 r4 ⊢
    subst r1
    unfold pX11_planks_L141
    rw [if_pos (by decide)]
    exact ⟨_, rfl, rfl, F', r2, r3, bfP_imp r4 (fun a b z => by omega)⟩
theorem bf_pass {c : Nat → Int} (hc : dqC c) {ψ τ : gs_S} {F : Nat → Nat} {s : Nat} (hs : s < 64) (h76 : ∀ q, q < 64 → ψ.1 76 q = nI (zcF c q)) (h : bfR ψ τ F) (hM : bfM c s F) : ∃ more' τ' F', gv_loop (fun x : Int32 × Int32 × gs_S => pX11_planks_L131 x.1 x.2.1 x.2.2) gv_N ((0 : Int32), (0 : Int32), τ) = some (more', nI 64, τ') ∧ bfR ψ τ' F' ∧ bfM c s F' ∧ bfP c F F' more' (fun a b => a < 64 ∧ b < 4) := by
  have L := gv_rel (fun x : Int32 × Int32 × gs_S => pX11_planks_L131 x.1 x.2.1 x.2.2) (fun q x => x.2.1 = nI q ∧ ∃ F', bfR ψ x.2.2 F' ∧ bfM c s F' ∧ bfP c F F' x.1 (fun a b => a < q ∧ b < 4)) 64 gv_N (gv_N_lt (by decide)) (fun x => x.2.1 = nI 64 ∧ ∃ F', bfR ψ x.2.2 F' ∧ bfM c s F' ∧ bfP c F F' x.1 (fun a b => a < 64 ∧ b < 4)) ?_ ?_ ((0 : Int32), (0 : Int32), τ) ⟨rfl, F, h, hM, Or.inl ⟨rfl, rfl, fun a b z => absurd z.1 (by omega)⟩⟩
  · obtain ⟨⟨m, n, τ'⟩, l1, l2, F', l3, l4, l5⟩ := L
    dsimp only at l2 l3 l5
    subst l2
    exact ⟨m, τ', F', l1, l3, l4, l5⟩
  · rintro k ⟨m, n, ρ⟩ hk ⟨r1, F', r2, r3, r4⟩
    dsimp only at r1 r2 r4 ⊢
    subst r1
    unfold pX11_planks_L131
    obtain ⟨m', τ', F2, t1, t2, t3, t4⟩ := bf_sides hc hs hk h76 r2 r3 r4
    rw [if_neg (show ¬ (64 : Int32) ≤ nI k from nI_ge (b := 64) hk (by decide)), t1, gv_bind_some, gv_let_p, gv_let_p, gv_let_p, gv_let_p, nI_1]
    exact ⟨_, rfl, rfl, F2, t2, t3, t4⟩
  · rintro ⟨m, n, ρ⟩ ⟨r1, F', r2, r3, r4⟩
    dsimp only at r1 r2 r4 ⊢
    subst r1
    unfold pX11_planks_L131
    rw [if_pos (by decide)]
    exact ⟨_, rfl, rfl, F', r2, r3, r4⟩
theorem bf_all {c : Nat → Int} (hc : dqC c) {ψ τ : gs_S} {F : Nat → Nat} {s : Nat} (hs : s < 64) (h76 : ∀ q, q < 64 → ψ.1 76 q = nI (zcF c q)) (h : bfR ψ τ F) (hM : bfM c s F) : ∃ more' τ' F', gv_loop (fun x : Int32 × gs_S => pX11_planks_L120 x.1 x.2) gv_N ((1 : Int32), τ) = some (more', τ') ∧ bfR ψ τ' F' ∧ bfM c s F' ∧ ∀ q k, q < 64 → k < 4 → bfO c F' q k := by
  have sumE : ∀ (ρ : gs_S) (F : Nat → Nat), bfR ψ ρ F → bfM c s F → fb_sm (fun q => (ρ.1 75 q).toNatClampNeg) 64 = fb_sm F 64 := fun ρ F r m => fb_sm_cong (fun q hq => by rw [r.2.2 q hq, nI_clamp (by have := m.1 q hq; omega)])
  have L := gv_wh (fun x : Int32 × gs_S => pX11_planks_L120 x.1 x.2) (fun x => ∃ F', bfR ψ x.2 F' ∧ bfM c s F' ∧ (x.1 = 1 ∨ (x.1 = 0 ∧ ∀ q k, q < 64 → k < 4 → bfO c F' q k))) (fun x => fb_sm (fun q => (x.2.1 75 q).toNatClampNeg) 64 + (if x.1 = 1 then 1 else 0)) (fun x => ∃ F', bfR ψ x.2 F' ∧ bfM c s F' ∧ ∀ q k, q < 64 → k < 4 → bfO c F' q k) ?_ gv_N ((1 : Int32), τ) ⟨F, h, hM, Or.inl rfl⟩ ?_
  · obtain ⟨⟨m, τ'⟩, l1, F', l2, l3, l4⟩ := L
    exact ⟨m, τ', F', l1, l2, l3, l4⟩
  · rintro ⟨m, ρ⟩ ⟨F', r1, r2, r3⟩
    dsimp only at r1 r3 ⊢
    unfold pX11_planks_L120
    rcases r3 with rfl | ⟨rfl, r3⟩
    · left
      obtain ⟨m', τ', F2, t1, t2, t3, t4⟩ := bf_pass hc hs h76 r1 r2
      rw [if_neg (by decide), t1, gv_bind_some, gv_let_p, gv_let_p, gv_let_p, sumE _ _ r1 r2, if_pos rfl]
      rcases t4 with ⟨p1, p2, p3⟩ | ⟨p1, p2⟩
      · refine ⟨_, rfl, ⟨F2, t2, t3, Or.inr ⟨p1, fun q k q1 k1 => p3 q k ⟨q1, k1⟩⟩⟩, ?_⟩
        dsimp only
        rw [sumE _ _ t2 t3, p1, if_neg (by decide), p2]
        omega
      · refine ⟨_, rfl, ⟨F2, t2, t3, Or.inl p1⟩, ?_⟩
        dsimp only
        rw [sumE _ _ t2 t3, p1, if_pos rfl]
        omega
    · right
      rw [if_pos rfl]
      exact ⟨_, rfl, F', r1, r2, r3⟩
  · dsimp only
    rw [sumE _ _ h hM, if_pos rfl]
    have := fb_sm_bound (f := F) (c := 999) (n := 64) hM.1
    show _ < 100000
    omega
theorem bf_eq {c : Nat → Int} (hc : dqC c) {s q : Nat} (hs : s < 64) (hq : q < 64) {F : Nat → Nat} (hM : bfM c s F) (hO : ∀ q k, q < 64 → k < 4 → bfO c F q k) : (dqE c s q = -1 → 999 ≤ F q) ∧ (¬ dqE c s q = -1 → dqE c s q = F q ∧ F q < 999) := by
  by_cases cs : c s = -1
  · have e : dqE c s q = -1 := by unfold dqE; rw [if_pos cs]
    refine ⟨fun _ => ?_, fun z => absurd e z⟩
    have := hM.2.2 (fun _ => 999) (by unfold zcF; rw [if_pos cs]; decide) (fun u u1 k k1 k2 k3 => by
      rcases hc u u1 with z | z | z
      · exact absurd z k3
      · show (999 : Int) ≤ 999 + c u
        omega
      · show (999 : Int) ≤ 999 + c u
        omega) (fun _ _ => Int.le_refl _) q hq
    try dsimp only at this
    omega
  have e : ∀ x, dqE c s x = dqF c s x := fun x => by unfold dqE; rw [if_neg cs]
  rw [e]
  obtain ⟨A, C⟩ := dq_fin c s hc hs cs
  have nl := dqN_le (dqF c s)
  have cz : ((zcF c s : Nat) : Int) = c s := by
    unfold zcF
    rw [if_neg cs]
    rcases hc s hs with z | z | z <;> omega
  have G : dqG c s (fun x => (F x : Int)) := by
    refine ⟨?_, fun u u1 k k1 k2 k3 => ?_⟩
    · try dsimp only
      have := hM.2.1
      omega
    · try dsimp only
      have := hO (zNb u k) (3 - k) k2 (by omega)
      unfold bfO at this
      rw [(zNb_b u u1 k k1).2.2 k2] at this
      exact this u1 k3
  have H := hM.2.2 (fun x => if dqF c s x = -1 then 999 else dqF c s x) (by
      try dsimp only
      rw [A.1, if_neg cs, cz]; exact Int.le_refl _) (fun u u1 k k1 k2 k3 => by
      try dsimp only
      by_cases z : dqF c s (zNb u k) = -1
      · rw [if_pos z]
        have cu : 0 ≤ c u := by rcases hc u u1 with y | y | y <;> omega
        by_cases y : dqF c s u = -1
        · rw [if_pos y]; omega
        · rw [if_neg y]
          have := (A.2.1 u u1 y).2.1
          omega
      · have := C (zNb u k) k2 z (3 - k) (by omega)
        rw [(zNb_b u u1 k k1).2.2 k2] at this
        obtain ⟨b1, b2⟩ := this u1 k3
        rw [if_neg z, if_neg b1]; exact b2) (fun u u1 => by
      try dsimp only
      by_cases y : dqF c s u = -1
      · rw [if_pos y]; omega
      · rw [if_neg y]
        have := (A.2.1 u u1 y).2.1
        omega) q hq
  try dsimp only at H
  refine ⟨fun z => ?_, fun z => ?_⟩
  · rw [if_pos z] at H; omega
  · rw [if_neg z] at H
    have a1 := A.2.2 _ G q hq z
    have a2 := (A.2.1 q hq z).2.1
    try dsimp only at a1
    exact ⟨by omega, by omega⟩
theorem pz_xplanks {a b : Nat} {a3 a4 : Int32} (h1 : iv_in (nI a) 0 63 ∧ iv_in (nI b) 0 63 ∧ iv_in a3 1 99 ∧ iv_in a4 1 9) (ha : a ≤ 63) (hb : b ≤ 63) (τ : gs_S) : ∃ υ, pX11_planks (nI a) (nI b) a3 a4 τ = some (if dqE (zPc (τ.1 64) (pX10_weightAlone a3 a4)) a b = -1 then -4 else zI (dqE (zPc (τ.1 64) (pX10_weightAlone a3 a4)) a b), υ) ∧ sm τ υ := by
  unfold pX11_planks
  rw [pz_if_t (pz_xasked (nI a) (nI b) a3 a4) h1, show pX11_needBy a3 a4 = pX10_weightAlone a3 a4 from rfl]
  generalize pX10_weightAlone a3 a4 = w
  obtain ⟨c, hcc⟩ : ∃ c, c = zPc (τ.1 64) w := ⟨_, rfl⟩
  rw [← hcc]
  have hC : dqC c := by rw [hcc]; exact zPc_C _ _
  -- the reference's rows
  have L := gv_rel (fun q : Int32 × gs_S => pX11_planks_L24 w q.1 q.2) (fun k q => q.1 = nI k ∧ (∀ x, ¬ x = 75 → ¬ x = 76 → q.2.1 x = τ.1 x) ∧ q.2.2 = τ.2 ∧ ∀ j, j < k → q.2.1 76 j = nI (zcF c j) ∧ q.2.1 75 j = nI 999) 64 gv_N (gv_N_lt (by decide)) (fun q => (∀ x, ¬ x = 75 → ¬ x = 76 → q.2.1 x = τ.1 x) ∧ q.2.2 = τ.2 ∧ ∀ j, j < 64 → q.2.1 76 j = nI (zcF c j) ∧ q.2.1 75 j = nI 999) ?_ ?_ ((0 : Int32), τ) ⟨rfl, fun _ _ _ => rfl, rfl, fun j hj => absurd hj (by omega)⟩
  rotate_left
  · rintro k ⟨v, ρ⟩ k1 ⟨r1, r2, r3, r4⟩
    dsimp only at r1 r2 r3 r4 ⊢
    subst r1
    unfold pX11_planks_L24
    have J : ∀ y : Int32, y = nI (zcF c k) → ∃ t, pX11_planks_J88 (nI k) ρ y = some (.inl t) ∧ t.1 = nI (k + 1) ∧ (∀ x, ¬ x = 75 → ¬ x = 76 → t.2.1 x = τ.1 x) ∧ t.2.2 = τ.2 ∧ ∀ j, j < k + 1 → t.2.1 76 j = nI (zcF c j) ∧ t.2.1 75 j = nI 999 := fun y hy => by
      unfold pX11_planks_J88
      rw [pz_inN k1 (by decide), nI_clamp (by omega), gv_let_p, pz_inN k1 (by decide), gv_let_p, gv_let_p, nI_1]
      refine ⟨_, rfl, rfl, fun x x1 x2 => ?_, r3, fun j hj => ⟨?_, ?_⟩⟩
      · dsimp only
        rw [pz_u, if_neg x1, pz_u, if_neg x2]; exact r2 x x1 x2
      · dsimp only
        rw [pz_u, if_neg (by decide), pz_u, if_pos rfl, pz_upd]
        by_cases z : j = k
        · rw [if_pos z, hy, z]
        · rw [if_neg z]; exact (r4 j (by omega)).1
      · dsimp only
        rw [pz_u, if_pos rfl, pz_upd]
        by_cases z : j = k
        · rw [if_pos z]; rfl
        · rw [if_neg z, pz_u, if_neg (by decide)]; exact (r4 j (by omega)).2
    have ce : c k = zPc (τ.1 64) w k := by rw [hcc]
    rw [if_neg (show ¬ (64 : Int32) ≤ nI k from nI_ge (b := 64) k1 (by decide)), pz_inN (show k < 320 by omega) (by decide), show (64 : Int32) + nI k = nI (64 + k) from nI_add 64 k, pz_inN (show 64 + k < 320 by omega) (by decide), nI_clamp (by omega), nI_clamp (by omega), r2 64 (by decide) (by decide), gv_let_p]
    by_cases z : pX11_bearsBy (τ.1 64 k) (τ.1 64 (64 + k)) < w
    · rw [if_pos z]
      by_cases y : pX11_bearsBy (τ.1 64 k) (τ.1 64 (64 + k)) + (180 : Int32) < w
      · rw [if_pos y]
        exact J 999 (by
          have : c k = -1 := by rw [ce]; unfold zPc; rw [if_pos z, if_pos y]
          unfold zcF; rw [if_pos this]; rfl)
      · rw [if_neg y]
        exact J 1 (by
          have : c k = 1 := by rw [ce]; unfold zPc; rw [if_pos z, if_neg y]
          unfold zcF; rw [this]; rfl)
    · rw [if_neg z]
      exact J 0 (by
        have : c k = 0 := by rw [ce]; unfold zPc; rw [if_neg z]
        unfold zcF; rw [this]; rfl)
  · rintro ⟨v, ρ⟩ ⟨r1, r2, r3, r4⟩
    dsimp only at r1 r2 r3 r4 ⊢
    subst r1
    unfold pX11_planks_L24
    rw [if_pos (by decide)]
    exact ⟨_, rfl, r2, r3, r4⟩
  obtain ⟨⟨v, ψ⟩, l1, l2, l3, l4⟩ := L
  dsimp only at l2 l3 l4
  obtain ⟨ω, eω⟩ : ∃ ω, ω = gs_u ψ 75 a (nI (zcF c a)) := ⟨_, rfl⟩
  have zb : zcF c a ≤ 999 := by
    unfold zcF
    by_cases z : c a = -1
    · rw [if_pos z]; omega
    · rw [if_neg z]
      rcases hC a (by omega) with y | y | y <;> omega
  have R0 : bfR ω ω (fun q => if q = a then zcF c a else 999) := by
    refine ⟨fun _ _ => rfl, rfl, fun q hq => ?_⟩
    rw [eω, pz_u, if_pos rfl, pz_upd]
    dsimp only
    by_cases z : q = a
    · rw [if_pos z, if_pos z]
    · rw [if_neg z, if_neg z]; exact (l4 q hq).2
  have M0 : bfM c a (fun q => if q = a then zcF c a else 999) := by
    refine ⟨fun q hq => ?_, ?_, fun g g1 g2 g3 q hq => ?_⟩
    · dsimp only
      by_cases z : q = a
      · rw [if_pos z]; exact zb
      · rw [if_neg z]; omega
    · dsimp only
      rw [if_pos rfl]; omega
    · dsimp only
      by_cases z : q = a
      · rw [if_pos z, z]; exact g1
      · rw [if_neg z]; exact g3 q hq
  obtain ⟨m', υ, F, b1, b2, b3, b4⟩ := bf_all hC (s := a) (by omega) (fun q hq => by rw [eω, pz_u, if_neg (by decide)]; exact (l4 q hq).1) R0 M0
  obtain ⟨B1, B2⟩ := bf_eq hC (s := a) (q := b) (by omega) (by omega) b3 b4
  have su : sm τ υ := ⟨fun x hx => by rw [b2.1 x (by omega), eω, pz_u, if_neg (by omega), l2 x (by omega) (by omega)], fun i x1 x2 x3 => by rw [b2.1 63 (by decide), eω, pz_u, if_neg (by decide), l2 63 (by decide) (by decide)], by rw [b2.2.1, eω, pz_u2, l3]⟩
  have fb := b3.1 b (by omega)
  refine ⟨υ, ?_, su⟩
  rw [gv_let_p, l1, gv_bind_some, gv_let_p, gv_let_p]
  dsimp only
  rw [pz_inN (by omega) (by decide), pz_inN (by omega) (by decide), nI_clamp (show a < 2 ^ 31 by omega), (l4 a (by omega)).1, gv_let_p, ← eω, b1, gv_bind_some, gv_let_p, gv_let_p]
  dsimp only
  rw [pz_inN (by omega) (by decide), nI_clamp (show b < 2 ^ 31 by omega), b2.2.2 b (by omega)]
  by_cases z : dqE c a b = -1
  · have := B1 z
    rw [if_pos z, if_neg (show ¬ nI (F b) < (999 : Int32) from nI_nlt (b := 999) (by omega) (by omega))]
  · obtain ⟨z1, z2⟩ := B2 z
    rw [if_neg z, if_pos (show nI (F b) < (999 : Int32) from nI_lt (b := 999) z2 (by decide)), pz_inN (by omega) (by decide), z1, zI_n]
theorem op_planks (σ : gs_S) (hI : inv σ) (a1 : Int32) (a2 : Int32) (a3 : Int32) (a4 : Int32) : ∃ (r : Int32) (σ1 : gs_S) (σ2 : gs_S), pX10_planks a1 a2 a3 a4 σ = some (r, σ1) ∧ pX11_planks a1 a2 a3 a4 σ1 = some (r, σ2) ∧ inv σ2 := by
  by_cases h1 : iv_in a1 0 63 ∧ iv_in a2 0 63 ∧ iv_in a3 1 99 ∧ iv_in a4 1 9
  rotate_left
  · unfold pX10_planks pX11_planks
    exact ⟨-1, σ, σ, pz_if_f (pz_asked a1 a2 a3 a4) h1 _ _, pz_if_f (pz_xasked a1 a2 a3 a4) h1 _ _, hI⟩
  obtain ⟨a, ha, rfl⟩ := pz_nat 63 h1.1 (by decide)
  obtain ⟨b, hb, rfl⟩ := pz_nat 63 h1.2.1 (by decide)
  obtain ⟨⟨i1, i2, i3⟩, -⟩ := id hI
  obtain ⟨τ, t1, t2, t3⟩ := pz_laid (a := a) (b := b) (by omega) (by omega) (pX10_weightAlone a3 a4) σ i3
  have st : sm σ τ := ⟨fun x hx => t2 x (by omega) (by omega) (by omega), fun i _ _ _ => by rw [t2 63 (by decide) (by decide) (by decide)], t3⟩
  obtain ⟨υ, u1, u2⟩ := pz_xplanks h1 ha hb τ
  rw [st.1 64 (by omega), dqE_cong (c2 := zPc (σ.1 3) (pX10_weightAlone a3 a4)) (fun q hq => (zPc_eq _ i1 q hq).symm) (by omega)] at u1
  unfold pX10_planks
  rw [pz_if_t (pz_asked (nI a) (nI b) a3 a4) h1, t1, gv_bind2_some]
  exact ⟨_, τ, υ, rfl, u1, inv_sm hI (sm_tr st u2)⟩
