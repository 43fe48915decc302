/-! PURE, 49m: road -/
theorem dqS_cong {c c2 : Nat → Int} (h : ∀ q, q < 64 → c q = c2 q) (u : Nat) (S : dS) (s : Nat) : dqS c u S s = dqS c2 u S s := by
  unfold dqS
  by_cases v : zNb u s < 64
  · rw [h _ v]
  · rw [if_neg (fun z => v z.1), if_neg (fun z => v z.1)]
theorem dqP_cong {c c2 : Nat → Int} (h : ∀ q, q < 64 → c q = c2 q) (u : Nat) (S : dS) : ∀ k, dqP c u S k = dqP c2 u S k := by
  intro k
  induction k with
  | zero => rfl
  | succ k ih =>
    show dqS c u (dqP c u S k) k = dqS c2 u (dqP c2 u S k) k
    rw [ih, dqS_cong h]
theorem dqR_cong {c c2 : Nat → Int} (h : ∀ q, q < 64 → c q = c2 q) (S : dS) : ∀ k, dqR c S k = dqR c2 S k := by
  intro k
  induction k with
  | zero => rfl
  | succ k ih =>
    unfold dqR
    rw [ih, dqP_cong h]
theorem dqE_cong {c c2 : Nat → Int} (h : ∀ q, q < 64 → c q = c2 q) {s : Nat} (hs : s < 64) : dqE c s = dqE c2 s := by
  funext q
  unfold dqE dqF dq0
  rw [h s hs, dqR_cong h]
theorem pz_weigh (σ : gs_S) (hk : ∀ k, k < 64 → iv_in (σ.1 3 (64 + k)) 0 4) : ∃ τ, pX3_weigh σ = some τ ∧ (∀ x, ¬ x = 39 → τ.1 x = σ.1 x) ∧ τ.2 = σ.2 ∧ ∀ q, q < 64 → τ.1 39 q = zB (σ.1 3) q := by
  unfold pX3_weigh
  have L := gv_rel (fun q : Int32 × gs_S => pX3_weigh_L2 q.1 q.2) (fun k q => q.1 = nI k ∧ (∀ x, ¬ x = 39 → q.2.1 x = σ.1 x) ∧ q.2.2 = σ.2 ∧ ∀ j, j < k → q.2.1 39 j = zB (σ.1 3) j) 64 gv_N (gv_N_lt (by decide)) (fun q => (∀ x, ¬ x = 39 → q.2.1 x = σ.1 x) ∧ q.2.2 = σ.2 ∧ ∀ j, j < 64 → q.2.1 39 j = zB (σ.1 3) j) ?_ ?_ ((0 : Int32), σ) ⟨rfl, fun _ _ => rfl, rfl, fun j hj => absurd hj (by omega)⟩
  · obtain ⟨⟨v, φ⟩, l1, l2, l3, l4⟩ := L
    rw [l1]
    exact ⟨φ, rfl, l2, l3, l4⟩
  · rintro k ⟨v, ρ⟩ k1 ⟨r1, r2, r3, r4⟩
    dsimp only at r1 r2 r3 r4 ⊢
    subst r1
    unfold pX3_weigh_L2
    rw [if_neg (show ¬ (64 : Int32) ≤ nI k from nI_ge (b := 64) k1 (by decide)), pz_bear k1 ρ (by rw [r2 3 (by decide)]; exact hk k k1), r2 3 (by decide)]
    simp only [gv_bind, gv_let, nI_1, pz_inN k1 (show 64 < 2 ^ 31 by decide), nI_clamp (show k < 2 ^ 31 by omega)]
    refine ⟨_, rfl, rfl, fun x hx => by dsimp only; rw [pz_u, if_neg hx]; exact r2 x hx, r3, fun j hj => ?_⟩
    dsimp only
    rw [pz_u, if_pos rfl, pz_upd]
    by_cases z : j = k
    · rw [if_pos z, z]
    · rw [if_neg z]; exact r4 j (by omega)
  · rintro ⟨v, ρ⟩ ⟨r1, r2, r3, r4⟩
    dsimp only at r1 r2 r3 r4 ⊢
    subst r1
    unfold pX3_weigh_L2
    rw [if_pos (by decide)]
    exact ⟨_, rfl, r2, r3, r4⟩
theorem pz_xbearNow (σ : gs_S) : ∃ τ, pX11_bearNow σ = some τ ∧ (∀ x, ¬ x = 76 → τ.1 x = σ.1 x) ∧ τ.2 = σ.2 ∧ ∀ q, q < 64 → τ.1 76 q = zB (σ.1 64) q := by
  unfold pX11_bearNow
  have L := gv_rel (fun q : Int32 × gs_S => pX11_bearNow_L2 q.1 q.2) (fun k q => q.1 = nI k ∧ (∀ x, ¬ x = 76 → q.2.1 x = σ.1 x) ∧ q.2.2 = σ.2 ∧ ∀ j, j < k → q.2.1 76 j = zB (σ.1 64) j) 64 gv_N (gv_N_lt (by decide)) (fun q => (∀ x, ¬ x = 76 → q.2.1 x = σ.1 x) ∧ q.2.2 = σ.2 ∧ ∀ j, j < 64 → q.2.1 76 j = zB (σ.1 64) j) ?_ ?_ ((0 : Int32), σ) ⟨rfl, fun _ _ => rfl, rfl, fun j hj => absurd hj (by omega)⟩
  · obtain ⟨⟨v, φ⟩, l1, l2, l3, l4⟩ := L
    rw [l1]
    exact ⟨φ, rfl, l2, l3, l4⟩
  · rintro k ⟨v, ρ⟩ k1 ⟨r1, r2, r3, r4⟩
    dsimp only at r1 r2 r3 r4 ⊢
    subst r1
    unfold pX11_bearNow_L2
    rw [if_neg (show ¬ (64 : Int32) ≤ nI k from nI_ge (b := 64) k1 (by decide)), pz_xbear k1 ρ, r2 64 (by decide)]
    simp only [gv_bind, gv_let, nI_1, pz_inN k1 (show 64 < 2 ^ 31 by decide), nI_clamp (show k < 2 ^ 31 by omega)]
    refine ⟨_, rfl, rfl, fun x hx => by dsimp only; rw [pz_u, if_neg hx]; exact r2 x hx, r3, fun j hj => ?_⟩
    dsimp only
    rw [pz_u, if_pos rfl, pz_upd]
    by_cases z : j = k
    · rw [if_pos z, z]
    · rw [if_neg z]; exact r4 j (by omega)
  · rintro ⟨v, ρ⟩ ⟨r1, r2, r3, r4⟩
    dsimp only at r1 r2 r3 r4 ⊢
    subst r1
    unfold pX11_bearNow_L2
    rw [if_pos (by decide)]
    exact ⟨_, rfl, r2, r3, r4⟩
/-! the walk -/
theorem zI_s1 (a : Int) : zI a - (1 : Int32) = zI (a - 1) := by rw [zI_1, zI_sub]
theorem zI_a1 (a : Int) : zI a + (1 : Int32) = zI (a + 1) := by rw [zI_1, zI_add]
def zNr (E : Nat → Int) (q : Nat) : Nat := if zNb q 0 < 64 ∧ E (zNb q 0) = E q - 1 then zNb q 0 else if zNb q 1 < 64 ∧ E (zNb q 1) = E q - 1 then zNb q 1 else if zNb q 2 < 64 ∧ E (zNb q 2) = E q - 1 then zNb q 2 else if zNb q 3 < 64 ∧ E (zNb q 3) = E q - 1 then zNb q 3 else q
theorem zNr_k {E : Nat → Int} {q k : Nat} (hk : k < 4) (h : zNb q k < 64 ∧ E (zNb q k) = E q - 1) (hj : ∀ j, j < k → ¬ (zNb q j < 64 ∧ E (zNb q j) = E q - 1)) : zNr E q = zNb q k := by
  unfold zNr
  have : k = 0 ∨ k = 1 ∨ k = 2 ∨ k = 3 := by omega
  rcases this with rfl | rfl | rfl | rfl
  · rw [if_pos h]
  · rw [if_neg (hj 0 (by omega)), if_pos h]
  · rw [if_neg (hj 0 (by omega)), if_neg (hj 1 (by omega)), if_pos h]
  · rw [if_neg (hj 0 (by omega)), if_neg (hj 1 (by omega)), if_neg (hj 2 (by omega)), if_pos h]
theorem zNr_n {E : Nat → Int} {q : Nat} (hj : ∀ j, j < 4 → ¬ (zNb q j < 64 ∧ E (zNb q j) = E q - 1)) : zNr E q = q := by
  unfold zNr
  rw [if_neg (hj 0 (by omega)), if_neg (hj 1 (by omega)), if_neg (hj 2 (by omega)), if_neg (hj 3 (by omega))]
theorem zNr_lt {E : Nat → Int} {q : Nat} (hq : q < 64) : zNr E q < 64 := by
  unfold zNr
  split
  · rename_i h; exact h.1
  · split
    · rename_i h; exact h.1
    · split
      · rename_i h; exact h.1
      · split
        · rename_i h; exact h.1
        · exact hq
theorem pz_near {q : Nat} (hq : q < 64) (E : Nat → Int) (hb : ∀ q, q < 64 → -1 ≤ E q ∧ E q ≤ 64) (σ : gs_S) (h41 : ∀ q, q < 64 → σ.1 41 q = zI (E q)) : pX3_nearer (nI q) σ = some (nI (zNr E q)) := by
  unfold pX3_nearer
  have step : ∀ k, k < 4 → (¬ (zNb q k < 64 ∧ E (zNb q k) = E q - 1) → pX3_nearer_L2 (nI q) σ (nI k) = some (.inl (nI (k + 1)))) ∧ ((zNb q k < 64 ∧ E (zNb q k) = E q - 1) → pX3_nearer_L2 (nI q) σ (nI k) = some (.inr (.inr (nI (zNb q k))))) := by
    intro k hk
    unfold pX3_nearer_L2
    rw [if_neg (show ¬ (4 : Int32) ≤ nI k from nI_ge (b := 4) hk (by decide)), (zNb_x q hq k hk).2]
    by_cases v : zNb q k < 64
    · rw [if_pos v, gv_let_p, if_neg (nI_m1 (by omega)), pz_inN v (by decide), pz_inN hq (by decide), nI_clamp (show zNb q k < 2 ^ 31 by omega), nI_clamp (show q < 2 ^ 31 by omega), h41 _ v, h41 q hq, gv_let_p, nI_1, zI_1, zI_sub]
      have b1 := hb _ v
      have b2 := hb q hq
      refine ⟨fun z => ?_, fun z => ?_⟩
      · rw [if_neg (fun y => z ⟨v, (zI_eq (by omega) (by omega) (by omega) (by omega)).mp y⟩)]
      · rw [if_pos (by rw [z.2])]
    · rw [if_neg v, gv_let_p, if_pos rfl, gv_let_p, nI_1]
      exact ⟨fun _ => rfl, fun z => absurd z.1 v⟩
  have h9 := gv_find (fun x : Int32 => pX3_nearer_L2 (nI q) σ x) (fun k => nI k) (fun k => zNb q k < 64 ∧ E (zNb q k) = E q - 1) (fun k => .inr (nI (zNb q k))) 4 gv_N (gv_N_lt (by decide)) (.inl (nI 4)) (fun k hk c => (step k hk).1 c) (fun k hk c => (step k hk).2 c) (by
    show pX3_nearer_L2 (nI q) σ (nI 4) = _
    unfold pX3_nearer_L2
    rw [if_pos (by decide)])
  rcases h9 with ⟨k, k1, k2, k3, k4⟩ | ⟨k1, k4⟩
  · have h2 : gv_loop (fun x : Int32 => pX3_nearer_L2 (nI q) σ x) gv_N (0 : Int32) = some (.inr (nI (zNb q k))) := k4
    rw [h2, zNr_k k1 k2 k3]; rfl
  · have h2 : gv_loop (fun x : Int32 => pX3_nearer_L2 (nI q) σ x) gv_N (0 : Int32) = some (.inl (nI 4)) := k4
    rw [h2, zNr_n k1]; rfl
def zPa (E : Nat → Int) (a : Nat) : Nat → Nat
  | 0 => a
  | k + 1 => zNr E (zPa E a k)
theorem zPa_lt (E : Nat → Int) {a : Nat} (ha : a < 64) : ∀ k, zPa E a k < 64 := by
  intro k
  induction k with
  | zero => exact ha
  | succ k ih => exact zNr_lt ih
theorem pz_walk {a i : Nat} (ha : a < 64) (hi : i < 64) (E : Nat → Int) (hb : ∀ q, q < 64 → -1 ≤ E q ∧ E q ≤ 64) (σ : gs_S) (h41 : ∀ q, q < 64 → σ.1 41 q = zI (E q)) : pX3_walk (nI a) (nI i) σ = some (nI (zPa E a i)) := by
  unfold pX3_walk
  have h := gv_for (fun q : Int32 × Int32 => pX3_walk_L5 (nI i) σ q.1 q.2) (fun k => (nI (zPa E a k), nI k)) i gv_N (gv_N_lt (by omega)) (nI (zPa E a i), nI i) ?_ ?_
  · have h2 : gv_loop (fun q : Int32 × Int32 => pX3_walk_L5 (nI i) σ q.1 q.2) gv_N (nI a, (0 : Int32)) = some (nI (zPa E a i), nI i) := h
    rw [h2]; rfl
  · intro k hk
    dsimp only
    unfold pX3_walk_L5
    rw [if_neg (nI_ge hk (by omega)), pz_near (zPa_lt E ha k) E hb σ h41]
    simp only [gv_bind, gv_let, nI_1]
    rfl
  · dsimp only
    unfold pX3_walk_L5
    rw [if_pos (nI_le (Nat.le_refl _) (by omega))]
/-- the reference looks the sides up from the last to the first -/
def zNd (E : Nat → Int) (q : Nat) : Nat → Int32
  | 0 => -1
  | t + 1 => if zNb q (3 - t) < 64 ∧ E (zNb q (3 - t)) = E q - 1 then nI (zNb q (3 - t)) else zNd E q t
theorem zNd_4 {E : Nat → Int} {q : Nat} (h : ∃ k, k < 4 ∧ zNb q k < 64 ∧ E (zNb q k) = E q - 1) : zNd E q 4 = nI (zNr E q) := by
  obtain ⟨k, ⟨k1, k2⟩, k3⟩ := pk_least (fun k => k < 4 ∧ zNb q k < 64 ∧ E (zNb q k) = E q - 1) h
  have k3 : ∀ j, j < k → ¬ (zNb q j < 64 ∧ E (zNb q j) = E q - 1) := fun j hj z => k3 j hj ⟨by omega, z⟩
  rw [zNr_k k1 k2 k3]
  have e : ∀ t, zNd E q (t + 1) = if zNb q (3 - t) < 64 ∧ E (zNb q (3 - t)) = E q - 1 then nI (zNb q (3 - t)) else zNd E q t := fun _ => rfl
  have : k = 0 ∨ k = 1 ∨ k = 2 ∨ k = 3 := by omega
  rcases this with rfl | rfl | rfl | rfl
  · rw [e 3, if_pos k2]
  · rw [e 3, if_neg (k3 0 (by omega)), e 2, if_pos k2]
  · rw [e 3, if_neg (k3 0 (by omega)), e 2, if_neg (k3 1 (by omega)), e 1, if_pos k2]
  · rw [e 3, if_neg (k3 0 (by omega)), e 2, if_neg (k3 1 (by omega)), e 1, if_neg (k3 2 (by omega)), e 0, if_pos k2]
theorem pz_xnear {q : Nat} (hq : q < 64) (E : Nat → Int) (hb : ∀ q, q < 64 → -1 ≤ E q ∧ E q ≤ 64) (hq2 : 2 ≤ E q) (he : ∃ k, k < 4 ∧ zNb q k < 64 ∧ E (zNb q k) = E q - 1) (σ : gs_S) (h75 : ∀ q, q < 64 → (0 ≤ σ.1 75 q ↔ ¬ E q = -1) ∧ (¬ E q = -1 → σ.1 75 q = zI (E q - 1))) : gv_loop (fun x : Int32 × Int32 => pX11_road_L80 (nI q) σ x.1 x.2) gv_N ((-1 : Int32), (3 : Int32)) = some (nI (zNr E q), -1) := by
  have h := gv_for (fun x : Int32 × Int32 => pX11_road_L80 (nI q) σ x.1 x.2) (fun t => (zNd E q t, zDn 4 t)) 4 gv_N (gv_N_lt (by decide)) (zNd E q 4, -1) ?_ ?_
  · have h2 : gv_loop (fun x : Int32 × Int32 => pX11_road_L80 (nI q) σ x.1 x.2) gv_N ((-1 : Int32), (3 : Int32)) = some (zNd E q 4, -1) := h
    rw [h2, zNd_4 he]
  · intro t ht
    dsimp only
    rw [show zDn 4 t = nI (4 - 1 - t) from if_pos ht]
    unfold pX11_road_L80
    have k4 : 3 - t < 4 := by omega
    rw [if_neg (nI_pos (by omega)), show 4 - 1 - t = 3 - t from rfl, (zNb_x q hq (3 - t) k4).1]
    have dn := zDn_s ht
    rw [show 4 - 1 - t = 3 - t from rfl] at dn
    have e : zNd E q (t + 1) = if zNb q (3 - t) < 64 ∧ E (zNb q (3 - t)) = E q - 1 then nI (zNb q (3 - t)) else zNd E q t := rfl
    rw [e]
    by_cases v : zNb q (3 - t) < 64
    rotate_left
    · rw [if_neg v, gv_let_p, if_pos (by decide), gv_let_p, dn, if_neg (fun z => v z.1)]
    rw [if_pos v, gv_let_p, if_neg (nI_pos (by omega)), pz_inN v (by decide), nI_clamp (show zNb q (3 - t) < 2 ^ 31 by omega)]
    have b1 := hb _ v
    have b2 := hb q hq
    by_cases z : E (zNb q (3 - t)) = -1
    · rw [if_pos (by
        have := (h75 _ v).1
        rw [Int32.lt_iff_toInt_lt]
        rw [Int32.le_iff_toInt_le] at this
        have h0 : (0 : Int32).toInt = 0 := rfl
        rw [h0] at this ⊢
        have : ¬ 0 ≤ (σ.1 75 (zNb q (3 - t))).toInt := fun y => (this.mp y) z
        omega), gv_let_p, dn, if_neg (fun y => by omega)]
    · have f1 := (h75 _ v).2 z
      have f2 := (h75 q hq).2 (by omega)
      rw [if_neg (Int32.not_lt.mpr ((h75 _ v).1.mpr z)), f1, pz_inN v (by decide), pz_inN hq (by decide), nI_clamp (show q < 2 ^ 31 by omega), f2, zI_s1]
      by_cases y : E (zNb q (3 - t)) = E q - 1
      · rw [if_pos (congrArg zI (by omega)), if_pos ⟨v, y⟩, gv_let_p, dn]
      · rw [if_neg (fun x => y (by have := (zI_eq (by omega) (by omega) (by omega) (by omega)).mp x; omega)), if_neg (fun x => y x.2), gv_let_p, dn]
  · dsimp only
    unfold pX11_road_L80
    rw [show zDn 4 4 = -1 from if_neg (by omega), if_pos (by decide)]
theorem dqE_pred {c : Nat → Int} (hc : dqOne c) {s q : Nat} (hs : s < 64) (hq : q < 64) (h : 2 ≤ dqE c s q) : ∃ k, k < 4 ∧ zNb q k < 64 ∧ dqE c s (zNb q k) = dqE c s q - 1 := by
  have cs : ¬ c s = -1 := fun z => by unfold dqE at h; rw [if_pos z] at h; omega
  have e : ∀ x, dqE c s x = dqF c s x := fun x => by unfold dqE; rw [if_neg cs]
  rw [e] at h
  obtain ⟨A, -⟩ := dq_fin c s (dqOne_C hc) hs cs
  obtain ⟨a1, a2, a3, a4⟩ := A.2.1 q hq (by omega)
  have cq : c q = 1 := by rcases hc q hq with z | z; exact absurd z a3; exact z
  rcases a4 with a4 | ⟨k, k1, k2, k3, k4⟩
  · have := A.1
    subst a4
    omega
  · exact ⟨k, k1, k2, by rw [e, e]; omega⟩
theorem pz_xwalk {c : Nat → Int} (hc : dqOne c) {a b i : Nat} (ha : a < 64) (hb : b < 64) (hi : (i : Int) < dqE c b a) (σ : gs_S) (h75 : ∀ q, q < 64 → (0 ≤ σ.1 75 q ↔ ¬ dqE c b q = -1) ∧ (¬ dqE c b q = -1 → σ.1 75 q = zI (dqE c b q - 1))) : gv_loop (fun q : Int32 × Int32 => pX11_road_L67 (nI i) σ q.1 q.2) gv_N (nI a, (0 : Int32)) = some (nI (zPa (dqE c b) a i), nI i) := by
  have B : ∀ q, q < 64 → -1 ≤ dqE c b q ∧ dqE c b q ≤ 64 := fun q hq => by rcases dqE_b c b q (dqOne_C hc) hb hq with z | z <;> omega
  have d : ∀ k, k ≤ i → dqE c b (zPa (dqE c b) a k) = dqE c b a - k := by
    intro k
    induction k with
    | zero => intro _; show dqE c b a = _; omega
    | succ k ih =>
      intro hk
      have ih := ih (by omega)
      obtain ⟨j, ⟨j1, j2⟩, j3⟩ := pk_least (fun k' => k' < 4 ∧ zNb (zPa (dqE c b) a k) k' < 64 ∧ dqE c b (zNb (zPa (dqE c b) a k) k') = dqE c b (zPa (dqE c b) a k) - 1) (dqE_pred hc hb (zPa_lt _ ha k) (by omega))
      show dqE c b (zNr (dqE c b) (zPa (dqE c b) a k)) = _
      rw [zNr_k j1 j2 (fun j' hj' z => j3 j' hj' ⟨by omega, z⟩), j2.2, ih]
      omega
  have ba := B a ha
  refine gv_for (fun q : Int32 × Int32 => pX11_road_L67 (nI i) σ q.1 q.2) (fun k => (nI (zPa (dqE c b) a k), nI k)) i gv_N (gv_N_lt (by omega)) (nI (zPa (dqE c b) a i), nI i) ?_ ?_
  · intro k hk
    dsimp only
    unfold pX11_road_L67
    have dk := d k (by omega)
    rw [if_neg (nI_ge hk (by omega)), pz_xnear (zPa_lt _ ha k) (dqE c b) B (by omega) (dqE_pred hc hb (zPa_lt _ ha k) (by omega)) σ h75]
    simp only [gv_bind, gv_let, nI_1]
    rfl
  · dsimp only
    unfold pX11_road_L67
    rw [if_pos (nI_le (Nat.le_refl _) (by omega))]
theorem pz_asked (a b l p : Int32) : (pX10_isRoadAsked a b l p = 0) ↔ ¬ (iv_in a 0 63 ∧ iv_in b 0 63 ∧ iv_in l 1 99 ∧ iv_in p 1 9) := by
  unfold pX10_isRoadAsked pX10_isLoad pX10_isPace
  by_cases h1 : iv_in a 0 63
  rotate_left
  · rw [pz_if_f (pz_sq10 a) h1]; exact ⟨fun _ z => h1 z.1, fun _ => rfl⟩
  rw [pz_if_t (pz_sq10 a) h1]
  by_cases h2 : iv_in b 0 63
  rotate_left
  · rw [pz_if_f (pz_sq10 b) h2]; exact ⟨fun _ z => h2 z.2.1, fun _ => rfl⟩
  rw [pz_if_t (pz_sq10 b) h2]
  by_cases h3 : iv_in l 1 99
  rotate_left
  · rw [pz_if_f (pz_w10 l 1 99) h3]; exact ⟨fun _ z => h3 z.2.2.1, fun _ => rfl⟩
  rw [pz_if_t (pz_w10 l 1 99) h3]
  by_cases h4 : iv_in p 1 9
  rotate_left
  · rw [pz_if_f (pz_w10 p 1 9) h4]; exact ⟨fun _ z => h4 z.2.2.2, fun _ => rfl⟩
  rw [pz_if_t (pz_w10 p 1 9) h4]
  exact ⟨fun z => absurd z (by decide), fun z => absurd ⟨h1, h2, h3, h4⟩ z⟩
theorem pz_xasked (a b l p : Int32) : (pX11_isRoad a b l p = 0) ↔ ¬ (iv_in a 0 63 ∧ iv_in b 0 63 ∧ iv_in l 1 99 ∧ iv_in p 1 9) := by
  unfold pX11_isRoad
  by_cases h1 : iv_in a 0 63
  rotate_left
  · rw [pz_if_f (pz_sq11 a) h1]; exact ⟨fun _ z => h1 z.1, fun _ => rfl⟩
  rw [pz_if_t (pz_sq11 a) h1]
  by_cases h2 : iv_in b 0 63
  rotate_left
  · rw [pz_if_f (pz_sq11 b) h2]; exact ⟨fun _ z => h2 z.2.1, fun _ => rfl⟩
  rw [pz_if_t (pz_sq11 b) h2]
  by_cases h3 : iv_in l 1 99
  rotate_left
  · rw [pz_if_f (pz_x11 l 1 99) h3]; exact ⟨fun _ z => h3 z.2.2.1, fun _ => rfl⟩
  rw [pz_if_t (pz_x11 l 1 99) h3]
  by_cases h4 : iv_in p 1 9
  rotate_left
  · rw [pz_if_f (pz_x11 p 1 9) h4]; exact ⟨fun _ z => h4 z.2.2.2, fun _ => rfl⟩
  rw [pz_if_t (pz_x11 p 1 9) h4]
  exact ⟨fun z => absurd z (by decide), fun z => absurd ⟨h1, h2, h3, h4⟩ z⟩
theorem gv_bind_some {α β : Type} (a : α) (k : α → Option β) : gv_bind (some a) k = k a := rfl
theorem gv_bind2_some {α β γ : Type} (a : α) (b : β) (k : α → β → Option γ) : gv_bind2 (some (a, b)) k = k a b := rfl
theorem op_road (σ : gs_S) (hI : inv σ) (a1 : Int32) (a2 : Int32) (a3 : Int32) (a4 : Int32) (a5 : Int32) : ∃ (r : Int32) (σ1 : gs_S) (σ2 : gs_S), pX10_road a1 a2 a3 a4 a5 σ = some (r, σ1) ∧ pX11_road a1 a2 a3 a4 a5 σ1 = some (r, σ2) ∧ inv σ2 := by
  unfold pX10_road pX11_road
  by_cases h1 : iv_in a1 0 63 ∧ iv_in a2 0 63 ∧ iv_in a3 1 99 ∧ iv_in a4 1 9
  rotate_left
  · exact ⟨-1, σ, σ, pz_if_f (pz_asked a1 a2 a3 a4) h1 _ _, pz_if_f (pz_xasked a1 a2 a3 a4) h1 _ _, hI⟩
  rw [pz_if_t (pz_asked a1 a2 a3 a4) h1]
  have X := fun (β : Type) (x y : β) => pz_if_t (pz_xasked a1 a2 a3 a4) h1 x y
  by_cases h5 : iv_in a5 (-1) 63
  rotate_left
  · exact ⟨-1, σ, σ, pz_if_f (pz_w10 a5 (-1) 63) h5 _ _, by rw [X]; exact pz_if_f (pz_x11 a5 (-1) 63) h5 _ _, hI⟩
  rw [pz_if_t (pz_w10 a5 (-1) 63) h5]
  have X5 := fun (β : Type) (x y : β) => pz_if_t (pz_x11 a5 (-1) 63) h5 x y
  obtain ⟨a, ha, rfl⟩ := pz_nat 63 h1.1 (by decide)
  obtain ⟨b, hb, rfl⟩ := pz_nat 63 h1.2.1 (by decide)
  obtain ⟨⟨i1, i2, i3⟩, -⟩ := id hI
  obtain ⟨φ, f1, f2, f3, f4⟩ := pz_weigh σ i3
  rw [show pX11_needBy a3 a4 = pX10_weightAlone a3 a4 from rfl]
  generalize pX10_weightAlone a3 a4 = w
  obtain ⟨c, hcc⟩ : ∃ c, c = zCo (zB (σ.1 3)) w := ⟨_, rfl⟩
  have one : dqOne c := by rw [hcc]; exact zCo_one _ _
  obtain ⟨τ, t1, t2, t3, t4⟩ := pz_length (a := a) (b := b) (by omega) (by omega) w φ
  rw [dqE_cong (c2 := c) (by rw [hcc]; exact zCo_eq w f4) (by omega)] at t1 t4
  have st : sm σ τ := ⟨fun x hx => by rw [t2 x (by omega) (by omega) (by omega), f2 x (by omega)], fun i _ _ _ => by rw [t2 63 (by decide) (by decide) (by decide), f2 63 (by decide)], by rw [t3, f3]⟩
  have e64 : τ.1 64 = σ.1 64 := st.1 64 (by omega)
  obtain ⟨ψ, g1, g2, g3, g4⟩ := pz_xbearNow τ
  rw [e64] at g4
  obtain ⟨υ, u1, ⟨u2, u3, u4⟩, u5⟩ := pz_size (a := a) (b := b) (by omega) (by omega) w ψ
  have cc : ∀ q, q < 64 → zCo (ψ.1 76) w q = c q := fun q hq => by
    rw [hcc, zCo_eq w g4 q hq]
    exact zCo_eq w (fun q hq => (zB_eq i1 hq).symm) q hq
  rw [dqE_cong cc (by omega), cc b (by omega)] at u5
  rw [dqE_cong cc (by omega)] at u1
  have su : sm σ υ := ⟨fun x hx => by rw [u2 x (by omega) (by omega) (by omega), g2 x (by omega), st.1 x hx], fun i x1 x2 x3 => by rw [u3 i x3, g2 63 (by decide), st.2.1 i x1 x2 x3], by rw [u4, g3, st.2.2]⟩
  have E := dqE_b c b a (dqOne_C one) (by omega) (by omega)
  rw [f1, gv_bind_some, t1, gv_bind2_some]
  have R : ∀ r : Int32, (gv_bind2 (pX11_roadSize (nI a) (nI b) w ψ) (fun v2 s3 => if v2 = 0 then some ((-4 : Int32), s3) else if a5 < v2 then gv_bind (gv_loop (fun q => pX11_road_L67 a5 s3 q.1 q.2) gv_N (nI a, (0 : Int32))) (fun q => gv_let q.1 (fun v20 => gv_let q.2 (fun v21 => if 0 ≤ a5 then some (v20, s3) else some (v2, s3)))) else some ((-4 : Int32), s3))) = some (r, υ) → ∃ (r1 : Int32) (σ1 σ2 : gs_S), some (r, τ) = some (r1, σ1) ∧ (if pX11_isRoad (nI a) (nI b) a3 a4 = 0 then some ((-1 : Int32), σ1) else if pX11_in a5.toInt64 (-1) 63 = 0 then some ((-1 : Int32), σ1) else gv_bind (pX11_bearNow σ1) (fun s1 => gv_bind2 (pX11_roadSize (nI a) (nI b) w s1) (fun v2 s3 => if v2 = 0 then some ((-4 : Int32), s3) else if a5 < v2 then gv_bind (gv_loop (fun q => pX11_road_L67 a5 s3 q.1 q.2) gv_N (nI a, (0 : Int32))) (fun q => gv_let q.1 (fun v20 => gv_let q.2 (fun v21 => if 0 ≤ a5 then some (v20, s3) else some (v2, s3)))) else some ((-4 : Int32), s3)))) = some (r1, σ2) ∧ inv σ2 := by
    intro r hr
    refine ⟨r, τ, υ, rfl, ?_, inv_sm hI su⟩
    rw [X, X5, g1, gv_bind_some]
    exact hr
  by_cases z : dqE c b a = -1
  · rw [if_pos z, if_pos rfl]
    refine R (-4) ?_
    rw [u1, if_pos z, gv_bind2_some, if_pos rfl]
  rw [if_neg z] at u1 ⊢
  have E2 : 1 ≤ dqE c b a ∧ dqE c b a ≤ 64 := by
    refine ⟨?_, by omega⟩
    have cs : ¬ c b = -1 := fun y => z (by unfold dqE; rw [if_pos y])
    have e : ∀ x, dqE c b x = dqF c b x := fun x => by unfold dqE; rw [if_neg cs]
    obtain ⟨A, -⟩ := dq_fin c b (dqOne_C one) (by omega) cs
    rw [e] at z ⊢
    obtain ⟨x1, x2, x3, x4⟩ := A.2.1 a (by omega) z
    have cq : c a = 1 := by rcases one a (by omega) with y | y; exact absurd y x3; exact y
    rcases x4 with x4 | ⟨k, k1, k2, k3, k4⟩
    · have h7 := A.1
      rw [x4, h7]
      rw [x4] at cq
      omega
    · have := (A.2.1 _ k2 k3).1
      omega
  have n4 : ¬ zI (dqE c b a) = -4 := by rw [show (-4 : Int32) = zI (-4) from by decide, zI_eq (by omega) (by omega) (by omega) (by omega)]; omega
  have n0 : ¬ zI (dqE c b a) = 0 := by rw [zI_0, zI_eq (by omega) (by omega) (by omega) (by omega)]; omega
  rw [if_neg n4]
  have cs : ¬ c b = -1 := fun y => z (by unfold dqE; rw [if_pos y])
  have u5 := u5 cs
  have ba : ∀ q, q < 64 → -1 ≤ dqE c b q ∧ dqE c b q ≤ 64 := fun q hq => by rcases dqE_b c b q (dqOne_C one) (by omega) hq with y | y <;> omega
  have b5 : a5 = zI a5.toInt := zI_z (by have := h5.1; omega) (by have := h5.2; omega)
  have l5 : a5 < zI (dqE c b a) ↔ a5.toInt < dqE c b a := by
    conv => lhs; rw [b5]
    rw [zI_lt (by have := h5.1; omega) (by have := h5.2; omega) (by omega) (by omega)]
  by_cases y : a5 < zI (dqE c b a)
  rotate_left
  · rw [if_neg y]
    refine R (-4) ?_
    rw [u1, gv_bind2_some]
    rw [if_neg n0, if_neg y]
  rw [if_pos y]
  by_cases pos : 0 ≤ a5
  · obtain ⟨i, hi, e5⟩ := pz_nat 63 (x := a5) ⟨by rw [Int32.le_iff_toInt_le] at pos; exact pos, h5.2⟩ (by decide)
    have hi2 : (i : Int) < dqE c b a := by
      have := l5.mp y
      rw [e5, nI_toInt (by omega)] at this
      exact this
    rw [if_pos pos]
    rw [show pX3_walk (nI a) a5 τ = some (nI (zPa (dqE c b) a i)) from by rw [e5]; exact pz_walk (by omega) (by omega) (dqE c b) ba τ t4, gv_bind_some]
    refine R (nI (zPa (dqE c b) a i)) ?_
    rw [u1, gv_bind2_some]
    rw [if_neg n0, if_pos y]
    rw [show gv_loop (fun q : Int32 × Int32 => pX11_road_L67 a5 υ q.1 q.2) gv_N (nI a, (0 : Int32)) = some (nI (zPa (dqE c b) a i), nI i) from by rw [e5]; exact pz_xwalk one (by omega) (by omega) hi2 υ u5, gv_bind_some, gv_let_p, gv_let_p]
    rw [if_pos pos]
  · rw [if_neg pos]
    refine R (zI (dqE c b a)) ?_
    rw [u1, gv_bind2_some]
    rw [if_neg n0, if_pos y]
    have lo : gv_loop (fun q : Int32 × Int32 => pX11_road_L67 a5 υ q.1 q.2) gv_N (nI a, (0 : Int32)) = some (nI a, 0) := by
      refine gv_loop_x _ 99999 _ _ ?_
      dsimp only
      unfold pX11_road_L67
      rw [if_pos (by
        rw [Int32.le_iff_toInt_le] at pos ⊢
        omega)]
    rw [lo, gv_bind_some, gv_let_p, gv_let_p, if_neg pos]
