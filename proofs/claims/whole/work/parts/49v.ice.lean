/-! PURE, 49v: ice as a text -/
def kdT (T : Nat → Nat) (n p : Nat) : Nat := if p < n ∧ T p = 108 then 1 else if p < n ∧ T p = 99 then 2 else if p < n ∧ T p = 111 then 3 else if p < n ∧ T p = 101 then 4 else 0
def kpT (T : Nat → Nat) (n p : Nat) : Nat := if kdT T n p = 0 then p else zSk T n (p + 1)
theorem kdT_le (T : Nat → Nat) (n p : Nat) : kdT T n p ≤ 4 ∧ (¬ kdT T n p = 0 → p < n) := by
  unfold kdT
  by_cases a : p < n ∧ T p = 108
  · rw [if_pos a]; exact ⟨by omega, fun _ => a.1⟩
  · rw [if_neg a]
    by_cases b : p < n ∧ T p = 99
    · rw [if_pos b]; exact ⟨by omega, fun _ => b.1⟩
    · rw [if_neg b]
      by_cases c : p < n ∧ T p = 111
      · rw [if_pos c]; exact ⟨by omega, fun _ => c.1⟩
      · rw [if_neg c]
        by_cases d : p < n ∧ T p = 101
        · rw [if_pos d]; exact ⟨by omega, fun _ => d.1⟩
        · rw [if_neg d]; exact ⟨by omega, fun z => absurd rfl z⟩
def chT (k : Nat) : Nat := [108, 99, 111, 101].getD k 0
theorem chT_c : ∀ k, k < 4 → gs_chat (nI (k + 1)) = some (nI (chT k)) ∧ chT k < 1000 := by decide +kernel
theorem kdT_k {T : Nat → Nat} {n p k : Nat} (hk : k < 4) (h : p < n ∧ T p = chT k) : kdT T n p = k + 1 := by
  unfold kdT
  have : k = 0 ∨ k = 1 ∨ k = 2 ∨ k = 3 := by omega
  obtain ⟨h1, h2⟩ := h
  rcases this with rfl | rfl | rfl | rfl
  · have h2 : T p = 108 := h2
    rw [if_pos ⟨h1, h2⟩]
  · have h2 : T p = 99 := h2
    rw [if_neg (by omega), if_pos ⟨h1, h2⟩]
  · have h2 : T p = 111 := h2
    rw [if_neg (by omega), if_neg (by omega), if_pos ⟨h1, h2⟩]
  · have h2 : T p = 101 := h2
    rw [if_neg (by omega), if_neg (by omega), if_neg (by omega), if_pos ⟨h1, h2⟩]
theorem kdT_n {T : Nat → Nat} {n p : Nat} (h : ∀ k, k < 4 → ¬ (p < n ∧ T p = chT k)) : kdT T n p = 0 := by
  unfold kdT
  rw [if_neg (show ¬ (p < n ∧ T p = 108) from h 0 (by omega)), if_neg (show ¬ (p < n ∧ T p = 99) from h 1 (by omega)), if_neg (show ¬ (p < n ∧ T p = 111) from h 2 (by omega)), if_neg (show ¬ (p < n ∧ T p = 101) from h 3 (by omega))]
theorem pz_kind {T : Nat → Nat} {n : Nat} {τ : gs_S} (h : tp τ T n) (p : Nat) (hp : p ≤ n) : pX0_readKind (ca τ p) = some (nI (kdT T n p), ca τ (kpT T n p)) := by
  unfold pX0_readKind
  have h9 := gv_find (fun q : Int32 × gs_S => pX0_readKind_L2 q.1 q.2) (fun k => (nI (k + 1), ca τ p)) (fun k => p < n ∧ T p = chT k) (fun k => .inr (nI (k + 1), ca τ (zSk T n (p + 1)))) 4 gv_N (gv_N_lt (by decide)) (.inl (nI 5, ca τ p)) ?_ ?_ ?_
  · unfold kpT
    rcases h9 with ⟨k, k1, k2, -, k4⟩ | ⟨k1, k4⟩
    · have h2 : gv_loop (fun q : Int32 × gs_S => pX0_readKind_L2 q.1 q.2) gv_N ((1 : Int32), ca τ p) = some (.inr (nI (k + 1), ca τ (zSk T n (p + 1)))) := k4
      rw [h2, kdT_k k1 k2, if_neg (by omega)]; rfl
    · have h2 : gv_loop (fun q : Int32 × gs_S => pX0_readKind_L2 q.1 q.2) gv_N ((1 : Int32), ca τ p) = some (.inl (nI 5, ca τ p)) := k4
      rw [h2, kdT_n k1, if_pos rfl]; rfl
  · intro k hk c
    dsimp only
    obtain ⟨c1, c2⟩ := chT_c k hk
    unfold pX0_readKind_L2
    rw [if_neg (show ¬ (4 : Int32) < nI (k + 1) from nI_nlt (a := 4) (by omega) (by decide)), c1, gv_bind_some, (pz_takes h p hp c2).2 c, gv_bind2_some, if_pos rfl, gv_let_p, nI_1]
  · intro k hk c
    dsimp only
    obtain ⟨c1, c2⟩ := chT_c k hk
    unfold pX0_readKind_L2
    rw [if_neg (show ¬ (4 : Int32) < nI (k + 1) from nI_nlt (a := 4) (by omega) (by decide)), c1, gv_bind_some, (pz_takes h p hp c2).1 c, gv_bind2_some, if_neg (by decide)]
  · dsimp only
    unfold pX0_readKind_L2
    rw [if_pos (by decide)]
/-! a row -/
abbrev rS : Type := Nat × Nat × (Nat → Int)
def rwS (T : Nat → Nat) (n row : Nat) (S : rS) : rS := (S.1 + 1, kpT T n (zSk T n (S.2.1 + 1)), fun x => if x = 8 * row + S.1 then ((5 * (10 * (T S.2.1 - 48)) + kdT T n (zSk T n (S.2.1 + 1)) : Nat) : Int) else S.2.2 x)
def rwN (T : Nat → Nat) (n row : Nat) : Nat → rS → rS
  | 0, S => S
  | f + 1, S => if S.2.1 < n ∧ 48 ≤ T S.2.1 ∧ T S.2.1 ≤ 57 then rwN T n row f (rwS T n row S) else S
def gOk (G : Nat → Int) : Prop := ∀ q, q < 64 → G q = -1 ∨ ∃ v k : Nat, G q = ((5 * v + k : Nat) : Int) ∧ v ≤ 90 ∧ k ≤ 4
def cR (τ : gs_S) (G : Nat → Int) : Prop := ∀ q, q < 64 → (G q = -1 → τ.1 32 q = -1) ∧ ∀ v k : Nat, G q = ((5 * v + k : Nat) : Int) → k ≤ 4 → v ≤ 90 → τ.1 32 q = nI v ∧ τ.1 33 q = nI k
def cF (σ τ : gs_S) : Prop := (∀ x, ¬ x = 32 → ¬ x = 33 → τ.1 x = σ.1 x) ∧ τ.2 = σ.2
theorem tp_F {σ τ : gs_S} {T : Nat → Nat} {n : Nat} (h : tp σ T n) (f : cF σ τ) : tp τ T n := ⟨h.1, by rw [f.1 29 (by decide) (by decide)]; exact h.2.1, fun k hk => by rw [f.1 30 (by decide) (by decide)]; exact h.2.2 k hk⟩
theorem gOk_u {G : Nat → Int} (h : gOk G) (i : Nat) {v k : Nat} (hv : v ≤ 90) (hk : k ≤ 4) : gOk (fun x => if x = i then ((5 * v + k : Nat) : Int) else G x) := fun q hq => by
  dsimp only
  by_cases e : q = i
  · rw [if_pos e]; exact Or.inr ⟨v, k, rfl, hv, hk⟩
  · rw [if_neg e]; exact h q hq
theorem kpT_b {T : Nat → Nat} {n p : Nat} (hp : p ≤ n) (hz : zSk T n p = p) : kpT T n p ≤ n ∧ zSk T n (kpT T n p) = kpT T n p := by
  unfold kpT
  by_cases c : kdT T n p = 0
  · rw [if_pos c]; exact ⟨hp, hz⟩
  · rw [if_neg c]
    have := (kdT_le T n p).2 c
    obtain ⟨b1, b2, b3, b4⟩ := zSk_b (T := T) (show p + 1 ≤ n by omega)
    exact ⟨b2, b4⟩
theorem rwN_b {T : Nat → Nat} {n row : Nat} (ht : ∀ k, k < n → 32 ≤ T k ∧ T k ≤ 126) : ∀ f (S : rS), S.2.1 ≤ n → zSk T n S.2.1 = S.2.1 → gOk S.2.2 → (rwN T n row f S).2.1 ≤ n ∧ zSk T n (rwN T n row f S).2.1 = (rwN T n row f S).2.1 ∧ gOk (rwN T n row f S).2.2 ∧ S.1 ≤ (rwN T n row f S).1 ∧ (rwN T n row f S).1 ≤ S.1 + f := by
  intro f
  induction f with
  | zero => intro S h1 h2 h3; exact ⟨h1, h2, h3, Nat.le_refl _, Nat.le_refl _⟩
  | succ f ih =>
    intro S h1 h2 h3
    unfold rwN
    by_cases c : S.2.1 < n ∧ 48 ≤ T S.2.1 ∧ T S.2.1 ≤ 57
    · rw [if_pos c]
      obtain ⟨b1, b2, b3, b4⟩ := zSk_b (T := T) (show S.2.1 + 1 ≤ n by omega)
      obtain ⟨k1, k2⟩ := kpT_b b2 b4
      obtain ⟨i1, i2, i3, i4, i5⟩ := ih (rwS T n row S) k1 k2 (gOk_u h3 _ (by omega) (kdT_le _ _ _).1)
      have e : (rwS T n row S).1 = S.1 + 1 := rfl
      exact ⟨i1, i2, i3, by omega, by omega⟩
    · rw [if_neg c]; exact ⟨h1, h2, h3, Nat.le_refl _, by omega⟩
theorem pz_row {T : Nat → Nat} {n row : Nat} (hr : row < 8) : ∀ f (S : rS) (τ : gs_S) (N : Nat), S.1 + f = 8 → f < N → tp τ T n → S.2.1 ≤ n → cR τ S.2.2 → ∃ τ', gv_loop (fun q : Int32 × gs_S => pX0_readRow_L2 (nI row) q.1 q.2) N (nI S.1, ca τ S.2.1) = some (nI (rwN T n row f S).1, ca τ' (rwN T n row f S).2.1) ∧ cF τ τ' ∧ cR τ' (rwN T n row f S).2.2 := by
  intro f
  induction f with
  | zero =>
    intro S τ N h1 hN ht hp hR
    obtain ⟨M, rfl⟩ : ∃ M, N = M + 1 := ⟨N - 1, by omega⟩
    refine ⟨τ, gv_loop_x _ M _ _ ?_, ⟨fun _ _ _ => rfl, rfl⟩, hR⟩
    dsimp only
    unfold pX0_readRow_L2
    rw [if_pos (show (8 : Int32) ≤ nI S.1 from nI_le (a := 8) (by omega) (by omega))]
    rfl
  | succ f ih =>
    intro S τ N h1 hN ht hp hR
    obtain ⟨M, rfl⟩ : ∃ M, N = M + 1 := ⟨N - 1, by omega⟩
    obtain ⟨c, p, G⟩ := S
    dsimp only at h1 hp hR ⊢
    obtain ⟨d, d1, d2⟩ := pz_digit ht p hp
    have e8 : ¬ (8 : Int32) ≤ nI c := nI_ge (b := 8) (by omega) (by decide)
    by_cases z : p < n ∧ 48 ≤ T p ∧ T p ≤ 57
    · have dz : ¬ d = 0 := fun y => (d2.mp y) z
      have eN : rwN T n row (f + 1) (c, p, G) = rwN T n row f (rwS T n row (c, p, G)) := if_pos z
      rw [eN]
      have idx : nI row * (8 : Int32) + nI c = nI (8 * row + c) := by
        rw [show (8 : Int32) = nI 8 from rfl, nI_mul, nI_add, Nat.mul_comm]
      obtain ⟨b1, b2, b3, b4⟩ := zSk_b (T := T) (show p + 1 ≤ n by omega)
      obtain ⟨φ, eφ⟩ : ∃ φ, φ = gs_u (gs_u τ 32 (8 * row + c) (nI (10 * (T p - 48)))) 33 (8 * row + c) (nI (kdT T n (zSk T n (p + 1)))) := ⟨_, rfl⟩
      have tφ : tp φ T n := by rw [eφ]; exact tp_u (tp_u ht _ _ _ (by decide) (by decide)) _ _ _ (by decide) (by decide)
      have step : pX0_readRow_L2 (nI row) (nI c) (ca τ p) = some (.inl (nI (c + 1), ca φ (kpT T n (zSk T n (p + 1))))) := by
        unfold pX0_readRow_L2
        rw [if_neg e8, d1, gv_bind_some, if_neg dz, idx, gv_let_p, pz_sign ht p hp, gv_bind_some, pz_inN (by omega) (by decide), nI_clamp (by omega)]
        rw [show zSi T n p = nI (T p) from if_pos z.1, show (48 : Int32) = nI 48 from rfl, nI_sub z.2.1, show (10 : Int32) = nI 10 from rfl, nI_mul, gv_let_p, ca_u _ _ _ _ _ (by decide), pz_pass (tp_u ht _ _ _ (by decide) (by decide)) p z.1, gv_bind_some, pz_kind (tp_u ht _ _ _ (by decide) (by decide)) _ b2, gv_bind2_some, pz_inN (by omega) (by decide), gv_let_p, ca_u _ _ _ _ _ (by decide), gv_let_p, nI_1, ← eφ]
      have kl := (kdT_le T n (zSk T n (p + 1))).1
      obtain ⟨τ', t1, t2, t3⟩ := ih (rwS T n row (c, p, G)) φ M (by show c + 1 + f = 8; omega) (by omega) tφ (kpT_b b2 b4).1 (by
        intro q hq
        rw [eφ, pz_u, if_neg (by decide), pz_u, if_pos rfl, pz_upd, pz_u, if_pos rfl, pz_upd]
        show ((if q = 8 * row + c then ((5 * (10 * (T p - 48)) + kdT T n (zSk T n (p + 1)) : Nat) : Int) else G q) = -1 → _) ∧ ∀ v k : Nat, (if q = 8 * row + c then ((5 * (10 * (T p - 48)) + kdT T n (zSk T n (p + 1)) : Nat) : Int) else G q) = _ → _
        by_cases e : q = 8 * row + c
        · rw [if_pos e, if_pos e, if_pos e]
          refine ⟨fun y => by omega, fun v k y1 y2 y3 => ?_⟩
          have y4 : v = 10 * (T p - 48) ∧ k = kdT T n (zSk T n (p + 1)) := by omega
          rw [y4.1, y4.2]; exact ⟨rfl, rfl⟩
        · rw [if_neg e, if_neg e, if_neg e, pz_u, if_neg (by decide)]; exact hR q hq)
      refine ⟨τ', ?_, ⟨fun x x1 x2 => ?_, ?_⟩, t3⟩
      · rw [gv_loop_s _ M _ _ step]; exact t1
      · rw [t2.1 x x1 x2, eφ, pz_u, if_neg x2, pz_u, if_neg x1]
      · rw [t2.2, eφ, pz_u2, pz_u2]
    · have dz : d = 0 := d2.mpr z
      have eN : rwN T n row (f + 1) (c, p, G) = (c, p, G) := if_neg z
      rw [eN]
      refine ⟨τ, gv_loop_x _ M _ _ ?_, ⟨fun _ _ _ => rfl, rfl⟩, hR⟩
      dsimp only
      unfold pX0_readRow_L2
      rw [if_neg e8, d1, gv_bind_some, if_pos dz]
/-! the whole text -/
def icN (T : Nat → Nat) (n : Nat) : Nat → Nat → Nat → Nat → (Nat → Int) → Bool × Nat × Nat × (Nat → Int)
  | 0, _, told, p, G => (false, told, p, G)
  | f + 1, row, told, p, G =>
    if (rwN T n row 8 (0, p, G)).1 = 0 then (false, told + (rwN T n row 8 (0, p, G)).1, (rwN T n row 8 (0, p, G)).2.1, (rwN T n row 8 (0, p, G)).2.2)
    else if ¬ (rwN T n row 8 (0, p, G)).2.1 < n then (true, told + (rwN T n row 8 (0, p, G)).1, (rwN T n row 8 (0, p, G)).2.1, (rwN T n row 8 (0, p, G)).2.2)
    else if row = 7 ∨ ¬ T (rwN T n row 8 (0, p, G)).2.1 = 47 then (false, told + (rwN T n row 8 (0, p, G)).1, (rwN T n row 8 (0, p, G)).2.1, (rwN T n row 8 (0, p, G)).2.2)
    else icN T n f (row + 1) (told + (rwN T n row 8 (0, p, G)).1) (zSk T n ((rwN T n row 8 (0, p, G)).2.1 + 1)) (rwN T n row 8 (0, p, G)).2.2
theorem icN_b {T : Nat → Nat} {n : Nat} (ht : ∀ k, k < n → 32 ≤ T k ∧ T k ≤ 126) : ∀ f row told p G, p ≤ n → zSk T n p = p → gOk G → (icN T n f row told p G).2.2.1 ≤ n ∧ gOk (icN T n f row told p G).2.2.2 ∧ (icN T n f row told p G).2.1 ≤ told + 8 * f ∧ ((icN T n f row told p G).1 = true → 1 ≤ (icN T n f row told p G).2.1) := by
  intro f
  induction f with
  | zero => intro row told p G h1 h2 h3; exact ⟨h1, h3, Nat.le_refl _, fun z => by cases z⟩
  | succ f ih =>
    intro row told p G h1 h2 h3
    obtain ⟨b1, b2, b3, b4, b5⟩ := rwN_b (row := row) ht 8 (0, p, G) h1 h2 h3
    unfold icN
    generalize rwN T n row 8 (0, p, G) = S at *
    dsimp only at b4 b5
    by_cases c1 : S.1 = 0
    · rw [if_pos c1]; exact ⟨b1, b3, by dsimp only; omega, fun z => by cases z⟩
    · rw [if_neg c1]
      by_cases c2 : ¬ S.2.1 < n
      · rw [if_pos c2]; exact ⟨b1, b3, by dsimp only; omega, fun _ => by dsimp only; omega⟩
      · rw [if_neg c2]
        by_cases c3 : row = 7 ∨ ¬ T S.2.1 = 47
        · rw [if_pos c3]; exact ⟨b1, b3, by dsimp only; omega, fun z => by cases z⟩
        · rw [if_neg c3]
          obtain ⟨z1, z2, z3, z4⟩ := zSk_b (T := T) (show S.2.1 + 1 ≤ n by omega)
          obtain ⟨i1, i2, i3, i4⟩ := ih (row + 1) (told + S.1) (zSk T n (S.2.1 + 1)) S.2.2 z2 z4 b3
          exact ⟨i1, i2, by omega, i4⟩
theorem pz_readIce {T : Nat → Nat} {n : Nat} (hT : ∀ k, k < n → 32 ≤ T k ∧ T k ≤ 126) : ∀ f row told p G (τ : gs_S) (N : Nat), row + f = 8 → f < N → tp τ T n → p ≤ n → zSk T n p = p → gOk G → cR τ G → told + 8 * f ≤ 100 → ∃ τ' e, gv_loop (fun q : Int32 × Int32 × gs_S => pX0_readIce_L16 q.1 q.2.1 q.2.2) N (nI told, nI row, ca τ p) = some e ∧ ((icN T n f row told p G).1 = true → e = .inr (nI (icN T n f row told p G).2.1, ca τ' (icN T n f row told p G).2.2.1)) ∧ ((icN T n f row told p G).1 = false → ∃ a b, e = .inl (a, b, ca τ' (icN T n f row told p G).2.2.1)) ∧ cF τ τ' ∧ cR τ' (icN T n f row told p G).2.2.2 := by
  intro f
  induction f with
  | zero =>
    intro row told p G τ N h1 hN ht hp hz hG hR hto
    obtain ⟨M, rfl⟩ : ∃ M, N = M + 1 := ⟨N - 1, by omega⟩
    refine ⟨τ, .inl (nI told, nI row, ca τ p), gv_loop_x _ M _ _ ?_, fun z => (by cases z), fun _ => ⟨_, _, rfl⟩, ⟨fun _ _ _ => rfl, rfl⟩, hR⟩
    dsimp only
    unfold pX0_readIce_L16
    rw [if_pos (show (8 : Int32) ≤ nI row from nI_le (a := 8) (by omega) (by omega))]
  | succ f ih =>
    intro row told p G τ N h1 hN ht hp hz hG hR hto
    obtain ⟨M, rfl⟩ : ∃ M, N = M + 1 := ⟨N - 1, by omega⟩
    obtain ⟨b1, b2, b3, b4, b5⟩ := rwN_b (row := row) hT 8 (0, p, G) hp hz hG
    obtain ⟨φ, r1, r2, r3⟩ := pz_row (show row < 8 by omega) 8 (0, p, G) τ gv_N (by omega) (gv_N_lt (by decide)) ht hp hR
    have tφ := tp_F ht r2
    unfold icN
    generalize rwN T n row 8 (0, p, G) = S at *
    dsimp only at b4 b5 r1
    have rr : pX0_readRow (nI row) (ca τ p) = some (nI S.1, ca φ S.2.1) := by
      unfold pX0_readRow
      have r1' : gv_loop (fun q : Int32 × gs_S => pX0_readRow_L2 (nI row) q.1 q.2) gv_N ((0 : Int32), ca τ p) = some (nI S.1, ca φ S.2.1) := r1
      rw [r1']; rfl
    have body : ∀ x, pX0_readIce_L16 (nI told) (nI row) (ca τ p) = x ↔ (if nI S.1 ≤ 0 then pX0_readIce_J50 (nI S.1) (nI (told + S.1)) (nI row) (ca φ S.2.1) else if zSi T n S.2.1 = (-1 : Int32) then some (.inr (.inr (nI (told + S.1), ca φ S.2.1))) else pX0_readIce_J50 (nI S.1) (nI (told + S.1)) (nI row) (ca φ S.2.1)) = x := fun x => by
      unfold pX0_readIce_L16
      rw [if_neg (show ¬ (8 : Int32) ≤ nI row from nI_ge (b := 8) (by omega) (by decide)), rr, gv_bind2_some, gv_let_p, nI_add, pz_sign tφ _ b1, gv_bind_some]
    by_cases c1 : S.1 = 0
    · rw [if_pos c1]
      refine ⟨φ, .inl (nI (told + S.1), nI row, ca φ S.2.1), gv_loop_x _ M _ _ ((body _).mpr ?_), fun z => (by cases z), fun _ => ⟨_, _, rfl⟩, r2, r3⟩
      rw [if_pos (by rw [c1]; decide)]
      unfold pX0_readIce_J50
      rw [if_pos (by rw [c1]; rfl)]
    · rw [if_neg c1]
      have p1 : ¬ nI S.1 ≤ 0 := nI_nle (by omega) (by omega)
      by_cases c2 : ¬ S.2.1 < n
      · rw [if_pos c2]
        refine ⟨φ, .inr (nI (told + S.1), ca φ S.2.1), gv_loop_x _ M _ _ ((body _).mpr ?_), fun _ => rfl, fun z => (by cases z), r2, r3⟩
        rw [if_neg p1, if_pos (show zSi T n S.2.1 = -1 from if_neg c2)]
      · rw [if_neg c2]
        have p2 : ¬ zSi T n S.2.1 = (-1 : Int32) := by
          rw [show zSi T n S.2.1 = nI (T S.2.1) from if_pos (by omega)]
          exact nI_m1 (by have := hT S.2.1 (by omega); omega)
        by_cases c3 : row = 7 ∨ ¬ T S.2.1 = 47
        · rw [if_pos c3]
          refine ⟨φ, .inl (nI (told + S.1), nI row, ca φ S.2.1), gv_loop_x _ M _ _ ((body _).mpr ?_), fun z => (by cases z), fun _ => ⟨_, _, rfl⟩, r2, r3⟩
          rw [if_neg p1, if_neg p2]
          unfold pX0_readIce_J50
          rw [if_neg (nI_ne0 (by omega) (by omega))]
          by_cases r7 : row = 7
          · rw [if_pos (by rw [r7]; rfl)]
          · rw [if_neg (show ¬ nI row = (7 : Int32) from fun y => r7 ((nI_eq (by omega) (by decide)).mp (show nI row = nI 7 from y))), show (47 : Int32) = nI 47 from rfl, (pz_takes tφ S.2.1 b1 (by decide)).2 (by omega), gv_bind2_some, if_pos rfl]
        · rw [if_neg c3]
          obtain ⟨z1, z2, z3, z4⟩ := zSk_b (T := T) (show S.2.1 + 1 ≤ n by omega)
          have step : pX0_readIce_L16 (nI told) (nI row) (ca τ p) = some (.inl (nI (told + S.1), nI (row + 1), ca φ (zSk T n (S.2.1 + 1)))) := (body _).mpr (by
            rw [if_neg p1, if_neg p2]
            unfold pX0_readIce_J50
            rw [if_neg (nI_ne0 (by omega) (by omega)), if_neg (show ¬ nI row = (7 : Int32) from fun y => c3 (Or.inl ((nI_eq (by omega) (by decide)).mp (show nI row = nI 7 from y)))), show (47 : Int32) = nI 47 from rfl, (pz_takes tφ S.2.1 b1 (by decide)).1 (by omega), gv_bind2_some, if_neg (by decide), gv_let_p, nI_1])
          obtain ⟨τ', e, i1, i2, i3, i4, i5⟩ := ih (row + 1) (told + S.1) (zSk T n (S.2.1 + 1)) S.2.2 φ M (by omega) (by omega) tφ z2 z4 b3 r3 (by omega)
          exact ⟨τ', e, by rw [gv_loop_s _ M _ _ step]; exact i1, i2, i3, ⟨fun x x1 x2 => by rw [i4.1 x x1 x2, r2.1 x x1 x2], by rw [i4.2, r2.2]⟩, i5⟩
/-! the ice laid -/
def zIc (G : Nat → Int) (f : Nat → Int32) (i : Nat) : Int32 := if G (i % 64) = -1 then f i else if i < 64 then nI ((G (i % 64)).toNat / 5) else if i < 128 then nI ((G (i % 64)).toNat % 5) else 0
theorem zIc_n {G : Nat → Int} {f : Nat → Int32} {i : Nat} (h : G (i % 64) = -1) : zIc G f i = f i := if_pos h
theorem pz_lay {τ : gs_S} {G : Nat → Int} (hG : gOk G) (hR : cR τ G) : ∃ τ', pX0_layIce τ = some τ' ∧ (∀ x, ¬ x = 3 → τ'.1 x = τ.1 x) ∧ τ'.2 = τ.2 ∧ ∀ i, i < 320 → τ'.1 3 i = zIc G (τ.1 3) i := by
  unfold pX0_layIce
  have L := gv_rel (fun q : Int32 × gs_S => pX0_layIce_L2 q.1 q.2) (fun k q => q.1 = nI k ∧ (∀ x, ¬ x = 3 → q.2.1 x = τ.1 x) ∧ q.2.2 = τ.2 ∧ ∀ i, i < 320 → q.2.1 3 i = if i % 64 < k then zIc G (τ.1 3) i else τ.1 3 i) 64 gv_N (gv_N_lt (by decide)) (fun q => (∀ x, ¬ x = 3 → q.2.1 x = τ.1 x) ∧ q.2.2 = τ.2 ∧ ∀ i, i < 320 → q.2.1 3 i = zIc G (τ.1 3) i) ?_ ?_ ((0 : Int32), τ) ⟨rfl, fun _ _ => rfl, rfl, fun i _ => by rw [if_neg (by omega)]⟩
  · obtain ⟨⟨v, φ⟩, l1, l2, l3, l4⟩ := L
    rw [l1]
    exact ⟨φ, rfl, l2, l3, l4⟩
  · rintro k ⟨v, ρ⟩ k1 ⟨r1, r2, r3, r4⟩
    dsimp only at r1 r2 r3 r4 ⊢
    subst r1
    unfold pX0_layIce_L2
    rw [if_neg (show ¬ (64 : Int32) ≤ nI k from nI_ge (b := 64) k1 (by decide)), pz_inN k1 (by decide), nI_clamp (show k < 2 ^ 31 by omega), r2 32 (by decide)]
    rcases hG k k1 with g | ⟨w, d, g, hw, hd⟩
    · rw [(hR k k1).1 g, if_pos rfl, gv_let_p, nI_1]
      refine ⟨_, rfl, rfl, r2, r3, fun i hi => ?_⟩
      dsimp only
      rw [r4 i hi]
      by_cases c : i % 64 < k
      · rw [if_pos c, if_pos (by omega)]
      · rw [if_neg c]
        by_cases e : i % 64 = k
        · rw [if_pos (by omega), zIc_n (by rw [e]; exact g)]
        · rw [if_neg (by omega)]
    · obtain ⟨t1, t2⟩ := (hR k k1).2 w d g hd hw
      have gd : (G k).toNat / 5 = w ∧ (G k).toNat % 5 = d := by omega
      rw [t1, if_neg (nI_m1 (by omega)), pz_inN k1 (by decide), pz_p0 k1, gv_bind_some, pz_inN k1 (by decide), pz_p1 k1, gv_bind_some, pz_p2 k1, gv_bind_some, pz_p3 k1, gv_bind_some, pz_p4 k1, gv_bind_some, gv_let_p, nI_1]
      have e33 : (gs_u ρ 3 k (nI w)).1 33 k = nI d := by rw [pz_u, if_neg (by decide), r2 33 (by decide)]; exact t2
      rw [e33]
      refine ⟨_, rfl, rfl, fun x hx => ?_, r3, fun i hi => ?_⟩
      · dsimp only
        rw [pz_u, if_neg hx, pz_u, if_neg hx, pz_u, if_neg hx, pz_u, if_neg hx, pz_u, if_neg hx]; exact r2 x hx
      · dsimp only
        rw [pz_u, if_pos rfl, pz_upd, pz_u, if_pos rfl, pz_upd, pz_u, if_pos rfl, pz_upd, pz_u, if_pos rfl, pz_upd, pz_u, if_pos rfl, pz_upd, r4 i hi]
        by_cases e : i % 64 = k
        · rw [if_pos (show i % 64 < k + 1 by omega)]
          have ng : ¬ G (i % 64) = -1 := by rw [e, g]; omega
          unfold zIc
          rw [if_neg ng, e, gd.1, gd.2]
          by_cases c0 : i < 64
          · rw [if_pos c0, if_neg (by omega), if_neg (by omega), if_neg (by omega), if_neg (by omega), if_pos (by omega)]
          · rw [if_neg c0]
            by_cases c1 : i < 128
            · rw [if_pos c1, if_neg (by omega), if_neg (by omega), if_neg (by omega), if_pos (by omega)]
            · rw [if_neg c1]
              by_cases c4 : i = 256 + k
              · rw [if_pos c4]
              · rw [if_neg c4]
                by_cases c3 : i = 192 + k
                · rw [if_pos c3]
                · rw [if_neg c3, if_pos (by omega)]
        · rw [if_neg (by omega), if_neg (by omega), if_neg (by omega), if_neg (by omega), if_neg (by omega)]
          exact pz_ite (by omega) _ _
  · rintro ⟨v, ρ⟩ ⟨r1, r2, r3, r4⟩
    dsimp only at r1 r2 r3 r4 ⊢
    subst r1
    unfold pX0_layIce_L2
    rw [if_pos (by decide)]
    exact ⟨_, rfl, r2, r3, fun i hi => by rw [r4 i hi, if_pos (by omega)]⟩
/-- the class's whole call -/
theorem pz_ice {σ : gs_S} {T : Nat → Nat} {n : Nat} (ht : tp σ T n) : ∃ τ, (pX10_ice σ = if (icN T n 8 0 0 (zSk T n 0) (fun _ => -1)).1 = true then some (nI (icN T n 8 0 0 (zSk T n 0) (fun _ => -1)).2.1, τ) else some ((-20 : Int32) - nI (icN T n 8 0 0 (zSk T n 0) (fun _ => -1)).2.2.1, τ)) ∧ (∀ x, ¬ x = 3 → ¬ x = 29 → ¬ x = 32 → ¬ x = 33 → τ.1 x = σ.1 x) ∧ τ.2 = σ.2 ∧ τ.1 29 1 = 0 ∧ ((icN T n 8 0 0 (zSk T n 0) (fun _ => -1)).1 = true → ∀ i, i < 320 → τ.1 3 i = zIc (icN T n 8 0 0 (zSk T n 0) (fun _ => -1)).2.2.2 (σ.1 3) i) ∧ (¬ (icN T n 8 0 0 (zSk T n 0) (fun _ => -1)).1 = true → τ.1 3 = σ.1 3) := by
  have hT : ∀ k, k < n → 32 ≤ T k ∧ T k ≤ 126 := fun k hk => (ht.2.2 k hk).2
  have hn := ht.1
  obtain ⟨φ, eφ⟩ : ∃ φ, φ = gs_w σ 32 (fun i => if i < gl 32 then (-1 : Int32) else σ.1 32 i) := ⟨_, rfl⟩
  have p1 : ∀ x, ¬ x = 32 → φ.1 x = σ.1 x := fun x hx => by rw [eφ, pz_w, if_neg hx]
  have tφ : tp φ T n := ⟨ht.1, by rw [p1 29 (by decide)]; exact ht.2.1, fun k hk => by rw [p1 30 (by decide)]; exact ht.2.2 k hk⟩
  have R0 : cR φ (fun _ => -1) := fun q hq => ⟨fun _ => by rw [eφ, pz_wc]; exact if_pos hq, fun v k z => by dsimp only at z; omega⟩
  have G0 : gOk (fun _ => -1) := fun _ _ => Or.inl rfl
  obtain ⟨z1, z2, z3, z4⟩ := zSk_b (T := T) (show 0 ≤ n by omega)
  obtain ⟨b1, b2, b3, b4⟩ := icN_b hT 8 0 0 (zSk T n 0) (fun _ => -1) z2 z4 G0
  obtain ⟨τ', e, l1, l2, l3, l4, l5⟩ := pz_readIce hT 8 0 0 (zSk T n 0) (fun _ => -1) φ gv_N (by omega) (gv_N_lt (by decide)) tφ z2 z4 G0 R0 (by omega)
  generalize icN T n 8 0 0 (zSk T n 0) (fun _ => -1) = I at *
  have rd : pX0_readIce σ = gv_bret (some e) (fun r => r) (fun q => some (pX7_fault q.2.2, q.2.2)) := by
    unfold pX0_readIce pX7_rewind
    rw [pz_fill 32 (-1) σ (by decide), gv_bind_some, ← eφ, gv_let_p, show gs_u φ 29 2 (0 : Int32) = ca φ 0 from rfl, pz_skip tφ (by omega), gv_bind_some, gv_bind_some]
    have l1' : gv_loop (fun q : Int32 × Int32 × gs_S => pX0_readIce_L16 q.1 q.2.1 q.2.2) gv_N ((0 : Int32), (0 : Int32), ca φ (zSk T n 0)) = some e := l1
    rw [l1']
    rfl
  have t1 : ∀ x, ¬ x = 29 → ¬ x = 32 → ¬ x = 33 → (ca τ' I.2.2.1).1 x = σ.1 x := fun x x1 x2 x3 => by rw [ca_o _ _ _ x1, l4.1 x x2 x3, p1 x x2]
  have t2 : (ca τ' I.2.2.1).2 = σ.2 := by show τ'.2 = _; rw [l4.2, eφ, pz_w2]
  unfold pX10_ice pX10_ice_J30
  rw [rd]
  cases ok : I.1 with
  | true =>
    rw [l2 ok]
    have h1 := b4 ok
    have R1 : cR (ca τ' I.2.2.1) I.2.2.2 := fun q hq => by rw [ca_o _ _ _ (by decide), ca_o _ _ _ (by decide)]; exact l5 q hq
    obtain ⟨υ, u1, u2, u3, u4⟩ := pz_lay b2 R1
    show ∃ τ, (gv_bind2 (some (nI I.2.1, ca τ' I.2.2.1)) _ = _) ∧ _
    rw [gv_bind2_some, if_neg (nI_nle (by omega) (by omega)), u1, gv_bind_some, gv_let_p]
    refine ⟨_, (if_pos rfl).symm, fun x x1 x2 x3 x4 => ?_, ?_, pz_ua _ _ _ _, fun _ i hi => ?_, fun z => absurd rfl z⟩
    · rw [pz_u, if_neg x2, u2 x x1, t1 x x2 x3 x4]
    · rw [pz_u2, u3, t2]
    · rw [pz_u, if_neg (by decide), u4 i hi, t1 3 (by decide) (by decide) (by decide)]
  | false =>
    obtain ⟨a, b, e2⟩ := l3 ok
    rw [e2]
    show ∃ τ, (gv_bind2 (some (pX7_fault (ca τ' I.2.2.1), ca τ' I.2.2.1)) _ = _) ∧ _
    unfold pX7_fault
    rw [ca_2, gv_bind2_some]
    have neg : (-20 : Int32) - nI I.2.2.1 ≤ 0 := by
      rw [← zI_n, show (-20 : Int32) = zI (-20) from by decide, zI_sub, zI_0, zI_le (by omega) (by omega) (by omega) (by omega)]
      omega
    rw [if_pos neg, gv_let_p]
    refine ⟨_, (if_neg (by decide)).symm, fun x x1 x2 x3 x4 => ?_, ?_, pz_ua _ _ _ _, fun z => (by cases z), fun _ => ?_⟩
    · rw [pz_u, if_neg x2, t1 x x2 x3 x4]
    · rw [pz_u2, t2]
    · rw [pz_u, if_neg (by decide), t1 3 (by decide) (by decide) (by decide)]
