/-! PURE, 49p: narrowing: two passes are enough; both sides -/
def nwD (s : Int) (X : Nat → Int) (q v : Nat) : Nat → Int := if v < 64 then (fun x => if x = q then max (X q) (X v - s) else X x) else X
def nwF (s : Int) (X : Nat → Int) : Nat → Nat → Int
  | 0 => X
  | k + 1 => nwD s (nwD s (nwF s X k) k (zNb k 0)) k (zNb k 1)
def nwB (s : Int) (X : Nat → Int) : Nat → Nat → Int
  | 0 => X
  | k + 1 => nwD s (nwD s (nwB s X k) (63 - k) (zNb (63 - k) 3)) (63 - k) (zNb (63 - k) 2)
def nwC (s : Int) (g : Nat → Int) : Prop := ∀ u, u < 64 → ∀ k, k < 4 → zNb u k < 64 → g (zNb u k) - s ≤ g u
def nwN (s : Int) (X Z : Nat → Int) : Prop := (∀ q, q < 64 → X q ≤ Z q) ∧ nwC s Z ∧ ∀ g, (∀ q, q < 64 → X q ≤ g q) → nwC s g → ∀ q, q < 64 → Z q ≤ g q
theorem nwN_one {s : Int} {X A B : Nat → Int} (a : nwN s X A) (b : nwN s X B) : ∀ q, q < 64 → A q = B q := fun q hq => by
  have := a.2.2 B b.1 b.2.1 q hq
  have := b.2.2 A a.1 a.2.1 q hq
  omega
theorem nwD_o {s : Int} {X : Nat → Int} {q v x : Nat} (h : ¬ x = q) : nwD s X q v x = X x := by
  unfold nwD
  by_cases c : v < 64
  · rw [if_pos c]; exact if_neg h
  · rw [if_neg c]
theorem nwD_q {s : Int} {X : Nat → Int} {q v : Nat} (h : v < 64) : nwD s X q v q = max (X q) (X v - s) := by
  unfold nwD
  rw [if_pos h]; exact if_pos rfl
theorem nwD_n {s : Int} {X : Nat → Int} {q v : Nat} (h : ¬ v < 64) : nwD s X q v = X := by
  unfold nwD
  rw [if_neg h]
theorem nwD_ge {s : Int} {X : Nat → Int} {q v : Nat} (x : Nat) : X x ≤ nwD s X q v x := by
  by_cases c : v < 64
  · by_cases e : x = q
    · rw [e, nwD_q c]; omega
    · rw [nwD_o e]; exact Int.le_refl _
  · rw [nwD_n c]; exact Int.le_refl _
theorem nwD_le {s : Int} {X g : Nat → Int} {q k : Nat} (hq : q < 64) (hk : k < 4) (h : ∀ x, x < 64 → X x ≤ g x) (hg : nwC s g) : ∀ x, x < 64 → nwD s X q (zNb q k) x ≤ g x := by
  intro x hx
  by_cases c : zNb q k < 64
  · by_cases e : x = q
    · rw [e, nwD_q c]
      have a := h q hq
      have b := h _ c
      have d := hg q hq k hk c
      omega
    · rw [nwD_o e]; exact h x hx
  · rw [nwD_n c]; exact h x hx
/-- one pass down -/
theorem nwF_p (s : Int) (X : Nat → Int) : ∀ k, k ≤ 64 → (∀ q, X q ≤ nwF s X k q) ∧ (∀ q, k ≤ q → nwF s X k q = X q) ∧ (∀ q, q < k → ∀ j, j < 2 → zNb q j < 64 → nwF s X k (zNb q j) - s ≤ nwF s X k q) ∧ (∀ g, (∀ q, q < 64 → X q ≤ g q) → nwC s g → ∀ q, q < 64 → nwF s X k q ≤ g q) := by
  intro k
  induction k with
  | zero => intro _; exact ⟨fun _ => Int.le_refl _, fun _ _ => rfl, fun q hq => absurd hq (by omega), fun g h _ q hq => h q hq⟩
  | succ k ih =>
    intro hk
    obtain ⟨h1, h2, h3, h4⟩ := ih (by omega)
    have e : nwF s X (k + 1) = nwD s (nwD s (nwF s X k) k (zNb k 0)) k (zNb k 1) := rfl
    have lt : ∀ q, q ≤ k → ∀ j, j < 2 → zNb q j < 64 → zNb q j < q := fun q hq j hj c => by
      have : j = 0 ∨ j = 1 := by omega
      rcases this with rfl | rfl
      · unfold zNb at c ⊢
        rw [if_pos rfl] at c ⊢
        split at c
        · omega
        · rename_i z; rw [if_neg z]; omega
      · unfold zNb at c ⊢
        rw [if_neg (by omega), if_pos rfl] at c ⊢
        split at c
        · omega
        · rename_i z; rw [if_neg z]; omega
    have o : ∀ q, ¬ q = k → nwF s X (k + 1) q = nwF s X k q := fun q hq => by rw [e, nwD_o hq, nwD_o hq]
    refine ⟨fun q => ?_, fun q hq => ?_, fun q hq j hj c => ?_, fun g g1 g2 => ?_⟩
    · by_cases z : q = k
      · rw [e]
        exact Int.le_trans (h1 q) (Int.le_trans (nwD_ge q) (nwD_ge q))
      · rw [o q z]; exact h1 q
    · rw [o q (by omega)]; exact h2 q (by omega)
    · have l := lt q (by omega) j hj c
      rw [o (zNb q j) (by omega)]
      by_cases z : q = k
      · subst z
        have : j = 0 ∨ j = 1 := by omega
        rcases this with rfl | rfl
        · have a1 : nwF s X q (zNb q 0) - s ≤ nwD s (nwF s X q) q (zNb q 0) q := by rw [nwD_q c]; omega
          rw [e]
          exact Int.le_trans a1 (nwD_ge q)
        · rw [e, nwD_q c, nwD_o (show ¬ zNb q 1 = q by omega)]; omega
      · rw [o q z]; exact h3 q (by omega) j hj c
    · rw [e]
      exact nwD_le (by omega) (by omega) (nwD_le (by omega) (by omega) (h4 g g1 g2) g2) g2
/-- one pass up -/
theorem nwB_p (s : Int) (X : Nat → Int) : ∀ k, k ≤ 64 → (∀ q, X q ≤ nwB s X k q) ∧ (∀ q, q + k < 64 → nwB s X k q = X q) ∧ (∀ q, q < 64 → 64 ≤ q + k → ∀ j, 2 ≤ j → j < 4 → zNb q j < 64 → nwB s X k (zNb q j) - s ≤ nwB s X k q) ∧ (∀ q, q < 64 → 64 ≤ q + k → nwB s X k q = X q ∨ ∃ j, 2 ≤ j ∧ j < 4 ∧ zNb q j < 64 ∧ nwB s X k q = nwB s X k (zNb q j) - s) ∧ (∀ g, (∀ q, q < 64 → X q ≤ g q) → nwC s g → ∀ q, q < 64 → nwB s X k q ≤ g q) := by
  intro k
  induction k with
  | zero => intro _; exact ⟨fun _ => Int.le_refl _, fun _ _ => rfl, fun q hq h => absurd h (by omega), fun q hq h => absurd h (by omega), fun g h _ q hq => h q hq⟩
  | succ k ih =>
    intro hk
    obtain ⟨h1, h2, h3, h4, h5⟩ := ih (by omega)
    have e : nwB s X (k + 1) = nwD s (nwD s (nwB s X k) (63 - k) (zNb (63 - k) 3)) (63 - k) (zNb (63 - k) 2) := rfl
    have lt : ∀ q, q < 64 → ∀ j, 2 ≤ j → j < 4 → zNb q j < 64 → q < zNb q j := fun q hq j h2 hj c => by
      have : j = 2 ∨ j = 3 := by omega
      rcases this with rfl | rfl
      · unfold zNb at c ⊢
        rw [if_neg (by omega), if_neg (by omega), if_pos rfl] at c ⊢
        split at c
        · omega
        · rename_i z; rw [if_neg z]; omega
      · unfold zNb at c ⊢
        rw [if_neg (by omega), if_neg (by omega), if_neg (by omega)] at c ⊢
        split at c
        · rename_i z; rw [if_pos z]; omega
        · omega
    have o : ∀ q, ¬ q = 63 - k → nwB s X (k + 1) q = nwB s X k q := fun q hq => by rw [e, nwD_o hq, nwD_o hq]
    obtain ⟨p, hp⟩ : ∃ p, p = 63 - k := ⟨_, rfl⟩
    rw [← hp] at e o
    have p64 : p < 64 := by omega
    have ne3 : zNb p 3 < 64 → ¬ zNb p 3 = p := fun c => by have := lt p p64 3 (by omega) (by omega) c; omega
    have ne2 : zNb p 2 < 64 → ¬ zNb p 2 = p := fun c => by have := lt p p64 2 (by omega) (by omega) c; omega
    have ep : nwB s X k p = X p := h2 p (by omega)
    refine ⟨fun q => ?_, fun q hq => ?_, fun q hq hq2 j j2 hj c => ?_, fun q hq hq2 => ?_, fun g g1 g2 => ?_⟩
    · by_cases z : q = p
      · rw [e]
        exact Int.le_trans (h1 q) (Int.le_trans (nwD_ge q) (nwD_ge q))
      · rw [o q z]; exact h1 q
    · rw [o q (by omega)]; exact h2 q (by omega)
    · have l := lt q hq j j2 hj c
      rw [o (zNb q j) (by omega)]
      by_cases z : q = p
      · rw [z] at c ⊢
        have : j = 2 ∨ j = 3 := by omega
        rcases this with rfl | rfl
        · rw [e, nwD_q c, nwD_o (ne2 c)]; omega
        · have a1 : nwB s X k (zNb p 3) - s ≤ nwD s (nwB s X k) p (zNb p 3) p := by rw [nwD_q c]; omega
          rw [e]
          exact Int.le_trans a1 (nwD_ge p)
      · rw [o q z]; exact h3 q hq (by omega) j j2 hj c
    · by_cases z : q = p
      · rw [z]
        have A : nwD s (nwB s X k) p (zNb p 3) p = X p ∨ (zNb p 3 < 64 ∧ nwD s (nwB s X k) p (zNb p 3) p = nwB s X k (zNb p 3) - s) := by
          by_cases c : zNb p 3 < 64
          · rw [nwD_q c, ep]
            by_cases y : nwB s X k (zNb p 3) - s ≤ X p
            · exact Or.inl (by omega)
            · exact Or.inr ⟨c, by omega⟩
          · rw [nwD_n c]; exact Or.inl ep
        by_cases c : zNb p 2 < 64
        · have v : nwB s X (k + 1) p = max (nwD s (nwB s X k) p (zNb p 3) p) (nwB s X k (zNb p 2) - s) := by rw [e, nwD_q c, nwD_o (ne2 c)]
          by_cases y : nwB s X k (zNb p 2) - s ≤ nwD s (nwB s X k) p (zNb p 3) p
          · rcases A with A | ⟨A1, A2⟩
            · exact Or.inl (by omega)
            · exact Or.inr ⟨3, by omega, by omega, A1, by rw [o _ (ne3 A1)]; omega⟩
          · exact Or.inr ⟨2, by omega, by omega, c, by rw [o _ (ne2 c)]; omega⟩
        · have v : nwB s X (k + 1) p = nwD s (nwB s X k) p (zNb p 3) p := by rw [e, nwD_n c]
          rcases A with A | ⟨A1, A2⟩
          · exact Or.inl (by omega)
          · exact Or.inr ⟨3, by omega, by omega, A1, by rw [o _ (ne3 A1)]; omega⟩
      · rw [o q z]
        rcases h4 q hq (by omega) with y | ⟨j, j1, j2, j3, j4⟩
        · exact Or.inl y
        · have l := lt q hq j j1 j2 j3
          exact Or.inr ⟨j, j1, j2, j3, by rw [o _ (by omega)]; exact j4⟩
    · rw [e]
      exact nwD_le p64 (by omega) (nwD_le p64 (by omega) (h5 g g1 g2) g2) g2
theorem zNb_up : ∀ q, q < 64 → zNb q 0 < 64 → zNb (zNb q 0) 3 = q ∧ (zNb (zNb q 0) 2 < 64 → q % 8 < 7 ∧ zNb q 2 = q + 1 ∧ q + 1 < 64 ∧ zNb (q + 1) 0 = zNb (zNb q 0) 2) := by decide +kernel
theorem zNb_left : ∀ q, q < 64 → zNb q 1 < 64 → zNb (zNb q 1) 2 = q ∧ (zNb (zNb q 1) 3 < 64 → zNb q 3 = q + 8 ∧ q + 8 < 64 ∧ zNb (q + 8) 1 = zNb (zNb q 1) 3) := by decide +kernel
theorem nw_two {s : Int} (hs : 0 ≤ s) (X : Nat → Int) : nwN s X (nwB s (nwF s X 64) 64) := by
  obtain ⟨f1, f2, f3, f4⟩ := nwF_p s X 64 (Nat.le_refl _)
  obtain ⟨b1, b2, b3, b4, b5⟩ := nwB_p s (nwF s X 64) 64 (Nat.le_refl _)
  refine ⟨fun q _ => Int.le_trans (f1 q) (b1 q), ?_, fun g g1 g2 => b5 g (f4 g g1 g2) g2⟩
  generalize nwF s X 64 = Y at *
  generalize nwB s Y 64 = Z at *
  have up : ∀ d q, q < 64 → 7 - q % 8 = d → zNb q 0 < 64 → Z (zNb q 0) - s ≤ Z q := by
    intro d
    induction d with
    | zero =>
      intro q hq hd c
      obtain ⟨u1, u2⟩ := zNb_up q hq c
      rcases b4 _ c (by omega) with y | ⟨j, j1, j2, j3, j4⟩
      · have a1 := f3 q hq 0 (by omega) c
        have a2 := b1 q
        omega
      · have : j = 2 ∨ j = 3 := by omega
        rcases this with rfl | rfl
        · have := (u2 j3).1; omega
        · rw [u1] at j4; omega
    | succ d ih =>
      intro q hq hd c
      obtain ⟨u1, u2⟩ := zNb_up q hq c
      rcases b4 _ c (by omega) with y | ⟨j, j1, j2, j3, j4⟩
      · have a1 := f3 q hq 0 (by omega) c
        have a2 := b1 q
        omega
      · have : j = 2 ∨ j = 3 := by omega
        rcases this with rfl | rfl
        · obtain ⟨w1, w2, w3, w4⟩ := u2 j3
          have a1 := ih (q + 1) w3 (by omega) (by rw [w4]; exact j3)
          rw [w4] at a1
          have a2 := b3 q hq (by omega) 2 (by omega) (by omega) (by rw [w2]; exact w3)
          rw [w2] at a2
          omega
        · rw [u1] at j4; omega
  have left : ∀ d q, q < 64 → 7 - q / 8 = d → zNb q 1 < 64 → Z (zNb q 1) - s ≤ Z q := by
    intro d
    induction d with
    | zero =>
      intro q hq hd c
      obtain ⟨u1, u2⟩ := zNb_left q hq c
      rcases b4 _ c (by omega) with y | ⟨j, j1, j2, j3, j4⟩
      · have a1 := f3 q hq 1 (by omega) c
        have a2 := b1 q
        omega
      · have : j = 2 ∨ j = 3 := by omega
        rcases this with rfl | rfl
        · rw [u1] at j4; omega
        · have := (u2 j3).2.1; omega
    | succ d ih =>
      intro q hq hd c
      obtain ⟨u1, u2⟩ := zNb_left q hq c
      rcases b4 _ c (by omega) with y | ⟨j, j1, j2, j3, j4⟩
      · have a1 := f3 q hq 1 (by omega) c
        have a2 := b1 q
        omega
      · have : j = 2 ∨ j = 3 := by omega
        rcases this with rfl | rfl
        · rw [u1] at j4; omega
        · obtain ⟨w2, w3, w4⟩ := u2 j3
          have a1 := ih (q + 8) w3 (by omega) (by rw [w4]; exact j3)
          rw [w4] at a1
          have a2 := b3 q hq (by omega) 3 (by omega) (by omega) (by rw [w2]; exact w3)
          rw [w2] at a2
          omega
  intro u hu k hk c
  have : k = 0 ∨ k = 1 ∨ 2 ≤ k := by omega
  rcases this with rfl | rfl | h
  · exact up _ u hu rfl c
  · exact left _ u hu rfl c
  · exact b3 u hu (by omega) k h hk c
/-! the class's narrowing -/
theorem zI_max {a b : Int} (a1 : -1000000 ≤ a) (a2 : a ≤ 1000000) (b1 : -1000000 ≤ b) (b2 : b ≤ 1000000) : gv_max (zI a) (zI b) = zI (max a b) := by
  unfold gv_max
  by_cases c : a < b
  · rw [if_pos ((zI_lt a1 a2 b1 b2).mpr c), show max a b = b by omega]
  · rw [if_neg (fun z => c ((zI_lt a1 a2 b1 b2).mp z)), show max a b = a by omega]
theorem zI_min {a b : Int} (a1 : -1000000 ≤ a) (a2 : a ≤ 1000000) (b1 : -1000000 ≤ b) (b2 : b ≤ 1000000) : gv_min (zI a) (zI b) = zI (min a b) := by
  unfold gv_min
  by_cases c : b < a
  · rw [if_pos ((zI_lt b1 b2 a1 a2).mpr c), show min a b = b by omega]
  · rw [if_neg (fun z => c ((zI_lt b1 b2 a1 a2).mp z)), show min a b = a by omega]
def nwR (σ τ : gs_S) (X Y : Nat → Int) : Prop := (∀ x, ¬ x = 44 → ¬ x = 45 → τ.1 x = σ.1 x) ∧ τ.2 = σ.2 ∧ ∀ q, q < 64 → τ.1 44 q = zI (X q) ∧ τ.1 45 q = zI (- Y q) ∧ -300 ≤ X q ∧ X q ≤ 300 ∧ -300 ≤ Y q ∧ Y q ≤ 300
theorem nw_draw {σ τ : gs_S} {X Y : Nat → Int} {s : Int} (hs : 0 ≤ s) (hs2 : s ≤ 99) {q k : Nat} (hq : q < 64) (hk : k < 4) (h : nwR σ τ X Y) : ∃ τ', pX6_draw (nI q) (pX10_beside (nI q) (nI k)) (zI s) τ = some τ' ∧ nwR σ τ' (nwD s X q (zNb q k)) (nwD s Y q (zNb q k)) := by
  obtain ⟨h1, h2, h3⟩ := id h
  unfold pX6_draw
  rw [(zNb_x q hq k hk).2]
  by_cases v : zNb q k < 64
  rotate_left
  · rw [if_neg v, if_pos rfl, nwD_n v, nwD_n v]
    exact ⟨τ, rfl, h⟩
  have nq : ¬ zNb q k = q := (zNb_b q hq k hk).2.1
  obtain ⟨a1, a2, a3, a4, a5, a6⟩ := h3 q hq
  obtain ⟨b1, b2, b3, b4, b5, b6⟩ := h3 _ v
  rw [if_pos v, if_neg (nI_m1 (by omega)), pz_inN hq (by decide), pz_inN v (by decide), nI_clamp (show q < 2 ^ 31 by omega), nI_clamp (show zNb q k < 2 ^ 31 by omega), a1, b1, zI_sub, zI_max (by omega) (by omega) (by omega) (by omega), gv_let_p, pz_inN hq (by decide), gv_let_p, pz_inN hq (by decide), pz_inN v (by decide)]
  have c1 : (gs_u τ 44 q (zI (max (X q) (X (zNb q k) - s)))).1 45 q = zI (- Y q) := by rw [pz_u, if_neg (by decide)]; exact a2
  have c2 : (gs_u τ 44 q (zI (max (X q) (X (zNb q k) - s)))).1 45 (zNb q k) = zI (- Y (zNb q k)) := by rw [pz_u, if_neg (by decide)]; exact b2
  rw [c1, c2, zI_add, zI_min (by omega) (by omega) (by omega) (by omega), gv_let_p, pz_inN hq (by decide), gv_let_p]
  refine ⟨_, rfl, fun x x1 x2 => ?_, h2, fun x hx => ?_⟩
  · rw [pz_u, if_neg x2, pz_u, if_neg x1]; exact h1 x x1 x2
  · rw [pz_u, if_neg (by decide), pz_u, if_pos rfl, pz_upd, pz_u, if_pos rfl, pz_upd]
    by_cases e : x = q
    · rw [if_pos e, if_pos e, e, nwD_q v, nwD_q v]
      refine ⟨rfl, ?_, by omega, by omega, by omega, by omega⟩
      rw [show min (- Y q) (- Y (zNb q k) + s) = - max (Y q) (Y (zNb q k) - s) by omega]
    · rw [if_neg e, if_neg e, nwD_o e, nwD_o e, pz_u, if_neg (by decide)]
      exact h3 x hx
theorem pz_narrow {σ τ : gs_S} {X Y : Nat → Int} {s : Int} (hs : 0 ≤ s) (hs2 : s ≤ 99) (h : nwR σ τ X Y) : ∃ τ', pX6_narrow (zI s) τ = some τ' ∧ nwR σ τ' (nwB s (nwF s X 64) 64) (nwB s (nwF s Y 64) 64) := by
  unfold pX6_narrow
  have L := gv_rel (fun q : Int32 × gs_S => pX6_narrow_L2 (zI s) q.1 q.2) (fun k q => q.1 = nI k ∧ nwR σ q.2 (nwF s X k) (nwF s Y k)) 64 gv_N (gv_N_lt (by decide)) (fun q => nwR σ q.2 (nwF s X 64) (nwF s Y 64)) ?_ ?_ ((0 : Int32), τ) ⟨rfl, h⟩
  rotate_left
  · rintro k ⟨v, ρ⟩ hk ⟨r1, r2⟩
    dsimp only at r1 r2 ⊢
    subst r1
    unfold pX6_narrow_L2
    obtain ⟨τ1, t1, t2⟩ := nw_draw hs hs2 hk (show 0 < 4 by omega) r2
    obtain ⟨τ2, u1, u2⟩ := nw_draw hs hs2 hk (show 1 < 4 by omega) t2
    rw [if_neg (show ¬ (64 : Int32) ≤ nI k from nI_ge (b := 64) hk (by decide)), show (0 : Int32) = nI 0 from rfl, t1, gv_bind_some, show pX10_beside (nI k) 1 = pX10_beside (nI k) (nI 1) from rfl, u1, gv_bind_some, gv_let_p, nI_1]
    exact ⟨_, rfl, rfl, u2⟩
  · rintro ⟨v, ρ⟩ ⟨r1, r2⟩
    dsimp only at r1 r2 ⊢
    subst r1
    unfold pX6_narrow_L2
    rw [if_pos (by decide)]
    exact ⟨_, rfl, r2⟩
  obtain ⟨⟨v, φ⟩, l1, l2⟩ := L
  dsimp only at l2
  rw [l1, gv_bind_some, gv_let_p, gv_let_p]
  dsimp only
  have M := gv_rel (fun q : Int32 × gs_S => pX6_narrow_L39 (zI s) q.1 q.2) (fun k q => q.1 = zDn 64 k ∧ nwR σ q.2 (nwB s (nwF s X 64) k) (nwB s (nwF s Y 64) k)) 64 gv_N (gv_N_lt (by decide)) (fun q => nwR σ q.2 (nwB s (nwF s X 64) 64) (nwB s (nwF s Y 64) 64)) ?_ ?_ ((63 : Int32), φ) ⟨rfl, l2⟩
  rotate_left
  · rintro k ⟨v, ρ⟩ hk ⟨r1, r2⟩
    dsimp only at r1 r2 ⊢
    subst r1
    have dn := zDn_s hk
    rw [show zDn 64 k = nI (64 - 1 - k) from if_pos hk]
    rw [show 64 - 1 - k = 63 - k from rfl] at dn ⊢
    unfold pX6_narrow_L39
    obtain ⟨τ1, t1, t2⟩ := nw_draw hs hs2 (show 63 - k < 64 by omega) (show 3 < 4 by omega) r2
    obtain ⟨τ2, u1, u2⟩ := nw_draw hs hs2 (show 63 - k < 64 by omega) (show 2 < 4 by omega) t2
    rw [if_neg (nI_pos (by omega)), show pX10_beside (nI (63 - k)) 3 = pX10_beside (nI (63 - k)) (nI 3) from rfl, t1, gv_bind_some, show pX10_beside (nI (63 - k)) 2 = pX10_beside (nI (63 - k)) (nI 2) from rfl, u1, gv_bind_some, gv_let_p, dn]
    exact ⟨_, rfl, rfl, u2⟩
  · rintro ⟨v, ρ⟩ ⟨r1, r2⟩
    dsimp only at r1 r2 ⊢
    subst r1
    unfold pX6_narrow_L39
    rw [show zDn 64 64 = -1 from if_neg (by omega), if_pos (by decide)]
    exact ⟨_, rfl, r2⟩
  obtain ⟨⟨v2, ψ⟩, m1, m2⟩ := M
  dsimp only at m2
  rw [m1, gv_bind_some, gv_let_p, gv_let_p]
  exact ⟨ψ, rfl, m2⟩
