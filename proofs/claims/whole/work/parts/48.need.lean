/-! PURE, 48: need: minutes and weights as natural numbers -/
theorem nI_sub {a b : Nat} (h : b ≤ a) : nI a - nI b = nI (a - b) := (Int32.ofNat_sub a b h).symm
theorem nI_div {a b : Nat} (ha : a < 2 ^ 31) (hb : b < 2 ^ 31) : nI a / nI b = nI (a / b) := by
  apply Int32.toInt_inj.mp
  have h1 : a / b ≤ a := Nat.div_le_self a b
  rw [Int32.toInt_div, nI_toInt ha, nI_toInt hb, nI_toInt (by omega)]
  rw [show ((a : Int).tdiv (b : Int)) = ((a / b : Nat) : Int) from rfl]
  generalize a / b = c at h1
  exact Int.bmod_eq_of_le (by omega) (by omega)
def zN (x : Int32) : Nat := x.toInt.toNat
theorem zN_of {x : Int32} {lo hi : Nat} (h : iv_in x lo hi) (hh : hi < 2 ^ 31) : x = nI (zN x) ∧ lo ≤ zN x ∧ zN x ≤ hi := by
  unfold iv_in at h
  unfold zN
  refine ⟨Int32.toInt_inj.mp ?_, by omega, by omega⟩
  rw [nI_toInt (by omega)]
  omega
theorem zN_nI {n : Nat} (h : n < 2 ^ 31) : zN (nI n) = n := by
  unfold zN
  rw [nI_toInt h]; omega
/-- a loop that looks for the first k below n with P -/
theorem gv_find {S E : Type} (b : S → Option (S ⊕ E)) (f : Nat → S) (P : Nat → Prop) (x : Nat → E) (n N : Nat) (hn : n < N) (e : E) (hs : ∀ k, k < n → ¬ P k → b (f k) = some (.inl (f (k + 1)))) (hx : ∀ k, k < n → P k → b (f k) = some (.inr (x k))) (he : b (f n) = some (.inr e)) : (∃ k, k < n ∧ P k ∧ (∀ j, j < k → ¬ P j) ∧ gv_loop b N (f 0) = some (x k)) ∨ ((∀ k, k < n → ¬ P k) ∧ gv_loop b N (f 0) = some e) := by
  have key : ∀ (d k M : Nat), k + d = n → d < M → (∀ j, j < k → ¬ P j) → (∃ i, i < n ∧ P i ∧ (∀ j, j < i → ¬ P j) ∧ gv_loop b M (f k) = some (x i)) ∨ ((∀ i, i < n → ¬ P i) ∧ gv_loop b M (f k) = some e) := by
    intro d
    induction d with
    | zero =>
      intro k M h1 h2 h3
      obtain ⟨M', rfl⟩ : ∃ M', M = M' + 1 := ⟨M - 1, by omega⟩
      have : k = n := by omega
      subst this
      exact Or.inr ⟨h3, gv_loop_x b M' _ e he⟩
    | succ d ih =>
      intro k M h1 h2 h3
      obtain ⟨M', rfl⟩ : ∃ M', M = M' + 1 := ⟨M - 1, by omega⟩
      by_cases c : P k
      · exact Or.inl ⟨k, by omega, c, h3, gv_loop_x b M' _ _ (hx k (by omega) c)⟩
      · rw [gv_loop_s b M' _ _ (hs k (by omega) c)]
        exact ih (k + 1) M' (by omega) (by omega) (fun j hj => by
          by_cases q : j = k
          · rw [q]; exact c
          · exact h3 j (by omega))
  exact key n 0 N (by omega) hn (fun j hj => absurd hj (by omega))
def zM (st pa : Nat → Int32) (p k : Nat) : Nat := zN (st k) + p * (10 - zN (pa k))
def zWt (lo pa st : Nat → Int32) (s p : Nat) : Nat → Nat
  | 0 => zN (lo s) * (10 + zN (pa s)) / 10
  | k + 1 => zWt lo pa st s p k + if zM st pa p k < zM st pa p s then zN (lo k) * zN (pa k) / (10 * (zM st pa p s - zM st pa p k)) else 0
def zOk (lo pa st : Nat → Int32) (m : Nat) : Prop := ∀ k, k < m → iv_in (lo k) 1 99 ∧ iv_in (pa k) 1 9 ∧ iv_in (st k) 0 99
theorem pz_min {lo pa st : Nat → Int32} {m p k : Nat} (h : zOk lo pa st m) (hk : k < m) (hp : p < 24) : st k + nI p * ((10 : Int32) - pa k) = nI (zM st pa p k) ∧ zM st pa p k ≤ 306 := by
  obtain ⟨h1, h2, h3⟩ := h k hk
  obtain ⟨a1, a2, a3⟩ := zN_of (lo := 1) (hi := 9) h2 (by decide)
  obtain ⟨b1, b2, b3⟩ := zN_of (lo := 0) (hi := 99) h3 (by decide)
  unfold zM
  refine ⟨?_, ?_⟩
  · conv => lhs; rw [a1, b1]
    rw [show (10 : Int32) = nI 10 from rfl, nI_sub (by omega), nI_mul, nI_add]
  · have : p * (10 - zN (pa k)) ≤ 23 * 9 := Nat.mul_le_mul (by omega) (by omega)
    omega
theorem zWt_le {lo pa st : Nat → Int32} {m s p : Nat} (h : zOk lo pa st m) (hs : s < m) : ∀ k, k ≤ m → zWt lo pa st s p k ≤ 200 + 1000 * k := by
  intro k
  induction k with
  | zero =>
    intro _
    obtain ⟨h1, h2, h3⟩ := h s hs
    obtain ⟨a1, a2, a3⟩ := zN_of (lo := 1) (hi := 9) h2 (by decide)
    obtain ⟨b1, b2, b3⟩ := zN_of (lo := 1) (hi := 99) h1 (by decide)
    unfold zWt
    have : zN (lo s) * (10 + zN (pa s)) ≤ 99 * 19 := Nat.mul_le_mul (by omega) (by omega)
    omega
  | succ k ih =>
    intro hk
    have ih := ih (by omega)
    unfold zWt
    obtain ⟨h1, h2, h3⟩ := h k (by omega)
    obtain ⟨a1, a2, a3⟩ := zN_of (lo := 1) (hi := 9) h2 (by decide)
    obtain ⟨b1, b2, b3⟩ := zN_of (lo := 1) (hi := 99) h1 (by decide)
    have h4 : zN (lo k) * zN (pa k) ≤ 99 * 9 := Nat.mul_le_mul (by omega) (by omega)
    have h5 := Nat.div_le_self (zN (lo k) * zN (pa k)) (10 * (zM st pa p s - zM st pa p k))
    split <;> omega
theorem zM_eq {st pa st2 pa2 : Nat → Int32} {k : Nat} (p : Nat) (h1 : st k = st2 k) (h2 : pa k = pa2 k) : zM st pa p k = zM st2 pa2 p k := by
  unfold zM; rw [h1, h2]
theorem zWt_eq {lo pa st lo2 pa2 st2 : Nat → Int32} {m s : Nat} (p : Nat) (h : ∀ k, k < m → lo k = lo2 k ∧ pa k = pa2 k ∧ st k = st2 k) (hs : s < m) : ∀ k, k ≤ m → zWt lo pa st s p k = zWt lo2 pa2 st2 s p k := by
  intro k
  induction k with
  | zero => intro _; unfold zWt; rw [(h s hs).1, (h s hs).2.1]
  | succ k ih =>
    intro hk
    unfold zWt
    rw [ih (by omega), zM_eq p (h k (by omega)).2.2 (h k (by omega)).2.1, zM_eq p (h s hs).2.2 (h s hs).2.1, (h k (by omega)).1, (h k (by omega)).2.1]
theorem zWt_0 {lo pa st : Nat → Int32} {m s p : Nat} (h : zOk lo pa st m) (hs : s < m) : (lo s * ((10 : Int32) + pa s)) / (10 : Int32) = nI (zWt lo pa st s p 0) := by
  obtain ⟨h1, h2, h3⟩ := h s hs
  obtain ⟨a1, a2, a3⟩ := zN_of (lo := 1) (hi := 9) h2 (by decide)
  obtain ⟨b1, b2, b3⟩ := zN_of (lo := 1) (hi := 99) h1 (by decide)
  unfold zWt
  have : zN (lo s) * (10 + zN (pa s)) ≤ 99 * 19 := Nat.mul_le_mul (by omega) (by omega)
  conv => lhs; rw [a1, b1]
  rw [show (10 : Int32) = nI 10 from rfl, nI_add, nI_mul, nI_div (by omega) (by decide)]
theorem zWt_s {lo pa st : Nat → Int32} {m s p k : Nat} (h : zOk lo pa st m) (hs : s < m) (hp : p < 24) (hk : k < m) (c : zM st pa p k < zM st pa p s) : ¬ (10 : Int32) * (nI (zM st pa p s) - nI (zM st pa p k)) = 0 ∧ nI (zWt lo pa st s p k) + (lo k * pa k) / ((10 : Int32) * (nI (zM st pa p s) - nI (zM st pa p k))) = nI (zWt lo pa st s p (k + 1)) := by
  obtain ⟨h1, h2, h3⟩ := h k hk
  obtain ⟨a1, a2, a3⟩ := zN_of (lo := 1) (hi := 9) h2 (by decide)
  obtain ⟨b1, b2, b3⟩ := zN_of (lo := 1) (hi := 99) h1 (by decide)
  have m1 := (pz_min h hs hp).2
  have e : (10 : Int32) * (nI (zM st pa p s) - nI (zM st pa p k)) = nI (10 * (zM st pa p s - zM st pa p k)) := by
    rw [nI_sub (by omega), show (10 : Int32) = nI 10 from rfl, nI_mul]
  rw [e]
  refine ⟨nI_ne0 (by omega) (by omega), ?_⟩
  have h4 : zN (lo k) * zN (pa k) ≤ 99 * 9 := Nat.mul_le_mul (by omega) (by omega)
  rw [show zWt lo pa st s p (k + 1) = zWt lo pa st s p k + zN (lo k) * zN (pa k) / (10 * (zM st pa p s - zM st pa p k)) by conv => lhs; unfold zWt; rw [if_pos c]]
  conv => lhs; rw [a1, b1]
  rw [nI_mul, nI_div (by omega) (by omega), nI_add]
theorem zWt_n {lo pa st : Nat → Int32} {s p k : Nat} (c : ¬ zM st pa p k < zM st pa p s) : zWt lo pa st s p k = zWt lo pa st s p (k + 1) := by
  conv => rhs; unfold zWt; rw [if_neg c]
  rfl
theorem pz_minute {m k p : Nat} (σ : gs_S) (h : zOk (σ.1 5) (σ.1 6) (σ.1 7) m) (hm : m ≤ 6) (hk : k < m) (hp : p < 24) : pX8_minute (nI k) (nI p) σ = some (nI (zM (σ.1 7) (σ.1 6) p k)) := by
  unfold pX8_minute
  rw [pz_inN (by omega) (by decide), pz_inN (by omega) (by decide), nI_clamp (by omega), (pz_min h hk hp).1]
theorem pz_xminute {m k p : Nat} (σ : gs_S) (h : zOk (σ.1 65) (σ.1 66) (σ.1 67) m) (hm : m ≤ 6) (hk : k < m) (hp : p < 24) : pX11_minuteAt (nI k) (nI p) σ = some (nI (zM (σ.1 67) (σ.1 66) p k)) := by
  unfold pX11_minuteAt
  rw [pz_inN (by omega) (by decide), pz_inN (by omega) (by decide), nI_clamp (by omega), (pz_min h hk hp).1]
theorem pz_meets {m s p : Nat} (σ : gs_S) (h : zOk (σ.1 5) (σ.1 6) (σ.1 7) m) (hm : m ≤ 6) (hs : s < m) (hp : p < 24) : (∃ k, k < s ∧ zM (σ.1 7) (σ.1 6) p k = zM (σ.1 7) (σ.1 6) p s ∧ pX8_meets (nI s) (nI p) σ = some 1) ∨ ((∀ k, k < s → ¬ zM (σ.1 7) (σ.1 6) p k = zM (σ.1 7) (σ.1 6) p s) ∧ pX8_meets (nI s) (nI p) σ = some 0) := by
  unfold pX8_meets
  have h9 := gv_find (fun q : Int32 => pX8_meets_L2 (nI s) (nI p) σ q) (fun k => nI k) (fun k => zM (σ.1 7) (σ.1 6) p k = zM (σ.1 7) (σ.1 6) p s) (fun k => .inr (1 : Int32)) s gv_N (gv_N_lt (by omega)) (.inl (nI s)) ?_ ?_ ?_
  · rcases h9 with ⟨k, k1, k2, -, k3⟩ | ⟨k1, k3⟩
    · refine Or.inl ⟨k, k1, k2, ?_⟩
      have h2 : gv_loop (fun q : Int32 => pX8_meets_L2 (nI s) (nI p) σ q) gv_N (0 : Int32) = some (.inr (1 : Int32)) := k3
      rw [h2]; rfl
    · refine Or.inr ⟨k1, ?_⟩
      have h2 : gv_loop (fun q : Int32 => pX8_meets_L2 (nI s) (nI p) σ q) gv_N (0 : Int32) = some (.inl (nI s)) := k3
      rw [h2]; rfl
  · intro k hk c
    show pX8_meets_L2 (nI s) (nI p) σ (nI k) = _
    unfold pX8_meets_L2
    rw [if_neg (nI_ge hk (by omega)), pz_minute σ h hm (by omega) hp, pz_minute σ h hm hs hp]
    simp only [gv_bind, gv_let, nI_1]
    rw [if_neg (fun q => c ((nI_eq (by have := (pz_min h (show k < m by omega) hp).2; omega) (by have := (pz_min h hs hp).2; omega)).mp q))]
  · intro k hk c
    show pX8_meets_L2 (nI s) (nI p) σ (nI k) = _
    unfold pX8_meets_L2
    rw [if_neg (nI_ge hk (by omega)), pz_minute σ h hm (by omega) hp, pz_minute σ h hm hs hp]
    simp only [gv_bind, gv_let, nI_1]
    rw [if_pos (by rw [c])]
  · show pX8_meets_L2 (nI s) (nI p) σ (nI s) = _
    unfold pX8_meets_L2
    rw [if_pos (nI_le (Nat.le_refl s) (by omega))]
theorem pz_weight {m s p : Nat} (σ : gs_S) (h : zOk (σ.1 5) (σ.1 6) (σ.1 7) m) (hm : m ≤ 6) (e : σ.1 4 3 = nI m) (hs : s < m) (hp : p < 24) : pX8_weight (nI s) (nI p) σ = some (nI (zWt (σ.1 5) (σ.1 6) (σ.1 7) s p m)) := by
  unfold pX8_weight pX10_weightAlone
  rw [pz_inN (by omega) (by decide), pz_inN (by omega) (by decide), nI_clamp (by omega), zWt_0 (p := p) h hs]
  have h9 := gv_for (fun q : Int32 × Int32 => pX8_weight_L19 σ (nI s) (nI p) q.1 q.2) (fun k => (nI (zWt (σ.1 5) (σ.1 6) (σ.1 7) s p k), nI k)) m gv_N (gv_N_lt (by omega)) (nI (zWt (σ.1 5) (σ.1 6) (σ.1 7) s p m), nI m) ?_ ?_
  · have h2 : gv_loop (fun q : Int32 × Int32 => pX8_weight_L19 σ (nI s) (nI p) q.1 q.2) gv_N (nI (zWt (σ.1 5) (σ.1 6) (σ.1 7) s p 0), (0 : Int32)) = some (nI (zWt (σ.1 5) (σ.1 6) (σ.1 7) s p m), nI m) := h9
    simp only [gv_let]
    rw [h2]
    simp only [gv_bind]
  · intro k hk
    dsimp only
    have ms := (pz_min h hs hp).2
    have mk := (pz_min h hk hp).2
    unfold pX8_weight_L19
    rw [e, if_neg (nI_ge hk (by omega)), pz_minute σ h hm hk hp, pz_minute σ h hm hs hp]
    simp only [gv_bind, gv_let, nI_1]
    by_cases c : zM (σ.1 7) (σ.1 6) p k < zM (σ.1 7) (σ.1 6) p s
    · obtain ⟨w1, w2⟩ := zWt_s h hs hp hk c
      have e1 : nI (zM (σ.1 7) (σ.1 6) p s) - nI (zM (σ.1 7) (σ.1 6) p k) = nI (zM (σ.1 7) (σ.1 6) p s - zM (σ.1 7) (σ.1 6) p k) := nI_sub (by omega)
      rw [if_neg (show ¬ nI (zM (σ.1 7) (σ.1 6) p s) - nI (zM (σ.1 7) (σ.1 6) p k) ≤ 0 by rw [e1]; exact nI_nle (by omega) (by omega)), pz_inN (by omega) (by decide), pz_inN (by omega) (by decide), nI_clamp (by omega), w2]
      unfold gv_nz
      rw [if_neg w1]
    · rw [if_pos (show nI (zM (σ.1 7) (σ.1 6) p s) - nI (zM (σ.1 7) (σ.1 6) p k) ≤ 0 by
        rw [Int32.le_iff_toInt_le, Int32.toInt_sub, nI_toInt (by omega), nI_toInt (by omega), Int.bmod_eq_of_le (by omega) (by omega)]
        have h0 : (0 : Int32).toInt = 0 := rfl
        omega), zWt_n c]
  · dsimp only
    unfold pX8_weight_L19
    rw [e, if_pos (nI_le (Nat.le_refl m) (by omega))]
theorem pz_need {m s p : Nat} (σ : gs_S) (h : zOk (σ.1 65) (σ.1 66) (σ.1 67) m) (hm : m ≤ 6) (e : σ.1 63 4 = nI m) (hs : s < m) (hp : p < 24) : (∃ k, k < s ∧ zM (σ.1 67) (σ.1 66) p k = zM (σ.1 67) (σ.1 66) p s ∧ pX11_needAt (nI s) (nI p) σ = some (-2)) ∨ ((∀ k, k < s → ¬ zM (σ.1 67) (σ.1 66) p k = zM (σ.1 67) (σ.1 66) p s) ∧ pX11_needAt (nI s) (nI p) σ = some (nI (zWt (σ.1 65) (σ.1 66) (σ.1 67) s p m))) := by
  unfold pX11_needAt
  rw [pz_inN (by omega) (by decide), pz_inN (by omega) (by decide), nI_clamp (by omega), zWt_0 (p := p) h hs, pz_xminute σ h hm hs hp]
  simp only [gv_let, gv_bind]
  have h9 := gv_find (fun q : Int32 × Int32 => pX11_needAt_L31 σ (nI p) (nI (zM (σ.1 67) (σ.1 66) p s)) (nI s) q.1 q.2) (fun k => (nI (zWt (σ.1 65) (σ.1 66) (σ.1 67) s p k), nI k)) (fun k => k < s ∧ zM (σ.1 67) (σ.1 66) p k = zM (σ.1 67) (σ.1 66) p s) (fun k => .inr (-2 : Int32)) m gv_N (gv_N_lt (by omega)) (.inl (nI (zWt (σ.1 65) (σ.1 66) (σ.1 67) s p m), nI m)) ?_ ?_ ?_
  · rcases h9 with ⟨k, k1, k2, -, k3⟩ | ⟨k1, k3⟩
    · refine Or.inl ⟨k, k2.1, k2.2, ?_⟩
      have h2 : gv_loop (fun q : Int32 × Int32 => pX11_needAt_L31 σ (nI p) (nI (zM (σ.1 67) (σ.1 66) p s)) (nI s) q.1 q.2) gv_N (nI (zWt (σ.1 65) (σ.1 66) (σ.1 67) s p 0), (0 : Int32)) = some (.inr (-2 : Int32)) := k3
      rw [h2]; rfl
    · refine Or.inr ⟨fun k q1 q2 => k1 k (by omega) ⟨q1, q2⟩, ?_⟩
      have h2 : gv_loop (fun q : Int32 × Int32 => pX11_needAt_L31 σ (nI p) (nI (zM (σ.1 67) (σ.1 66) p s)) (nI s) q.1 q.2) gv_N (nI (zWt (σ.1 65) (σ.1 66) (σ.1 67) s p 0), (0 : Int32)) = some (.inl (nI (zWt (σ.1 65) (σ.1 66) (σ.1 67) s p m), nI m)) := k3
      rw [h2]; rfl
  · intro k hk c
    dsimp only
    have ms := (pz_min h hs hp).2
    have mk := (pz_min h hk hp).2
    unfold pX11_needAt_L31
    rw [e, if_neg (nI_ge hk (by omega)), pz_xminute σ h hm hk hp]
    simp only [gv_bind, gv_let]
    have j : pX11_needAt_J66 (nI (zM (σ.1 67) (σ.1 66) p s) - nI (zM (σ.1 67) (σ.1 66) p k)) (nI (zWt (σ.1 65) (σ.1 66) (σ.1 67) s p k)) (nI k) σ = some (.inl (nI (zWt (σ.1 65) (σ.1 66) (σ.1 67) s p (k + 1)), nI (k + 1))) := by
      unfold pX11_needAt_J66
      simp only [gv_let, nI_1]
      by_cases c : zM (σ.1 67) (σ.1 66) p k < zM (σ.1 67) (σ.1 66) p s
      · obtain ⟨w1, w2⟩ := zWt_s h hs hp hk c
        have e1 : nI (zM (σ.1 67) (σ.1 66) p s) - nI (zM (σ.1 67) (σ.1 66) p k) = nI (zM (σ.1 67) (σ.1 66) p s - zM (σ.1 67) (σ.1 66) p k) := nI_sub (by omega)
        rw [if_neg (show ¬ nI (zM (σ.1 67) (σ.1 66) p s) - nI (zM (σ.1 67) (σ.1 66) p k) ≤ 0 by rw [e1]; exact nI_nle (by omega) (by omega)), pz_inN (by omega) (by decide), pz_inN (by omega) (by decide), nI_clamp (by omega), w2]
        unfold gv_nz
        rw [if_neg w1]
      · rw [if_pos (show nI (zM (σ.1 67) (σ.1 66) p s) - nI (zM (σ.1 67) (σ.1 66) p k) ≤ 0 by
          rw [Int32.le_iff_toInt_le, Int32.toInt_sub, nI_toInt (by omega), nI_toInt (by omega), Int.bmod_eq_of_le (by omega) (by omega)]
          have h0 : (0 : Int32).toInt = 0 := rfl
          omega), zWt_n c, Int32.add_zero]
    rw [j]
    by_cases z : nI (zM (σ.1 67) (σ.1 66) p s) - nI (zM (σ.1 67) (σ.1 66) p k) = 0
    · rw [if_pos z]
      have z2 : zM (σ.1 67) (σ.1 66) p k = zM (σ.1 67) (σ.1 66) p s := by
        have z3 : nI (zM (σ.1 67) (σ.1 66) p s) = nI (zM (σ.1 67) (σ.1 66) p k) := by
          have := Int32.sub_add_cancel (nI (zM (σ.1 67) (σ.1 66) p s)) (nI (zM (σ.1 67) (σ.1 66) p k))
          rw [z, Int32.zero_add] at this
          exact this.symm
        exact ((nI_eq (by omega) (by omega)).mp z3).symm
      rw [if_pos (show nI s ≤ nI k from nI_le (by
        rcases Nat.lt_or_ge k s with q | q
        · exact absurd ⟨q, z2⟩ c
        · exact q) (by omega))]
    · rw [if_neg z]
  · intro k hk c
    dsimp only
    unfold pX11_needAt_L31
    rw [e, if_neg (nI_ge hk (by omega)), pz_xminute σ h hm hk hp]
    simp only [gv_bind, gv_let]
    rw [c.2, Int32.sub_self, if_pos rfl, if_neg (nI_ge c.1 (by omega))]
  · dsimp only
    unfold pX11_needAt_L31
    rw [e, if_pos (nI_le (Nat.le_refl m) (by omega))]
theorem inv_tr {σ : gs_S} (hI : inv σ) : ∃ m : Nat, m ≤ 6 ∧ σ.1 4 3 = nI m ∧ σ.1 63 4 = nI m ∧ zOk (σ.1 5) (σ.1 6) (σ.1 7) m ∧ zOk (σ.1 65) (σ.1 66) (σ.1 67) m ∧ (∀ k, k < m → σ.1 5 k = σ.1 65 k ∧ σ.1 6 k = σ.1 66 k ∧ σ.1 7 k = σ.1 67 k) := by
  obtain ⟨i1, ⟨m, hm, e1, e2, i2⟩, i3⟩ := hI
  refine ⟨m, hm, e1, e2, fun k hk => ⟨(i2 k hk).2.2.2.1, (i2 k hk).2.2.2.2.1, (i2 k hk).2.2.2.2.2⟩, fun k hk => ?_, fun k hk => ⟨(i2 k hk).1, (i2 k hk).2.1, (i2 k hk).2.2.1⟩⟩
  obtain ⟨a, b, c, d⟩ := i2 k hk
  rw [← a, ← b, ← c]; exact d
theorem op_need (σ : gs_S) (hI : inv σ) (a1 : Int32) (a2 : Int32) : ∃ (r : Int32), pX10_need a1 a2 σ = some r ∧ pX11_need a1 a2 σ = some r := by
  obtain ⟨m, hm, e1, e2, o1, o2, eq⟩ := inv_tr hI
  obtain ⟨i1, i2, ⟨w, hw, f1, f2, i3⟩, i4⟩ := id hI
  unfold pX10_need pX11_need
  rw [e1, e2, f1, f2]
  have hp : ∀ x : Nat, x ≤ 30 → (nI x - 1 : Int32).toInt = (x : Int) - 1 := by decide +kernel
  have g1 : ∀ a : Int32, ∀ x : Nat, x ≤ 30 → ((pX10_isWithin a.toInt64 0 (nI x - 1) = 0) ↔ ¬ iv_in a 0 ((x : Int) - 1)) := fun a x hx => by
    have := pz_w10 a 0 (nI x - 1)
    rw [hp x hx] at this
    exact this
  have g2 : ∀ a : Int32, ∀ x : Nat, x ≤ 30 → ((pX11_in a.toInt64 0 ((nI x - 1 : Int32).toInt64) = 0) ↔ ¬ iv_in a 0 ((x : Int) - 1)) := fun a x hx => by
    have := pz_x11 a 0 ((nI x - 1 : Int32).toInt64)
    rw [Int32.toInt_toInt64, hp x hx] at this
    exact this
  by_cases h1 : iv_in a1 0 ((m : Int) - 1)
  rotate_left
  · exact ⟨-1, pz_if_f (g1 a1 m (by omega)) h1 _ _, pz_if_f (g2 a1 m (by omega)) h1 _ _⟩
  rw [pz_if_t (g1 a1 m (by omega)) h1, pz_if_t (g2 a1 m (by omega)) h1]
  by_cases h2 : iv_in a2 0 ((w : Int) - 1)
  rotate_left
  · exact ⟨-1, pz_if_f (g1 a2 w (by omega)) h2 _ _, pz_if_f (g2 a2 w (by omega)) h2 _ _⟩
  rw [pz_if_t (g1 a2 w (by omega)) h2, pz_if_t (g2 a2 w (by omega)) h2]
  have b1 := h1.1
  have b2 := h1.2
  have b3 := h2.1
  have b4 := h2.2
  obtain ⟨s, hs, rfl⟩ := pz_nat (m - 1) (x := a1) ⟨b1, by omega⟩ (by omega)
  obtain ⟨p, hp, rfl⟩ := pz_nat (w - 1) (x := a2) ⟨b3, by omega⟩ (by omega)
  have hs : s < m := by omega
  have hp : p < 24 := by omega
  rcases pz_meets σ o1 hm hs hp with ⟨k, k1, k2, k3⟩ | ⟨k1, k3⟩
  · rcases pz_need σ o2 hm e2 hs hp with ⟨j, j1, j2, j3⟩ | ⟨j1, j3⟩
    · refine ⟨-2, ?_, ?_⟩
      · rw [k3]; simp only [gv_bind]; rw [if_neg (by decide)]
      · rw [j3]; rfl
    · exact absurd k2 (by rw [zM_eq p (eq k (by omega)).2.2 (eq k (by omega)).2.1, zM_eq p (eq s hs).2.2 (eq s hs).2.1]; exact j1 k k1)
  · rcases pz_need σ o2 hm e2 hs hp with ⟨j, j1, j2, j3⟩ | ⟨j1, j3⟩
    · exact absurd j2 (by rw [← zM_eq p (eq j (by omega)).2.2 (eq j (by omega)).2.1, ← zM_eq p (eq s hs).2.2 (eq s hs).2.1]; exact k1 j j1)
    · refine ⟨nI (zWt (σ.1 5) (σ.1 6) (σ.1 7) s p m), ?_, ?_⟩
      · rw [k3, pz_weight σ o1 hm e1 hs hp]; simp only [gv_bind]; rw [if_pos trivial]
      · rw [j3, zWt_eq p eq hs m (Nat.le_refl m)]; rfl
