/-! PURE, 49r: what fits; the ends on both sides -/
def zAc (h x : Int32) : Int32 := (h >>> (x &&& 31)) &&& (1 : Int32)
theorem zAc_01 (h x : Int32) : ¬ zAc h x = 0 ↔ zAc h x = 1 := by
  unfold zAc
  obtain ⟨j, j1, j2⟩ := pk_andE (h >>> (x &&& 31)) (m := 1) 1 (by decide)
  rw [j2]
  have : j = 0 ∨ j = 1 := by omega
  rcases this with rfl | rfl
  · exact ⟨fun z => absurd rfl z, fun z => absurd z (by decide)⟩
  · exact ⟨fun _ => rfl, fun _ => by decide⟩
def zHi (pi sl kd : Nat) : Nat := pi + sl - 7 * kd
def zLw (pi sl kd : Nat) : Int := (pi : Int) - 7 * kd - sl
def zLo (pi sl kd : Nat) : Nat := 9000 / (zHi pi sl kd + 1) + 1
def zTk (pi sl kd : Nat) : Nat := if zLw pi sl kd ≤ 0 then 99 else 9000 / (zLw pi sl kd).toNat
def zFt (pi sl kd t : Nat) : Prop := -(sl : Int) ≤ ((9000 / t : Nat) : Int) + 7 * kd - pi ∧ ((9000 / t : Nat) : Int) + 7 * kd - pi ≤ sl
theorem zFt_iff {pi sl kd t : Nat} (h1 : 90 ≤ pi) (h3 : sl ≤ 99) (h4 : kd ≤ 4) (t1 : 1 ≤ t) (t2 : t ≤ 99) : zFt pi sl kd t ↔ zLo pi sl kd ≤ t ∧ t ≤ zTk pi sl kd := by
  have hi : (9000 / t ≤ zHi pi sl kd) ↔ zLo pi sl kd ≤ t := by
    unfold zLo
    have a : 9000 / t < zHi pi sl kd + 1 ↔ 9000 < (zHi pi sl kd + 1) * t := Nat.div_lt_iff_lt_mul (by omega)
    have b : 9000 / (zHi pi sl kd + 1) < t ↔ 9000 < t * (zHi pi sl kd + 1) := Nat.div_lt_iff_lt_mul (by omega)
    rw [Nat.mul_comm] at a
    rw [show 9000 / t ≤ zHi pi sl kd ↔ 9000 / t < zHi pi sl kd + 1 from Nat.lt_succ_iff.symm, a, ← b]
    exact Iff.rfl
  have lo : (zLw pi sl kd ≤ ((9000 / t : Nat) : Int)) ↔ t ≤ zTk pi sl kd := by
    unfold zTk
    by_cases c : zLw pi sl kd ≤ 0
    · rw [if_pos c]
      exact ⟨fun _ => t2, fun _ => Int.le_trans c (Int.natCast_nonneg _)⟩
    · rw [if_neg c]
      obtain ⟨n, hn⟩ : ∃ n : Nat, zLw pi sl kd = n := ⟨(zLw pi sl kd).toNat, by omega⟩
      rw [hn] at c ⊢
      have n0 : 0 < n := by omega
      rw [Int.toNat_natCast]
      have a : n ≤ 9000 / t ↔ n * t ≤ 9000 := Nat.le_div_iff_mul_le (by omega)
      have b : t ≤ 9000 / n ↔ t * n ≤ 9000 := Nat.le_div_iff_mul_le n0
      rw [Nat.mul_comm] at a
      rw [b, ← a]
      exact Int.ofNat_le
  unfold zFt
  rw [← hi, ← lo]
  unfold zHi zLw
  generalize 9000 / t = x
  omega
theorem zLo_b {pi sl kd : Nat} (h1 : 90 ≤ pi) (h4 : kd ≤ 4) : 1 ≤ zLo pi sl kd ∧ zLo pi sl kd ≤ 200 ∧ zTk pi sl kd ≤ 9000 := by
  unfold zLo zTk
  have a : 9000 / (zHi pi sl kd + 1) ≤ 9000 / 63 := Nat.div_le_div_left (by unfold zHi; omega) (by omega)
  refine ⟨Nat.le_add_left 1 _, ?_, ?_⟩
  · generalize 9000 / (zHi pi sl kd + 1) = x at a
    omega
  · split
    · omega
    · exact Nat.div_le_self _ _
/-- the heard, as natural numbers -/
def zHd (σ : gs_S) (m : Nat) : Prop := m ≤ 16 ∧ σ.1 10 4 = nI m ∧ σ.1 63 10 = nI m ∧ (∀ k, k < m → σ.1 12 k = σ.1 71 (3 * k) ∧ σ.1 13 k = σ.1 71 (3 * k + 1) ∧ σ.1 14 k = σ.1 71 (3 * k + 2) ∧ iv_in (σ.1 12 k) 0 3 ∧ iv_in (σ.1 13 k) 0 63 ∧ iv_in (σ.1 14 k) 90 9999) ∧ (∀ k, k < 4 → σ.1 11 k = σ.1 70 k ∧ iv_in (σ.1 11 k) 0 99) ∧ (∀ k, k < 64 → σ.1 3 (64 + k) = σ.1 64 (64 + k) ∧ iv_in (σ.1 3 (64 + k)) 0 4)
theorem inv_hd {σ : gs_S} (hI : inv σ) : ∃ m, zHd σ m := by
  obtain ⟨⟨i1, i2, i3⟩, -, -, -, -, ⟨sl, h, hh, h1, h2, ih⟩, -⟩ := hI
  exact ⟨h, hh, h1, h2, ih, sl, fun k hk => ⟨i1 _ (by omega), i3 k hk⟩⟩
def zHs (σ : gs_S) (k : Nat) : Nat := zN (σ.1 13 k)
def zPi (σ : gs_S) (k : Nat) : Nat := zN (σ.1 14 k)
def zSl (σ : gs_S) (k : Nat) : Nat := zN (σ.1 11 (zN (σ.1 12 k)))
def zKd (σ : gs_S) (q : Nat) : Nat := zN (σ.1 3 (64 + q))
def zAt (σ : gs_S) (h : Int32) (k : Nat) : Prop := ¬ zAc h (σ.1 12 k) = 0
theorem zHd_b {σ : gs_S} {m : Nat} (H : zHd σ m) {k : Nat} (hk : k < m) : σ.1 13 k = nI (zHs σ k) ∧ zHs σ k < 64 ∧ σ.1 14 k = nI (zPi σ k) ∧ 90 ≤ zPi σ k ∧ zPi σ k ≤ 9999 ∧ σ.1 12 k = nI (zN (σ.1 12 k)) ∧ zN (σ.1 12 k) < 4 ∧ σ.1 11 (zN (σ.1 12 k)) = nI (zSl σ k) ∧ zSl σ k ≤ 99 := by
  obtain ⟨-, -, -, h4, h5, -⟩ := H
  obtain ⟨-, -, -, a, b, c⟩ := h4 k hk
  obtain ⟨a1, a2, a3⟩ := zN_of (lo := 0) (hi := 3) a (by decide)
  obtain ⟨b1, b2, b3⟩ := zN_of (lo := 0) (hi := 63) b (by decide)
  obtain ⟨c1, c2, c3⟩ := zN_of (lo := 90) (hi := 9999) c (by decide)
  obtain ⟨d1, d2, d3⟩ := zN_of (lo := 0) (hi := 99) (h5 (zN (σ.1 12 k)) (by omega)).2 (by decide)
  exact ⟨b1, by unfold zHs; omega, c1, c2, c3, a1, by omega, d1, d3⟩
theorem zKd_b {σ : gs_S} {m : Nat} (H : zHd σ m) {q : Nat} (hq : q < 64) : σ.1 3 (64 + q) = nI (zKd σ q) ∧ zKd σ q ≤ 4 := by
  obtain ⟨a1, a2, a3⟩ := zN_of (lo := 0) (hi := 4) (H.2.2.2.2.2 q hq).2 (by decide)
  exact ⟨a1, a3⟩
/-- L, H are the ends of what fits -/
def zEn (σ : gs_S) (h : Int32) (m k : Nat) (L H : Nat → Int) : Prop := ∀ q, q < 64 → 1 ≤ L q ∧ L q ≤ 200 ∧ 0 ≤ H q ∧ H q ≤ 99 ∧ ∀ t : Nat, 1 ≤ t → t ≤ 99 → ((L q ≤ t ∧ t ≤ H q) ↔ ∀ j, j < k → zAt σ h j → zHs σ j = q → zFt (zPi σ j) (zSl σ j) (zKd σ q) t)
def zE4 (σ τ : gs_S) (L H : Nat → Int) : Prop := (∀ x, ¬ x = 44 → ¬ x = 45 → τ.1 x = σ.1 x) ∧ τ.2 = σ.2 ∧ ∀ q, q < 64 → τ.1 44 q = zI (L q) ∧ τ.1 45 q = zI (H q)
theorem pz_fit {σ τ : gs_S} {m k : Nat} (Hd : zHd σ m) (hk : k < m) {L H : Nat → Int} (hb : ∀ q, q < 64 → 1 ≤ L q ∧ L q ≤ 200 ∧ 0 ≤ H q ∧ H q ≤ 99) (h : zE4 σ τ L H) : ∃ τ', pX6_fit (nI k) τ = some τ' ∧ zE4 σ τ' (fun q => if q = zHs σ k then max (L q) (zLo (zPi σ k) (zSl σ k) (zKd σ q)) else L q) (fun q => if q = zHs σ k then min (H q) (zTk (zPi σ k) (zSl σ k) (zKd σ q)) else H q) := by
  obtain ⟨h1, h2, h3⟩ := id h
  have hm := Hd.1
  obtain ⟨b1, b2, b3, b4, b5, b6, b7, b8, b9⟩ := zHd_b Hd hk
  obtain ⟨d1, d2⟩ := zKd_b Hd b2
  obtain ⟨l1, l2, l3, l4⟩ := hb _ b2
  obtain ⟨e1, e2⟩ := h3 _ b2
  have J105 : ∀ (x y : Int), -1000000 ≤ x → x ≤ 1000000 → -1000000 ≤ y → y ≤ 1000000 → ∃ τ', pX6_fit_J105 (nI (zHs σ k)) τ (zI x) (zI y) = some τ' ∧ zE4 σ τ' (fun q => if q = zHs σ k then max (L q) x else L q) (fun q => if q = zHs σ k then min (H q) y else H q) := by
    intro x y x1 x2 y1 y2
    unfold pX6_fit_J105
    rw [pz_inN b2 (by decide), nI_clamp (by omega), e1, zI_max (by omega) (by omega) x1 x2, gv_let_p, pz_inN b2 (by decide), gv_let_p, pz_inN b2 (by decide)]
    have e3 : (gs_u τ 44 (zHs σ k) (zI (max (L (zHs σ k)) x))).1 45 (zHs σ k) = zI (H (zHs σ k)) := by rw [pz_u, if_neg (by decide)]; exact e2
    rw [e3, zI_min (by omega) (by omega) y1 y2, gv_let_p, pz_inN b2 (by decide), gv_let_p]
    refine ⟨_, rfl, fun z z1 z2 => ?_, h2, fun q hq => ?_⟩
    · rw [pz_u, if_neg z2, pz_u, if_neg z1]; exact h1 z z1 z2
    · dsimp only
      rw [pz_u, if_neg (by decide), pz_u, if_pos rfl, pz_upd, pz_u, if_pos rfl, pz_upd]
      by_cases e : q = zHs σ k
      · rw [if_pos e, if_pos e, if_pos e, if_pos e, e]; exact ⟨rfl, rfl⟩
      · rw [if_neg e, if_neg e, if_neg e, if_neg e, pz_u, if_neg (by decide)]; exact h3 q hq
  have same : ∀ x y : Int, x = (zLo (zPi σ k) (zSl σ k) (zKd σ (zHs σ k)) : Int) → y = (zTk (zPi σ k) (zSl σ k) (zKd σ (zHs σ k)) : Int) → ∀ τ', zE4 σ τ' (fun q => if q = zHs σ k then max (L q) x else L q) (fun q => if q = zHs σ k then min (H q) y else H q) → zE4 σ τ' (fun q => if q = zHs σ k then max (L q) (zLo (zPi σ k) (zSl σ k) (zKd σ q)) else L q) (fun q => if q = zHs σ k then min (H q) (zTk (zPi σ k) (zSl σ k) (zKd σ q)) else H q) := by
    intro x y hx hy τ' z
    refine ⟨z.1, z.2.1, fun q hq => ?_⟩
    have := z.2.2 q hq
    dsimp only at this ⊢
    by_cases e : q = zHs σ k
    · rw [if_pos e, if_pos e] at this ⊢
      rw [show zKd σ q = zKd σ (zHs σ k) by rw [e], ← hx, ← hy]
      exact this
    · rw [if_neg e, if_neg e] at this ⊢
      exact this
  have bo := zLo_b (pi := zPi σ k) (sl := zSl σ k) (kd := zKd σ (zHs σ k)) b4 d2
  have hiB : zHi (zPi σ k) (zSl σ k) (zKd σ (zHs σ k)) ≤ 20000 := by unfold zHi; omega
  unfold pX6_fit
  rw [pz_inN (by omega) (by decide), nI_clamp (show k < 2 ^ 31 by omega), h1 13 (by decide) (by decide), b1, gv_let_p, pz_inN (by omega) (by decide), h1 12 (by decide) (by decide), b6, pz_inN (by omega) (by decide), nI_clamp (by omega), h1 11 (by decide) (by decide), b8, gv_let_p, pz_inN (by omega) (by decide), pz_t1 b2, gv_bind_some, h1 3 (by decide) (by decide), d1, h1 14 (by decide) (by decide), b3]
  rw [show (7 : Int32) = nI 7 from rfl, nI_mul, nI_sub (show 7 * zKd σ (zHs σ k) ≤ zPi σ k by omega), gv_let_p, nI_add, show zPi σ k - 7 * zKd σ (zHs σ k) + zSl σ k = zHi (zPi σ k) (zSl σ k) (zKd σ (zHs σ k)) by unfold zHi; omega, gv_let_p]
  have lw : nI (zPi σ k - 7 * zKd σ (zHs σ k)) - nI (zSl σ k) = zI (zLw (zPi σ k) (zSl σ k) (zKd σ (zHs σ k))) := by
    rw [← zI_n, ← zI_n, zI_sub]
    exact congrArg zI (by unfold zLw; omega)
  rw [lw, gv_let_p, if_neg (nI_pos (by omega)), nI_1]
  unfold gv_nz
  rw [if_neg (nI_ne0 (by omega) (by omega)), show (9000 : Int32) = nI 9000 from rfl, nI_div (by decide) (by omega), nI_1]
  have lo : nI (9000 / (zHi (zPi σ k) (zSl σ k) (zKd σ (zHs σ k)) + 1) + 1) = zI (zLo (zPi σ k) (zSl σ k) (zKd σ (zHs σ k)) : Nat) := by rw [zI_n]; rfl
  rw [lo]
  unfold pX6_fit_J87
  have lb : -1000000 ≤ zLw (zPi σ k) (zSl σ k) (zKd σ (zHs σ k)) ∧ zLw (zPi σ k) (zSl σ k) (zKd σ (zHs σ k)) ≤ 1000000 := by unfold zLw; omega
  by_cases c : zLw (zPi σ k) (zSl σ k) (zKd σ (zHs σ k)) ≤ 0
  · rw [if_pos (by rw [zI_0, zI_le lb.1 lb.2 (by omega) (by omega)]; exact c)]
    obtain ⟨τ', t1, t2⟩ := J105 (zLo (zPi σ k) (zSl σ k) (zKd σ (zHs σ k)) : Nat) 99 (by omega) (by omega) (by omega) (by omega)
    exact ⟨τ', t1, same _ _ rfl (by unfold zTk; rw [if_pos c]; rfl) τ' t2⟩
  · rw [if_neg (fun z => c (by rw [zI_0, zI_le lb.1 lb.2 (by omega) (by omega)] at z; exact z))]
    obtain ⟨n, hn⟩ : ∃ n : Nat, zLw (zPi σ k) (zSl σ k) (zKd σ (zHs σ k)) = n := ⟨(zLw (zPi σ k) (zSl σ k) (zKd σ (zHs σ k))).toNat, by omega⟩
    have nd := Nat.div_le_self 9000 n
    have nz : (0 : Int) ≤ ((9000 / n : Nat) : Int) := Int.natCast_nonneg _
    unfold gv_nz
    rw [hn, zI_n, if_neg (nI_ne0 (by omega) (by omega)), show (9000 : Int32) / nI n = nI (9000 / n) from nI_div (a := 9000) (by decide) (by omega), ← zI_n (9000 / n)]
    obtain ⟨τ', t1, t2⟩ := J105 (zLo (zPi σ k) (zSl σ k) (zKd σ (zHs σ k)) : Nat) (9000 / n : Nat) (by omega) (by omega) (by omega) (by omega)
    exact ⟨τ', t1, same _ _ rfl (by unfold zTk; rw [if_neg c, hn, Int.toNat_natCast]) τ' t2⟩
/-- the class's ends -/
theorem pz_ends {σ τ : gs_S} {m : Nat} (Hd : zHd σ m) (h : Int32) (h0 : zE4 σ τ (fun _ => 1) (fun _ => 99)) : ∃ τ' L H, (∃ v, gv_loop (fun q : Int32 × gs_S => pX6_find_L19 h q.1 q.2) gv_N ((0 : Int32), τ) = some (v, τ')) ∧ zE4 σ τ' L H ∧ zEn σ h m m L H := by
  have hm := Hd.1
  have Lp := gv_rel (fun q : Int32 × gs_S => pX6_find_L19 h q.1 q.2) (fun k q => q.1 = nI k ∧ ∃ L H, zE4 σ q.2 L H ∧ zEn σ h m k L H) m gv_N (gv_N_lt (by omega)) (fun q => ∃ L H, zE4 σ q.2 L H ∧ zEn σ h m m L H) ?_ ?_ ((0 : Int32), τ) ⟨rfl, _, _, h0, fun q hq => ⟨by omega, by omega, by omega, by omega, fun t t1 t2 => ⟨fun _ j hj => absurd hj (by omega), fun _ => by omega⟩⟩⟩
  · obtain ⟨⟨v, τ'⟩, l1, L, H, l2, l3⟩ := Lp
    exact ⟨τ', L, H, ⟨v, l1⟩, l2, l3⟩
  · rintro k ⟨v, ρ⟩ hk ⟨r1, L, H, r2, r3⟩
    dsimp only at r1 r2 ⊢
    subst r1
    unfold pX6_find_L19
    rw [r2.1 10 (by decide) (by decide), Hd.2.1, if_neg (nI_ge hk (by omega)), pz_inN (by omega) (by decide), nI_clamp (by omega), r2.1 12 (by decide) (by decide)]
    obtain ⟨b1, b2, b3, b4, b5, b6, b7, b8, b9⟩ := zHd_b Hd hk
    by_cases c : zAc h (σ.1 12 k) = 0
    · have c' : ((h >>> ((σ.1 12 k) &&& 31)) &&& (1 : Int32)) = 0 := c
      rw [if_pos c', gv_let_p, nI_1]
      refine ⟨_, rfl, rfl, L, H, r2, fun q hq => ?_⟩
      obtain ⟨a1, a2, a3, a4, a5⟩ := r3 q hq
      refine ⟨a1, a2, a3, a4, fun t t1 t2 => (a5 t t1 t2).trans ⟨fun z j hj y1 y2 => ?_, fun z j hj y1 y2 => z j (by omega) y1 y2⟩⟩
      by_cases e : j = k
      · subst e; exact absurd c y1
      · exact z j (by omega) y1 y2
    · have c' : ¬ ((h >>> ((σ.1 12 k) &&& 31)) &&& (1 : Int32)) = 0 := c
      obtain ⟨τ', t1, t2⟩ := pz_fit Hd hk (fun q hq => ⟨(r3 q hq).1, (r3 q hq).2.1, (r3 q hq).2.2.1, (r3 q hq).2.2.2.1⟩) r2
      rw [if_neg c', t1, gv_bind_some, gv_let_p, nI_1]
      refine ⟨_, rfl, rfl, _, _, t2, fun q hq => ?_⟩
      obtain ⟨a1, a2, a3, a4, a5⟩ := r3 q hq
      obtain ⟨-, kd⟩ := zKd_b Hd hq
      have bo := zLo_b (pi := zPi σ k) (sl := zSl σ k) (kd := zKd σ q) b4 kd
      try dsimp only
      by_cases e : q = zHs σ k
      · rw [if_pos e, if_pos e]
        refine ⟨by omega, by omega, by omega, by omega, fun t t1 t2 => ?_⟩
        have ft := zFt_iff (pi := zPi σ k) (sl := zSl σ k) (kd := zKd σ q) b4 b9 kd t1 t2
        have a5 := a5 t t1 t2
        constructor
        · intro z j hj y1 y2
          by_cases e2 : j = k
          · rw [e2]; exact ft.mpr (by omega)
          · exact a5.mp (by omega) j (by omega) y1 y2
        · intro z
          have z1 := ft.mp (z k (by omega) c e.symm)
          have z2 := a5.mpr (fun j hj y1 y2 => z j (by omega) y1 y2)
          omega
      · rw [if_neg e, if_neg e]
        refine ⟨a1, a2, a3, a4, fun t t1 t2 => (a5 t t1 t2).trans ⟨fun z j hj y1 y2 => ?_, fun z j hj y1 y2 => z j (by omega) y1 y2⟩⟩
        by_cases e2 : j = k
        · rw [e2] at y2; exact absurd y2.symm e
        · exact z j (by omega) y1 y2
  · rintro ⟨v, ρ⟩ ⟨r1, L, H, r2, r3⟩
    dsimp only at r1 r2 ⊢
    subst r1
    unfold pX6_find_L19
    rw [r2.1 10 (by decide) (by decide), Hd.2.1, if_pos (nI_le (Nat.le_refl _) (by omega))]
    exact ⟨_, rfl, L, H, r2, r3⟩
