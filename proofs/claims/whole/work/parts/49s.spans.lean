/-! PURE, 49s: the reference's ends; the spans on both sides -/
theorem xn_fits {σ : gs_S} {m : Nat} (Hd : zHd σ m) (h : Int32) {q t : Nat} (hq : q < 64) (t1 : 1 ≤ t) (t2 : t ≤ 99) (τ : gs_S) (hτ : ∀ x, ¬ x = 77 → ¬ x = 78 → τ.1 x = σ.1 x) : ∃ r : Int32, (r = 0 ∨ r = 1) ∧ (r = 1 ↔ ∀ j, j < m → zAt σ h j → zHs σ j = q → zFt (zPi σ j) (zSl σ j) (zKd σ q) t) ∧ pX11_fits h (nI q) (nI t) τ = some r := by
  have hm := Hd.1
  unfold pX11_fits
  have L := gv_rel (fun x : Int32 × Int32 => pX11_fits_L6 τ (nI q) h (nI t) x.1 x.2) (fun k x => x.2 = nI k ∧ (x.1 = 0 ∨ x.1 = 1) ∧ (x.1 = 1 ↔ ∀ j, j < k → zAt σ h j → zHs σ j = q → zFt (zPi σ j) (zSl σ j) (zKd σ q) t)) m gv_N (gv_N_lt (by omega)) (fun x => (x.1 = 0 ∨ x.1 = 1) ∧ (x.1 = 1 ↔ ∀ j, j < m → zAt σ h j → zHs σ j = q → zFt (zPi σ j) (zSl σ j) (zKd σ q) t)) ?_ ?_ ((1 : Int32), (0 : Int32)) ⟨rfl, Or.inr rfl, ⟨fun _ j hj => absurd hj (by omega), fun _ => rfl⟩⟩
  · obtain ⟨⟨r, n⟩, l1, l2, l3⟩ := L
    dsimp only at l2 l3
    refine ⟨r, l2, l3, ?_⟩
    rw [l1, gv_bind_some, gv_let_p, gv_let_p]
    exact if_pos l2
  · rintro k ⟨r, n⟩ hk ⟨r1, r2, r3⟩
    dsimp only at r1 r2 r3 ⊢
    subst r1
    obtain ⟨b1, b2, b3, b4, b5, b6, b7, b8, b9⟩ := zHd_b Hd hk
    obtain ⟨d1, d2⟩ := zKd_b Hd hq
    obtain ⟨e1, e2, e3, -⟩ := Hd.2.2.2.1 k hk
    have s1 := (Hd.2.2.2.2.1 _ b7).1
    have kd := (Hd.2.2.2.2.2 q hq).1
    unfold pX11_fits_L6
    have i0 : (3 : Int32) * nI k = nI (3 * k) := nI_mul 3 k
    have i2 : nI (3 * k) + (2 : Int32) = nI (3 * k + 2) := nI_add (3 * k) 2
    rw [hτ 63 (by decide) (by decide), Hd.2.2.1, if_neg (nI_ge hk (by omega)), i0, pz_inN (by omega) (by decide), nI_clamp (show 3 * k < 2 ^ 31 by omega), hτ 71 (by decide) (by decide), ← e1, gv_let_p, nI_1, pz_inN (by omega) (by decide), nI_clamp (show 3 * k + 1 < 2 ^ 31 by omega), ← e2, b1]
    have skip : (zAt σ h k → zHs σ k = q → zFt (zPi σ k) (zSl σ k) (zKd σ q) t) → (r = 1 ↔ ∀ j, j < k + 1 → zAt σ h j → zHs σ j = q → zFt (zPi σ j) (zSl σ j) (zKd σ q) t) := fun ok => r3.trans ⟨fun z j hj y1 y2 => by
      by_cases e : j = k
      · subst e; exact ok y1 y2
      · exact z j (by omega) y1 y2, fun z j hj y1 y2 => z j (by omega) y1 y2⟩
    by_cases c : zHs σ k = q
    rotate_left
    · rw [if_neg (fun z => c ((nI_eq (by omega) (by omega)).mp z)), gv_let_p, nI_1]
      exact ⟨_, rfl, rfl, r2, skip (fun _ z => absurd z c)⟩
    rw [if_pos (by rw [c])]
    by_cases a : zAc h (σ.1 12 k) = 1
    rotate_left
    · have a' : ¬ ((h >>> ((σ.1 12 k) &&& 31)) &&& (1 : Int32)) = 1 := a
      rw [if_neg a', gv_let_p, nI_1]
      exact ⟨_, rfl, rfl, r2, skip (fun z => absurd ((zAc_01 _ _).mp z) a)⟩
    have a' : ((h >>> ((σ.1 12 k) &&& 31)) &&& (1 : Int32)) = 1 := a
    have act : zAt σ h k := (zAc_01 _ _).mpr a
    have td := Nat.div_le_self 9000 t
    rw [if_pos a', show (64 : Int32) + nI q = nI (64 + q) from nI_add 64 q, pz_inN (by omega) (by decide), nI_clamp (show 64 + q < 2 ^ 31 by omega), hτ 64 (by decide) (by decide), ← kd, d1]
    unfold pX11_pitchOf gv_nz
    rw [if_neg (nI_ne0 (by omega) (by omega)), show (9000 : Int32) / nI t = nI (9000 / t) from nI_div (a := 9000) (by decide) (by omega), show (7 : Int32) * nI (zKd σ q) = nI (7 * zKd σ q) from nI_mul 7 _, nI_add, gv_bind_some, i2, pz_inN (by omega) (by decide), nI_clamp (show 3 * k + 2 < 2 ^ 31 by omega), ← e3, b3, gv_let_p]
    have off : nI (9000 / t + 7 * zKd σ q) - nI (zPi σ k) = zI (((9000 / t : Nat) : Int) + 7 * zKd σ q - zPi σ k) := by
      rw [← zI_n, ← zI_n, zI_sub]
      exact congrArg zI (by omega)
    have tz : (0 : Int) ≤ ((9000 / t : Nat) : Int) := Int.natCast_nonneg _
    rw [off]
    rcases r2 with z | z
    · rw [if_pos z, gv_let_p, nI_1]
      refine ⟨_, rfl, rfl, Or.inl rfl, ⟨fun y => absurd y (by dsimp only; decide), fun y => ?_⟩⟩
      have := r3.mpr (fun j hj => y j (by omega))
      rw [z] at this
      exact absurd this (by decide)
    · have r4 := r3.mp z
      rw [if_neg (by rw [z]; decide), b6, pz_inN (by omega) (by decide), pz_inN (by omega) (by decide), nI_clamp (by omega), hτ 70 (by decide) (by decide), ← s1, b8]
      have inn : (pX11_in (zI (((9000 / t : Nat) : Int) + 7 * zKd σ q - zPi σ k)).toInt64 ((- nI (zSl σ k)).toInt64) ((nI (zSl σ k)).toInt64) = 0) ↔ ¬ zFt (zPi σ k) (zSl σ k) (zKd σ q) t := by
        rw [pz_x11, Int32.toInt_toInt64, Int32.toInt_toInt64, nI_toInt (by omega), fb_negI (by rw [nI_toInt (by omega)]; omega), nI_toInt (by omega)]
        unfold iv_in zFt
        rw [zI_t (by omega) (by omega)]
      by_cases y : zFt (zPi σ k) (zSl σ k) (zKd σ q) t
      · rw [if_neg (fun x => (inn.mp x) y), gv_let_p, nI_1]
        refine ⟨_, rfl, rfl, Or.inr rfl, ⟨fun _ j hj y1 y2 => ?_, fun _ => rfl⟩⟩
        by_cases e : j = k
        · rw [e]; exact y
        · exact r4 j (by omega) y1 y2
      · rw [if_pos (inn.mpr y), gv_let_p, nI_1]
        exact ⟨_, rfl, rfl, Or.inl rfl, ⟨fun x => absurd x (by dsimp only; decide), fun x => absurd (x k (by omega) act c) y⟩⟩
  · rintro ⟨r, n⟩ ⟨r1, r2, r3⟩
    dsimp only at r1 r2 r3 ⊢
    subst r1
    unfold pX11_fits_L6
    rw [hτ 63 (by decide) (by decide), Hd.2.2.1, if_pos (nI_le (Nat.le_refl _) (by omega))]
    exact ⟨_, rfl, r2, r3⟩
/-- one square's ends -/
theorem xn_end {σ : gs_S} {m : Nat} (Hd : zHd σ m) (h : Int32) {L H : Nat → Int} (E : zEn σ h m m L H) {q : Nat} (hq : q < 64) (τ : gs_S) (hτ : ∀ x, ¬ x = 77 → ¬ x = 78 → τ.1 x = σ.1 x) (z1 : τ.1 77 q = 0) (z2 : τ.1 78 q = 0) : ∃ v τ', gv_loop (fun x : Int32 × gs_S => pX11_findEnds_L27 h (nI q) x.1 x.2) gv_N ((1 : Int32), τ) = some (v, τ') ∧ (∀ x, ¬ x = 77 → ¬ x = 78 → τ'.1 x = τ.1 x) ∧ τ'.2 = τ.2 ∧ (∀ x, ¬ x = q → τ'.1 77 x = τ.1 77 x ∧ τ'.1 78 x = τ.1 78 x) ∧ (L q ≤ H q → τ'.1 77 q = zI (L q) ∧ τ'.1 78 q = zI (H q)) ∧ (¬ L q ≤ H q → τ'.1 77 q = 0) := by
  obtain ⟨a1, a2, a3, a4, a5⟩ := E q hq
  have Lp := gv_rel (fun x : Int32 × gs_S => pX11_findEnds_L27 h (nI q) x.1 x.2) (fun k x => x.1 = nI (k + 1) ∧ (∀ y, ¬ y = 77 → ¬ y = 78 → x.2.1 y = τ.1 y) ∧ x.2.2 = τ.2 ∧ (∀ y, ¬ y = q → x.2.1 77 y = τ.1 77 y ∧ x.2.1 78 y = τ.1 78 y) ∧ (L q ≤ k ∧ L q ≤ H q → x.2.1 77 q = zI (L q) ∧ x.2.1 78 q = zI (min (H q) k)) ∧ (¬ (L q ≤ k ∧ L q ≤ H q) → x.2.1 77 q = 0 ∧ x.2.1 78 q = 0)) 99 gv_N (gv_N_lt (by decide)) (fun x => (∀ y, ¬ y = 77 → ¬ y = 78 → x.2.1 y = τ.1 y) ∧ x.2.2 = τ.2 ∧ (∀ y, ¬ y = q → x.2.1 77 y = τ.1 77 y ∧ x.2.1 78 y = τ.1 78 y) ∧ (L q ≤ H q → x.2.1 77 q = zI (L q) ∧ x.2.1 78 q = zI (H q)) ∧ (¬ L q ≤ H q → x.2.1 77 q = 0)) ?_ ?_ ((1 : Int32), τ) ⟨rfl, fun _ _ _ => rfl, rfl, fun _ _ => ⟨rfl, rfl⟩, fun c => absurd c.1 (by omega), fun _ => ⟨z1, z2⟩⟩
  · obtain ⟨⟨v, τ'⟩, l1, l2⟩ := Lp
    exact ⟨v, τ', l1, l2⟩
  · rintro k ⟨v, ρ⟩ hk ⟨r1, r2, r3, r4, r5, r6⟩
    dsimp only at r1 r2 r3 r4 r5 r6 ⊢
    subst r1
    unfold pX11_findEnds_L27
    obtain ⟨r, x1, x2, x3⟩ := xn_fits Hd h hq (show 1 ≤ k + 1 by omega) (show k + 1 ≤ 99 by omega) ρ (fun y y1 y2 => by rw [r2 y y1 y2, hτ y y1 y2])
    have x4 : r = 1 ↔ (L q ≤ (k + 1 : Nat) ∧ (k + 1 : Nat) ≤ H q) := x2.trans (a5 (k + 1) (by omega) (by omega)).symm
    have e99 : ¬ (99 : Int32) < nI (k + 1) := nI_nlt (a := 99) (by omega) (by decide)
    rw [if_neg e99, x3, gv_bind_some]
    rcases x1 with z | z
    · have n : ¬ (L q ≤ (k + 1 : Nat) ∧ (k + 1 : Nat) ≤ H q) := fun y => by have := x4.mpr y; rw [z] at this; exact absurd this (by decide)
      rw [if_pos z, gv_let_p, nI_1]
      refine ⟨_, rfl, rfl, r2, r3, r4, fun c => ?_, fun c => ?_⟩
      · dsimp only
        rw [show min (H q) ((k + 1 : Nat) : Int) = min (H q) (k : Int) by omega]
        exact r5 ⟨by omega, c.2⟩
      · exact r6 (by omega)
    · have p := x4.mp z
      have J : ∀ y : Int32, y = zI (L q) → ∃ t, pX11_findEnds_J70 (nI q) ρ (nI (k + 1)) y = some (.inl t) ∧ t.1 = nI (k + 1 + 1) ∧ (∀ y, ¬ y = 77 → ¬ y = 78 → t.2.1 y = τ.1 y) ∧ t.2.2 = τ.2 ∧ (∀ y, ¬ y = q → t.2.1 77 y = τ.1 77 y ∧ t.2.1 78 y = τ.1 78 y) ∧ (L q ≤ (k + 1 : Nat) ∧ L q ≤ H q → t.2.1 77 q = zI (L q) ∧ t.2.1 78 q = zI (min (H q) (k + 1 : Nat))) ∧ (¬ (L q ≤ (k + 1 : Nat) ∧ L q ≤ H q) → t.2.1 77 q = 0 ∧ t.2.1 78 q = 0) := fun y hy => by
        unfold pX11_findEnds_J70
        rw [pz_inN hq (by decide), nI_clamp (show q < 2 ^ 31 by omega), gv_let_p, pz_inN hq (by decide), gv_let_p, gv_let_p, nI_1]
        refine ⟨_, rfl, rfl, fun x x1 x2 => ?_, r3, fun x hx => ?_, fun _ => ?_, fun c => absurd c (by omega)⟩
        · dsimp only
          rw [pz_u, if_neg x2, pz_u, if_neg x1]; exact r2 x x1 x2
        · dsimp only
          rw [pz_u, if_neg (by decide), pz_u, if_pos rfl, pz_upd, if_neg hx, pz_u, if_pos rfl, pz_upd, if_neg hx, pz_u, if_neg (by decide)]
          exact r4 x hx
        · dsimp only
          rw [pz_u, if_neg (by decide), pz_u, if_pos rfl, pz_upd, if_pos rfl, pz_u, if_pos rfl, pz_upd, if_pos rfl]
          refine ⟨hy, ?_⟩
          rw [show min (H q) ((k + 1 : Nat) : Int) = ((k + 1 : Nat) : Int) by omega, zI_n]
      rw [if_neg (by rw [z]; decide), pz_inN hq (by decide), nI_clamp (show q < 2 ^ 31 by omega)]
      by_cases c : L q ≤ k
      · obtain ⟨c1, c2⟩ := r5 ⟨c, by omega⟩
        rw [c1, if_neg (by rw [zI_0, zI_eq (by omega) (by omega) (by omega) (by omega)]; omega), pz_inN hq (by decide)]
        exact J _ rfl
      · obtain ⟨c1, c2⟩ := r6 (fun y => c y.1)
        rw [c1, if_pos rfl]
        exact J _ (by rw [← zI_n]; exact congrArg zI (by omega))
  · rintro ⟨v, ρ⟩ ⟨r1, r2, r3, r4, r5, r6⟩
    dsimp only at r1 r2 r3 r4 r5 r6 ⊢
    subst r1
    unfold pX11_findEnds_L27
    rw [if_pos (by decide)]
    refine ⟨_, rfl, r2, r3, r4, fun c => ?_, fun c => (r6 (fun y => c y.2)).1⟩
    obtain ⟨c1, c2⟩ := r5 ⟨by omega, c⟩
    exact ⟨c1, by dsimp only; rw [c2]; exact congrArg zI (by omega)⟩
theorem xn_ends {σ : gs_S} {m : Nat} (Hd : zHd σ m) (h : Int32) {L H : Nat → Int} (E : zEn σ h m m L H) : ∃ (r : Int32) (τ : gs_S), pX11_findEnds h σ = some (r, τ) ∧ (r = 0 ∨ r = 1) ∧ (r = 1 ↔ ∀ q, q < 64 → L q ≤ H q) ∧ (∀ x, ¬ x = 77 → ¬ x = 78 → τ.1 x = σ.1 x) ∧ τ.2 = σ.2 ∧ (r = 1 → ∀ q, q < 64 → τ.1 77 q = zI (L q) ∧ τ.1 78 q = zI (H q)) := by
  unfold pX11_findEnds
  have Lp := gv_rel (fun x : Int32 × Int32 × gs_S => pX11_findEnds_L4 h x.1 x.2.1 x.2.2) (fun k x => x.2.1 = nI k ∧ (x.1 = 0 ∨ x.1 = 1) ∧ (x.1 = 1 ↔ ∀ j, j < k → L j ≤ H j) ∧ (∀ y, ¬ y = 77 → ¬ y = 78 → x.2.2.1 y = σ.1 y) ∧ x.2.2.2 = σ.2 ∧ (∀ j, j < k → L j ≤ H j → x.2.2.1 77 j = zI (L j) ∧ x.2.2.1 78 j = zI (H j))) 64 gv_N (gv_N_lt (by decide)) (fun x => (x.1 = 0 ∨ x.1 = 1) ∧ (x.1 = 1 ↔ ∀ j, j < 64 → L j ≤ H j) ∧ (∀ y, ¬ y = 77 → ¬ y = 78 → x.2.2.1 y = σ.1 y) ∧ x.2.2.2 = σ.2 ∧ (∀ j, j < 64 → L j ≤ H j → x.2.2.1 77 j = zI (L j) ∧ x.2.2.1 78 j = zI (H j))) ?_ ?_ ((1 : Int32), (0 : Int32), σ) ⟨rfl, Or.inr rfl, ⟨fun _ j hj => absurd hj (by omega), fun _ => rfl⟩, fun _ _ _ => rfl, rfl, fun j hj => absurd hj (by omega)⟩
  · obtain ⟨⟨r, n, τ⟩, l1, l2, l3, l4, l5, l6⟩ := Lp
    dsimp only at l2 l3 l4 l5 l6
    refine ⟨r, τ, ?_, l2, l3, l4, l5, fun z q hq => l6 q hq (l3.mp z q hq)⟩
    rw [l1, gv_bind_some, gv_let_p, gv_let_p, gv_let_p]
    exact if_pos l2
  · rintro k ⟨r, n, ρ⟩ hk ⟨r1, r2, r3, r4, r5, r6⟩
    dsimp only at r1 r2 r3 r4 r5 r6 ⊢
    subst r1
    unfold pX11_findEnds_L4
    rw [if_neg (show ¬ (64 : Int32) ≤ nI k from nI_ge (b := 64) hk (by decide)), pz_inN hk (by decide), nI_clamp (show k < 2 ^ 31 by omega), gv_let_p, pz_inN hk (by decide), gv_let_p]
    obtain ⟨φ, eφ⟩ : ∃ φ, φ = gs_u (gs_u ρ 77 k 0) 78 k 0 := ⟨_, rfl⟩
    rw [← eφ]
    have p1 : ∀ y, ¬ y = 77 → ¬ y = 78 → φ.1 y = σ.1 y := fun y y1 y2 => by rw [eφ, pz_u, if_neg y2, pz_u, if_neg y1]; exact r4 y y1 y2
    obtain ⟨v, τ', t1, t2, t3, t4, t5, t6⟩ := xn_end Hd h E hk φ p1 (by rw [eφ, pz_u, if_neg (by decide), pz_ua]) (by rw [eφ, pz_ua])
    have fr : (∀ y, ¬ y = 77 → ¬ y = 78 → τ'.1 y = σ.1 y) ∧ τ'.2 = σ.2 := ⟨fun y y1 y2 => by rw [t2 y y1 y2, p1 y y1 y2], by rw [t3, eφ, pz_u2, pz_u2, r5]⟩
    have cells : ∀ j, j < k + 1 → L j ≤ H j → τ'.1 77 j = zI (L j) ∧ τ'.1 78 j = zI (H j) := fun j hj c => by
      by_cases e : j = k
      · rw [e] at c ⊢; exact t5 c
      · obtain ⟨u1, u2⟩ := t4 j e
        rw [u1, u2, eφ, pz_u, if_neg (by decide), pz_u, if_pos rfl, pz_upd, if_neg e, pz_u, if_pos rfl, pz_upd, if_neg e, pz_u, if_neg (by decide)]
        exact r6 j (by omega) c
    rw [t1, gv_bind_some, gv_let_p, gv_let_p]
    dsimp only
    rcases r2 with z | z
    · rw [if_pos z, gv_let_p, nI_1]
      refine ⟨_, rfl, rfl, Or.inl rfl, ⟨fun y => absurd y (by dsimp only; decide), fun y => ?_⟩, fr.1, fr.2, cells⟩
      have := r3.mpr (fun j hj => y j (by omega))
      rw [z] at this
      exact absurd this (by decide)
    · have r7 := r3.mp z
      rw [if_neg (by rw [z]; decide), pz_inN hk (by decide)]
      by_cases c : L k ≤ H k
      · have lb := E k hk
        rw [(t5 c).1, if_neg (by rw [zI_0, zI_le (by omega) (by omega) (by omega) (by omega)]; omega), gv_let_p, nI_1]
        refine ⟨_, rfl, rfl, Or.inr rfl, ⟨fun _ j hj => ?_, fun _ => rfl⟩, fr.1, fr.2, cells⟩
        by_cases e : j = k
        · rw [e]; exact c
        · exact r7 j (by omega)
      · rw [t6 c, if_pos (by decide), gv_let_p, nI_1]
        exact ⟨_, rfl, rfl, Or.inl rfl, ⟨fun y => absurd y (by dsimp only; decide), fun y => absurd (y k (by omega)) c⟩, fr.1, fr.2, cells⟩
  · rintro ⟨r, n, ρ⟩ ⟨r1, r2, r3, r4, r5, r6⟩
    dsimp only at r1 r2 r3 r4 r5 r6 ⊢
    subst r1
    unfold pX11_findEnds_L4
    rw [if_pos (by decide)]
    exact ⟨_, rfl, r2, r3, r4, r5, r6⟩
theorem pz_open {σ τ : gs_S} {X Y : Nat → Int} (h : nwR σ τ X Y) : ∃ r : Int32, (r = 0 ∨ r = 1) ∧ (r = 1 ↔ ∀ q, q < 64 → X q ≤ - Y q) ∧ pX6_areOpen τ = some r := by
  unfold pX6_areOpen
  have h9 := gv_find (fun q : Int32 => pX6_areOpen_L2 τ q) (fun k => nI k) (fun k => ¬ X k ≤ - Y k) (fun _ => .inr (0 : Int32)) 64 gv_N (gv_N_lt (by decide)) (.inl (nI 64)) ?_ ?_ ?_
  · rcases h9 with ⟨k, k1, k2, -, k4⟩ | ⟨k1, k4⟩
    · refine ⟨0, Or.inl rfl, ⟨fun z => absurd z (by decide), fun z => absurd (z k k1) k2⟩, ?_⟩
      have h2 : gv_loop (fun q : Int32 => pX6_areOpen_L2 τ q) gv_N (0 : Int32) = some (.inr (0 : Int32)) := k4
      rw [h2]; rfl
    · refine ⟨1, Or.inr rfl, ⟨fun _ q hq => Classical.byContradiction (k1 q hq), fun _ => rfl⟩, ?_⟩
      have h2 : gv_loop (fun q : Int32 => pX6_areOpen_L2 τ q) gv_N (0 : Int32) = some (.inl (nI 64)) := k4
      rw [h2]; rfl
  · intro k hk c
    show pX6_areOpen_L2 τ (nI k) = _
    obtain ⟨a1, a2, a3, a4, a5, a6⟩ := h.2.2 k hk
    unfold pX6_areOpen_L2
    rw [if_neg (show ¬ (64 : Int32) ≤ nI k from nI_ge (b := 64) hk (by decide)), pz_inN hk (by decide), pz_inN hk (by decide), nI_clamp (by omega), a1, a2, if_pos ((zI_le (by omega) (by omega) (by omega) (by omega)).mpr (Classical.not_not.mp c)), gv_let_p, nI_1]
  · intro k hk c
    show pX6_areOpen_L2 τ (nI k) = _
    obtain ⟨a1, a2, a3, a4, a5, a6⟩ := h.2.2 k hk
    unfold pX6_areOpen_L2
    rw [if_neg (show ¬ (64 : Int32) ≤ nI k from nI_ge (b := 64) hk (by decide)), pz_inN hk (by decide), pz_inN hk (by decide), nI_clamp (by omega), a1, a2, if_neg (fun z => c ((zI_le (by omega) (by omega) (by omega) (by omega)).mp z))]
  · show pX6_areOpen_L2 τ (nI 64) = _
    unfold pX6_areOpen_L2
    rw [if_pos (by decide)]
/-- the spans, the same on both sides, whatever the rows of work hold -/
def zSp (σ : gs_S) (h r : Int32) (A B : Nat → Int) : Prop := (r = 0 ∨ r = 1) ∧ (r = 1 → ∀ q, q < 64 → 1 ≤ A q ∧ A q ≤ B q ∧ B q ≤ 99) ∧ (∀ σ', sm σ σ' → ∃ τ, pX6_find h σ' = some (r, τ) ∧ (∀ x, ¬ x = 44 → ¬ x = 45 → τ.1 x = σ'.1 x) ∧ τ.2 = σ'.2 ∧ (r = 1 → ∀ q, q < 64 → τ.1 44 q = zI (A q) ∧ τ.1 45 q = zI (B q))) ∧ (∀ σ', sm σ σ' → ∃ τ, pX11_findSpans h σ' = some (r, τ) ∧ (∀ x, ¬ x = 77 → ¬ x = 78 → τ.1 x = σ'.1 x) ∧ τ.2 = σ'.2 ∧ (r = 1 → ∀ q, q < 64 → τ.1 77 q = zI (A q) ∧ τ.1 78 q = zI (B q)))
theorem zHd_sm {σ σ' : gs_S} {m : Nat} (H : zHd σ m) (s : sm σ σ') : zHd σ' m := by
  obtain ⟨h1, h2, h3, h4, h5, h6⟩ := H
  obtain ⟨c, d, -⟩ := s
  unfold zHd
  rw [c 10 (by omega), d 10 (by omega) (by omega) (by omega), c 12 (by omega), c 13 (by omega), c 14 (by omega), c 71 (by omega), c 11 (by omega), c 70 (by omega), c 3 (by omega), c 64 (by omega)]
  exact ⟨h1, h2, h3, h4, h5, h6⟩
theorem zEn_sm {σ σ' : gs_S} {h : Int32} {m k : Nat} {L H : Nat → Int} (E : zEn σ h m k L H) (s : sm σ σ') : zEn σ' h m k L H := by
  obtain ⟨c, -, -⟩ := s
  unfold zEn zAt zHs zPi zSl zKd
  rw [c 12 (by omega), c 13 (by omega), c 14 (by omega), c 11 (by omega), c 3 (by omega)]
  exact E
/-- the ends are one -/
theorem zEn_one {σ : gs_S} {h : Int32} {m k : Nat} {L H L2 H2 : Nat → Int} (E : zEn σ h m k L H) (E2 : zEn σ h m k L2 H2) {q : Nat} (hq : q < 64) (c : L q ≤ H q) : L q = L2 q ∧ H q = H2 q := by
  obtain ⟨a1, a2, a3, a4, a5⟩ := E q hq
  obtain ⟨b1, b2, b3, b4, b5⟩ := E2 q hq
  have t1 := (b5 (L q).toNat (by omega) (by omega)).mpr ((a5 (L q).toNat (by omega) (by omega)).mp (by omega))
  have t2 := (b5 (H q).toNat (by omega) (by omega)).mpr ((a5 (H q).toNat (by omega) (by omega)).mp (by omega))
  have t3 := (a5 (L2 q).toNat (by omega) (by omega)).mpr ((b5 (L2 q).toNat (by omega) (by omega)).mp (by omega))
  have t4 := (a5 (H2 q).toNat (by omega) (by omega)).mpr ((b5 (H2 q).toNat (by omega) (by omega)).mp (by omega))
  omega
theorem pz_find {σ : gs_S} (hI : inv σ) (h : Int32) {s : Int} (hs : 0 ≤ s) (hs2 : s ≤ 99) (e5 : σ.1 1 5 = zI s) {m : Nat} (Hd : zHd σ m) : ∃ L H, zEn σ h m m L H ∧ ∃ (r : Int32) (τ : gs_S), (r = 0 ∨ r = 1) ∧ (r = 1 ↔ ∀ q, q < 64 → nwB s (nwF s L 64) 64 q ≤ - nwB s (nwF s (fun q => - H q) 64) 64 q) ∧ pX6_find h σ = some (r, τ) ∧ (∀ x, ¬ x = 44 → ¬ x = 45 → τ.1 x = σ.1 x) ∧ τ.2 = σ.2 ∧ ∀ q, q < 64 → τ.1 44 q = zI (nwB s (nwF s L 64) 64 q) ∧ τ.1 45 q = zI (- nwB s (nwF s (fun q => - H q) 64) 64 q) := by
  unfold pX6_find
  rw [pz_fill 44 1 σ (by decide), gv_bind_some, pz_fill 45 99 _ (by decide), gv_bind_some]
  obtain ⟨φ, eφ⟩ : ∃ φ, φ = gs_w (gs_w σ 44 (fun i => if i < gl 44 then (1 : Int32) else σ.1 44 i)) 45 (fun i => if i < gl 45 then (99 : Int32) else (gs_w σ 44 (fun i => if i < gl 44 then (1 : Int32) else σ.1 44 i)).1 45 i) := ⟨_, rfl⟩
  rw [← eφ]
  have h0 : zE4 σ φ (fun _ => 1) (fun _ => 99) := by
    refine ⟨fun x x1 x2 => by rw [eφ, pz_w, if_neg x2, pz_w, if_neg x1], by rw [eφ, pz_w2, pz_w2], fun q hq => ⟨?_, ?_⟩⟩
    · rw [eφ, pz_w, if_neg (by decide), pz_wc]
      exact (if_pos (show q < gl 44 from hq)).trans zI_1
    · rw [eφ, pz_wc]
      exact (if_pos (show q < gl 45 from hq)).trans (show (99 : Int32) = zI 99 by decide)
  obtain ⟨τ, L, H, ⟨v, l1⟩, l2, l3⟩ := pz_ends Hd h h0
  refine ⟨L, H, l3, ?_⟩
  rw [l1, gv_bind_some, gv_let_p, gv_let_p]
  dsimp only
  rw [l2.1 1 (by decide) (by decide), e5]
  have R0 : nwR σ τ L (fun q => - H q) := ⟨l2.1, l2.2.1, fun q hq => by
    obtain ⟨a1, a2, a3, a4, -⟩ := l3 q hq
    obtain ⟨b1, b2⟩ := l2.2.2 q hq
    dsimp only
    exact ⟨b1, by rw [b2]; exact congrArg zI (by omega), by omega, by omega, by omega, by omega⟩⟩
  obtain ⟨υ, u1, u2⟩ := pz_narrow hs hs2 R0
  obtain ⟨r, r1, r2, r3⟩ := pz_open u2
  rw [u1, gv_bind_some, r3, gv_bind_some]
  refine ⟨r, υ, r1, r2, if_pos r1, u2.1, u2.2.1, fun q hq => ⟨(u2.2.2 q hq).1, (u2.2.2 q hq).2.1⟩⟩
theorem pz_spans {σ : gs_S} (hI : inv σ) (h : Int32) : ∃ r A B, zSp σ h r A B := by
  obtain ⟨m, Hd⟩ := inv_hd hI
  obtain ⟨se, sb⟩ := hI.2.2.2.2.1
  obtain ⟨s, hsn, es⟩ := pz_nat 99 sb (by decide)
  have e5 : σ.1 1 5 = zI (s : Int) := by rw [zI_n]; exact es
  have e69 : σ.1 69 1 = zI (s : Int) := by rw [← se]; exact e5
  obtain ⟨L, H, E, r, τ, r1, r2, -, -, -, -⟩ := pz_find hI h (s := (s : Int)) (by omega) (by omega) e5 Hd
  have tw1 := nw_two (s := (s : Int)) (by omega) L
  have tw2 := nw_two (s := (s : Int)) (by omega) (fun q => - H q)
  refine ⟨r, nwB s (nwF s L 64) 64, fun q => - nwB s (nwF s (fun q => - H q) 64) 64 q, r1, fun z q hq => ?_, fun σ' sσ => ?_, fun σ' sσ => ?_⟩
  · have a := r2.mp z q hq
    have b := tw1.1 q hq
    have c := tw2.1 q hq
    obtain ⟨e1, e2, e3, e4, -⟩ := E q hq
    dsimp only at c ⊢
    omega
  · -- the class, from any state alike
    have hI' := inv_sm hI sσ
    obtain ⟨L2, H2, E2, r', τ', q1, q2, q3, q4, q5, q6⟩ := pz_find hI' h (s := (s : Int)) (by omega) (by omega) (by rw [sσ.1 1 (by omega)]; exact e5) (zHd_sm Hd sσ)
    have E' := zEn_sm E sσ
    have tw1' := nw_two (s := (s : Int)) (by omega) L2
    have tw2' := nw_two (s := (s : Int)) (by omega) (fun q => - H2 q)
    by_cases all : ∀ q, q < 64 → L q ≤ H q
    · have eL : ∀ q, q < 64 → L q = L2 q ∧ H q = H2 q := fun q hq => zEn_one E' E2 hq (all q hq)
      have n1 : nwN s L (nwB s (nwF s L2 64) 64) := ⟨fun q hq => by rw [(eL q hq).1]; exact tw1'.1 q hq, tw1'.2.1, fun g g1 g2 => tw1'.2.2 g (fun q hq => by rw [← (eL q hq).1]; exact g1 q hq) g2⟩
      have n2 : nwN s (fun q => - H q) (nwB s (nwF s (fun q => - H2 q) 64) 64) := ⟨fun q hq => by dsimp only; rw [(eL q hq).2]; exact tw2'.1 q hq, tw2'.2.1, fun g g1 g2 => tw2'.2.2 g (fun q hq => by dsimp only; rw [← (eL q hq).2]; exact g1 q hq) g2⟩
      have o1 := nwN_one n1 tw1
      have o2 := nwN_one n2 tw2
      have re : r' = r := by
        have : r' = 1 ↔ r = 1 := by
          rw [q2, r2]
          exact ⟨fun z q hq => by rw [← o1 q hq, ← o2 q hq]; exact z q hq, fun z q hq => by rw [o1 q hq, o2 q hq]; exact z q hq⟩
        rcases q1 with a | a <;> rcases r1 with b | b
        · rw [a, b]
        · have := this.mpr b; rw [a] at this; exact absurd this (by decide)
        · have := this.mp a; rw [b] at this; exact absurd this (by decide)
        · rw [a, b]
      rw [re] at q3
      exact ⟨τ', q3, q4, q5, fun _ q hq => by dsimp only; rw [← o1 q hq, ← o2 q hq]; exact q6 q hq⟩
    · have bad : ∀ (X Z : Nat → Int), zEn σ' h m m X Z → ¬ ∀ q, q < 64 → nwB s (nwF s X 64) 64 q ≤ - nwB s (nwF s (fun q => - Z q) 64) 64 q := by
        intro X Z EX z
        apply all
        intro q hq
        have b := (nw_two (s := (s : Int)) (by omega) X).1 q hq
        have c := (nw_two (s := (s : Int)) (by omega) (fun q => - Z q)).1 q hq
        have zz := z q hq
        dsimp only at c
        obtain ⟨x1, x2⟩ := zEn_one EX E' hq (by omega)
        omega
      have r0 : r = 0 := by
        rcases r1 with a | a
        · exact a
        · exact absurd (r2.mp a) (bad L H E')
      have r0' : r' = 0 := by
        rcases q1 with a | a
        · exact a
        · exact absurd (q2.mp a) (bad L2 H2 E2)
      rw [r0'] at q3
      rw [r0]
      exact ⟨τ', q3, q4, q5, fun z => absurd z (by decide)⟩
  · -- the reference
    have Hd' := zHd_sm Hd sσ
    have E' := zEn_sm E sσ
    obtain ⟨r', ψ, x1, x2, x3, x4, x5, x6⟩ := xn_ends Hd' h E'
    unfold pX11_findSpans
    rw [x1, gv_bind2_some]
    rcases x2 with z | z
    · -- nothing fits somewhere
      have na : ¬ ∀ q, q < 64 → L q ≤ H q := fun y => by have := x3.mpr y; rw [z] at this; exact absurd this (by decide)
      have r0 : r = 0 := by
        rcases r1 with a | a
        · exact a
        · refine absurd (fun q hq => ?_) na
          have zz := r2.mp a q hq
          have b := tw1.1 q hq
          have c := tw2.1 q hq
          dsimp only at c
          omega
      rw [if_pos z, r0]
      exact ⟨ψ, rfl, x4, x5, fun z => absurd z (by decide)⟩
    · have all := x3.mp z
      have R : xnR ψ ψ L (fun q => - H q) := ⟨fun _ _ _ => rfl, rfl, fun q hq => by
        obtain ⟨c1, c2⟩ := x6 z q hq
        obtain ⟨e1, e2, e3, e4, -⟩ := E q hq
        have := all q hq
        dsimp only
        exact ⟨c1, by rw [c2]; exact congrArg zI (by omega), by omega, by omega, by omega, by omega⟩⟩
      obtain ⟨m', υ, X, Y, u1, u2, u3, u4⟩ := xn_all (s := (s : Int)) (by omega) (by omega) (by rw [x4 69 (by decide) (by decide), sσ.1 69 (by omega)]; exact e69) R
      obtain ⟨r'', w1, w2, w3⟩ := xn_are u2
      have o1 := nwN_one u3 tw1
      have o2 := nwN_one u4 tw2
      have re : r'' = r := by
        have : r'' = 1 ↔ r = 1 := by
          rw [w2, r2]
          exact ⟨fun z q hq => by rw [← o1 q hq, ← o2 q hq]; exact z q hq, fun z q hq => by rw [o1 q hq, o2 q hq]; exact z q hq⟩
        rcases w1 with a | a <;> rcases r1 with b | b
        · rw [a, b]
        · have := this.mpr b; rw [a] at this; exact absurd this (by decide)
        · have := this.mp a; rw [b] at this; exact absurd this (by decide)
        · rw [a, b]
      rw [if_neg (by rw [z]; decide), u1, gv_bind_some, gv_let_p, gv_let_p]
      dsimp only
      rw [w3, gv_bind_some, gv_let_p, gv_let_p]
      dsimp only
      rw [re]
      refine ⟨υ, if_pos r1, fun x x1 x2 => by rw [u2.1 x x1 x2, x4 x x1 x2], by rw [u2.2.1, x5], fun _ q hq => ?_⟩
      obtain ⟨d1, d2, -⟩ := u2.2.2 q hq
      try dsimp only
      rw [← o1 q hq, ← o2 q hq]
      exact ⟨d1, d2⟩
