/-! PURE, 49e: restore -/
def zRs (σ : gs_S) : Nat → gs_S
  | 0 => σ
  | k + 1 => gs_u (zRs σ k) (zCl k) (zIx k) (σ.1 79 k)
theorem zRs_o (σ : gs_S) (c : Nat) (h : c < 64 ∨ 71 < c) : ∀ k, k ≤ 416 → (zRs σ k).1 c = σ.1 c := by
  intro k
  induction k with
  | zero => intro _; rfl
  | succ k ih =>
    intro hk
    have := zCl_in k (by omega)
    show (gs_u (zRs σ k) (zCl k) (zIx k) (σ.1 79 k)).1 c = _
    rw [pz_u, if_neg (by omega), ih (by omega)]
theorem zRs_2 (σ : gs_S) : ∀ k, (zRs σ k).2 = σ.2 := by
  intro k
  induction k with
  | zero => rfl
  | succ k ih => exact ih
theorem zC_inj (j k : Nat) (hj : j < 416) (hk : k < 416) (h1 : zCl j = zCl k) (h2 : zIx j = zIx k) : j = k := by
  unfold zCl at h1
  unfold zIx at h2
  split at h1 <;> split at h1 <;> (repeat' split at h1) <;> (repeat' split at h2) <;> omega
theorem zRs_at (σ : gs_S) (j : Nat) (hj : j < 416) : ∀ k, k ≤ 416 → j < k → (zRs σ k).1 (zCl j) (zIx j) = σ.1 79 j := by
  intro k
  induction k with
  | zero => intro _ h; omega
  | succ k ih =>
    intro hk h
    show (gs_u (zRs σ k) (zCl k) (zIx k) (σ.1 79 k)).1 (zCl j) (zIx j) = _
    by_cases e : j = k
    · rw [e, pz_ua]
    · rw [pz_u]
      by_cases c : zCl j = zCl k
      · rw [if_pos c, pz_upd]
        rw [if_neg (fun q => e (zC_inj j k hj (by omega) c q)), ← c]
        exact ih (by omega) (by omega)
      · rw [if_neg c]; exact ih (by omega) (by omega)
theorem pz_xres (σ : gs_S) : gv_loop (fun q : Int32 × gs_S => pX11_restore_L12 q.1 q.2) gv_N ((0 : Int32), σ) = some (nI 416, zRs σ 416) := by
  refine gv_for (fun q : Int32 × gs_S => pX11_restore_L12 q.1 q.2) (fun k => (nI k, zRs σ k)) 416 gv_N (gv_N_lt (by decide)) (nI 416, zRs σ 416) ?_ ?_
  · intro k hk
    dsimp only
    unfold pX11_restore_L12
    rw [if_neg (show ¬ (416 : Int32) ≤ nI k from nI_ge (b := 416) hk (by decide)), pz_inN (show k < 420 by omega) (by decide), nI_clamp (show k < 2 ^ 31 by omega), zRs_o σ 79 (by omega) k (by omega), pz_car k hk (σ.1 79 k) 1 (σ.1 79 k) _ (fun q => absurd q (by decide)) (fun _ => rfl)]
    simp only [gv_bind2, gv_let, nI_1]
    rfl
  · dsimp only
    unfold pX11_restore_L12
    rw [if_pos (by decide)]
theorem cpB_ice (σ : gs_S) : (zCp σ 1 15).1 3 = va_cpy (σ.1 17) (σ.1 3) 0 0 320 := rfl
theorem cpB_n (σ : gs_S) : (zCp σ 1 15).1 4 3 = σ.1 18 3 := rfl
theorem cpB_lo (σ : gs_S) : (zCp σ 1 15).1 5 = va_cpy (σ.1 19) (σ.1 5) 0 0 6 := rfl
theorem cpB_pa (σ : gs_S) : (zCp σ 1 15).1 6 = va_cpy (σ.1 20) (σ.1 6) 0 0 6 := rfl
theorem cpB_st (σ : gs_S) : (zCp σ 1 15).1 7 = va_cpy (σ.1 21) (σ.1 7) 0 0 6 := rfl
theorem cpB_wn (σ : gs_S) : (zCp σ 1 15).1 8 1 = σ.1 22 1 := rfl
theorem cpB_w (σ : gs_S) : (zCp σ 1 15).1 9 = va_cpy (σ.1 23) (σ.1 9) 0 0 24 := rfl
theorem cpB_en (σ : gs_S) : (zCp σ 1 15).1 10 4 = σ.1 24 4 := rfl
theorem cpB_sl (σ : gs_S) : (zCp σ 1 15).1 11 = va_cpy (σ.1 25) (σ.1 11) 0 0 4 := rfl
theorem cpB_hr (σ : gs_S) : (zCp σ 1 15).1 12 = va_cpy (σ.1 26) (σ.1 12) 0 0 16 := rfl
theorem cpB_sq (σ : gs_S) : (zCp σ 1 15).1 13 = va_cpy (σ.1 27) (σ.1 13) 0 0 16 := rfl
theorem cpB_pi (σ : gs_S) : (zCp σ 1 15).1 14 = va_cpy (σ.1 28) (σ.1 14) 0 0 16 := rfl
theorem cpB_s0 (σ : gs_S) : (zCp σ 1 15).1 1 4 = σ.1 15 4 := rfl
theorem cpB_s1 (σ : gs_S) : (zCp σ 1 15).1 1 5 = σ.1 15 5 := rfl
theorem op_restore (σ : gs_S) (hI : inv σ)  : ∃ (r : Int32) (σ1 : gs_S) (σ2 : gs_S), pX10_restore  σ = some (r, σ1) ∧ pX11_restore  σ1 = some (r, σ2) ∧ inv σ2 := by
  unfold pX10_restore pX11_restore
  obtain ⟨k1, k2⟩ := id hI.2.2.2.2.2.2.2.1
  rcases k2 with z | ⟨z, iI, iT, iW, i0, i1, iE⟩
  · exact ⟨-4, σ, σ, by rw [if_pos z], by rw [if_pos (by rw [← k1]; exact z)], hI⟩
  have nz : ¬ σ.1 0 2 = 0 := by rw [z]; decide
  obtain ⟨τ, eτ⟩ : ∃ τ, τ = zCp σ 1 15 := ⟨_, rfl⟩
  have t1 : ∀ c, (c < 1 ∨ 14 < c) → τ.1 c = σ.1 c := fun c c2 => by rw [eτ, cp_o _ _ _ _ (by omega)]
  obtain ⟨υ, eυ⟩ : ∃ υ, υ = zRs τ 416 := ⟨_, rfl⟩
  have u1 : ∀ c, c < 64 ∨ 71 < c → υ.1 c = τ.1 c := fun c c1 => by rw [eυ, zRs_o _ _ c1 416 (by omega)]
  have ua : ∀ j, j < 416 → υ.1 (zCl j) (zIx j) = σ.1 79 j := fun j hj => by rw [eυ, zRs_at _ _ hj 416 (by omega) hj, t1 79 (by omega)]
  obtain ⟨φ, eφ⟩ : ∃ φ, φ = gs_u (gs_u (gs_u υ 63 4 (υ.1 80 0)) 63 6 (υ.1 80 1)) 63 10 (υ.1 80 2) := ⟨_, rfl⟩
  have f1 : ∀ c, ¬ c = 63 → φ.1 c = υ.1 c := fun c c1 => by rw [eφ, pz_u, if_neg c1, pz_u, if_neg c1, pz_u, if_neg c1]
  have f63 : ∀ i, ¬ i = 4 → ¬ i = 6 → ¬ i = 10 → φ.1 63 i = σ.1 63 i := fun i i1 i2 i3 => by
    rw [eφ, pz_u, if_pos rfl, pz_upd, if_neg i3, pz_u, if_pos rfl, pz_upd, if_neg i2, pz_u, if_pos rfl, pz_upd, if_neg i1, u1 63 (by omega), t1 63 (by omega)]
  have m1 : φ.1 63 4 = σ.1 80 0 := by rw [eφ]; show υ.1 80 0 = _; rw [u1 80 (by omega), t1 80 (by omega)]
  have m2 : φ.1 63 6 = σ.1 80 1 := by rw [eφ]; show υ.1 80 1 = _; rw [u1 80 (by omega), t1 80 (by omega)]
  have m3 : φ.1 63 10 = σ.1 80 2 := by rw [eφ]; show υ.1 80 2 = _; rw [u1 80 (by omega), t1 80 (by omega)]
  have G : ∀ c, (c < 1 ∨ 14 < c) → (c < 63 ∨ 71 < c) → φ.1 c = σ.1 c := fun c c1 c2 => by rw [f1 c (by omega), u1 c (by omega), t1 c c1]
  have gk : ∀ c, c < 15 → φ.1 c = (zCp σ 1 15).1 c := fun c c1 => by rw [f1 c (by omega), u1 c (by omega), eτ]
  have ra : ∀ j, j < 416 → φ.1 (zCl j) (zIx j) = σ.1 79 j := fun j hj => by
    have hz := zCl_in j hj
    rw [f1 _ (by omega), ua j hj]
  refine ⟨1, τ, φ, ?_, ?_, ?_⟩
  · rw [if_neg nz, pz_copyB, eτ]; rfl
  · rw [if_neg (by rw [t1 63 (by omega), ← k1]; exact nz), pz_xres, ← eυ]
    simp only [gv_bind, gv_let]
    rw [eφ]; rfl
  · refine inv_mk ?_ ?_ ?_ ⟨?_, ?_⟩ ?_ (fr_tape hI (by rw [G 29 (by omega) (by omega)]) (f63 _ (by omega) (by omega) (by omega)) (G _ (by omega) (by omega)) (G _ (by omega) (by omega))) (fr_kept hI (G _ (by omega) (by omega)) (f63 _ (by omega) (by omega) (by omega)) (fun c c1 c2 => G _ (by omega) (by omega)) (G _ (by omega) (by omega)) (G _ (by omega) (by omega))) (fr_shs hI (fun c c1 c2 => G _ (by omega) (by omega)) (G _ (by omega) (by omega)) (G _ (by omega) (by omega)) (by rw [eφ, pz_u2, pz_u2, pz_u2, eυ, zRs_2, eτ]; rfl))
    · obtain ⟨a1, a2, a3⟩ := iI
      rw [gk 3 (by omega), cpB_ice]
      refine ⟨fun k hk => ?_, fun k hk => ?_, fun k hk => ?_⟩
      · have h := ra k (by omega)
        rw [(zC_ice k hk).1, (zC_ice k hk).2] at h
        rw [va_cpy0 _ _ _ _ hk, h]; exact a1 k hk
      · rw [va_cpy0 _ _ _ _ (by omega)]; exact a2 k hk
      · rw [va_cpy0 _ _ _ _ (by omega)]; exact a3 k hk
    · obtain ⟨m, hm, e1, e2, it⟩ := iT
      rw [gk 4 (by omega), cpB_n, m1, gk 5 (by omega), cpB_lo, gk 6 (by omega), cpB_pa, gk 7 (by omega), cpB_st]
      refine ⟨m, hm, e1, e2, fun k hk => ?_⟩
      have h1 := ra (320 + k) (by omega)
      have h2 := ra (326 + k) (by omega)
      have h3 := ra (332 + k) (by omega)
      rw [(zC_lo k (by omega)).1, (zC_lo k (by omega)).2] at h1
      rw [(zC_pa k (by omega)).1, (zC_pa k (by omega)).2] at h2
      rw [(zC_st k (by omega)).1, (zC_st k (by omega)).2] at h3
      rw [va_cpy0 _ _ _ _ (by omega), va_cpy0 _ _ _ _ (by omega), va_cpy0 _ _ _ _ (by omega), h1, h2, h3]
      exact it k hk
    · obtain ⟨m, hm, e1, e2, it⟩ := iW
      rw [gk 8 (by omega), cpB_wn, m2, gk 9 (by omega), cpB_w]
      refine ⟨m, hm, e1, e2, fun k hk => ?_⟩
      have h1 := ra (338 + k) (by omega)
      rw [(zC_w k (by omega)).1, (zC_w k (by omega)).2] at h1
      rw [va_cpy0 _ _ _ _ (by omega), h1]
      exact it k hk
    · have h1 := ra 362 (by omega)
      rw [(zC_se 0 (by omega)).1, (zC_se 0 (by omega)).2] at h1
      rw [gk 1 (by omega), cpB_s0, h1]; exact i0
    · have h1 := ra 363 (by omega)
      rw [(zC_se 1 (by omega)).1, (zC_se 1 (by omega)).2] at h1
      rw [gk 1 (by omega), cpB_s1, h1]; exact i1
    · obtain ⟨sl, h, hh, h1, h2, ih⟩ := iE
      rw [gk 10 (by omega), cpB_en, m3, gk 11 (by omega), cpB_sl, gk 12 (by omega), cpB_hr, gk 13 (by omega), cpB_sq, gk 14 (by omega), cpB_pi]
      refine ⟨fun k hk => ?_, h, hh, h1, h2, fun k hk => ?_⟩
      · have g1 := ra (364 + k) (by omega)
        rw [(zC_sl k hk).1, (zC_sl k hk).2] at g1
        rw [va_cpy0 _ _ _ _ hk, g1]; exact sl k hk
      · have g1 := ra (368 + 3 * k) (by omega)
        have g2 := ra (368 + (3 * k + 1)) (by omega)
        have g3 := ra (368 + (3 * k + 2)) (by omega)
        rw [(zC_h (3 * k) (by omega)).1, (zC_h (3 * k) (by omega)).2] at g1
        rw [(zC_h (3 * k + 1) (by omega)).1, (zC_h (3 * k + 1) (by omega)).2] at g2
        rw [(zC_h (3 * k + 2) (by omega)).1, (zC_h (3 * k + 2) (by omega)).2] at g3
        rw [va_cpy0 _ _ _ _ (by omega), va_cpy0 _ _ _ _ (by omega), va_cpy0 _ _ _ _ (by omega), g1, g2, g3]
        exact ih k hk
