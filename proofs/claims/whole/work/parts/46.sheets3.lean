/-! PURE, 46: sheet, film -/
def zRen (σ : gs_S) (s : Nat) (ln : Int32) : Nat → gs_S
  | 0 => σ
  | k + 1 => zPut (zRen σ s ln k) s k ln 0
theorem zRen_1 (σ : gs_S) (s : Nat) (ln : Int32) (c : Nat) (h1 : ¬ c = 48 + 4 * s) (h2 : ¬ c = 49 + 4 * s) : ∀ k, (zRen σ s ln k).1 c = σ.1 c := by
  intro k
  induction k with
  | zero => rfl
  | succ k ih => unfold zRen; rw [zPut_1 _ _ _ _ _ _ h1 h2]; exact ih
theorem zRen_2 (σ : gs_S) (s : Nat) (ln : Int32) (c : Nat) (h1 : ¬ c = 50 + 4 * s) : ∀ k, (zRen σ s ln k).2 c = σ.2 c := by
  intro k
  induction k with
  | zero => rfl
  | succ k ih => unfold zRen; rw [zPut_2 _ _ _ _ _ _ h1]; exact ih
theorem zRen_b (σ : gs_S) (s : Nat) (ln : Int32) (q : ln = 1) : ∀ k j, j < k → (zRen σ s ln k).1 (49 + 4 * s) j = 0 := by
  intro k
  induction k with
  | zero => intro j hj; omega
  | succ k ih =>
    intro j hj
    unfold zRen
    rw [zPut_b q, pz_u, if_pos rfl, pz_upd]
    by_cases e : j = k
    · rw [if_pos e]; decide
    · rw [if_neg e]; exact ih j (by omega)
theorem zRen_l (σ : gs_S) (s : Nat) (ln : Int32) (q : ln = 2) : ∀ k j, j < k → (zRen σ s ln k).2 (50 + 4 * s) j = 0 := by
  intro k
  induction k with
  | zero => intro j hj; omega
  | succ k ih =>
    intro j hj
    unfold zRen
    rw [zPut_l q, pz_ul, if_pos rfl, pz_updL]
    by_cases e : j = k
    · rw [if_pos e]
    · rw [if_neg e]; exact ih j (by omega)
theorem pz_renew {s n : Nat} (hn : n ≤ 24) (ln : Int32) (σ : gs_S) : pX5_renew (47 + 4 * s) ln (nI n) σ = some (zRen (gs_u (gs_u σ (47 + 4 * s) 3 ln) (47 + 4 * s) 4 (nI n)) s ln n) := by
  unfold pX5_renew
  simp only [gv_let]
  obtain ⟨τ, eτ⟩ : ∃ τ, τ = gs_u (gs_u σ (47 + 4 * s) 3 ln) (47 + 4 * s) 4 (nI n) := ⟨_, rfl⟩
  have t3 : τ.1 (47 + 4 * s) 3 = ln := by rw [eτ, pz_u, if_pos rfl, pz_upd, if_neg (by decide), pz_u, if_pos rfl, pz_upd, if_pos rfl]
  rw [← eτ]
  have h := gv_for (fun q : Int32 × gs_S => pX5_renew_L12 (nI n) (47 + 4 * s) q.1 q.2) (fun k => (nI k, zRen τ s ln k)) n gv_N (gv_N_lt (by omega)) (nI n, zRen τ s ln n) ?_ ?_
  · have h2 : gv_loop (fun q : Int32 × gs_S => pX5_renew_L12 (nI n) (47 + 4 * s) q.1 q.2) gv_N ((0 : Int32), τ) = some (nI n, zRen τ s ln n) := h
    rw [h2]
    simp only [gv_bind]
  · intro k hk
    show pX5_renew_L12 (nI n) (47 + 4 * s) (nI k) (zRen τ s ln k) = some (.inl (nI (k + 1), zRen τ s ln (k + 1)))
    unfold pX5_renew_L12
    rw [if_neg (nI_ge hk (by omega)), pz_sput (by omega)]
    simp only [gv_bind, gv_let, nI_1]
    rw [zRen_1 _ _ _ _ (by omega) (by omega), t3]
    rfl
  · show pX5_renew_L12 (nI n) (47 + 4 * s) (nI n) (zRen τ s ln n) = _
    unfold pX5_renew_L12
    rw [if_pos (nI_le (Nat.le_refl n) (by omega))]
def zIt (σ : gs_S) (s : Nat) : Nat → gs_S
  | 0 => σ
  | k + 1 => gs_ul (zIt σ s k) 83 (24 * s + k) 0
theorem zIt_1 (σ : gs_S) (s : Nat) : ∀ k, (zIt σ s k).1 = σ.1 := by
  intro k
  induction k with
  | zero => rfl
  | succ k ih => unfold zIt; rw [pz_ul1]; exact ih
theorem zIt_2 (σ : gs_S) (s : Nat) (c : Nat) (h : ¬ c = 83) : ∀ k, (zIt σ s k).2 c = σ.2 c := by
  intro k
  induction k with
  | zero => rfl
  | succ k ih => unfold zIt; rw [pz_ul, if_neg h]; exact ih
theorem zIt_83 (σ : gs_S) (s : Nat) : ∀ k j, (zIt σ s k).2 83 j = if 24 * s ≤ j ∧ j < 24 * s + k then 0 else σ.2 83 j := by
  intro k
  induction k with
  | zero => intro j; rw [if_neg (by omega)]; rfl
  | succ k ih =>
    intro j
    unfold zIt
    rw [pz_ul, if_pos rfl, pz_updL]
    by_cases e : j = 24 * s + k
    · rw [if_pos e, if_pos (by omega)]
    · rw [if_neg e, ih j]
      by_cases e2 : 24 * s ≤ j ∧ j < 24 * s + k
      · rw [if_pos e2, if_pos (by omega)]
      · rw [if_neg e2, if_neg (by omega)]
theorem pz_isheet {s : Nat} (hs : s < 4) (σ : gs_S) : gv_loop (fun q : Int32 × gs_S => pX11_sheet_L40 (nI s) q.1 q.2) gv_N ((0 : Int32), σ) = some (nI 24, zIt σ s 24) := by
  refine gv_for (fun q : Int32 × gs_S => pX11_sheet_L40 (nI s) q.1 q.2) (fun k => (nI k, zIt σ s k)) 24 gv_N (gv_N_lt (by decide)) (nI 24, zIt σ s 24) ?_ ?_
  · intro k hk
    show pX11_sheet_L40 (nI s) (nI k) (zIt σ s k) = some (.inl (nI (k + 1), zIt σ s (k + 1)))
    unfold pX11_sheet_L40
    rw [if_neg (show ¬ (24 : Int32) ≤ nI k from nI_ge (b := 24) hk (by decide)), show (24 : Int32) * nI s + nI k = nI (24 * s + k) by rw [show (24 : Int32) * nI s = nI (24 * s) from nI_mul 24 s, nI_add], pz_inN (by omega) (by decide), nI_clamp (by omega)]
    simp only [gv_let, nI_1]
    rfl
  · show pX11_sheet_L40 (nI s) (nI 24) (zIt σ s 24) = _
    unfold pX11_sheet_L40
    rw [if_pos (by decide)]
theorem op_sheet (σ : gs_S) (hI : inv σ) (a1 : Int32) (a2 : Int32) (a3 : Int32) : ∃ (r : Int32) (σ1 : gs_S) (σ2 : gs_S), pX10_sheet a1 a2 a3 σ = some (r, σ1) ∧ pX11_sheet a1 a2 a3 σ1 = some (r, σ2) ∧ inv σ2 := by
  unfold pX10_sheet pX11_sheet pX10_isSheet
  by_cases h1 : iv_in a1 0 3
  rotate_left
  · exact ⟨-1, σ, σ, pz_if_f (pz_w10 a1 0 3) h1 _ _, pz_if_f (pz_isS a1 a2) (fun q => h1 q.1) _ _, hI⟩
  rw [pz_if_t (pz_w10 a1 0 3) h1]
  by_cases h2 : iv_in a2 0 2
  rotate_left
  · exact ⟨-1, σ, σ, pz_if_f (pz_w10 a2 0 2) h2 _ _, pz_if_f (pz_isS a1 a2) (fun q => h2 q.2) _ _, hI⟩
  rw [pz_if_t (pz_w10 a2 0 2) h2]
  by_cases h3 : a3 ≤ 24
  rotate_left
  · exact ⟨-1, σ, σ, if_neg h3, by rw [pz_if_t (pz_isS a1 a2) ⟨h1, h2⟩, if_neg h3], hI⟩
  rw [if_pos h3]
  by_cases h4 : 0 ≤ a3
  rotate_left
  · exact ⟨-14, σ, σ, if_neg h4, by rw [pz_if_t (pz_isS a1 a2) ⟨h1, h2⟩, if_pos h3, if_neg h4], hI⟩
  rw [if_pos h4]
  obtain ⟨s, hs, rfl⟩ := pz_nat 3 h1 (by decide)
  have hs : s < 4 := by omega
  obtain ⟨n, hn, rfl⟩ := pz_nat (x := a3) 24 ⟨by rw [Int32.le_iff_toInt_le] at h4; exact h4, by rw [Int32.le_iff_toInt_le] at h3; exact h3⟩ (by decide)
  rw [pz_inN hs (by decide), nI_clamp (by omega), show 46 + 1 + 4 * s = 47 + 4 * s by omega, pz_renew hn]
  obtain ⟨τ, eτ⟩ : ∃ τ, τ = zRen (gs_u (gs_u σ (47 + 4 * s) 3 a2) (47 + 4 * s) 4 (nI n)) s a2 n := ⟨_, rfl⟩
  rw [← eτ]
  have f1 : ∀ c, ¬ c = 47 + 4 * s → ¬ c = 48 + 4 * s → ¬ c = 49 + 4 * s → τ.1 c = σ.1 c := fun c c1 c2 c3 => by rw [eτ, zRen_1 _ _ _ _ c2 c3, pz_u, if_neg c1, pz_u, if_neg c1]
  have f2 : ∀ c, ¬ c = 50 + 4 * s → τ.2 c = σ.2 c := fun c c1 => by rw [eτ, zRen_2 _ _ _ _ c1]; rfl
  have f3 : τ.1 (47 + 4 * s) 3 = a2 := by rw [eτ, zRen_1 _ _ _ _ (by omega) (by omega), pz_u, if_pos rfl, pz_upd, if_neg (by decide), pz_u, if_pos rfl, pz_upd, if_pos rfl]
  have f4 : τ.1 (47 + 4 * s) 4 = nI n := by rw [eτ, zRen_1 _ _ _ _ (by omega) (by omega), pz_u, if_pos rfl, pz_upd, if_pos rfl]
  refine ⟨nI n, τ, zIt (gs_u (gs_u τ 81 s a2) 82 s (nI n)) s 24, rfl, ?_, ?_⟩
  · rw [pz_if_t (pz_isS (nI s) a2) ⟨h1, h2⟩, if_pos h3, if_pos h4]
    simp only [pz_inN hs (by decide), nI_clamp (show s < 2 ^ 31 by omega), gv_let]
    rw [pz_isheet hs]
    simp only [gv_bind]
  · refine inv_shB hI (fun c hc => ?_) (fun s2 hs2 => ?_)
    · rw [zIt_1, pz_u, if_neg (by omega), pz_u, if_neg (by omega), f1 c (by omega) (by omega) (by omega)]
    · have g := inv_sh hI s2 hs2
      unfold iv_sh at g ⊢
      rw [zIt_1, zIt_2 _ _ _ (by omega), pz_u2, pz_u2]
      simp only [pz_u]
      simp only [show ¬ 47 + 4 * s2 = 82 by omega, show ¬ 47 + 4 * s2 = 81 by omega, show ¬ 49 + 4 * s2 = 82 by omega, show ¬ 49 + 4 * s2 = 81 by omega, Nat.reduceEqDiff, if_true, if_false, reduceIte]
      by_cases es : s2 = s
      · subst es
        refine ⟨?_, ?_, n, hn, f4, ?_, fun q k hk => ?_, fun q k hk => ?_⟩
        · rw [f3, pz_upd, if_pos rfl]
        · rw [f3]
          obtain ⟨z, hz, rfl⟩ := pz_nat 2 h2 (by decide)
          rcases (show z = 0 ∨ z = 1 ∨ z = 2 by omega) with rfl | rfl | rfl
          · exact Or.inr (Or.inl rfl)
          · exact Or.inr (Or.inr (Or.inl rfl))
          · exact Or.inr (Or.inr (Or.inr rfl))
        · rw [pz_upd, if_pos rfl]
        · dsimp only
          rw [zIt_83, if_pos (by omega), eτ, zRen_b _ _ _ (by rw [← f3]; exact q) n k hk]; rfl
        · dsimp only
          rw [zIt_83, if_pos (by omega), eτ, zRen_l _ _ _ (by rw [← f3]; exact q) n k hk]
      · obtain ⟨e1, e2, m, hm, e3, e4, e5, e6⟩ := g
        rw [f1 _ (by omega) (by omega) (by omega), f1 _ (by omega) (by omega) (by omega), f1 _ (by omega) (by omega) (by omega), f1 _ (by omega) (by omega) (by omega), f2 _ (by omega)]
        refine ⟨?_, e2, m, hm, e3, ?_, fun q k hk => ?_, fun q k hk => ?_⟩
        · rw [pz_upd, if_neg es]; exact e1
        · rw [pz_upd, if_neg es]; exact e4
        · dsimp only
          rw [zIt_83, if_neg (by omega), pz_u2, pz_u2, f2 _ (by omega)]; exact e5 q k hk
        · dsimp only
          rw [zIt_83, if_neg (by omega), pz_u2, pz_u2, f2 _ (by omega)]; exact e6 q k hk
