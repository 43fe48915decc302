/-! PURE, 49a: film -/
theorem zPut_0 (σ : gs_S) (s j : Nat) (v : Int64) : ∃ x, zPut σ s j 0 v = gs_u σ (48 + 4 * s) j x := by
  unfold zPut
  rw [if_pos rfl]
  by_cases h : lg_cmp v 0 = 0
  · rw [if_pos h]; exact ⟨_, rfl⟩
  · rw [if_neg h]; exact ⟨_, rfl⟩
def zFi (σ : gs_S) (s j r : Nat) : Nat → gs_S
  | 0 => σ
  | k + 1 => zPut (zFi σ s j r k) s (j + k) 0 (σ.1 3 (8 * r + k)).toInt64
theorem zFi_1 (σ : gs_S) (s j r c : Nat) (h : ¬ c = 48 + 4 * s) : ∀ k, (zFi σ s j r k).1 c = σ.1 c := by
  intro k
  induction k with
  | zero => rfl
  | succ k ih =>
    unfold zFi
    obtain ⟨x, hx⟩ := zPut_0 (zFi σ s j r k) s (j + k) (σ.1 3 (8 * r + k)).toInt64
    rw [hx, pz_u, if_neg h]; exact ih
theorem zFi_2 (σ : gs_S) (s j r : Nat) : ∀ k, (zFi σ s j r k).2 = σ.2 := by
  intro k
  induction k with
  | zero => rfl
  | succ k ih =>
    unfold zFi
    obtain ⟨x, hx⟩ := zPut_0 (zFi σ s j r k) s (j + k) (σ.1 3 (8 * r + k)).toInt64
    rw [hx, pz_u2]; exact ih
def zFc (f : Nat → Int32) (r k : Nat) : Int32 := zSum (fun k => if f (8 * r + k) ≤ 0 then 0 else 1) k
def zFx (σ : gs_S) (s j r : Nat) : Nat → gs_S
  | 0 => σ
  | k + 1 => gs_ul (zFx σ s j r k) 83 (24 * s + j + k) (if σ.1 64 (8 * r + k) ≤ 0 then (0 : Int32) else 1).toInt64
theorem zFx_1 (σ : gs_S) (s j r : Nat) : ∀ k, (zFx σ s j r k).1 = σ.1 := by
  intro k
  induction k with
  | zero => rfl
  | succ k ih => unfold zFx; rw [pz_ul1]; exact ih
theorem zFx_2 (σ : gs_S) (s j r c : Nat) (h : ¬ c = 83) : ∀ k, (zFx σ s j r k).2 c = σ.2 c := by
  intro k
  induction k with
  | zero => rfl
  | succ k ih => unfold zFx; rw [pz_ul, if_neg h]; exact ih
theorem zFx_83 (σ : gs_S) (s j r i : Nat) : ∀ k, (i < 24 * s + j ∨ 24 * s + j + k ≤ i) → (zFx σ s j r k).2 83 i = σ.2 83 i := by
  intro k
  induction k with
  | zero => intro _; rfl
  | succ k ih => intro h; unfold zFx; rw [pz_ul, if_pos rfl, pz_updL, if_neg (by omega)]; exact ih (by omega)
theorem op_film (σ : gs_S) (hI : inv σ) (a1 : Int32) (a2 : Int32) (a3 : Int32) : ∃ (r : Int32) (σ1 : gs_S) (σ2 : gs_S), pX10_film a1 a2 a3 σ = some (r, σ1) ∧ pX11_film a1 a2 a3 σ1 = some (r, σ2) ∧ inv σ2 := by
  unfold pX10_film pX11_film pX10_isSheet
  by_cases h1 : iv_in a1 0 7
  rotate_left
  · exact ⟨-1, σ, σ, pz_if_f (pz_w10 a1 0 7) h1 _ _, pz_if_f (pz_x11 a1 0 7) h1 _ _, hI⟩
  rw [pz_if_t (pz_w10 a1 0 7) h1]
  by_cases h2 : iv_in a2 0 3
  rotate_left
  · exact ⟨-1, σ, σ, pz_if_f (pz_w10 a2 0 3) h2 _ _, by rw [pz_if_t (pz_x11 a1 0 7) h1, pz_if_f (pz_x11 a2 0 3) h2], hI⟩
  rw [pz_if_t (pz_w10 a2 0 3) h2]
  obtain ⟨s, hs, rfl⟩ := pz_nat 3 h2 (by decide)
  obtain ⟨r, hr, rfl⟩ := pz_nat 7 h1 (by decide)
  have hs : s < 4 := by omega
  have g := inv_sh hI s hs
  obtain ⟨e1, e2, m, hm, e3, e4, e5, e6⟩ := id g
  simp only [pz_inN hs (by decide), nI_clamp (show s < 2 ^ 31 by omega), Nat.reduceAdd, gv_let, pz_ref]
  have h0 : iv_in (0 : Int32) 0 2 := ⟨by decide, by decide⟩
  by_cases hz : zR (σ.1 (47 + 4 * s) 3) (σ.1 (47 + 4 * s) 4) 0 a3 8 = 0
  rotate_left
  · refine ⟨_, σ, σ, if_neg hz, ?_, hI⟩
    rw [pz_if_t (pz_x11 (nI r) 0 7) h1, pz_if_t (pz_x11 (nI s) 0 3) h2, pz_lacks hs σ 0 a3 8 h0 g]
    simp only [gv_bind]
    rw [if_neg (by rcases zR_neg (σ.1 (47 + 4 * s) 3) (σ.1 (47 + 4 * s) 4) 0 a3 8 with q | q; exact absurd q hz; exact q)]
  · have hz' := hz
    rw [e3] at hz'
    obtain ⟨q1, q2, q3⟩ := zR_ok hz'
    obtain ⟨j, rfl, hj⟩ := pz_cnt (n := 8) hm (by decide) q2 q3
    rw [if_pos hz]
    obtain ⟨⟨i1, i2, i3⟩, -⟩ := id hI
    have hl := gv_for (fun q : Int32 × Int32 × gs_S => pX10_film_L49 (nI r) (nI s) (nI j) q.1 q.2.1 q.2.2) (fun k => (zFc (σ.1 3) r k, nI k, zFi σ s j r k)) 8 gv_N (gv_N_lt (by decide)) (zFc (σ.1 3) r 8, nI 8, zFi σ s j r 8) ?_ ?_
    rotate_left
    · intro k hk
      dsimp only
      unfold pX10_film_L49
      rw [if_neg (show ¬ (8 : Int32) ≤ nI k from nI_ge (b := 8) hk (by decide)), show nI r * (8 : Int32) = nI (8 * r) by rw [show (8 : Int32) = nI 8 from rfl, nI_mul, Nat.mul_comm], nI_add, pz_t0 (by omega), zFi_1 _ _ _ _ _ (by omega)]
      simp only [gv_bind]
      rw [pz_inN hs (by decide), nI_add, nI_clamp (by omega), show 46 + 1 + 4 * s = 47 + 4 * s by omega, pz_sput (by omega), zFi_1 _ _ _ _ _ (by omega), q1]
      simp only [gv_let, nI_1]
      unfold zFc
      by_cases c : σ.1 3 (8 * r + k) ≤ 0
      · rw [if_pos c]
        conv => rhs; unfold zSum
        rw [if_pos c]; rfl
      · rw [if_neg c]
        conv => rhs; unfold zSum
        rw [if_neg c]; rfl
    · dsimp only
      unfold pX10_film_L49
      rw [if_pos (by decide)]
    have hl2 : gv_loop (fun q : Int32 × Int32 × gs_S => pX10_film_L49 (nI r) (nI s) (nI j) q.1 q.2.1 q.2.2) gv_N ((0 : Int32), (0 : Int32), σ) = some (zFc (σ.1 3) r 8, nI 8, zFi σ s j r 8) := hl
    rw [hl2]
    obtain ⟨τ, eτ⟩ : ∃ τ, τ = zFi σ s j r 8 := ⟨_, rfl⟩
    rw [← eτ]
    have f1 : ∀ c, ¬ c = 48 + 4 * s → τ.1 c = σ.1 c := fun c hc => by rw [eτ, zFi_1 _ _ _ _ _ hc]
    have f2 : τ.2 = σ.2 := by rw [eτ, zFi_2]
    have hr2 := gv_for (fun q : Int32 × Int32 × gs_S => pX11_film_L51 (nI r) (nI s) (nI j) q.1 q.2.1 q.2.2) (fun k => (zFc (τ.1 64) r k, nI k, zFx τ s j r k)) 8 gv_N (gv_N_lt (by decide)) (zFc (τ.1 64) r 8, nI 8, zFx τ s j r 8) ?_ ?_
    rotate_left
    · intro k hk
      dsimp only
      unfold pX11_film_L51
      have ei : ((24 : Int32) * nI s + nI j) + nI k = nI (24 * s + j + k) := by rw [show (24 : Int32) * nI s = nI (24 * s) from nI_mul 24 s, nI_add, nI_add]
      rw [if_neg (show ¬ (8 : Int32) ≤ nI k from nI_ge (b := 8) hk (by decide)), show (8 : Int32) * nI r = nI (8 * r) from nI_mul 8 r, nI_add, pz_inN (by omega) (by decide), nI_clamp (by omega), zFx_1]
      have jj : ∀ x : Int32, pX11_film_J78 (nI s) (nI j) (nI k) (zFx τ s j r k) (zFc (τ.1 64) r k) x = some (.inl (zFc (τ.1 64) r k + x, nI (k + 1), gs_ul (zFx τ s j r k) 83 (24 * s + j + k) x.toInt64)) := by
        intro x
        unfold pX11_film_J78
        rw [ei, pz_inN (by omega) (by decide), nI_clamp (by omega)]
        simp only [gv_let, nI_1]
      rw [jj, jj]
      by_cases c : τ.1 64 (8 * r + k) ≤ 0
      · rw [if_pos c]
        conv => rhs; unfold zFc zSum zFx
        rw [if_pos c]; rfl
      · rw [if_neg c]
        conv => rhs; unfold zFc zSum zFx
        rw [if_neg c]; rfl
    · dsimp only
      unfold pX11_film_L51
      rw [if_pos (by decide)]
    have hr3 : gv_loop (fun q : Int32 × Int32 × gs_S => pX11_film_L51 (nI r) (nI s) (nI j) q.1 q.2.1 q.2.2) gv_N ((0 : Int32), (0 : Int32), τ) = some (zFc (τ.1 64) r 8, nI 8, zFx τ s j r 8) := hr2
    refine ⟨zFc (σ.1 3) r 8, τ, zFx τ s j r 8, by simp only [gv_bind], ?_, ?_⟩
    · have hl : pX11_lacksRow (nI s) 0 (nI j) 8 τ = some 0 := by
        have := pz_lacks hs σ 0 (nI j) 8 h0 g
        rw [hz] at this
        unfold pX11_lacksRow at this ⊢
        rw [f1 81 (by omega), f1 82 (by omega)]; exact this
      rw [pz_if_t (pz_x11 (nI r) 0 7) h1, pz_if_t (pz_x11 (nI s) 0 3) h2, hl]
      simp only [gv_bind]
      rw [if_pos (by decide), hr3]
      simp only
      rw [f1 64 (by omega)]
      have ez : zFc (σ.1 64) r 8 = zFc (σ.1 3) r 8 := zSum_eq 8 (fun k hk => by rw [i1 (8 * r + k) (by omega)])
      rw [ez]
    · refine inv_shB hI (fun c hc => ?_) (fun s2 hs2 => ?_)
      · rw [zFx_1]; exact f1 c (by omega)
      · have g2 := inv_sh hI s2 hs2
        unfold iv_sh at g2 ⊢
        rw [zFx_1, f1 _ (by omega), f1 81 (by omega), f1 82 (by omega), f1 _ (by omega), zFx_2 _ _ _ _ _ (by omega), f2]
        obtain ⟨a1, a2, m2, hm2, a3, a4, a5, a6⟩ := g2
        by_cases es : s2 = s
        · subst es
          refine ⟨a1, a2, m2, hm2, a3, a4, fun q => ?_, fun q => ?_⟩
          · rw [q1] at q; exact absurd q (by decide)
          · rw [q1] at q; exact absurd q (by decide)
        · refine ⟨a1, a2, m2, hm2, a3, a4, fun q k hk => ?_, fun q k hk => ?_⟩
          · dsimp only
            rw [zFx_83 _ _ _ _ _ _ (by omega), f2]; exact a5 q k hk
          · dsimp only
            rw [zFx_83 _ _ _ _ _ _ (by omega), f2]; exact a6 q k hk
