/-! PURE, 49z: sleighs -/
def zTc (s : gs_S) : gs_S := gs_u (gs_w (gs_w (gs_w s 5 (va_cpy (s.1 35) (s.1 5) 0 0 6)) 6 (va_cpy (s.1 36) (s.1 6) 0 0 6)) 7 (va_cpy (s.1 37) (s.1 7) 0 0 6)) 4 3 (s.1 34 3)
theorem pz_tcopy (s : gs_S) : pX8_copy 4 34 s = some (zTc s) := by
  unfold pX8_copy
  simp only [gv_cp, gv_let, show (0 : Int32).toNatClampNeg = 0 from rfl, show (6 : Int32).toNatClampNeg = 6 from rfl]
  simp only [show ∀ (β : Type) (k : Option β), (if ¬ (0 : Int32) < 0 ∧ ¬ (0 : Int32) < 0 ∧ ¬ (6 : Int32) < 0 ∧ 0 + 6 ≤ 6 ∧ 0 + 6 ≤ 6 then k else none) = k from fun β k => if_pos (by decide)]
  rfl
theorem zTc_o (s : gs_S) (x : Nat) (h : x < 4 ∨ 7 < x) : (zTc s).1 x = s.1 x := by
  unfold zTc
  rw [pz_u, if_neg (by omega), pz_w, if_neg (by omega), pz_w, if_neg (by omega), pz_w, if_neg (by omega)]
theorem zTc_5 (s : gs_S) : (zTc s).1 5 = va_cpy (s.1 35) (s.1 5) 0 0 6 := rfl
theorem zTc_6 (s : gs_S) : (zTc s).1 6 = va_cpy (s.1 36) (s.1 6) 0 0 6 := rfl
theorem zTc_7 (s : gs_S) : (zTc s).1 7 = va_cpy (s.1 37) (s.1 7) 0 0 6 := rfl
theorem zTc_4 (s : gs_S) : (zTc s).1 4 3 = s.1 34 3 := rfl
theorem zTc_2 (s : gs_S) : (zTc s).2 = s.2 := rfl
theorem pz_xtake {β : gs_S} {c : Nat} (hc : c ≤ 6) {L P S : Nat → Nat} (h4 : β.1 63 4 = nI c) (h73 : ∀ j, j < c → β.1 73 (3 * j) = nI (L j) ∧ β.1 73 (3 * j + 1) = nI (P j) ∧ β.1 73 (3 * j + 2) = nI (S j)) : ∃ v υ, gv_loop (fun q : Int32 × gs_S => pX11_sleighs_L41 q.1 q.2) gv_N ((0 : Int32), β) = some (v, υ) ∧ (∀ x, (x < 65 ∨ 67 < x) → υ.1 x = β.1 x) ∧ υ.2 = β.2 ∧ ∀ j, j < c → υ.1 65 j = nI (L j) ∧ υ.1 66 j = nI (P j) ∧ υ.1 67 j = nI (S j) := by
  have Lp := gv_rel (fun q : Int32 × gs_S => pX11_sleighs_L41 q.1 q.2) (fun k q => q.1 = nI k ∧ (∀ x, (x < 65 ∨ 67 < x) → q.2.1 x = β.1 x) ∧ q.2.2 = β.2 ∧ ∀ j, j < k → q.2.1 65 j = nI (L j) ∧ q.2.1 66 j = nI (P j) ∧ q.2.1 67 j = nI (S j)) c gv_N (gv_N_lt (by omega)) (fun q => (∀ x, (x < 65 ∨ 67 < x) → q.2.1 x = β.1 x) ∧ q.2.2 = β.2 ∧ ∀ j, j < c → q.2.1 65 j = nI (L j) ∧ q.2.1 66 j = nI (P j) ∧ q.2.1 67 j = nI (S j)) ?_ ?_ ((0 : Int32), β) ⟨rfl, fun _ _ => rfl, rfl, fun j hj => absurd hj (by omega)⟩
  · obtain ⟨⟨v, υ⟩, l1, l2, l3, l4⟩ := Lp
    exact ⟨v, υ, l1, l2, l3, l4⟩
  · rintro k ⟨v, ρ⟩ hk ⟨r1, r2, r3, r4⟩
    dsimp only at r1 r2 r3 r4 ⊢
    subst r1
    obtain ⟨a1, a2, a3⟩ := h73 k hk
    unfold pX11_sleighs_L41
    have e0 : (3 : Int32) * nI k = nI (3 * k) := nI_mul 3 k
    have e2 : nI (3 * k) + (2 : Int32) = nI (3 * k + 2) := nI_add (3 * k) 2
    have f1 : (gs_u ρ 65 k (nI (L k))).1 73 (3 * k + 1) = nI (P k) := by rw [pz_u, if_neg (by decide), r2 73 (by omega)]; exact a2
    have f2 : (gs_u (gs_u ρ 65 k (nI (L k))) 66 k (nI (P k))).1 73 (3 * k + 2) = nI (S k) := by rw [pz_u, if_neg (by decide), pz_u, if_neg (by decide), r2 73 (by omega)]; exact a3
    rw [r2 63 (by omega), h4, if_neg (nI_ge hk (by omega)), e0, pz_inN (by omega) (by decide), pz_inN (by omega) (by decide), nI_clamp (show k < 2 ^ 31 by omega), nI_clamp (show 3 * k < 2 ^ 31 by omega), r2 73 (by omega), a1, gv_let_p, show nI (3 * k) + 1 = nI (3 * k + 1) from nI_1 _, pz_inN (show 3 * k + 1 < 64 by omega) (by decide), pz_inN (show k < 6 by omega) (by decide), nI_clamp (show 3 * k + 1 < 2 ^ 31 by omega), f1, gv_let_p, e2, pz_inN (show 3 * k + 2 < 64 by omega) (by decide), pz_inN (show k < 6 by omega) (by decide), nI_clamp (show 3 * k + 2 < 2 ^ 31 by omega), f2, gv_let_p, gv_let_p, nI_1]
    refine ⟨_, rfl, rfl, fun x hx => ?_, r3, fun j hj => ?_⟩
    · dsimp only
      rw [pz_u, if_neg (by omega), pz_u, if_neg (by omega), pz_u, if_neg (by omega)]; exact r2 x hx
    · dsimp only
      show upd (ρ.1 65) k (nI (L k)) j = nI (L j) ∧ upd (ρ.1 66) k (nI (P k)) j = nI (P j) ∧ upd (ρ.1 67) k (nI (S k)) j = nI (S j)
      rw [pz_upd, pz_upd, pz_upd]
      by_cases e : j = k
      · rw [if_pos e, if_pos e, if_pos e, e]; exact ⟨rfl, rfl, rfl⟩
      · rw [if_neg e, if_neg e, if_neg e]; exact r4 j (by omega)
  · rintro ⟨v, ρ⟩ ⟨r1, r2, r3, r4⟩
    dsimp only at r1 r2 r3 r4 ⊢
    subst r1
    unfold pX11_sleighs_L41
    rw [r2 63 (by omega), h4, if_pos (nI_le (Nat.le_refl _) (by omega))]
    exact ⟨_, rfl, r2, r3, r4⟩
theorem inv_sl {σ υ : gs_S} (hI : inv σ) (G : ∀ x, (x < 4 ∨ 7 < x) → ¬ x = 29 → (x < 34 ∨ 37 < x) → ¬ x = 63 → (x < 65 ∨ 67 < x) → ¬ x = 73 → υ.1 x = σ.1 x) (G6 : ∀ i, ¬ i = 4 → ¬ i = 12 → ¬ i = 13 → ¬ i = 14 → υ.1 63 i = σ.1 63 i) (h2 : υ.2 = σ.2) (tr : iv_tr (υ.1 4 3) (υ.1 63 4) (υ.1 5) (υ.1 6) (υ.1 7) (υ.1 65) (υ.1 66) (υ.1 67)) (z1 : υ.1 29 1 = 0) (z2 : υ.1 63 12 = 0) : inv υ := by
  have g : ∀ x, ((x < 4 ∨ 7 < x) ∧ ¬ x = 29 ∧ (x < 34 ∨ 37 < x) ∧ ¬ x = 63 ∧ (x < 65 ∨ 67 < x) ∧ ¬ x = 73) → υ.1 x = σ.1 x := fun x h => G x h.1 h.2.1 h.2.2.1 h.2.2.2.1 h.2.2.2.2.1 h.2.2.2.2.2
  exact inv_mk (fr_ice hI (g _ (by omega)) (g _ (by omega))) tr (fr_way hI (g _ (by omega)) (G6 _ (by omega) (by omega) (by omega) (by omega)) (g _ (by omega)) (g _ (by omega))) (fr_set hI (g _ (by omega)) (g _ (by omega))) (fr_ears hI (g _ (by omega)) (G6 _ (by omega) (by omega) (by omega) (by omega)) (g _ (by omega)) (g _ (by omega)) (g _ (by omega)) (g _ (by omega)) (g _ (by omega)) (g _ (by omega))) ⟨0, by omega, by rw [z1]; rfl, by rw [z2]; rfl, fun k hk => absurd hk (by omega)⟩ (fr_kept hI (g _ (by omega)) (G6 _ (by omega) (by omega) (by omega) (by omega)) (fun c c1 c2 => g _ (by omega)) (g _ (by omega)) (g _ (by omega))) (fr_shs hI (fun c c1 c2 => g _ (by omega)) (g _ (by omega)) (g _ (by omega)) h2)
theorem op_sleighs (σ : gs_S) (hI : inv σ)  : ∃ (r : Int32) (σ1 : gs_S) (σ2 : gs_S), pX10_sleighs  σ = some (r, σ1) ∧ pX11_sleighs  σ1 = some (r, σ2) ∧ inv σ2 := by
  obtain ⟨T, n, ht, hx⟩ := inv_tp hI
  have hn := ht.1
  have hT : ∀ k, k < n → 32 ≤ T k ∧ T k ≤ 126 := fun k hk => (ht.2.2 k hk).2
  obtain ⟨z1, z2, z3, z4⟩ := zSk_b (T := T) (show 0 ≤ n by omega)
  obtain ⟨ok, c, q, L, P, S, b1, b2, b3, b4, b5⟩ := tr_both T n hn hT 5 0 (zSk T n 0) (by omega) z2 z4
  -- the class
  obtain ⟨α, eα⟩ : ∃ α, α = gs_u σ 34 3 0 := ⟨_, rfl⟩
  have tα : tp α T n := by rw [eα]; exact tp_u ht _ _ _ (by decide) (by decide)
  obtain ⟨τ', e, l1, l2, l3, l4, l5⟩ := b4 α gv_N (gv_N_lt (by decide)) tα (by rw [eα, pz_ua]; rfl)
  have rd : pX0_readTrain σ = gv_bret (some e) (fun r => r) (fun x => some (pX7_fault x.2, x.2)) := by
    unfold pX0_readTrain pX7_rewind
    rw [gv_let_p, ← eα, gv_let_p, show gs_u α 29 2 (0 : Int32) = ca α 0 from rfl, pz_skip tα (by omega), gv_bind_some, gv_bind_some]
    have l1' : gv_loop (fun x : Int32 × gs_S => pX0_readTrain_L14 x.1 x.2) gv_N ((0 : Int32), ca α (zSk T n 0)) = some e := l1
    rw [l1']
    rfl
  have c1 : ∀ x, ¬ x = 29 → (x < 34 ∨ 37 < x) → (ca τ' q).1 x = σ.1 x := fun x x1 x2 => by rw [ca_o _ _ _ x1, l4.1 x x2, eα, pz_u, if_neg (by omega)]
  have c2 : (ca τ' q).2 = σ.2 := by show τ'.2 = _; rw [l4.2.1, eα, pz_u2]
  have q20 : (-20 : Int32) - nI q ≤ 0 := by
    rw [← zI_n, show (-20 : Int32) = zI (-20) from by decide, zI_sub, zI_0, zI_le (by omega) (by omega) (by omega) (by omega)]
    omega
  -- the reference, from any state that has the same tape
  have ref : ∀ φ, xtp φ T n → ∃ υ q0, pX11_readSleighs φ = some (if ok = true then 1 else 0, xa υ q0) ∧ q0 ≤ n ∧ zSk T n q0 = q ∧ xT φ υ 0 ∧ (ok = true → υ.1 63 14 = nI c ∧ ∀ j, j < c → υ.1 73 (3 * j) = nI (L j) ∧ υ.1 73 (3 * j + 1) = nI (P j) ∧ υ.1 73 (3 * j + 2) = nI (S j)) := fun φ hφ => by
    obtain ⟨υ, q0, r1, r2, r3, r4, r5⟩ := b5 φ 0 gv_N (gv_N_lt (by decide)) hφ (by omega) rfl
    refine ⟨υ, q0, ?_, r2, r3, r4, fun o => ⟨(r5 o).1, fun j hj => (r5 o).2 j (by omega) hj⟩⟩
    unfold pX11_readSleighs
    have r1' : gv_loop (fun x : Int32 × gs_S => pX11_readSleighs_L7 x.1 x.2) gv_N ((0 : Int32), xa φ 0) = some (.inr (if ok = true then 1 else 0, xa υ q0)) := r1
    rw [gv_let_p, show gs_u φ 63 13 (0 : Int32) = xa φ 0 from rfl, r1']
    rfl
  unfold pX10_sleighs pX10_sleighs_J33
  rw [rd]
  cases ok with
  | false =>
    obtain ⟨a, e2⟩ := l3 rfl
    rw [e2]
    show ∃ r σ1 σ2, gv_bind2 (some (pX7_fault (ca τ' q), ca τ' q)) _ = _ ∧ _
    unfold pX7_fault
    rw [ca_2, gv_bind2_some, if_pos q20, gv_let_p]
    obtain ⟨φ, eφ⟩ : ∃ φ, φ = gs_u (ca τ' q) 29 1 0 := ⟨_, rfl⟩
    rw [← eφ]
    have p1 : ∀ x, ¬ x = 29 → (x < 34 ∨ 37 < x) → φ.1 x = σ.1 x := fun x x1 x2 => by rw [eφ, pz_u, if_neg x1, c1 x x1 x2]
    have hφ : xtp φ T n := ⟨hx.1, by rw [p1 63 (by decide) (by omega)]; exact hx.2.1, fun k hk => by rw [p1 72 (by decide) (by omega)]; exact hx.2.2 k hk⟩
    obtain ⟨υ, q0, r1, r2, r3, r4, -⟩ := ref φ hφ
    have hυ := xtp_T hφ r4
    refine ⟨(-20 : Int32) - nI q, φ, gs_u (xa υ q) 63 12 0, rfl, ?_, ?_⟩
    · unfold pX11_sleighs pX11_sleighs_J14
      rw [r1, gv_bind2_some, if_pos (show (if false = true then (1 : Int32) else 0) = 0 from if_neg (by decide)), pz_next0 hυ r2, gv_bind2_some, r3, gv_let_p, if_pos (show (if false = true then (1 : Int32) else 0) = 0 from if_neg (by decide))]
      have r13 : (gs_u (xa υ q) 63 12 0).1 63 13 = nI q := by rw [pz_u, if_pos rfl, pz_upd, if_neg (by decide), xa_13]
      rw [r13]
    · have g : ∀ x, ¬ x = 29 → (x < 34 ∨ 37 < x) → ¬ x = 63 → ¬ x = 73 → (gs_u (xa υ q) 63 12 0).1 x = σ.1 x := fun x x1 x2 x3 x4 => by rw [pz_u, if_neg x3, xa_o _ _ _ x3, r4.1 x x3 x4, p1 x x1 x2]
      have g6 : ∀ i, ¬ i = 12 → ¬ i = 13 → ¬ i = 14 → (gs_u (xa υ q) 63 12 0).1 63 i = σ.1 63 i := fun i i1 i2 i3 => by rw [pz_u, if_pos rfl, pz_upd, if_neg i1, xa_i _ _ _ i2, r4.2.1 i i2 i3, p1 63 (by decide) (by omega)]
      refine inv_sl hI (fun x _ x2 x3 x4 _ x6 => g x x2 x3 x4 x6) (fun i _ i2 i3 i4 => g6 i i2 i3 i4) (by rw [pz_u2]; show υ.2 = _; rw [r4.2.2.1, eφ, pz_u2, c2]) ?_ (by rw [pz_u, if_neg (by decide), xa_o _ _ _ (by decide), r4.1 29 (by decide) (by decide), eφ, pz_ua]) (pz_ua _ _ _ _)
      exact fr_tr hI (g 4 (by omega) (by omega) (by omega) (by omega)) (g6 4 (by omega) (by omega) (by omega)) (g 5 (by omega) (by omega) (by omega) (by omega)) (g 6 (by omega) (by omega) (by omega) (by omega)) (g 7 (by omega) (by omega) (by omega) (by omega)) (g 65 (by omega) (by omega) (by omega) (by omega)) (g 66 (by omega) (by omega) (by omega) (by omega)) (g 67 (by omega) (by omega) (by omega) (by omega))
  | true =>
    obtain ⟨cb1, cb2, cb3⟩ := b3 rfl
    obtain ⟨m1, m2⟩ := l5 rfl
    rw [l2 rfl]
    show ∃ r σ1 σ2, gv_bind2 (some (nI c, ca τ' q)) _ = _ ∧ _
    rw [gv_bind2_some, if_neg (nI_nle (by omega) (by omega)), pz_tcopy, gv_bind_some, gv_let_p]
    obtain ⟨φ, eφ⟩ : ∃ φ, φ = gs_u (zTc (ca τ' q)) 29 1 0 := ⟨_, rfl⟩
    rw [← eφ]
    have p1 : ∀ x, (x < 4 ∨ 7 < x) → ¬ x = 29 → (x < 34 ∨ 37 < x) → φ.1 x = σ.1 x := fun x x0 x1 x2 => by rw [eφ, pz_u, if_neg x1, zTc_o _ _ x0, c1 x x1 x2]
    have hφ : xtp φ T n := ⟨hx.1, by rw [p1 63 (by omega) (by decide) (by omega)]; exact hx.2.1, fun k hk => by rw [p1 72 (by omega) (by decide) (by omega)]; exact hx.2.2 k hk⟩
    obtain ⟨υ, q0, r1, r2, r3, r4, r5⟩ := ref φ hφ
    obtain ⟨r14, r73⟩ := r5 rfl
    obtain ⟨β, eβ⟩ : ∃ β, β = gs_u (gs_u (xa υ q0) 63 12 0) 63 4 (nI c) := ⟨_, rfl⟩
    have β4 : β.1 63 4 = nI c := by rw [eβ, pz_ua]
    have βo : ∀ x, ¬ x = 63 → β.1 x = υ.1 x := fun x x1 => by rw [eβ, pz_u, if_neg x1, pz_u, if_neg x1, xa_o _ _ _ x1]
    obtain ⟨v, χ, w1, w2, w3, w4⟩ := pz_xtake (c := c) cb2 (L := L) (P := P) (S := S) β4 (fun j hj => by rw [βo 73 (by decide)]; exact r73 j hj)
    refine ⟨nI c, φ, χ, rfl, ?_, ?_⟩
    · unfold pX11_sleighs pX11_sleighs_J14
      rw [r1, gv_bind2_some, if_neg (show ¬ (if true = true then (1 : Int32) else 0) = 0 by rw [if_pos rfl]; decide), gv_let_p, if_neg (show ¬ (if true = true then (1 : Int32) else 0) = 0 by rw [if_pos rfl]; decide)]
      have e14 : (gs_u (xa υ q0) 63 12 0).1 63 14 = nI c := by rw [pz_u, if_pos rfl, pz_upd, if_neg (by decide), xa_i _ _ _ (by decide)]; exact r14
      rw [e14, gv_let_p, ← eβ, w1, gv_bind_some, gv_let_p, gv_let_p]
      dsimp only
      rw [w2 63 (by omega), β4]
    · have g6 : ∀ i, ¬ i = 4 → ¬ i = 12 → ¬ i = 13 → ¬ i = 14 → χ.1 63 i = σ.1 63 i := fun i i0 i1 i2 i3 => by rw [w2 63 (by omega), eβ, pz_u, if_pos rfl, pz_upd, if_neg i0, pz_u, if_pos rfl, pz_upd, if_neg i1, xa_i _ _ _ i2, r4.2.1 i i2 i3, p1 63 (by omega) (by decide) (by omega)]
      have lo : ∀ x, (4 ≤ x ∧ x ≤ 7) → χ.1 x = (zTc (ca τ' q)).1 x := fun x hx => by rw [w2 x (by omega), βo x (by omega), r4.1 x (by omega) (by omega), eφ, pz_u, if_neg (by omega)]
      refine inv_sl hI (fun x x0 x1 x2 x3 x4 x5 => by rw [w2 x x4, βo x x3, r4.1 x x3 x5, p1 x x0 x1 x2]) g6 (by rw [w3, eβ, pz_u2, pz_u2]; show υ.2 = _; rw [r4.2.2.1, eφ, pz_u2, zTc_2, c2]) ?_ (by rw [w2 29 (by omega), βo 29 (by decide), r4.1 29 (by decide) (by decide), eφ, pz_ua]) (by rw [w2 63 (by omega), eβ, pz_u, if_pos rfl, pz_upd, if_neg (by decide), pz_ua])
      rw [lo 4 (by omega), lo 5 (by omega), lo 6 (by omega), lo 7 (by omega), zTc_4, zTc_5, zTc_6, zTc_7, ca_o _ _ _ (by decide), ca_o _ _ _ (by decide), ca_o _ _ _ (by decide), ca_o _ _ _ (by decide)]
      refine ⟨c, cb2, m1, by rw [w2 63 (by omega)]; exact β4, fun k hk => ?_⟩
      obtain ⟨s1, s2, s3⟩ := m2 k (by omega) hk
      obtain ⟨t1, t2, t3⟩ := w4 k hk
      obtain ⟨v1, v2, v3, v4, v5⟩ := cb3 k (by omega) hk
      rw [va_cpy0 _ _ _ _ (by omega), va_cpy0 _ _ _ _ (by omega), va_cpy0 _ _ _ _ (by omega), s1, s2, ca_o _ _ 37 (by decide), s3, t1, t2, t3]
      refine ⟨rfl, rfl, rfl, ?_, ?_, ?_⟩
      · unfold iv_in; rw [nI_toInt (by omega)]; omega
      · unfold iv_in; rw [nI_toInt (by omega)]; omega
      · unfold iv_in; rw [nI_toInt (by omega)]; omega
