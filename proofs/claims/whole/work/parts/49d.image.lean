/-! PURE, 49d: image, restore -/
def zCl (k : Nat) : Nat := if k < 320 then 64 else if k < 338 then 65 + (k - 320) / 6 else if k < 362 then 68 else if k < 364 then 69 else if k < 368 then 70 else 71
def zIx (k : Nat) : Nat := if k < 320 then k else if k < 338 then (k - 320) % 6 else if k < 362 then k - 338 else if k < 364 then k - 362 else if k < 368 then k - 364 else k - 368
theorem pz_us (σ : gs_S) (c i : Nat) (v : Int32) (h : v = σ.1 c i) : gs_u σ c i v = σ := by
  refine Prod.ext ?_ rfl
  funext a
  rw [pz_u]
  by_cases e : a = c
  · rw [if_pos e, h, upd_same, e]
  · rw [if_neg e]
theorem pz_ua (σ : gs_S) (c i : Nat) (v : Int32) : (gs_u σ c i v).1 c i = v := by rw [pz_u, if_pos rfl, pz_upd, if_pos rfl]
theorem pz_sub (k b : Nat) (h : b ≤ k) : nI k - nI b = nI (k - b) := nI_sub h
theorem pz_addn (k b : Nat) (x : Int32) (hx : x = - nI b) (h : b ≤ k) : nI k + x = nI (k - b) := by
  rw [hx, ← Int32.sub_eq_add_neg]; exact nI_sub h
theorem pz_mod6 : ∀ a, a < 18 → nI a - nI a / 6 * 6 = nI (a % 6) := by decide +kernel
theorem car_148 {i a : Nat} (hi : i < 6) (ha : a < 18) (s : gs_S) (x : Int32) : pX11_carried_J148 (nI i) s (nI a) x = some ((gs_u s 67 i x).1 (65 + a / 6) i, gs_u s 67 i x) := by
  unfold pX11_carried_J148
  simp only [pz_inN hi (by decide), nI_clamp (show i < 2 ^ 31 by omega), gv_let]
  rcases (show a < 6 ∨ (6 ≤ a ∧ a < 12) ∨ 12 ≤ a by omega) with h | h | h
  · rw [if_neg (show ¬ (6 : Int32) ≤ nI a from nI_ge (b := 6) h (by decide)), show 65 + a / 6 = 65 by omega]
  · rw [if_pos (show (6 : Int32) ≤ nI a from nI_le (a := 6) h.1 (by omega)), if_neg (show ¬ (12 : Int32) ≤ nI a from nI_ge (b := 12) h.2 (by decide)), show 65 + a / 6 = 66 by omega]
  · rw [if_pos (show (6 : Int32) ≤ nI a from nI_le (a := 6) (by omega) (by omega)), if_pos (show (12 : Int32) ≤ nI a from nI_le (a := 12) h (by omega)), show 65 + a / 6 = 67 by omega]
theorem car_141 {i a : Nat} (hi : i < 6) (ha : a < 18) (s : gs_S) : pX11_carried_J141 (nI i) s (nI a) = some (s.1 (65 + a / 6) i, s) := by
  unfold pX11_carried_J141
  rw [pz_inN hi (by decide), nI_clamp (by omega), car_148 hi ha, pz_us _ _ _ _ rfl]
theorem car_119 {i a : Nat} (hi : i < 6) (ha : a < 18) (s : gs_S) (e v x : Int32) (h : e = 0 ∨ a < 12) : pX11_carried_J119 (nI i) s e (nI a) v x = some ((gs_u s 66 i x).1 (65 + a / 6) i, gs_u s 66 i x) := by
  unfold pX11_carried_J119
  simp only [pz_inN hi (by decide), nI_clamp (show i < 2 ^ 31 by omega), gv_let, car_141 hi ha]
  rcases h with h | h
  · rw [if_pos h]
  · by_cases c : e = 0
    · rw [if_pos c]
    · rw [if_neg c, if_pos (show nI a < (12 : Int32) from nI_lt (b := 12) h (by decide))]
theorem car_119b {i a : Nat} (hi : i < 6) (ha : a < 18) (s : gs_S) (e v x : Int32) (h0 : ¬ e = 0) (h : 12 ≤ a) : pX11_carried_J119 (nI i) s e (nI a) v x = some (v, gs_u (gs_u s 66 i x) 67 i v) := by
  unfold pX11_carried_J119
  simp only [pz_inN hi (by decide), nI_clamp (show i < 2 ^ 31 by omega), gv_let, car_148 hi ha]
  rw [if_neg h0, if_neg (show ¬ nI a < (12 : Int32) from nI_nlt (b := 12) h (by omega)), show 65 + a / 6 = 67 by omega, pz_ua]
theorem car_112 {i a : Nat} (hi : i < 6) (ha : a < 18) (s : gs_S) (e v : Int32) (h : e = 0 ∨ a < 12) : pX11_carried_J112 (nI i) s e (nI a) v = some (s.1 (65 + a / 6) i, s) := by
  unfold pX11_carried_J112
  rw [pz_inN hi (by decide), nI_clamp (by omega), car_119 hi ha _ _ _ _ h, pz_us _ _ _ _ rfl]
theorem car_112b {i a : Nat} (hi : i < 6) (ha : a < 18) (s : gs_S) (e v : Int32) (h0 : ¬ e = 0) (h : 12 ≤ a) : pX11_carried_J112 (nI i) s e (nI a) v = some (v, gs_u s 67 i v) := by
  unfold pX11_carried_J112
  rw [pz_inN hi (by decide), nI_clamp (by omega), car_119b hi ha _ _ _ _ h0 h, pz_us _ _ _ _ rfl]
theorem gv_let_p {α β : Type} (a : α) (k : α → β) : gv_let a k = k a := rfl
theorem car_0 {i : Nat} (hi : i < 320) (σ : gs_S) (v e w : Int32) (h0 : e = 0 → w = σ.1 64 i) (h1 : ¬ e = 0 → w = v) : pX11_carried (nI i) v e σ = some (w, gs_u σ 64 i w) := by
  unfold pX11_carried
  rw [if_neg (show ¬ (320 : Int32) ≤ nI i from nI_ge (b := 320) hi (by decide))]
  unfold pX11_carried_J26
  simp only [pz_inN hi (by decide), nI_clamp (show i < 2 ^ 31 by omega), gv_let, pz_ua]
  by_cases he : e = 0
  · rw [if_pos he, h0 he]
  · rw [if_neg he, h1 he]
theorem car_2 {i k : Nat} (hi : i < 24) (hk : k = 338 + i) (σ : gs_S) (v e w : Int32) (h0 : e = 0 → w = σ.1 68 i) (h1 : ¬ e = 0 → w = v) : pX11_carried (nI k) v e σ = some (w, gs_u σ 68 i w) := by
  obtain ⟨k0, hk0⟩ : ∃ k0, k0 = 18 + i := ⟨_, rfl⟩
  have s0 : nI k - 320 = nI k0 := by rw [show (320 : Int32) = nI 320 from rfl, nI_sub (by omega), show k - 320 = k0 by omega]
  have s1 : nI k0 + (-18 : Int32) = nI i := by rw [pz_addn k0 18 (-18) (by decide) (by omega), show k0 - 18 = i by omega]
  have c1 : (18 : Int32) ≤ nI k0 := nI_le (a := 18) (by omega) (by omega)
  have c0 : (320 : Int32) ≤ nI k := nI_le (a := 320) (by omega) (by omega)
  unfold pX11_carried
  rw [if_pos c0, s0, gv_let_p]
  rw [if_pos c1, s1, gv_let_p]
  rw [if_neg (show ¬ (24 : Int32) ≤ nI i from nI_ge (b := 24) hi (by decide))]
  unfold pX11_carried_J222
  simp only [pz_inN hi (by decide), nI_clamp (show i < 2 ^ 31 by omega), gv_let, pz_ua]
  by_cases he : e = 0
  · rw [if_pos he, h0 he]
  · rw [if_neg he, h1 he]
theorem car_3 {i k : Nat} (hi : i < 2) (hk : k = 362 + i) (σ : gs_S) (v e w : Int32) (h0 : e = 0 → w = σ.1 69 i) (h1 : ¬ e = 0 → w = v) : pX11_carried (nI k) v e σ = some (w, gs_u σ 69 i w) := by
  obtain ⟨k0, hk0⟩ : ∃ k0, k0 = 42 + i := ⟨_, rfl⟩
  have s0 : nI k - 320 = nI k0 := by rw [show (320 : Int32) = nI 320 from rfl, nI_sub (by omega), show k - 320 = k0 by omega]
  obtain ⟨k1, hk1⟩ : ∃ x, x = 24 + i := ⟨_, rfl⟩
  have s1 : nI k0 + (-18 : Int32) = nI k1 := by rw [pz_addn k0 18 (-18) (by decide) (by omega), show k0 - 18 = k1 by omega]
  have c1 : (18 : Int32) ≤ nI k0 := nI_le (a := 18) (by omega) (by omega)
  have s2 : nI k1 + (-24 : Int32) = nI i := by rw [pz_addn k1 24 (-24) (by decide) (by omega), show k1 - 24 = i by omega]
  have c2 : (24 : Int32) ≤ nI k1 := nI_le (a := 24) (by omega) (by omega)
  have c0 : (320 : Int32) ≤ nI k := nI_le (a := 320) (by omega) (by omega)
  unfold pX11_carried
  rw [if_pos c0, s0, gv_let_p]
  rw [if_pos c1, s1, gv_let_p]
  rw [if_pos c2, s2, gv_let_p]
  rw [if_neg (show ¬ (2 : Int32) ≤ nI i from nI_ge (b := 2) hi (by decide))]
  unfold pX11_carried_J261
  simp only [pz_inN hi (by decide), nI_clamp (show i < 2 ^ 31 by omega), gv_let, pz_ua]
  by_cases he : e = 0
  · rw [if_pos he, h0 he]
  · rw [if_neg he, h1 he]
theorem car_4 {i k : Nat} (hi : i < 4) (hk : k = 364 + i) (σ : gs_S) (v e w : Int32) (h0 : e = 0 → w = σ.1 70 i) (h1 : ¬ e = 0 → w = v) : pX11_carried (nI k) v e σ = some (w, gs_u σ 70 i w) := by
  obtain ⟨k0, hk0⟩ : ∃ k0, k0 = 44 + i := ⟨_, rfl⟩
  have s0 : nI k - 320 = nI k0 := by rw [show (320 : Int32) = nI 320 from rfl, nI_sub (by omega), show k - 320 = k0 by omega]
  obtain ⟨k1, hk1⟩ : ∃ x, x = 26 + i := ⟨_, rfl⟩
  have s1 : nI k0 + (-18 : Int32) = nI k1 := by rw [pz_addn k0 18 (-18) (by decide) (by omega), show k0 - 18 = k1 by omega]
  have c1 : (18 : Int32) ≤ nI k0 := nI_le (a := 18) (by omega) (by omega)
  obtain ⟨k2, hk2⟩ : ∃ x, x = 2 + i := ⟨_, rfl⟩
  have s2 : nI k1 + (-24 : Int32) = nI k2 := by rw [pz_addn k1 24 (-24) (by decide) (by omega), show k1 - 24 = k2 by omega]
  have c2 : (24 : Int32) ≤ nI k1 := nI_le (a := 24) (by omega) (by omega)
  have s3 : nI k2 + (-2 : Int32) = nI i := by rw [pz_addn k2 2 (-2) (by decide) (by omega), show k2 - 2 = i by omega]
  have c3 : (2 : Int32) ≤ nI k2 := nI_le (a := 2) (by omega) (by omega)
  have c0 : (320 : Int32) ≤ nI k := nI_le (a := 320) (by omega) (by omega)
  unfold pX11_carried
  rw [if_pos c0, s0, gv_let_p]
  rw [if_pos c1, s1, gv_let_p]
  rw [if_pos c2, s2, gv_let_p]
  rw [if_pos c3, s3, gv_let_p]
  rw [if_neg (show ¬ (4 : Int32) ≤ nI i from nI_ge (b := 4) hi (by decide))]
  unfold pX11_carried_J300
  simp only [pz_inN hi (by decide), nI_clamp (show i < 2 ^ 31 by omega), gv_let, pz_ua]
  by_cases he : e = 0
  · rw [if_pos he, h0 he]
  · rw [if_neg he, h1 he]
theorem car_5 {i k : Nat} (hi : i < 48) (hk : k = 368 + i) (σ : gs_S) (v e w : Int32) (h0 : e = 0 → w = σ.1 71 i) (h1 : ¬ e = 0 → w = v) : pX11_carried (nI k) v e σ = some (w, gs_u σ 71 i w) := by
  obtain ⟨k0, hk0⟩ : ∃ k0, k0 = 48 + i := ⟨_, rfl⟩
  have s0 : nI k - 320 = nI k0 := by rw [show (320 : Int32) = nI 320 from rfl, nI_sub (by omega), show k - 320 = k0 by omega]
  obtain ⟨k1, hk1⟩ : ∃ x, x = 30 + i := ⟨_, rfl⟩
  have s1 : nI k0 + (-18 : Int32) = nI k1 := by rw [pz_addn k0 18 (-18) (by decide) (by omega), show k0 - 18 = k1 by omega]
  have c1 : (18 : Int32) ≤ nI k0 := nI_le (a := 18) (by omega) (by omega)
  obtain ⟨k2, hk2⟩ : ∃ x, x = 6 + i := ⟨_, rfl⟩
  have s2 : nI k1 + (-24 : Int32) = nI k2 := by rw [pz_addn k1 24 (-24) (by decide) (by omega), show k1 - 24 = k2 by omega]
  have c2 : (24 : Int32) ≤ nI k1 := nI_le (a := 24) (by omega) (by omega)
  obtain ⟨k3, hk3⟩ : ∃ x, x = 4 + i := ⟨_, rfl⟩
  have s3 : nI k2 + (-2 : Int32) = nI k3 := by rw [pz_addn k2 2 (-2) (by decide) (by omega), show k2 - 2 = k3 by omega]
  have c3 : (2 : Int32) ≤ nI k2 := nI_le (a := 2) (by omega) (by omega)
  have s4 : nI k3 + (-4 : Int32) = nI i := by rw [pz_addn k3 4 (-4) (by decide) (by omega), show k3 - 4 = i by omega]
  have c4 : (4 : Int32) ≤ nI k3 := nI_le (a := 4) (by omega) (by omega)
  have c0 : (320 : Int32) ≤ nI k := nI_le (a := 320) (by omega) (by omega)
  unfold pX11_carried
  rw [if_pos c0, s0, gv_let_p]
  rw [if_pos c1, s1, gv_let_p]
  rw [if_pos c2, s2, gv_let_p]
  rw [if_pos c3, s3, gv_let_p]
  rw [if_pos c4, s4, gv_let_p]
  unfold pX11_carried_J333
  simp only [pz_inN hi (by decide), nI_clamp (show i < 2 ^ 31 by omega), gv_let, pz_ua]
  by_cases he : e = 0
  · rw [if_pos he, h0 he]
  · rw [if_neg he, h1 he]
theorem car_83 {a : Nat} (ha : a < 18) (e v : Int32) (s : gs_S) (x : Int32) : pX11_carried_J83 (nI (a % 6)) s e (nI a) v x = if e = 0 then some ((gs_u s 65 (a % 6) x).1 (65 + a / 6) (a % 6), gs_u s 65 (a % 6) x) else if a < 6 then some ((gs_u s 65 (a % 6) x).1 (65 + a / 6) (a % 6), gs_u s 65 (a % 6) x) else if a < 12 then some (v, gs_u (gs_u s 65 (a % 6) x) 66 (a % 6) v) else some (v, gs_u (gs_u s 65 (a % 6) x) 67 (a % 6) v) := by
  have hm : a % 6 < 6 := Nat.mod_lt _ (by decide)
  unfold pX11_carried_J83
  simp only [pz_inN hm (by decide), nI_clamp (show a % 6 < 2 ^ 31 by omega), gv_let]
  by_cases he : e = 0
  · rw [if_pos he, if_pos he, car_112 hm ha _ _ _ (Or.inl he)]
  · rw [if_neg he, if_neg he]
    by_cases d1 : a < 6
    · rw [if_pos d1, if_pos (show nI a < (6 : Int32) from nI_lt (b := 6) d1 (by decide)), car_112 hm ha _ _ _ (Or.inr (by omega))]
    · rw [if_neg d1, if_neg (show ¬ nI a < (6 : Int32) from nI_nlt (b := 6) (by omega) (by omega))]
      by_cases d2 : a < 12
      · rw [if_pos d2, if_neg (show ¬ (12 : Int32) ≤ nI a from nI_ge (b := 12) d2 (by decide)), car_119 hm ha _ _ _ _ (Or.inr d2), show 65 + a / 6 = 66 by omega, pz_ua]
      · rw [if_neg d2, if_pos (show (12 : Int32) ≤ nI a from nI_le (a := 12) (by omega) (by omega)), car_112b hm ha _ _ _ he (by omega)]
theorem car_76 {a : Nat} (ha : a < 18) (e v : Int32) (s : gs_S) : pX11_carried_J76 (nI (a % 6)) s e (nI a) v = pX11_carried_J83 (nI (a % 6)) s e (nI a) v (s.1 65 (a % 6)) := by
  have hm : a % 6 < 6 := Nat.mod_lt _ (by decide)
  unfold pX11_carried_J76
  rw [pz_inN hm (by decide), nI_clamp (by omega)]
theorem car_1 {a k : Nat} (ha : a < 18) (hk : k = 320 + a) (σ : gs_S) (v e w : Int32) (h0 : e = 0 → w = σ.1 (65 + a / 6) (a % 6)) (h1 : ¬ e = 0 → w = v) : pX11_carried (nI k) v e σ = some (w, gs_u σ (65 + a / 6) (a % 6) w) := by
  unfold pX11_carried
  have k0 : (320 : Int32) ≤ nI k := nI_le (a := 320) (by omega) (by omega)
  have s0 : nI k - 320 = nI a := by rw [show (320 : Int32) = nI 320 from rfl, nI_sub (by omega), show k - 320 = a by omega]
  rw [if_pos k0, s0, gv_let_p]
  rw [if_neg (show ¬ (18 : Int32) ≤ nI a from nI_ge (b := 18) ha (by decide)), pz_mod6 a ha, gv_let_p, car_76 ha, car_83 ha, car_83 ha, pz_us σ 65 _ _ rfl]
  by_cases he : e = 0
  · rw [if_pos he, if_pos he, h0 he, pz_us _ _ _ _ rfl]
  · rw [if_neg he, if_neg he, if_neg he, h1 he]
    by_cases d1 : a < 6
    · rw [if_neg (show ¬ (6 : Int32) ≤ nI a from nI_ge (b := 6) d1 (by decide)), if_pos d1, show 65 + a / 6 = 65 by omega, pz_ua]
    · rw [if_pos (show (6 : Int32) ≤ nI a from nI_le (a := 6) (by omega) (by omega)), if_neg d1]
      by_cases d2 : a < 12
      · rw [if_pos d2, show 65 + a / 6 = 66 by omega]
      · rw [if_neg d2, show 65 + a / 6 = 67 by omega]
theorem zC_ice (i : Nat) (h : i < 320) : zCl i = 64 ∧ zIx i = i := by unfold zCl zIx; rw [if_pos h, if_pos h]; exact ⟨rfl, rfl⟩
theorem zC_lo (i : Nat) (h : i < 6) : zCl (320 + i) = 65 ∧ zIx (320 + i) = i := by unfold zCl zIx; rw [if_neg (by omega), if_pos (by omega), if_neg (by omega), if_pos (by omega)]; omega
theorem zC_pa (i : Nat) (h : i < 6) : zCl (326 + i) = 66 ∧ zIx (326 + i) = i := by unfold zCl zIx; rw [if_neg (by omega), if_pos (by omega), if_neg (by omega), if_pos (by omega)]; omega
theorem zC_st (i : Nat) (h : i < 6) : zCl (332 + i) = 67 ∧ zIx (332 + i) = i := by unfold zCl zIx; rw [if_neg (by omega), if_pos (by omega), if_neg (by omega), if_pos (by omega)]; omega
theorem zC_w (i : Nat) (h : i < 24) : zCl (338 + i) = 68 ∧ zIx (338 + i) = i := by unfold zCl zIx; rw [if_neg (by omega), if_neg (by omega), if_pos (by omega), if_neg (by omega), if_neg (by omega), if_pos (by omega)]; omega
theorem zC_se (i : Nat) (h : i < 2) : zCl (362 + i) = 69 ∧ zIx (362 + i) = i := by unfold zCl zIx; rw [if_neg (by omega), if_neg (by omega), if_neg (by omega), if_pos (by omega), if_neg (by omega), if_neg (by omega), if_neg (by omega), if_pos (by omega)]; omega
theorem zC_sl (i : Nat) (h : i < 4) : zCl (364 + i) = 70 ∧ zIx (364 + i) = i := by unfold zCl zIx; rw [if_neg (by omega), if_neg (by omega), if_neg (by omega), if_neg (by omega), if_pos (by omega), if_neg (by omega), if_neg (by omega), if_neg (by omega), if_neg (by omega), if_pos (by omega)]; omega
theorem zC_h (i : Nat) (h : i < 48) : zCl (368 + i) = 71 ∧ zIx (368 + i) = i := by unfold zCl zIx; rw [if_neg (by omega), if_neg (by omega), if_neg (by omega), if_neg (by omega), if_neg (by omega), if_neg (by omega), if_neg (by omega), if_neg (by omega), if_neg (by omega), if_neg (by omega)]; omega
theorem zC_t (a : Nat) (h : a < 18) : zCl (320 + a) = 65 + a / 6 ∧ zIx (320 + a) = a % 6 := by unfold zCl zIx; rw [if_neg (by omega), if_pos (by omega), if_neg (by omega), if_pos (by omega), show 320 + a - 320 = a by omega]; exact ⟨rfl, rfl⟩
theorem pz_car (k : Nat) (hk : k < 416) (v e w : Int32) (σ : gs_S) (h0 : e = 0 → w = σ.1 (zCl k) (zIx k)) (h1 : ¬ e = 0 → w = v) : pX11_carried (nI k) v e σ = some (w, gs_u σ (zCl k) (zIx k) w) := by
  rcases (show k < 320 ∨ (∃ i, i < 18 ∧ k = 320 + i) ∨ (∃ i, i < 24 ∧ k = 338 + i) ∨ (∃ i, i < 2 ∧ k = 362 + i) ∨ (∃ i, i < 4 ∧ k = 364 + i) ∨ (∃ i, i < 48 ∧ k = 368 + i) by
    by_cases q1 : k < 320
    · exact Or.inl q1
    by_cases q2 : k < 338
    · exact Or.inr (Or.inl ⟨k - 320, by omega, by omega⟩)
    by_cases q3 : k < 362
    · exact Or.inr (Or.inr (Or.inl ⟨k - 338, by omega, by omega⟩))
    by_cases q4 : k < 364
    · exact Or.inr (Or.inr (Or.inr (Or.inl ⟨k - 362, by omega, by omega⟩)))
    by_cases q5 : k < 368
    · exact Or.inr (Or.inr (Or.inr (Or.inr (Or.inl ⟨k - 364, by omega, by omega⟩))))
    · exact Or.inr (Or.inr (Or.inr (Or.inr (Or.inr ⟨k - 368, by omega, by omega⟩))))) with h | ⟨i, hi, rfl⟩ | ⟨i, hi, rfl⟩ | ⟨i, hi, rfl⟩ | ⟨i, hi, rfl⟩ | ⟨i, hi, rfl⟩
  · rw [(zC_ice k h).1, (zC_ice k h).2] at *; exact car_0 h σ v e w h0 h1
  · rw [(zC_t i hi).1, (zC_t i hi).2] at *; exact car_1 hi rfl σ v e w h0 h1
  · rw [(zC_w i hi).1, (zC_w i hi).2] at *; exact car_2 hi rfl σ v e w h0 h1
  · rw [(zC_se i hi).1, (zC_se i hi).2] at *; exact car_3 hi rfl σ v e w h0 h1
  · rw [(zC_sl i hi).1, (zC_sl i hi).2] at *; exact car_4 hi rfl σ v e w h0 h1
  · rw [(zC_h i hi).1, (zC_h i hi).2] at *; exact car_5 hi rfl σ v e w h0 h1
theorem zCl_in (k : Nat) (hk : k < 416) : 64 ≤ zCl k ∧ zCl k ≤ 71 := by
  unfold zCl
  split
  · omega
  · split
    · omega
    · split
      · omega
      · split
        · omega
        · split <;> omega
def zKp (σ : gs_S) : Nat → Nat → Int32
  | 0 => σ.1 79
  | k + 1 => upd (zKp σ k) k (σ.1 (zCl k) (zIx k))
theorem zKp_at (σ : gs_S) (j : Nat) : ∀ k, j < k → zKp σ k j = σ.1 (zCl j) (zIx j) := by
  intro k
  induction k with
  | zero => intro h; omega
  | succ k ih =>
    intro h
    unfold zKp
    rw [pz_upd]
    by_cases e : j = k
    · rw [if_pos e, e]
    · rw [if_neg e]; exact ih (by omega)
theorem pz_ximg (σ : gs_S) : gv_loop (fun q : Int32 × gs_S => pX11_image_L2 q.1 q.2) gv_N ((0 : Int32), σ) = some (nI 416, gs_w σ 79 (zKp σ 416)) := by
  have h := gv_for (fun q : Int32 × gs_S => pX11_image_L2 q.1 q.2) (fun k => (nI k, gs_w σ 79 (zKp σ k))) 416 gv_N (gv_N_lt (by decide)) (nI 416, gs_w σ 79 (zKp σ 416)) ?_ ?_
  · have e : gs_w σ 79 (zKp σ 0) = σ := pz_ws σ 79
    rw [e] at h
    exact h
  · intro k hk
    dsimp only
    unfold pX11_image_L2
    have hz := zCl_in k hk
    rw [if_neg (show ¬ (416 : Int32) ≤ nI k from nI_ge (b := 416) hk (by decide)), pz_car k hk 0 0 _ _ (fun _ => rfl) (fun q => absurd rfl q), pz_us _ _ _ _ rfl]
    simp only [gv_bind2, gv_let, pz_inN (show k < 420 by omega) (by decide), nI_clamp (show k < 2 ^ 31 by omega), nI_1, pz_uw]
    rw [pz_w, if_neg (by omega)]
    rfl
  · dsimp only
    unfold pX11_image_L2
    rw [if_pos (by decide)]
theorem va_cpy0 (f g : Nat → Int32) (n k : Nat) (h : k < n) : va_cpy f g 0 0 n k = f k := by
  unfold va_cpy
  rw [if_pos (by omega)]
  congr 1
  omega
/-- a scene copied: cells t1.. to t0.. -/
def zCp (σ : gs_S) (t0 t1 : Nat) : gs_S := gs_u (gs_u (gs_u (gs_w (gs_w (gs_w (gs_w (gs_u (gs_w (gs_u (gs_w (gs_w (gs_w (gs_w σ (t0 + 2) (va_cpy (σ.1 (t1 + 2)) (σ.1 (t0 + 2)) 0 0 320)) (t0 + 4) (va_cpy (σ.1 (t1 + 4)) (σ.1 (t0 + 4)) 0 0 6)) (t0 + 5) (va_cpy (σ.1 (t1 + 5)) (σ.1 (t0 + 5)) 0 0 6)) (t0 + 6) (va_cpy (σ.1 (t1 + 6)) (σ.1 (t0 + 6)) 0 0 6)) (t0 + 3) 3 (σ.1 (t1 + 3) 3)) (t0 + 8) (va_cpy (σ.1 (t1 + 8)) (σ.1 (t0 + 8)) 0 0 24)) (t0 + 7) 1 (σ.1 (t1 + 7) 1)) (t0 + 10) (va_cpy (σ.1 (t1 + 10)) (σ.1 (t0 + 10)) 0 0 4)) (t0 + 11) (va_cpy (σ.1 (t1 + 11)) (σ.1 (t0 + 11)) 0 0 16)) (t0 + 12) (va_cpy (σ.1 (t1 + 12)) (σ.1 (t0 + 12)) 0 0 16)) (t0 + 13) (va_cpy (σ.1 (t1 + 13)) (σ.1 (t0 + 13)) 0 0 16)) (t0 + 9) 4 (σ.1 (t1 + 9) 4)) t0 4 (σ.1 t1 4)) t0 5 (σ.1 t1 5)
theorem pz_copyA (σ : gs_S) : pX4_copy 15 1 σ = some (zCp σ 15 1) := by
  unfold pX4_copy pX2_copy pX8_copy pX9_copy pX1_copy
  simp only [gv_cp, gv_let, gv_bind, show (0 : Int32).toNatClampNeg = 0 from rfl, show (320 : Int32).toNatClampNeg = 320 from rfl, show (6 : Int32).toNatClampNeg = 6 from rfl, show (24 : Int32).toNatClampNeg = 24 from rfl, show (4 : Int32).toNatClampNeg = 4 from rfl, show (16 : Int32).toNatClampNeg = 16 from rfl]
  rw [if_pos (by decide)]
  simp only [show ∀ (β : Type) (k : Option β), (if ¬ (0 : Int32) < 0 ∧ ¬ (0 : Int32) < 0 ∧ ¬ (6 : Int32) < 0 ∧ 0 + 6 ≤ 6 ∧ 0 + 6 ≤ 6 then k else none) = k from fun β k => if_pos (by decide)]
  rfl
theorem pz_copyB (σ : gs_S) : pX4_copy 1 15 σ = some (zCp σ 1 15) := by
  unfold pX4_copy pX2_copy pX8_copy pX9_copy pX1_copy
  simp only [gv_cp, gv_let, gv_bind, show (0 : Int32).toNatClampNeg = 0 from rfl, show (320 : Int32).toNatClampNeg = 320 from rfl, show (6 : Int32).toNatClampNeg = 6 from rfl, show (24 : Int32).toNatClampNeg = 24 from rfl, show (4 : Int32).toNatClampNeg = 4 from rfl, show (16 : Int32).toNatClampNeg = 16 from rfl]
  rw [if_pos (by decide)]
  simp only [show ∀ (β : Type) (k : Option β), (if ¬ (0 : Int32) < 0 ∧ ¬ (0 : Int32) < 0 ∧ ¬ (6 : Int32) < 0 ∧ 0 + 6 ≤ 6 ∧ 0 + 6 ≤ 6 then k else none) = k from fun β k => if_pos (by decide)]
  rfl
theorem cpA_ice (σ : gs_S) : (zCp σ 15 1).1 17 = va_cpy (σ.1 3) (σ.1 17) 0 0 320 := rfl
theorem cpA_n (σ : gs_S) : (zCp σ 15 1).1 18 3 = σ.1 4 3 := rfl
theorem cpA_lo (σ : gs_S) : (zCp σ 15 1).1 19 = va_cpy (σ.1 5) (σ.1 19) 0 0 6 := rfl
theorem cpA_pa (σ : gs_S) : (zCp σ 15 1).1 20 = va_cpy (σ.1 6) (σ.1 20) 0 0 6 := rfl
theorem cpA_st (σ : gs_S) : (zCp σ 15 1).1 21 = va_cpy (σ.1 7) (σ.1 21) 0 0 6 := rfl
theorem cpA_wn (σ : gs_S) : (zCp σ 15 1).1 22 1 = σ.1 8 1 := rfl
theorem cpA_w (σ : gs_S) : (zCp σ 15 1).1 23 = va_cpy (σ.1 9) (σ.1 23) 0 0 24 := rfl
theorem cpA_en (σ : gs_S) : (zCp σ 15 1).1 24 4 = σ.1 10 4 := rfl
theorem cpA_sl (σ : gs_S) : (zCp σ 15 1).1 25 = va_cpy (σ.1 11) (σ.1 25) 0 0 4 := rfl
theorem cpA_hr (σ : gs_S) : (zCp σ 15 1).1 26 = va_cpy (σ.1 12) (σ.1 26) 0 0 16 := rfl
theorem cpA_sq (σ : gs_S) : (zCp σ 15 1).1 27 = va_cpy (σ.1 13) (σ.1 27) 0 0 16 := rfl
theorem cpA_pi (σ : gs_S) : (zCp σ 15 1).1 28 = va_cpy (σ.1 14) (σ.1 28) 0 0 16 := rfl
theorem cpA_s0 (σ : gs_S) : (zCp σ 15 1).1 15 4 = σ.1 1 4 := rfl
theorem cpA_s1 (σ : gs_S) : (zCp σ 15 1).1 15 5 = σ.1 1 5 := rfl
theorem cpA_2 (σ : gs_S) : (zCp σ 15 1).2 = σ.2 := rfl
theorem cp_o (σ : gs_S) (t0 t1 c : Nat) (h : c < t0 ∨ t0 + 13 < c) : (zCp σ t0 t1).1 c = σ.1 c := by
  unfold zCp
  rw [pz_u, if_neg (by omega), pz_u, if_neg (by omega), pz_u, if_neg (by omega), pz_w, if_neg (by omega), pz_w, if_neg (by omega), pz_w, if_neg (by omega), pz_w, if_neg (by omega), pz_u, if_neg (by omega), pz_w, if_neg (by omega), pz_u, if_neg (by omega), pz_w, if_neg (by omega), pz_w, if_neg (by omega), pz_w, if_neg (by omega), pz_w, if_neg (by omega)]
theorem op_image (σ : gs_S) (hI : inv σ)  : ∃ (r : Int32) (σ1 : gs_S) (σ2 : gs_S), pX10_image  σ = some (r, σ1) ∧ pX11_image  σ1 = some (r, σ2) ∧ inv σ2 := by
  unfold pX10_image pX11_image
  obtain ⟨τ, eτ⟩ : ∃ τ, τ = gs_u (zCp σ 15 1) 0 2 1 := ⟨_, rfl⟩
  obtain ⟨υ, eυ⟩ : ∃ υ, υ = gs_w τ 79 (zKp τ 416) := ⟨_, rfl⟩
  obtain ⟨φ, eφ⟩ : ∃ φ, φ = gs_u (gs_u (gs_u (gs_u υ 80 0 (υ.1 63 4)) 80 1 (υ.1 63 6)) 80 2 (υ.1 63 10)) 63 22 1 := ⟨_, rfl⟩
  have hr : gv_loop (fun q : Int32 × gs_S => pX11_image_L2 q.1 q.2) gv_N ((0 : Int32), τ) = some (nI 416, υ) := by rw [eυ]; exact pz_ximg τ
  have t1 : ∀ c, ¬ c = 0 → (c < 15 ∨ 28 < c) → τ.1 c = σ.1 c := fun c c1 c2 => by rw [eτ, pz_u, if_neg c1, cp_o _ _ _ _ (by omega)]
  have tk : ∀ c, 15 ≤ c → τ.1 c = (zCp σ 15 1).1 c := fun c c1 => by rw [eτ, pz_u, if_neg (by omega)]
  have u79 : υ.1 79 = zKp τ 416 := by rw [eυ, pz_wc]
  have u1 : ∀ c, ¬ c = 79 → υ.1 c = τ.1 c := fun c c1 => by rw [eυ, pz_w, if_neg c1]
  have f1 : ∀ c, ¬ c = 80 → ¬ c = 63 → φ.1 c = υ.1 c := fun c c1 c2 => by rw [eφ, pz_u, if_neg c2, pz_u, if_neg c1, pz_u, if_neg c1, pz_u, if_neg c1]
  have f63 : ∀ i, ¬ i = 22 → φ.1 63 i = σ.1 63 i := fun i hi => by
    rw [eφ, pz_u, if_pos rfl, pz_upd, if_neg hi, pz_u, if_neg (by decide), pz_u, if_neg (by decide), pz_u, if_neg (by decide), u1 63 (by decide), t1 63 (by decide) (by omega)]
  have g1 : ∀ c, ¬ c = 0 → (c < 15 ∨ 28 < c) → ¬ c = 63 → ¬ c = 79 → ¬ c = 80 → φ.1 c = σ.1 c := fun c c1 c2 c3 c4 c5 => by rw [f1 c c5 c3, u1 c c4, t1 c c1 c2]
  have gk : ∀ c, 15 ≤ c → ¬ c = 63 → ¬ c = 79 → ¬ c = 80 → φ.1 c = (zCp σ 15 1).1 c := fun c c1 c2 c3 c4 => by rw [f1 c c4 c2, u1 c c3, tk c c1]
  have k79 : ∀ j, j < 416 → φ.1 79 j = σ.1 (zCl j) (zIx j) := fun j hj => by
    have hz := zCl_in j hj
    rw [f1 79 (by decide) (by decide), u79, zKp_at τ j 416 hj, t1 _ (by omega) (by omega)]
  have k80a : φ.1 80 0 = σ.1 63 4 := by rw [eφ]; show υ.1 63 4 = _; rw [u1 63 (by decide), t1 63 (by decide) (by omega)]
  have k80b : φ.1 80 1 = σ.1 63 6 := by rw [eφ]; show υ.1 63 6 = _; rw [u1 63 (by decide), t1 63 (by decide) (by omega)]
  have k80c : φ.1 80 2 = σ.1 63 10 := by rw [eφ]; show υ.1 63 10 = _; rw [u1 63 (by decide), t1 63 (by decide) (by omega)]
  refine ⟨1, τ, φ, ?_, ?_, ?_⟩
  · rw [pz_copyA]
    simp only [gv_bind, gv_let]
    rw [eτ]
  · rw [hr]
    simp only [gv_bind, gv_let]
    rw [eφ]; rfl
  · have G : ∀ c, ¬ c = 0 → (c < 15 ∨ 28 < c) → ¬ c = 63 → ¬ c = 79 → ¬ c = 80 → φ.1 c = σ.1 c := g1
    obtain ⟨⟨i1, i2, i3⟩, ⟨m, hm, e1, e2, it⟩, ⟨w, hw, w1, w2, iw⟩, s0, s1, ⟨sl, h, hh, h1, h2, ih⟩, -⟩ := id hI
    refine inv_mk (fr_ice hI (G _ (by omega) (by omega) (by omega) (by omega) (by omega)) (G _ (by omega) (by omega) (by omega) (by omega) (by omega))) (fr_tr hI (G _ (by omega) (by omega) (by omega) (by omega) (by omega)) (f63 _ (by omega)) (G _ (by omega) (by omega) (by omega) (by omega) (by omega)) (G _ (by omega) (by omega) (by omega) (by omega) (by omega)) (G _ (by omega) (by omega) (by omega) (by omega) (by omega)) (G _ (by omega) (by omega) (by omega) (by omega) (by omega)) (G _ (by omega) (by omega) (by omega) (by omega) (by omega)) (G _ (by omega) (by omega) (by omega) (by omega) (by omega))) (fr_way hI (G _ (by omega) (by omega) (by omega) (by omega) (by omega)) (f63 _ (by omega)) (G _ (by omega) (by omega) (by omega) (by omega) (by omega)) (G _ (by omega) (by omega) (by omega) (by omega) (by omega))) (fr_set hI (G _ (by omega) (by omega) (by omega) (by omega) (by omega)) (G _ (by omega) (by omega) (by omega) (by omega) (by omega))) (fr_ears hI (G _ (by omega) (by omega) (by omega) (by omega) (by omega)) (f63 _ (by omega)) (G _ (by omega) (by omega) (by omega) (by omega) (by omega)) (G _ (by omega) (by omega) (by omega) (by omega) (by omega)) (G _ (by omega) (by omega) (by omega) (by omega) (by omega)) (G _ (by omega) (by omega) (by omega) (by omega) (by omega)) (G _ (by omega) (by omega) (by omega) (by omega) (by omega)) (G _ (by omega) (by omega) (by omega) (by omega) (by omega))) (fr_tape hI (by rw [G 29 (by omega) (by omega) (by omega) (by omega) (by omega)]) (f63 _ (by omega)) (G _ (by omega) (by omega) (by omega) (by omega) (by omega)) (G _ (by omega) (by omega) (by omega) (by omega) (by omega))) ?_ (fr_shs hI (fun c c1 c2 => G _ (by omega) (by omega) (by omega) (by omega) (by omega)) (G _ (by omega) (by omega) (by omega) (by omega) (by omega)) (G _ (by omega) (by omega) (by omega) (by omega) (by omega)) (by rw [eφ, pz_u2, pz_u2, pz_u2, pz_u2, eυ, pz_w2, eτ, pz_u2]; rfl))
    have z0 : φ.1 0 2 = 1 := by rw [f1 0 (by decide) (by decide), u1 0 (by decide), eτ]; rfl
    refine ⟨?_, Or.inr ⟨z0, ?_, ?_, ?_, ?_, ?_, ?_⟩⟩
    · rw [z0, eφ, pz_ua]
    · rw [gk 17 (by omega) (by omega) (by omega) (by omega), cpA_ice]
      refine ⟨fun k hk => ?_, fun k hk => ?_, fun k hk => ?_⟩
      · rw [va_cpy0 _ _ _ _ hk, k79 k (by omega), (zC_ice k hk).1, (zC_ice k hk).2]; exact i1 k hk
      · rw [va_cpy0 _ _ _ _ (by omega)]; exact i2 k hk
      · rw [va_cpy0 _ _ _ _ (by omega)]; exact i3 k hk
    · rw [gk 18 (by omega) (by omega) (by omega) (by omega), cpA_n, k80a, gk 19 (by omega) (by omega) (by omega) (by omega), cpA_lo, gk 20 (by omega) (by omega) (by omega) (by omega), cpA_pa, gk 21 (by omega) (by omega) (by omega) (by omega), cpA_st]
      refine ⟨m, hm, e1, e2, fun k hk => ?_⟩
      dsimp only
      rw [va_cpy0 _ _ _ _ (by omega), va_cpy0 _ _ _ _ (by omega), va_cpy0 _ _ _ _ (by omega), k79 _ (by omega), k79 _ (by omega), k79 _ (by omega), (zC_lo k (by omega)).1, (zC_lo k (by omega)).2, (zC_pa k (by omega)).1, (zC_pa k (by omega)).2, (zC_st k (by omega)).1, (zC_st k (by omega)).2]
      exact it k hk
    · rw [gk 22 (by omega) (by omega) (by omega) (by omega), cpA_wn, k80b, gk 23 (by omega) (by omega) (by omega) (by omega), cpA_w]
      refine ⟨w, hw, w1, w2, fun k hk => ?_⟩
      dsimp only
      rw [va_cpy0 _ _ _ _ (by omega), k79 _ (by omega), (zC_w k (by omega)).1, (zC_w k (by omega)).2]
      exact iw k hk
    · rw [gk 15 (by omega) (by omega) (by omega) (by omega), cpA_s0, k79 _ (by omega), (zC_se 0 (by omega)).1, (zC_se 0 (by omega)).2]; exact s0
    · rw [gk 15 (by omega) (by omega) (by omega) (by omega), cpA_s1, k79 _ (by omega), (zC_se 1 (by omega)).1, (zC_se 1 (by omega)).2]; exact s1
    · rw [gk 24 (by omega) (by omega) (by omega) (by omega), cpA_en, k80c, gk 25 (by omega) (by omega) (by omega) (by omega), cpA_sl, gk 26 (by omega) (by omega) (by omega) (by omega), cpA_hr, gk 27 (by omega) (by omega) (by omega) (by omega), cpA_sq, gk 28 (by omega) (by omega) (by omega) (by omega), cpA_pi]
      refine ⟨fun k hk => ?_, h, hh, h1, h2, fun k hk => ?_⟩
      · dsimp only
        rw [va_cpy0 _ _ _ _ hk, k79 _ (by omega), (zC_sl k hk).1, (zC_sl k hk).2]; exact sl k hk
      · dsimp only
        rw [va_cpy0 _ _ _ _ (by omega), va_cpy0 _ _ _ _ (by omega), va_cpy0 _ _ _ _ (by omega), k79 _ (by omega), k79 _ (by omega), k79 _ (by omega), (zC_h (3 * k) (by omega)).1, (zC_h (3 * k) (by omega)).2, (zC_h (3 * k + 1) (by omega)).1, (zC_h (3 * k + 1) (by omega)).2, (zC_h (3 * k + 2) (by omega)).1, (zC_h (3 * k + 2) (by omega)).2]
        exact ih k hk
