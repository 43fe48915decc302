/-! PURE, 49q: the reference's narrowing -/
def xnR (ψ τ : gs_S) (X Y : Nat → Int) : Prop := (∀ x, ¬ x = 77 → ¬ x = 78 → τ.1 x = ψ.1 x) ∧ τ.2 = ψ.2 ∧ ∀ q, q < 64 → τ.1 77 q = zI (X q) ∧ τ.1 78 q = zI (- Y q) ∧ 1 ≤ X q ∧ X q ≤ 99 ∧ -99 ≤ Y q ∧ Y q ≤ -1
theorem nwD_same {s : Int} {X : Nat → Int} {q v : Nat} (h : X v - s ≤ X q) : nwD s X q v = X := by
  funext x
  by_cases c : v < 64
  · by_cases e : x = q
    · rw [e, nwD_q c]; omega
    · rw [nwD_o e]
  · rw [nwD_n c]
theorem xn_narrow {ψ τ : gs_S} {X Y : Nat → Int} {s : Int} (hs : 0 ≤ s) (hs2 : s ≤ 99) (h69 : ψ.1 69 1 = zI s) {q v : Nat} (hq : q < 64) (hv : v < 64) (h : xnR ψ τ X Y) : ∃ τ', pX11_narrow (nI q) (nI v) τ = some (if X q < X v - s ∨ Y q < Y v - s then 1 else 0, τ') ∧ xnR ψ τ' (nwD s X q v) (nwD s Y q v) := by
  obtain ⟨h1, h2, h3⟩ := id h
  obtain ⟨a1, a2, a3, a4, a5, a6⟩ := h3 q hq
  obtain ⟨b1, b2, b3, b4, b5, b6⟩ := h3 v hv
  have e69 : τ.1 69 (1 : Int32).toNatClampNeg = zI s := by rw [h1 69 (by decide) (by decide)]; exact h69
  have J82 : ∀ (m : Int32) (y : Int), (m = 0 ∨ m = 1) → y = max (X q) (X v - s) → ∃ τ', pX11_narrow_J82 (nI q) τ (zI (- Y v + s)) m (zI y) = some (m, τ') ∧ xnR ψ τ' (nwD s X q v) (nwD s Y q v) := by
    intro m y hm hy
    unfold pX11_narrow_J82
    have e78 : (gs_u τ 77 q (zI y)).1 78 q = zI (- Y q) := by rw [pz_u, if_neg (by decide)]; exact a2
    have fin : ∀ z : Int, z = - max (Y q) (Y v - s) → xnR ψ (gs_u (gs_u τ 77 q (zI y)) 78 q (zI z)) (nwD s X q v) (nwD s Y q v) := fun z hz => by
      refine ⟨fun x x1 x2 => ?_, h2, fun x hx => ?_⟩
      · rw [pz_u, if_neg x2, pz_u, if_neg x1]; exact h1 x x1 x2
      · rw [pz_u, if_neg (by decide), pz_u, if_pos rfl, pz_upd, pz_u, if_pos rfl, pz_upd]
        by_cases e : x = q
        · rw [if_pos e, if_pos e, e, nwD_q hv, nwD_q hv]
          exact ⟨by rw [hy], by rw [hz], by omega, by omega, by omega, by omega⟩
        · rw [if_neg e, if_neg e, nwD_o e, nwD_o e, pz_u, if_neg (by decide)]
          exact h3 x hx
    rw [pz_inN hq (by decide), nI_clamp (show q < 2 ^ 31 by omega), gv_let_p, pz_inN hq (by decide), e78]
    have bo : ∀ k : Option (Int32 × gs_S), gv_bo m k = k := fun k => if_pos hm
    by_cases c : - Y q ≤ - Y v + s
    · rw [if_pos ((zI_le (by omega) (by omega) (by omega) (by omega)).mpr c), pz_inN hq (by decide), pz_inN hq (by decide), gv_let_p, bo]
      exact ⟨_, rfl, fin _ (by omega)⟩
    · rw [if_neg (fun z => c ((zI_le (by omega) (by omega) (by omega) (by omega)).mp z)), pz_inN hq (by decide), gv_let_p, bo]
      exact ⟨_, rfl, fin _ (by omega)⟩
  have J55 : ∀ (m : Int32), (m = 0 ∨ m = 1) → ∃ τ', pX11_narrow_J55 (nI q) (zI (X v - s)) τ (zI (- Y v + s)) m = some (m, τ') ∧ xnR ψ τ' (nwD s X q v) (nwD s Y q v) := by
    intro m hm
    unfold pX11_narrow_J55
    rw [pz_inN hq (by decide), nI_clamp (show q < 2 ^ 31 by omega), a1]
    by_cases c : X v - s ≤ X q
    · rw [if_pos ((zI_le (by omega) (by omega) (by omega) (by omega)).mpr c), pz_inN hq (by decide)]
      exact J82 m _ hm (by omega)
    · rw [if_neg (fun z => c ((zI_le (by omega) (by omega) (by omega) (by omega)).mp z))]
      exact J82 m _ hm (by omega)
  unfold pX11_narrow pX11_narrow_J50
  rw [pz_inN hv (by decide), nI_clamp (show v < 2 ^ 31 by omega), b1, e69, zI_sub, gv_let_p, pz_inN hv (by decide), b2, zI_add, gv_let_p, pz_inN hq (by decide), nI_clamp (show q < 2 ^ 31 by omega), a1]
  by_cases c : X q < X v - s
  · rw [if_pos ((zI_lt (by omega) (by omega) (by omega) (by omega)).mpr c), if_pos (Or.inl c)]
    exact J55 1 (Or.inr rfl)
  · rw [if_neg (fun z => c ((zI_lt (by omega) (by omega) (by omega) (by omega)).mp z)), pz_inN hq (by decide), a2]
    by_cases d : - Y q ≤ - Y v + s
    · rw [if_pos ((zI_le (by omega) (by omega) (by omega) (by omega)).mpr d), if_neg (by omega)]
      exact J55 0 (Or.inl rfl)
    · rw [if_neg (fun z => d ((zI_le (by omega) (by omega) (by omega) (by omega)).mp z)), if_pos (Or.inr (by omega))]
      exact J55 1 (Or.inr rfl)
def xnO (s : Int) (X : Nat → Int) (q k : Nat) : Prop := zNb q k < 64 → X (zNb q k) - s ≤ X q
def xnm (X Y : Nat → Int) (x : Nat) : Nat := (99 - X x).toNat + (- Y x).toNat
def xnP (s : Int) (X0 Y0 X Y : Nat → Int) (more : Int32) (D : Nat → Nat → Prop) : Prop := (more = 0 ∧ X = X0 ∧ Y = Y0 ∧ ∀ q k, D q k → xnO s X q k ∧ xnO s Y q k) ∨ (more = 1 ∧ fb_sm (xnm X Y) 64 < fb_sm (xnm X0 Y0) 64)
def xnM (s : Int) (A X : Nat → Int) : Prop := (∀ q, q < 64 → A q ≤ X q) ∧ ∀ g, (∀ q, q < 64 → A q ≤ g q) → nwC s g → ∀ q, q < 64 → X q ≤ g q
theorem xnM_D {s : Int} {A X : Nat → Int} (h : xnM s A X) {q k : Nat} (hq : q < 64) (hk : k < 4) : xnM s A (nwD s X q (zNb q k)) := ⟨fun x hx => Int.le_trans (h.1 x hx) (nwD_ge x), fun g g1 g2 => nwD_le hq hk (h.2 g g1 g2) g2⟩
theorem xnP_imp {s : Int} {X0 Y0 X Y : Nat → Int} {more : Int32} {D D' : Nat → Nat → Prop} (h : xnP s X0 Y0 X Y more D) (hd : ∀ a b, D' a b → D a b) : xnP s X0 Y0 X Y more D' := by
  rcases h with ⟨p1, p2, p3, p4⟩ | p
  · exact Or.inl ⟨p1, p2, p3, fun q k z => p4 q k (hd q k z)⟩
  · exact Or.inr p
theorem xn_step {ψ τ : gs_S} {A B X0 Y0 X Y : Nat → Int} {s : Int} (hs : 0 ≤ s) (hs2 : s ≤ 99) (h69 : ψ.1 69 1 = zI s) {q k : Nat} {more : Int32} {D : Nat → Nat → Prop} (hq : q < 64) (hk : k < 4) (h : xnR ψ τ X Y) (hA : xnM s A X) (hB : xnM s B Y) (hP : xnP s X0 Y0 X Y more D) : ∃ more' τ' X' Y', pX11_findSpans_L29 (nI q) more (nI k) τ = some (.inl (more', nI (k + 1), τ')) ∧ xnR ψ τ' X' Y' ∧ xnM s A X' ∧ xnM s B Y' ∧ xnP s X0 Y0 X' Y' more' (fun a b => D a b ∨ (a = q ∧ b = k)) := by
  have m01 : more = 0 ∨ more = 1 := by rcases hP with p | p; exact Or.inl p.1; exact Or.inr p.1
  have J58 : ∀ ρ, pX11_findSpans_J58 more (nI k) ρ = some (.inl (more, nI (k + 1), ρ)) := fun ρ => by
    unfold pX11_findSpans_J58 pX11_findSpans_J62
    rcases m01 with z | z
    · rw [if_pos z, gv_let_p, nI_1, z]
    · rw [if_neg (by rw [z]; decide), gv_let_p, nI_1, z]
  have J62 : ∀ ρ, pX11_findSpans_J62 (nI k) ρ = some (.inl (1, nI (k + 1), ρ)) := fun ρ => by
    unfold pX11_findSpans_J62
    rw [gv_let_p, nI_1]
  unfold pX11_findSpans_L29
  rw [if_neg (show ¬ (4 : Int32) ≤ nI k from nI_ge (b := 4) hk (by decide)), (zNb_x q hq k hk).1]
  by_cases v : zNb q k < 64
  rotate_left
  · rw [if_neg v, gv_let_p, if_pos (by decide), J58]
    refine ⟨more, τ, X, Y, rfl, h, hA, hB, ?_⟩
    rcases hP with ⟨p1, p2, p3, p4⟩ | p
    · refine Or.inl ⟨p1, p2, p3, fun a b d => ?_⟩
      rcases d with d | ⟨rfl, rfl⟩
      · exact p4 a b d
      · exact ⟨fun z => absurd z v, fun z => absurd z v⟩
    · exact Or.inr p
  obtain ⟨τ', t1, t2⟩ := xn_narrow hs hs2 h69 hq v h
  rw [if_pos v, gv_let_p, if_neg (nI_pos (by omega)), t1, gv_bind2_some, J58, J62]
  by_cases c : X q < X (zNb q k) - s ∨ Y q < Y (zNb q k) - s
  · rw [if_pos c, if_neg (by decide)]
    refine ⟨1, τ', _, _, rfl, t2, xnM_D hA hq hk, xnM_D hB hq hk, Or.inr ⟨rfl, ?_⟩⟩
    obtain ⟨a1, a2, a3, a4, a5, a6⟩ := h.2.2 q hq
    obtain ⟨b1, b2, b3, b4, b5, b6⟩ := h.2.2 _ v
    have e : xnm (nwD s X q (zNb q k)) (nwD s Y q (zNb q k)) = fun x => if x = q then (99 - max (X q) (X (zNb q k) - s)).toNat + (- max (Y q) (Y (zNb q k) - s)).toNat else xnm X Y x := by
      funext x
      unfold xnm
      by_cases z : x = q
      · rw [if_pos z, z, nwD_q v, nwD_q v]
      · rw [if_neg z, nwD_o z, nwD_o z]
    have u := fb_sm_upd (xnm X Y) ((99 - max (X q) (X (zNb q k) - s)).toNat + (- max (Y q) (Y (zNb q k) - s)).toNat) (i := q) (n := 64) hq
    have m : (99 - max (X q) (X (zNb q k) - s)).toNat + (- max (Y q) (Y (zNb q k) - s)).toNat < xnm X Y q := by unfold xnm; omega
    rw [e]
    rcases hP with ⟨p1, p2, p3, p4⟩ | ⟨p1, p2⟩
    · rw [← p2, ← p3]; omega
    · omega
  · have c1 : X (zNb q k) - s ≤ X q := by omega
    have c2 : Y (zNb q k) - s ≤ Y q := by omega
    rw [if_neg c, if_pos rfl]
    rw [nwD_same c1, nwD_same c2] at t2
    refine ⟨more, τ', X, Y, rfl, t2, hA, hB, ?_⟩
    rcases hP with ⟨p1, p2, p3, p4⟩ | p
    · refine Or.inl ⟨p1, p2, p3, fun a b d => ?_⟩
      rcases d with d | ⟨rfl, rfl⟩
      · exact p4 a b d
      · exact ⟨fun _ => c1, fun _ => c2⟩
    · exact Or.inr p
theorem xn_sides {ψ τ : gs_S} {A B X0 Y0 X Y : Nat → Int} {s : Int} (hs : 0 ≤ s) (hs2 : s ≤ 99) (h69 : ψ.1 69 1 = zI s) {q : Nat} {more : Int32} (hq : q < 64) (h : xnR ψ τ X Y) (hA : xnM s A X) (hB : xnM s B Y) (hP : xnP s X0 Y0 X Y more (fun a b => a < q ∧ b < 4)) : ∃ more' τ' X' Y', gv_loop (fun x : Int32 × Int32 × gs_S => pX11_findSpans_L29 (nI q) x.1 x.2.1 x.2.2) gv_N (more, (0 : Int32), τ) = some (more', nI 4, τ') ∧ xnR ψ τ' X' Y' ∧ xnM s A X' ∧ xnM s B Y' ∧ xnP s X0 Y0 X' Y' more' (fun a b => a < q + 1 ∧ b < 4) := by
  have L := gv_rel (fun x : Int32 × Int32 × gs_S => pX11_findSpans_L29 (nI q) x.1 x.2.1 x.2.2) (fun k x => x.2.1 = nI k ∧ ∃ X' Y', xnR ψ x.2.2 X' Y' ∧ xnM s A X' ∧ xnM s B Y' ∧ xnP s X0 Y0 X' Y' x.1 (fun a b => (a < q ∧ b < 4) ∨ (a = q ∧ b < k))) 4 gv_N (gv_N_lt (by decide)) (fun x => x.2.1 = nI 4 ∧ ∃ X' Y', xnR ψ x.2.2 X' Y' ∧ xnM s A X' ∧ xnM s B Y' ∧ xnP s X0 Y0 X' Y' x.1 (fun a b => a < q + 1 ∧ b < 4)) ?_ ?_ (more, (0 : Int32), τ) ⟨rfl, X, Y, h, hA, hB, xnP_imp hP (fun a b z => by omega)⟩
  · obtain ⟨⟨m, n, τ'⟩, l1, l2, X', Y', l3, l4, l5, l6⟩ := L
    dsimp only at l2 l3 l6
    subst l2
    exact ⟨m, τ', X', Y', l1, l3, l4, l5, l6⟩
  · rintro k ⟨m, n, ρ⟩ hk ⟨r1, X', Y', r2, r3, r4, r5⟩
    dsimp only at r1 r2 r5 ⊢
    subst r1
    obtain ⟨m', τ', X2, Y2, t1, t2, t3, t4, t5⟩ := xn_step hs hs2 h69 hq hk r2 r3 r4 r5
    exact ⟨_, t1, rfl, X2, Y2, t2, t3, t4, xnP_imp t5 (fun a b z => by omega)⟩
  · rintro ⟨m, n, ρ⟩ ⟨r1, X', Y', r2, r3, r4, r5⟩
    dsimp only at r1 r2 r5 ⊢
    subst r1
    unfold pX11_findSpans_L29
    rw [if_pos (by decide)]
    exact ⟨_, rfl, rfl, X', Y', r2, r3, r4, xnP_imp r5 (fun a b z => by omega)⟩
theorem xn_pass {ψ τ : gs_S} {A B X Y : Nat → Int} {s : Int} (hs : 0 ≤ s) (hs2 : s ≤ 99) (h69 : ψ.1 69 1 = zI s) (h : xnR ψ τ X Y) (hA : xnM s A X) (hB : xnM s B Y) : ∃ more' τ' X' Y', gv_loop (fun x : Int32 × Int32 × gs_S => pX11_findSpans_L20 x.1 x.2.1 x.2.2) gv_N ((0 : Int32), (0 : Int32), τ) = some (more', nI 64, τ') ∧ xnR ψ τ' X' Y' ∧ xnM s A X' ∧ xnM s B Y' ∧ xnP s X Y X' Y' more' (fun a b => a < 64 ∧ b < 4) := by
  have L := gv_rel (fun x : Int32 × Int32 × gs_S => pX11_findSpans_L20 x.1 x.2.1 x.2.2) (fun q x => x.2.1 = nI q ∧ ∃ X' Y', xnR ψ x.2.2 X' Y' ∧ xnM s A X' ∧ xnM s B Y' ∧ xnP s X Y X' Y' x.1 (fun a b => a < q ∧ b < 4)) 64 gv_N (gv_N_lt (by decide)) (fun x => x.2.1 = nI 64 ∧ ∃ X' Y', xnR ψ x.2.2 X' Y' ∧ xnM s A X' ∧ xnM s B Y' ∧ xnP s X Y X' Y' x.1 (fun a b => a < 64 ∧ b < 4)) ?_ ?_ ((0 : Int32), (0 : Int32), τ) ⟨rfl, X, Y, h, hA, hB, Or.inl ⟨rfl, rfl, rfl, fun a b z => absurd z.1 (by omega)⟩⟩
  · obtain ⟨⟨m, n, τ'⟩, l1, l2, X', Y', l3, l4, l5, l6⟩ := L
    dsimp only at l2 l3 l6
    subst l2
    exact ⟨m, τ', X', Y', l1, l3, l4, l5, l6⟩
  · rintro k ⟨m, n, ρ⟩ hk ⟨r1, X', Y', r2, r3, r4, r5⟩
    dsimp only at r1 r2 r5 ⊢
    subst r1
    unfold pX11_findSpans_L20
    obtain ⟨m', τ', X2, Y2, t1, t2, t3, t4, t5⟩ := xn_sides hs hs2 h69 hk r2 r3 r4 r5
    rw [if_neg (show ¬ (64 : Int32) ≤ nI k from nI_ge (b := 64) hk (by decide)), t1, gv_bind_some, gv_let_p, gv_let_p, gv_let_p, gv_let_p, nI_1]
    exact ⟨_, rfl, rfl, X2, Y2, t2, t3, t4, t5⟩
  · rintro ⟨m, n, ρ⟩ ⟨r1, X', Y', r2, r3, r4, r5⟩
    dsimp only at r1 r2 r5 ⊢
    subst r1
    unfold pX11_findSpans_L20
    rw [if_pos (by decide)]
    exact ⟨_, rfl, rfl, X', Y', r2, r3, r4, r5⟩
theorem xn_all {ψ : gs_S} {A B : Nat → Int} {s : Int} (hs : 0 ≤ s) (hs2 : s ≤ 99) (h69 : ψ.1 69 1 = zI s) (h : xnR ψ ψ A B) : ∃ more' τ' X Y, gv_loop (fun x : Int32 × gs_S => pX11_findSpans_L12 x.1 x.2) gv_N ((1 : Int32), ψ) = some (more', τ') ∧ xnR ψ τ' X Y ∧ nwN s A X ∧ nwN s B Y := by
  have sumE : ∀ (ρ : gs_S) (X Y : Nat → Int), xnR ψ ρ X Y → fb_sm (fun q => (99 - (ρ.1 77 q).toInt).toNat + ((ρ.1 78 q).toInt).toNat) 64 = fb_sm (xnm X Y) 64 := fun ρ X Y r => fb_sm_cong (fun q hq => by
    obtain ⟨a1, a2, a3, a4, a5, a6⟩ := r.2.2 q hq
    rw [a1, a2, zI_t (by omega) (by omega), zI_t (by omega) (by omega)]; rfl)
  have L := gv_wh (fun x : Int32 × gs_S => pX11_findSpans_L12 x.1 x.2) (fun x => ∃ X Y, xnR ψ x.2 X Y ∧ xnM s A X ∧ xnM s B Y ∧ (x.1 = 1 ∨ (x.1 = 0 ∧ ∀ q k, q < 64 ∧ k < 4 → xnO s X q k ∧ xnO s Y q k))) (fun x => fb_sm (fun q => (99 - (x.2.1 77 q).toInt).toNat + ((x.2.1 78 q).toInt).toNat) 64 + (if x.1 = 1 then 1 else 0)) (fun x => ∃ X Y, xnR ψ x.2 X Y ∧ xnM s A X ∧ xnM s B Y ∧ ∀ q k, q < 64 ∧ k < 4 → xnO s X q k ∧ xnO s Y q k) ?_ gv_N ((1 : Int32), ψ) ⟨A, B, h, ⟨fun _ _ => Int.le_refl _, fun g g1 _ => g1⟩, ⟨fun _ _ => Int.le_refl _, fun g g1 _ => g1⟩, Or.inl rfl⟩ ?_
  · obtain ⟨⟨m, τ'⟩, l1, X, Y, l2, l3, l4, l5⟩ := L
    exact ⟨m, τ', X, Y, l1, l2, ⟨l3.1, fun u u1 k k1 k2 => (l5 u k ⟨u1, k1⟩).1 k2, l3.2⟩, ⟨l4.1, fun u u1 k k1 k2 => (l5 u k ⟨u1, k1⟩).2 k2, l4.2⟩⟩
  · rintro ⟨m, ρ⟩ ⟨X, Y, r1, r2, r3, r4⟩
    dsimp only at r1 r4 ⊢
    unfold pX11_findSpans_L12
    rcases r4 with rfl | ⟨rfl, r4⟩
    · left
      obtain ⟨m', τ', X2, Y2, t1, t2, t3, t4, t5⟩ := xn_pass hs hs2 h69 r1 r2 r3
      rw [if_neg (by decide), t1, gv_bind_some, gv_let_p, gv_let_p, gv_let_p, sumE _ _ _ r1, if_pos rfl]
      rcases t5 with ⟨p1, p2, p3, p4⟩ | ⟨p1, p2⟩
      · refine ⟨_, rfl, ⟨X2, Y2, t2, t3, t4, Or.inr ⟨p1, p4⟩⟩, ?_⟩
        dsimp only
        rw [sumE _ _ _ t2, p1, if_neg (by decide), p2, p3]
        omega
      · refine ⟨_, rfl, ⟨X2, Y2, t2, t3, t4, Or.inl p1⟩, ?_⟩
        dsimp only
        rw [sumE _ _ _ t2, p1, if_pos rfl]
        omega
    · right
      rw [if_pos rfl]
      exact ⟨_, rfl, X, Y, r1, r2, r3, r4⟩
  · dsimp only
    rw [sumE _ _ _ h, if_pos rfl]
    have := fb_sm_bound (f := xnm A B) (c := 200) (n := 64) (fun q hq => by
      obtain ⟨a1, a2, a3, a4, a5, a6⟩ := h.2.2 q hq
      unfold xnm
      omega)
    show _ < 100000
    omega
theorem xn_are {ψ τ : gs_S} {X Y : Nat → Int} (h : xnR ψ τ X Y) : ∃ r : Int32, (r = 0 ∨ r = 1) ∧ (r = 1 ↔ ∀ q, q < 64 → X q ≤ - Y q) ∧ gv_loop (fun q : Int32 × Int32 => pX11_findSpans_L88 τ q.1 q.2) gv_N ((1 : Int32), (0 : Int32)) = some (r, nI 64) := by
  have L := gv_rel (fun q : Int32 × Int32 => pX11_findSpans_L88 τ q.1 q.2) (fun k q => q.2 = nI k ∧ (q.1 = 0 ∨ q.1 = 1) ∧ (q.1 = 1 ↔ ∀ j, j < k → X j ≤ - Y j)) 64 gv_N (gv_N_lt (by decide)) (fun q => q.2 = nI 64 ∧ (q.1 = 0 ∨ q.1 = 1) ∧ (q.1 = 1 ↔ ∀ j, j < 64 → X j ≤ - Y j)) ?_ ?_ ((1 : Int32), (0 : Int32)) ⟨rfl, Or.inr rfl, ⟨fun _ j hj => absurd hj (by omega), fun _ => rfl⟩⟩
  · obtain ⟨⟨r, n⟩, l1, l2, l3, l4⟩ := L
    dsimp only at l2 l3 l4
    subst l2
    exact ⟨r, l3, l4, l1⟩
  · rintro k ⟨r, n⟩ hk ⟨r1, r2, r3⟩
    dsimp only at r1 r2 r3 ⊢
    subst r1
    unfold pX11_findSpans_L88
    obtain ⟨a1, a2, a3, a4, a5, a6⟩ := h.2.2 k hk
    rw [if_neg (show ¬ (64 : Int32) ≤ nI k from nI_ge (b := 64) hk (by decide))]
    rcases r2 with z | z
    · rw [if_pos z, gv_let_p, nI_1]
      refine ⟨_, rfl, rfl, Or.inl rfl, ⟨fun y => absurd y (by dsimp only; decide), fun y => ?_⟩⟩
      have := r3.mpr (fun j hj => y j (by omega))
      rw [z] at this
      exact absurd this (by decide)
    · rw [if_neg (by rw [z]; decide), pz_inN hk (by decide), pz_inN hk (by decide), nI_clamp (by omega), a1, a2]
      have r4 := r3.mp z
      by_cases c : - Y k < X k
      · rw [if_pos ((zI_lt (by omega) (by omega) (by omega) (by omega)).mpr c), gv_let_p, nI_1]
        refine ⟨_, rfl, rfl, Or.inl rfl, ⟨fun y => absurd y (by dsimp only; decide), fun y => ?_⟩⟩
        have := y k (by omega)
        omega
      · rw [if_neg (fun y => c ((zI_lt (by omega) (by omega) (by omega) (by omega)).mp y)), gv_let_p, nI_1]
        refine ⟨_, rfl, rfl, Or.inr rfl, ⟨fun _ j hj => ?_, fun _ => rfl⟩⟩
        by_cases e : j = k
        · rw [e]; omega
        · exact r4 j (by omega)
  · rintro ⟨r, n⟩ ⟨r1, r2, r3⟩
    dsimp only at r1 r2 r3 ⊢
    subst r1
    unfold pX11_findSpans_L88
    rw [if_pos (by decide)]
    exact ⟨_, rfl, rfl, r2, r3⟩
