/-! PURE, 49w: ice as a text, the reference's; ice -/
theorem pz_kindBy {σ : gs_S} {T : Nat → Nat} {n : Nat} (h : xtp σ T n) (p : Nat) : pX11_kindBy (zSi T n p) = nI (kdT T n p) := by
  unfold pX11_kindBy kdT
  have e : ∀ x : Nat, x < 1000 → (zSi T n p = nI x ↔ (p < n ∧ T p = x)) := fun x hx => xSi_eq h p hx
  rw [show (108 : Int32) = nI 108 from rfl, show (99 : Int32) = nI 99 from rfl, show (111 : Int32) = nI 111 from rfl, show (101 : Int32) = nI 101 from rfl]
  by_cases a : p < n ∧ T p = 108
  · rw [if_pos ((e 108 (by decide)).mpr a), if_pos a]; rfl
  · rw [if_neg (fun z => a ((e 108 (by decide)).mp z)), if_neg a]
    by_cases b : p < n ∧ T p = 99
    · rw [if_pos ((e 99 (by decide)).mpr b), if_pos b]; rfl
    · rw [if_neg (fun z => b ((e 99 (by decide)).mp z)), if_neg b]
      by_cases c : p < n ∧ T p = 111
      · rw [if_pos ((e 111 (by decide)).mpr c), if_pos c]; rfl
      · rw [if_neg (fun z => c ((e 111 (by decide)).mp z)), if_neg c]
        by_cases d : p < n ∧ T p = 101
        · rw [if_pos ((e 101 (by decide)).mpr d), if_pos d]; rfl
        · rw [if_neg (fun z => d ((e 101 (by decide)).mp z)), if_neg d]; rfl
def xR (τ : gs_S) (G : Nat → Int) : Prop := ∀ q, q < 64 → τ.1 73 q = zI (G q)
def xF (σ τ : gs_S) : Prop := (∀ x, ¬ x = 73 → τ.1 x = σ.1 x) ∧ τ.2 = σ.2
theorem xtp_F {σ τ : gs_S} {T : Nat → Nat} {n : Nat} (h : xtp σ T n) (f : xF σ τ) : xtp τ T n := ⟨h.1, by rw [f.1 63 (by decide)]; exact h.2.1, fun k hk => by rw [f.1 72 (by decide)]; exact h.2.2 k hk⟩
theorem pz_xrow {T : Nat → Nat} {n row : Nat} (hr : row < 8) : ∀ f (S : rS) (τ : gs_S) (p0 N : Nat), S.1 + f = 8 → f < N → xtp τ T n → p0 ≤ n → zSk T n p0 = S.2.1 → xR τ S.2.2 → ∃ τ' p1, gv_loop (fun q : Int32 × gs_S => pX11_readRow_L2 (nI row) q.1 q.2) N (nI S.1, xa τ p0) = some (nI (rwN T n row f S).1, xa τ' p1) ∧ p1 ≤ n ∧ zSk T n p1 = (rwN T n row f S).2.1 ∧ ((rwN T n row f S).1 < 8 → p1 = (rwN T n row f S).2.1) ∧ xF τ τ' ∧ xR τ' (rwN T n row f S).2.2 := by
  intro f
  induction f with
  | zero =>
    intro S τ p0 N h1 hN ht hp hz hR
    obtain ⟨M, rfl⟩ : ∃ M, N = M + 1 := ⟨N - 1, by omega⟩
    refine ⟨τ, p0, gv_loop_x _ M _ _ ?_, hp, hz, fun z => absurd (show S.1 < 8 from z) (by omega), ⟨fun _ _ => rfl, rfl⟩, hR⟩
    dsimp only
    unfold pX11_readRow_L2
    rw [if_pos (show (8 : Int32) ≤ nI S.1 from nI_le (a := 8) (by omega) (by omega))]
    rfl
  | succ f ih =>
    intro S τ p0 N h1 hN ht hp hz hR
    obtain ⟨M, rfl⟩ : ∃ M, N = M + 1 := ⟨N - 1, by omega⟩
    obtain ⟨c, p, G⟩ := S
    dsimp only at h1 hz hR ⊢
    obtain ⟨y1, y2, y3, y4⟩ := zSk_b (T := T) hp
    rw [hz] at y1 y2 y3 y4
    have e8 : ¬ (8 : Int32) ≤ nI c := nI_ge (b := 8) (by omega) (by decide)
    have dg : (pX11_in (zSi T n p).toInt64 48 57 = 0) ↔ ¬ (p < n ∧ 48 ≤ T p ∧ T p ≤ 57) := by
      rw [pz_x11, show (48 : Int64).toInt = (48 : Nat) from rfl, show (57 : Int64).toInt = (57 : Nat) from rfl, xSi_in ht p (by omega) (by omega)]
    by_cases z : p < n ∧ 48 ≤ T p ∧ T p ≤ 57
    · have eN : rwN T n row (f + 1) (c, p, G) = rwN T n row f (rwS T n row (c, p, G)) := if_pos z
      rw [eN]
      have idx : (8 : Int32) * nI row + nI c = nI (8 * row + c) := by
        rw [show (8 : Int32) = nI 8 from rfl, nI_mul, nI_add]
      obtain ⟨b1, b2, b3, b4⟩ := zSk_b (T := T) (show p + 1 ≤ n by omega)
      obtain ⟨q, eq⟩ : ∃ q, q = zSk T n (p + 1) := ⟨_, rfl⟩
      rw [← eq] at b1 b2 b3 b4
      obtain ⟨kl, kn⟩ := kdT_le T n q
      obtain ⟨φ, eφ⟩ : ∃ φ, φ = gs_u τ 73 (8 * row + c) (nI (5 * (10 * (T p - 48)) + kdT T n q)) := ⟨_, rfl⟩
      have tφ : xtp φ T n := by rw [eφ]; exact xtp_u ht _ _ _ (Or.inl (by decide)) (by decide)
      have J : ∀ x, pX11_readRow_J70 (xa τ q) (nI row) (nI c) (nI (10 * (T p - 48))) (nI (kdT T n q)) (nI x) = some (.inl (nI (c + 1), xa φ (q + x))) := fun x => by
        unfold pX11_readRow_J70
        rw [xa_13, nI_add, xa_xa, gv_let_p, idx, pz_inN (by omega) (by decide), nI_clamp (by omega), show (5 : Int32) = nI 5 from rfl, nI_mul, nI_add, xa_u _ _ _ _ _ (Or.inl (by decide)), gv_let_p, gv_let_p, nI_1, ← eφ]
      have step : pX11_readRow_L2 (nI row) (nI c) (xa τ p0) = some (.inl (nI (c + 1), xa φ (if kdT T n q = 0 then q else q + 1))) := by
        unfold pX11_readRow_L2
        rw [if_neg e8, pz_next0 ht hp, gv_bind2_some, hz, if_neg (fun y => (dg.mp y) z), pz_next0 ht y2, gv_bind2_some, y4, show zSi T n p = nI (T p) from if_pos z.1, show (48 : Int32) = nI 48 from rfl, nI_sub z.2.1, show (10 : Int32) = nI 10 from rfl, nI_mul, gv_let_p, xa_13, nI_1, xa_xa, gv_let_p, pz_next0 ht (show p + 1 ≤ n by omega), gv_bind2_some, ← eq, pz_kindBy ht q, gv_let_p]
        by_cases k0 : kdT T n q = 0
        · rw [if_pos (by rw [k0]; decide), if_pos k0]
          exact J 0
        · rw [if_neg (nI_nle (by omega) (by omega)), if_neg k0]
          exact J 1
      have zz : zSk T n (if kdT T n q = 0 then q else q + 1) = kpT T n q := by
        unfold kpT
        by_cases k0 : kdT T n q = 0
        · rw [if_pos k0, if_pos k0]; exact b4
        · rw [if_neg k0, if_neg k0]
      have zl : (if kdT T n q = 0 then q else q + 1) ≤ n := by
        by_cases k0 : kdT T n q = 0
        · rw [if_pos k0]; exact b2
        · rw [if_neg k0]; have := kn k0; omega
      obtain ⟨τ', p1, t1, t2, t3, t4, t5, t6⟩ := ih (rwS T n row (c, p, G)) φ (if kdT T n q = 0 then q else q + 1) M (by show c + 1 + f = 8; omega) (by omega) tφ zl (by rw [zz, eq]; rfl) (by
        intro x hx
        rw [eφ, pz_u, if_pos rfl, pz_upd]
        show _ = zI (if x = 8 * row + c then ((5 * (10 * (T p - 48)) + kdT T n (zSk T n (p + 1)) : Nat) : Int) else G x)
        by_cases e : x = 8 * row + c
        · rw [if_pos e, if_pos e, zI_n, eq]
        · rw [if_neg e, if_neg e]; exact hR x hx)
      refine ⟨τ', p1, ?_, t2, t3, t4, ⟨fun x hx => ?_, ?_⟩, t6⟩
      · rw [gv_loop_s _ M _ _ step]; exact t1
      · rw [t5.1 x hx, eφ, pz_u, if_neg hx]
      · rw [t5.2, eφ, pz_u2]
    · have eN : rwN T n row (f + 1) (c, p, G) = (c, p, G) := if_neg z
      rw [eN]
      refine ⟨τ, p, gv_loop_x _ M _ _ ?_, y2, y4, fun _ => rfl, ⟨fun _ _ => rfl, rfl⟩, hR⟩
      dsimp only
      unfold pX11_readRow_L2
      rw [if_neg e8, pz_next0 ht hp, gv_bind2_some, hz, if_pos (dg.mpr z)]
def xF2 (σ τ : gs_S) : Prop := (∀ x, ¬ x = 63 → ¬ x = 73 → τ.1 x = σ.1 x) ∧ (∀ i, ¬ i = 13 → ¬ i = 14 → τ.1 63 i = σ.1 63 i) ∧ τ.2 = σ.2
theorem xtp_F2 {σ τ : gs_S} {T : Nat → Nat} {n : Nat} (h : xtp σ T n) (f : xF2 σ τ) : xtp τ T n := ⟨h.1, by rw [f.2.1 12 (by decide) (by decide)]; exact h.2.1, fun k hk => by rw [f.1 72 (by decide) (by decide)]; exact h.2.2 k hk⟩
theorem xF2_tr {σ τ υ : gs_S} (a : xF2 σ τ) (b : xF2 τ υ) : xF2 σ υ := ⟨fun x x1 x2 => by rw [b.1 x x1 x2, a.1 x x1 x2], fun i i1 i2 => by rw [b.2.1 i i1 i2, a.2.1 i i1 i2], by rw [b.2.2, a.2.2]⟩
theorem pz_xreadIce {T : Nat → Nat} {n : Nat} (hT : ∀ k, k < n → 32 ≤ T k ∧ T k ≤ 126) : ∀ f row told p G (τ : gs_S) (p0 N : Nat), row + f = 7 → f + 1 < N → xtp τ T n → p0 ≤ n → zSk T n p0 = p → gOk G → xR τ G → τ.1 63 14 = nI told → told + 8 * (f + 1) ≤ 100 → ∃ τ', gv_loop (fun q : Int32 × gs_S => pX11_readIce_L33 q.1 q.2) N (nI row, xa τ p0) = some (.inr (if (icN T n (f + 1) row told p G).1 = true then 1 else 0, xa τ' (icN T n (f + 1) row told p G).2.2.1)) ∧ τ'.1 63 14 = nI (icN T n (f + 1) row told p G).2.1 ∧ xF2 τ τ' ∧ xR τ' (icN T n (f + 1) row told p G).2.2.2 := by
  intro f
  induction f with
  | zero =>
    intro row told p G τ p0 N h1 hN ht hp hz hG hR h14 hto
    obtain ⟨M, rfl⟩ : ∃ M, N = M + 1 := ⟨N - 1, by omega⟩
    obtain ⟨y1, y2, y3, y4⟩ := zSk_b (T := T) hp
    rw [hz] at y1 y2 y3 y4
    obtain ⟨b1, b2, b3, b4, b5⟩ := rwN_b (row := row) hT 8 (0, p, G) y2 y4 hG
    obtain ⟨φ, p1, r1, r2, r3, r4, r5, r6⟩ := pz_xrow (show row < 8 by omega) 8 (0, p, G) τ p0 gv_N (by omega) (gv_N_lt (by decide)) ht hp hz hR
    unfold icN
    generalize rwN T n row 8 (0, p, G) = S at *
    dsimp only at b4 b5 r1
    obtain ⟨ψ, eψ⟩ : ∃ ψ, ψ = gs_u φ 63 14 (nI (told + S.1)) := ⟨_, rfl⟩
    have fψ : xF2 τ ψ := ⟨fun x x1 x2 => by rw [eψ, pz_u, if_neg x1, r5.1 x x2], fun i i1 i2 => by rw [eψ, pz_u, if_pos rfl, pz_upd, if_neg i2, r5.1 63 (by decide)], by rw [eψ, pz_u2, r5.2]⟩
    have tψ := xtp_F2 ht fψ
    have Rψ : xR ψ S.2.2 := fun q hq => by rw [eψ, pz_u, if_neg (by decide)]; exact r6 q hq
    have e14 : ψ.1 63 14 = nI (told + S.1) := by rw [eψ, pz_ua]
    have rr : pX11_readRow (nI row) (xa τ p0) = some (if S.1 = 0 then 0 else 1, xa ψ p1) := by
      unfold pX11_readRow
      have r1' : gv_loop (fun q : Int32 × gs_S => pX11_readRow_L2 (nI row) q.1 q.2) gv_N ((0 : Int32), xa τ p0) = some (nI S.1, xa φ p1) := r1
      rw [r1', gv_bind_some, gv_let_p, gv_let_p]
      dsimp only
      rw [xa_i _ _ _ (by decide), r5.1 63 (by decide), h14, nI_add, xa_u _ _ _ _ _ (Or.inr (by decide)), ← eψ, gv_let_p]
      by_cases c : S.1 = 0
      · rw [if_pos (by rw [c]; decide), if_pos c]
      · rw [if_neg (nI_nle (by omega) (by omega)), if_neg c]
    have go : ∀ e, pX11_readIce_L33 (nI row) (xa τ p0) = some (.inr e) → gv_loop (fun q : Int32 × gs_S => pX11_readIce_L33 q.1 q.2) (M + 1) (nI row, xa τ p0) = some e := fun e he => gv_loop_x _ M _ _ he
    have h8 : ¬ (8 : Int32) ≤ nI row := nI_ge (b := 8) (by omega) (by decide)
    by_cases c1 : S.1 = 0
    · rw [if_pos c1]
      refine ⟨ψ, go _ ?_, e14, fψ, Rψ⟩
      unfold pX11_readIce_L33
      rw [if_neg h8, rr, if_pos c1, gv_bind2_some, if_pos rfl, r4 (by omega)]
      rfl
    · rw [if_neg c1]
      rw [if_neg c1] at rr
      by_cases c2 : ¬ S.2.1 < n
      · rw [if_pos c2]
        refine ⟨ψ, go _ ?_, e14, fψ, Rψ⟩
        unfold pX11_readIce_L33
        rw [if_neg h8, rr, gv_bind2_some, if_neg (by decide), pz_next0 tψ r2, gv_bind2_some, r3, if_neg (fun y => c2 ((xSi_0 tψ _).mp y))]
        rfl
      · rw [if_neg c2]
        have c3 : row = 7 ∨ ¬ T S.2.1 = 47 := Or.inl (by omega)
        rw [if_pos c3]
        refine ⟨ψ, go _ ?_, e14, fψ, Rψ⟩
        unfold pX11_readIce_L33
        rw [if_neg h8, rr, gv_bind2_some, if_neg (by decide), pz_next0 tψ r2, gv_bind2_some, r3, if_pos ((xSi_0 tψ _).mpr (by omega)), show (47 : Int32) = nI 47 from rfl]
        by_cases k : zSi T n S.2.1 = nI 47
        · rw [if_pos k, if_pos (show nI row = (7 : Int32) by rw [show row = 7 by omega]; rfl)]
          rfl
        · rw [if_neg k]
          rfl
  | succ f ih =>
    intro row told p G τ p0 N h1 hN ht hp hz hG hR h14 hto
    obtain ⟨M, rfl⟩ : ∃ M, N = M + 1 := ⟨N - 1, by omega⟩
    obtain ⟨y1, y2, y3, y4⟩ := zSk_b (T := T) hp
    rw [hz] at y1 y2 y3 y4
    obtain ⟨b1, b2, b3, b4, b5⟩ := rwN_b (row := row) hT 8 (0, p, G) y2 y4 hG
    obtain ⟨φ, p1, r1, r2, r3, r4, r5, r6⟩ := pz_xrow (show row < 8 by omega) 8 (0, p, G) τ p0 gv_N (by omega) (gv_N_lt (by decide)) ht hp hz hR
    have eI : icN T n (f + 1 + 1) row told p G = (if (rwN T n row 8 (0, p, G)).1 = 0 then (false, told + (rwN T n row 8 (0, p, G)).1, (rwN T n row 8 (0, p, G)).2.1, (rwN T n row 8 (0, p, G)).2.2) else if ¬ (rwN T n row 8 (0, p, G)).2.1 < n then (true, told + (rwN T n row 8 (0, p, G)).1, (rwN T n row 8 (0, p, G)).2.1, (rwN T n row 8 (0, p, G)).2.2) else if row = 7 ∨ ¬ T (rwN T n row 8 (0, p, G)).2.1 = 47 then (false, told + (rwN T n row 8 (0, p, G)).1, (rwN T n row 8 (0, p, G)).2.1, (rwN T n row 8 (0, p, G)).2.2) else icN T n (f + 1) (row + 1) (told + (rwN T n row 8 (0, p, G)).1) (zSk T n ((rwN T n row 8 (0, p, G)).2.1 + 1)) (rwN T n row 8 (0, p, G)).2.2) := rfl
    rw [eI]
    generalize rwN T n row 8 (0, p, G) = S at *
    dsimp only at b4 b5 r1
    obtain ⟨ψ, eψ⟩ : ∃ ψ, ψ = gs_u φ 63 14 (nI (told + S.1)) := ⟨_, rfl⟩
    have fψ : xF2 τ ψ := ⟨fun x x1 x2 => by rw [eψ, pz_u, if_neg x1, r5.1 x x2], fun i i1 i2 => by rw [eψ, pz_u, if_pos rfl, pz_upd, if_neg i2, r5.1 63 (by decide)], by rw [eψ, pz_u2, r5.2]⟩
    have tψ := xtp_F2 ht fψ
    have Rψ : xR ψ S.2.2 := fun q hq => by rw [eψ, pz_u, if_neg (by decide)]; exact r6 q hq
    have e14 : ψ.1 63 14 = nI (told + S.1) := by rw [eψ, pz_ua]
    have rr : pX11_readRow (nI row) (xa τ p0) = some (if S.1 = 0 then 0 else 1, xa ψ p1) := by
      unfold pX11_readRow
      have r1' : gv_loop (fun q : Int32 × gs_S => pX11_readRow_L2 (nI row) q.1 q.2) gv_N ((0 : Int32), xa τ p0) = some (nI S.1, xa φ p1) := r1
      rw [r1', gv_bind_some, gv_let_p, gv_let_p]
      dsimp only
      rw [xa_i _ _ _ (by decide), r5.1 63 (by decide), h14, nI_add, xa_u _ _ _ _ _ (Or.inr (by decide)), ← eψ, gv_let_p]
      by_cases c : S.1 = 0
      · rw [if_pos (by rw [c]; decide), if_pos c]
      · rw [if_neg (nI_nle (by omega) (by omega)), if_neg c]
    have go : ∀ e, pX11_readIce_L33 (nI row) (xa τ p0) = some (.inr e) → gv_loop (fun q : Int32 × gs_S => pX11_readIce_L33 q.1 q.2) (M + 1) (nI row, xa τ p0) = some e := fun e he => gv_loop_x _ M _ _ he
    have h8 : ¬ (8 : Int32) ≤ nI row := nI_ge (b := 8) (by omega) (by decide)
    by_cases c1 : S.1 = 0
    · rw [if_pos c1]
      refine ⟨ψ, go _ ?_, e14, fψ, Rψ⟩
      unfold pX11_readIce_L33
      rw [if_neg h8, rr, if_pos c1, gv_bind2_some, if_pos rfl, r4 (by omega)]
      rfl
    · rw [if_neg c1]
      rw [if_neg c1] at rr
      by_cases c2 : ¬ S.2.1 < n
      · rw [if_pos c2]
        refine ⟨ψ, go _ ?_, e14, fψ, Rψ⟩
        unfold pX11_readIce_L33
        rw [if_neg h8, rr, gv_bind2_some, if_neg (by decide), pz_next0 tψ r2, gv_bind2_some, r3, if_neg (fun y => c2 ((xSi_0 tψ _).mp y))]
        rfl
      · rw [if_neg c2]
        have n7 : ¬ nI row = (7 : Int32) := fun y => by have := (nI_eq (by omega) (by decide)).mp (show nI row = nI 7 from y); omega
        by_cases c3 : row = 7 ∨ ¬ T S.2.1 = 47
        · rw [if_pos c3]
          refine ⟨ψ, go _ ?_, e14, fψ, Rψ⟩
          unfold pX11_readIce_L33
          rw [if_neg h8, rr, gv_bind2_some, if_neg (by decide), pz_next0 tψ r2, gv_bind2_some, r3, if_pos ((xSi_0 tψ _).mpr (by omega)), show (47 : Int32) = nI 47 from rfl, if_neg (fun y => by have := (xSi_eq tψ S.2.1 (by decide)).mp y; omega)]
          rfl
        · rw [if_neg c3]
          have step : pX11_readIce_L33 (nI row) (xa τ p0) = some (.inl (nI (row + 1), xa ψ (S.2.1 + 1))) := by
            unfold pX11_readIce_L33
            rw [if_neg h8, rr, gv_bind2_some, if_neg (by decide), pz_next0 tψ r2, gv_bind2_some, r3, if_pos ((xSi_0 tψ _).mpr (by omega)), show (47 : Int32) = nI 47 from rfl, if_pos ((xSi_eq tψ S.2.1 (by decide)).mpr (by omega)), if_neg n7, xa_13, nI_1, xa_xa, gv_let_p, gv_let_p, nI_1]
          obtain ⟨τ', i1, i2, i3, i4⟩ := ih (row + 1) (told + S.1) (zSk T n (S.2.1 + 1)) S.2.2 ψ (S.2.1 + 1) M (by omega) (by omega) tψ (by omega) rfl b3 Rψ e14 (by omega)
          exact ⟨τ', by rw [gv_loop_s _ M _ _ step]; exact i1, i2, xF2_tr fψ i3, i4⟩
theorem pz_xlay {τ : gs_S} {G : Nat → Int} (hG : gOk G) (hR : xR τ G) : ∃ v τ', gv_loop (fun q : Int32 × gs_S => pX11_ice_L24 q.1 q.2) gv_N ((0 : Int32), τ) = some (v, τ') ∧ (∀ x, ¬ x = 64 → τ'.1 x = τ.1 x) ∧ τ'.2 = τ.2 ∧ ∀ i, i < 320 → τ'.1 64 i = zIc G (τ.1 64) i := by
  have L := gv_rel (fun q : Int32 × gs_S => pX11_ice_L24 q.1 q.2) (fun k q => q.1 = nI k ∧ (∀ x, ¬ x = 64 → q.2.1 x = τ.1 x) ∧ q.2.2 = τ.2 ∧ ∀ i, i < 320 → q.2.1 64 i = if i % 64 < k then zIc G (τ.1 64) i else τ.1 64 i) 64 gv_N (gv_N_lt (by decide)) (fun q => (∀ x, ¬ x = 64 → q.2.1 x = τ.1 x) ∧ q.2.2 = τ.2 ∧ ∀ i, i < 320 → q.2.1 64 i = zIc G (τ.1 64) i) ?_ ?_ ((0 : Int32), τ) ⟨rfl, fun _ _ => rfl, rfl, fun i _ => by rw [if_neg (by omega)]⟩
  · obtain ⟨⟨v, φ⟩, l1, l2, l3, l4⟩ := L
    exact ⟨v, φ, l1, l2, l3, l4⟩
  · rintro k ⟨v, ρ⟩ k1 ⟨r1, r2, r3, r4⟩
    dsimp only at r1 r2 r3 r4 ⊢
    subst r1
    unfold pX11_ice_L24
    rw [if_neg (show ¬ (64 : Int32) ≤ nI k from nI_ge (b := 64) k1 (by decide)), pz_inN k1 (by decide), nI_clamp (show k < 2 ^ 31 by omega), r2 73 (by decide), hR k k1]
    rcases hG k k1 with g | ⟨w, d, g, hw, hd⟩
    · rw [g, if_pos (by decide), gv_let_p, nI_1]
      refine ⟨_, rfl, rfl, r2, r3, fun i hi => ?_⟩
      dsimp only
      rw [r4 i hi]
      by_cases c : i % 64 < k
      · rw [if_pos c, if_pos (by omega)]
      · rw [if_neg c]
        by_cases e : i % 64 = k
        · rw [if_pos (by omega), zIc_n (by rw [e]; exact g)]
        · rw [if_neg (by omega)]
    · have gd : (G k).toNat / 5 = w ∧ (G k).toNat % 5 = d := by omega
      have e1 : nI (5 * w + d) / (5 : Int32) = nI w := by
        rw [show (5 : Int32) = nI 5 from rfl, nI_div (by omega) (by decide)]
        exact congrArg nI (by omega)
      have e2 : nI (5 * w + d) - nI w * (5 : Int32) = nI d := by
        rw [show (5 : Int32) = nI 5 from rfl, nI_mul, nI_sub (by omega)]
        exact congrArg nI (by omega)
      have i1 : (64 : Int32) + nI k = nI (64 + k) := nI_add 64 k
      have i2 : (128 : Int32) + nI k = nI (128 + k) := nI_add 128 k
      have i3 : (192 : Int32) + nI k = nI (192 + k) := nI_add 192 k
      have i4 : (256 : Int32) + nI k = nI (256 + k) := nI_add 256 k
      have e73 : (gs_u ρ 64 k (nI w)).1 73 k = nI (5 * w + d) := by rw [pz_u, if_neg (by decide), r2 73 (by decide), hR k k1, g, zI_n]
      rw [g, zI_n, if_neg (nI_pos (by omega)), pz_inN k1 (by decide), pz_inN (show k < 320 by omega) (by decide), e1, gv_let_p, pz_inN k1 (by decide), i1, pz_inN (show 64 + k < 320 by omega) (by decide), e73, e1, e2, gv_let_p, i2, pz_inN (show 128 + k < 320 by omega) (by decide), gv_let_p, i3, pz_inN (show 192 + k < 320 by omega) (by decide), gv_let_p, i4, pz_inN (show 256 + k < 320 by omega) (by decide), gv_let_p, gv_let_p, nI_1, nI_clamp (show 64 + k < 2 ^ 31 by omega), nI_clamp (show 128 + k < 2 ^ 31 by omega), nI_clamp (show 192 + k < 2 ^ 31 by omega), nI_clamp (show 256 + k < 2 ^ 31 by omega)]
      refine ⟨_, rfl, rfl, fun x hx => ?_, r3, fun i hi => ?_⟩
      · dsimp only
        rw [pz_u, if_neg hx, pz_u, if_neg hx, pz_u, if_neg hx, pz_u, if_neg hx, pz_u, if_neg hx]; exact r2 x hx
      · dsimp only
        rw [pz_u, if_pos rfl, pz_upd, pz_u, if_pos rfl, pz_upd, pz_u, if_pos rfl, pz_upd, pz_u, if_pos rfl, pz_upd, pz_u, if_pos rfl, pz_upd, r4 i hi]
        by_cases e : i % 64 = k
        · rw [if_pos (show i % 64 < k + 1 by omega)]
          have ng : ¬ G (i % 64) = -1 := by rw [e, g]; omega
          unfold zIc
          rw [if_neg ng, e, gd.1, gd.2]
          by_cases c0 : i < 64
          · rw [if_pos c0, if_neg (by omega), if_neg (by omega), if_neg (by omega), if_neg (by omega), if_pos (by omega)]
          · rw [if_neg c0]
            by_cases c1 : i < 128
            · rw [if_pos c1, if_neg (by omega), if_neg (by omega), if_neg (by omega), if_pos (by omega)]
            · rw [if_neg c1]
              by_cases c4 : i = 256 + k
              · rw [if_pos c4]
              · rw [if_neg c4]
                by_cases c3 : i = 192 + k
                · rw [if_pos c3]
                · rw [if_neg c3, if_pos (by omega)]
        · rw [if_neg (by omega), if_neg (by omega), if_neg (by omega), if_neg (by omega), if_neg (by omega)]
          exact pz_ite (by omega) _ _
  · rintro ⟨v, ρ⟩ ⟨r1, r2, r3, r4⟩
    dsimp only at r1 r2 r3 r4 ⊢
    subst r1
    unfold pX11_ice_L24
    rw [if_pos (by decide)]
    exact ⟨_, rfl, r2, r3, fun i hi => by rw [r4 i hi, if_pos (by omega)]⟩
/-- the reference's whole call -/
theorem pz_xice {σ : gs_S} {T : Nat → Nat} {n : Nat} (ht : xtp σ T n) : ∃ τ, (pX11_ice σ = if (icN T n 8 0 0 (zSk T n 0) (fun _ => -1)).1 = true then some (nI (icN T n 8 0 0 (zSk T n 0) (fun _ => -1)).2.1, τ) else some ((-20 : Int32) - nI (icN T n 8 0 0 (zSk T n 0) (fun _ => -1)).2.2.1, τ)) ∧ (∀ x, ¬ x = 63 → ¬ x = 64 → ¬ x = 73 → τ.1 x = σ.1 x) ∧ (∀ i, ¬ i = 12 → ¬ i = 13 → ¬ i = 14 → τ.1 63 i = σ.1 63 i) ∧ τ.2 = σ.2 ∧ τ.1 63 12 = 0 ∧ ((icN T n 8 0 0 (zSk T n 0) (fun _ => -1)).1 = true → ∀ i, i < 320 → τ.1 64 i = zIc (icN T n 8 0 0 (zSk T n 0) (fun _ => -1)).2.2.2 (σ.1 64) i) ∧ (¬ (icN T n 8 0 0 (zSk T n 0) (fun _ => -1)).1 = true → τ.1 64 = σ.1 64) := by
  have hT : ∀ k, k < n → 32 ≤ T k ∧ T k ≤ 126 := fun k hk => (ht.2.2 k hk).2
  have hn := ht.1
  obtain ⟨α, eα⟩ : ∃ α, α = gs_u (gs_u σ 63 13 0) 63 14 0 := ⟨_, rfl⟩
  have L := gv_rel (fun q : Int32 × gs_S => pX11_readIce_L12 q.1 q.2) (fun k q => q.1 = nI k ∧ xF α q.2 ∧ ∀ j, j < k → q.2.1 73 j = -1) 64 gv_N (gv_N_lt (by decide)) (fun q => xF α q.2 ∧ ∀ j, j < 64 → q.2.1 73 j = -1) ?_ ?_ ((0 : Int32), α) ⟨rfl, ⟨fun _ _ => rfl, rfl⟩, fun j hj => absurd hj (by omega)⟩
  rotate_left
  · rintro k ⟨v, ρ⟩ k1 ⟨r1, r2, r3⟩
    dsimp only at r1 r2 r3 ⊢
    subst r1
    unfold pX11_readIce_L12
    rw [if_neg (show ¬ (64 : Int32) ≤ nI k from nI_ge (b := 64) k1 (by decide)), pz_inN k1 (by decide), nI_clamp (by omega), gv_let_p, gv_let_p, nI_1]
    refine ⟨_, rfl, rfl, ⟨fun x hx => by dsimp only; rw [pz_u, if_neg hx]; exact r2.1 x hx, r2.2⟩, fun j hj => ?_⟩
    dsimp only
    rw [pz_u, if_pos rfl, pz_upd]
    by_cases e : j = k
    · rw [if_pos e]
    · rw [if_neg e]; exact r3 j (by omega)
  · rintro ⟨v, ρ⟩ ⟨r1, r2, r3⟩
    dsimp only at r1 r2 r3 ⊢
    subst r1
    unfold pX11_readIce_L12
    rw [if_pos (by decide)]
    exact ⟨_, rfl, r2, r3⟩
  obtain ⟨⟨v, φ⟩, l1, l2, l3⟩ := L
  dsimp only at l2 l3
  have φ63 : φ.1 63 = α.1 63 := l2.1 63 (by decide)
  have φ13 : φ.1 63 13 = nI 0 := by rw [φ63, eα, pz_u, if_pos rfl, pz_upd, if_neg (by decide), pz_ua]; rfl
  have φ14 : φ.1 63 14 = nI 0 := by rw [φ63, eα, pz_ua]; rfl
  have φi : ∀ i, ¬ i = 13 → ¬ i = 14 → φ.1 63 i = σ.1 63 i := fun i i1 i2 => by rw [φ63, eα, pz_u, if_pos rfl, pz_upd, if_neg i2, pz_u, if_pos rfl, pz_upd, if_neg i1]
  have φo : ∀ x, ¬ x = 63 → ¬ x = 73 → φ.1 x = σ.1 x := fun x x1 x2 => by rw [l2.1 x x2, eα, pz_u, if_neg x1, pz_u, if_neg x1]
  have fφ : xF2 σ φ := ⟨φo, φi, by rw [l2.2, eα, pz_u2, pz_u2]⟩
  have tφ := xtp_F2 ht fφ
  have xφ : φ = xa φ 0 := (pz_us φ 63 13 _ φ13.symm).symm
  have G0 : gOk (fun _ => -1) := fun _ _ => Or.inl rfl
  obtain ⟨z1, z2, z3, z4⟩ := zSk_b (T := T) (show 0 ≤ n by omega)
  obtain ⟨b1, b2, b3, b4⟩ := icN_b hT 8 0 0 (zSk T n 0) (fun _ => -1) z2 z4 G0
  obtain ⟨τ', t1, t2, t3, t4⟩ := pz_xreadIce hT 7 0 0 (zSk T n 0) (fun _ => -1) φ 0 gv_N (by omega) (gv_N_lt (by decide)) tφ (by omega) rfl G0 (fun q hq => by rw [l3 q hq]; exact zI_m1) φ14 (by omega)
  rw [show 7 + 1 = 8 from rfl] at t1 t2 t4
  generalize icN T n 8 0 0 (zSk T n 0) (fun _ => -1) = I at *
  have rd : pX11_readIce σ = some (if I.1 = true then 1 else 0, xa τ' I.2.2.1) := by
    unfold pX11_readIce
    rw [gv_let_p, gv_let_p, ← eα, l1, gv_bind_some, gv_let_p, gv_let_p]
    dsimp only
    have t1' : gv_loop (fun q : Int32 × gs_S => pX11_readIce_L33 q.1 q.2) gv_N ((0 : Int32), φ) = some (.inr (if I.1 = true then 1 else 0, xa τ' I.2.2.1)) := by
      conv => lhs; rw [xφ]
      exact t1
    rw [t1']
    rfl
  obtain ⟨β, eβ⟩ : ∃ β, β = gs_u (xa τ' I.2.2.1) 63 12 0 := ⟨_, rfl⟩
  have fβ : (∀ x, ¬ x = 63 → ¬ x = 73 → β.1 x = σ.1 x) ∧ (∀ i, ¬ i = 12 → ¬ i = 13 → ¬ i = 14 → β.1 63 i = σ.1 63 i) ∧ β.2 = σ.2 := ⟨fun x x1 x2 => by rw [eβ, pz_u, if_neg x1, xa_o _ _ _ x1, t3.1 x x1 x2, φo x x1 x2], fun i i1 i2 i3 => by rw [eβ, pz_u, if_pos rfl, pz_upd, if_neg i1, xa_i _ _ _ i2, t3.2.1 i i2 i3, φi i i2 i3], by rw [eβ, pz_u2]; show τ'.2 = _; rw [t3.2.2, fφ.2.2]⟩
  unfold pX11_ice
  rw [rd, gv_bind2_some, gv_let_p, ← eβ]
  cases ok : I.1 with
  | true =>
    obtain ⟨v2, υ, u1, u2, u3, u4⟩ := pz_xlay (τ := β) b2 (fun q hq => by rw [eβ, pz_u, if_neg (by decide), xa_o _ _ _ (by decide)]; exact t4 q hq)
    rw [if_pos rfl, if_neg (by decide), u1, gv_bind_some, gv_let_p, gv_let_p]
    dsimp only
    have r14 : υ.1 63 14 = nI I.2.1 := by rw [u2 63 (by decide), eβ, pz_u, if_pos rfl, pz_upd, if_neg (by decide), xa_i _ _ _ (by decide)]; exact t2
    rw [r14]
    refine ⟨υ, (if_pos rfl).symm, fun x x1 x2 x3 => by rw [u2 x x2, fβ.1 x x1 x3], fun i i1 i2 i3 => by rw [u2 63 (by decide), fβ.2.1 i i1 i2 i3], by rw [u3, fβ.2.2], by rw [u2 63 (by decide), eβ, pz_ua], fun _ i hi => by rw [u4 i hi, fβ.1 64 (by decide) (by decide)], fun z => absurd rfl z⟩
  | false =>
    rw [if_pos (show (if false = true then (1 : Int32) else 0) = 0 from if_neg (by decide))]
    have r13 : β.1 63 13 = nI I.2.2.1 := by rw [eβ, pz_u, if_pos rfl, pz_upd, if_neg (by decide), xa_13]
    rw [r13]
    refine ⟨β, (if_neg (by decide)).symm, fun x x1 x2 x3 => fβ.1 x x1 x3, fβ.2.1, fβ.2.2, by rw [eβ, pz_ua], fun z => (by cases z), fun _ => fβ.1 64 (by decide) (by decide)⟩
theorem op_ice (σ : gs_S) (hI : inv σ)  : ∃ (r : Int32) (σ1 : gs_S) (σ2 : gs_S), pX10_ice  σ = some (r, σ1) ∧ pX11_ice  σ1 = some (r, σ2) ∧ inv σ2 := by
  obtain ⟨T, n, ht, hx⟩ := inv_tp hI
  have hT : ∀ k, k < n → 32 ≤ T k ∧ T k ≤ 126 := fun k hk => (ht.2.2 k hk).2
  obtain ⟨τ, c1, c2, c3, c4, c5, c6⟩ := pz_ice ht
  have hx' : xtp τ T n := ⟨hx.1, by rw [c2 63 (by decide) (by decide) (by decide) (by decide)]; exact hx.2.1, fun k hk => by rw [c2 72 (by decide) (by decide) (by decide) (by decide)]; exact hx.2.2 k hk⟩
  obtain ⟨υ, d1, d2, d3, d4, d5, d6, d7⟩ := pz_xice hx'
  obtain ⟨z1, z2, z3, z4⟩ := zSk_b (T := T) (show 0 ≤ n by omega)
  obtain ⟨b1, b2, b3, b4⟩ := icN_b hT 8 0 0 (zSk T n 0) (fun _ => -1) z2 z4 (fun _ _ => Or.inl rfl)
  generalize icN T n 8 0 0 (zSk T n 0) (fun _ => -1) = I at *
  have G : ∀ x, ¬ x = 3 → ¬ x = 29 → ¬ x = 63 → ¬ x = 64 → (x < 32 ∨ 33 < x) → ¬ x = 73 → υ.1 x = σ.1 x := fun x x1 x2 x3 x4 x5 x6 => by rw [d2 x x3 x4 x6, c2 x x1 x2 (by omega) (by omega)]
  have G6 : ∀ i, ¬ i = 12 → ¬ i = 13 → ¬ i = 14 → υ.1 63 i = σ.1 63 i := fun i i1 i2 i3 => by rw [d3 i i1 i2 i3, c2 63 (by decide) (by decide) (by decide) (by decide)]
  obtain ⟨i1, i2, i3⟩ := hI.1
  have ice : iv_ice (υ.1 3) (υ.1 64) := by
    have e3 : υ.1 3 = τ.1 3 := d2 3 (by decide) (by decide) (by decide)
    have e64 : τ.1 64 = σ.1 64 := c2 64 (by decide) (by decide) (by decide) (by decide)
    by_cases ok : I.1 = true
    · have a := c5 ok
      have b := d6 ok
      rw [e64] at b
      refine ⟨fun k hk => ?_, fun k hk => ?_, fun k hk => ?_⟩
      · rw [e3, a k hk, b k hk]
        unfold zIc
        rw [i1 k hk]
      · rw [e3, a k (by omega)]
        unfold zIc
        rcases b2 (k % 64) (by omega) with g | ⟨v, d, g, hv, hd⟩
        · rw [if_pos g]; exact i2 k hk
        · rw [if_neg (by omega), if_pos hk]
          rw [g]
          unfold iv_in
          rw [nI_toInt (by omega)]
          omega
      · rw [e3, a (64 + k) (by omega)]
        unfold zIc
        rcases b2 ((64 + k) % 64) (by omega) with g | ⟨v, d, g, hv, hd⟩
        · rw [if_pos g]; exact i3 k hk
        · rw [if_neg (by omega), if_neg (by omega), if_pos (by omega), g]
          unfold iv_in
          rw [nI_toInt (by omega)]
          omega
    · rw [e3, c6 ok, d7 ok, e64]; exact ⟨i1, i2, i3⟩
  have iv : inv υ := inv_mk ice (fr_tr hI (G _ (by omega) (by omega) (by omega) (by omega) (by omega) (by omega)) (G6 _ (by omega) (by omega) (by omega)) (G _ (by omega) (by omega) (by omega) (by omega) (by omega) (by omega)) (G _ (by omega) (by omega) (by omega) (by omega) (by omega) (by omega)) (G _ (by omega) (by omega) (by omega) (by omega) (by omega) (by omega)) (G _ (by omega) (by omega) (by omega) (by omega) (by omega) (by omega)) (G _ (by omega) (by omega) (by omega) (by omega) (by omega) (by omega)) (G _ (by omega) (by omega) (by omega) (by omega) (by omega) (by omega))) (fr_way hI (G _ (by omega) (by omega) (by omega) (by omega) (by omega) (by omega)) (G6 _ (by omega) (by omega) (by omega)) (G _ (by omega) (by omega) (by omega) (by omega) (by omega) (by omega)) (G _ (by omega) (by omega) (by omega) (by omega) (by omega) (by omega))) (fr_set hI (G _ (by omega) (by omega) (by omega) (by omega) (by omega) (by omega)) (G _ (by omega) (by omega) (by omega) (by omega) (by omega) (by omega))) (fr_ears hI (G _ (by omega) (by omega) (by omega) (by omega) (by omega) (by omega)) (G6 _ (by omega) (by omega) (by omega)) (G _ (by omega) (by omega) (by omega) (by omega) (by omega) (by omega)) (G _ (by omega) (by omega) (by omega) (by omega) (by omega) (by omega)) (G _ (by omega) (by omega) (by omega) (by omega) (by omega) (by omega)) (G _ (by omega) (by omega) (by omega) (by omega) (by omega) (by omega)) (G _ (by omega) (by omega) (by omega) (by omega) (by omega) (by omega)) (G _ (by omega) (by omega) (by omega) (by omega) (by omega) (by omega))) ⟨0, by omega, by rw [d2 29 (by decide) (by decide) (by decide), c4]; rfl, by rw [d5]; rfl, fun k hk => absurd hk (by omega)⟩ (fr_kept hI (G _ (by omega) (by omega) (by omega) (by omega) (by omega) (by omega)) (G6 _ (by omega) (by omega) (by omega)) (fun c c1 c2 => G _ (by omega) (by omega) (by omega) (by omega) (by omega) (by omega)) (G _ (by omega) (by omega) (by omega) (by omega) (by omega) (by omega)) (G _ (by omega) (by omega) (by omega) (by omega) (by omega) (by omega))) (fr_shs hI (fun c c1 c2 => G _ (by omega) (by omega) (by omega) (by omega) (by omega) (by omega)) (G _ (by omega) (by omega) (by omega) (by omega) (by omega) (by omega)) (G _ (by omega) (by omega) (by omega) (by omega) (by omega) (by omega)) (by rw [d4, c3]))
  by_cases ok : I.1 = true
  · rw [if_pos ok] at c1 d1
    exact ⟨_, τ, υ, c1, d1, iv⟩
  · rw [if_neg ok] at c1 d1
    exact ⟨_, τ, υ, c1, d1, iv⟩
