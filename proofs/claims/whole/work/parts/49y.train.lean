/-! PURE, 49y: all sleighs of a text; sleighs -/
def tF (σ τ : gs_S) (k : Nat) : Prop := (∀ x, (x < 34 ∨ 37 < x) → τ.1 x = σ.1 x) ∧ τ.2 = σ.2 ∧ ∀ j, j < k → τ.1 35 j = σ.1 35 j ∧ τ.1 36 j = σ.1 36 j ∧ τ.1 37 j = σ.1 37 j
theorem tp_tF {σ τ : gs_S} {T : Nat → Nat} {n k : Nat} (h : tp σ T n) (f : tF σ τ k) : tp τ T n := ⟨h.1, by rw [f.1 29 (by omega)]; exact h.2.1, fun j hj => by rw [f.1 30 (by omega)]; exact h.2.2 j hj⟩
theorem tF_A (τ : gs_S) (m l pa st : Nat) : tF τ (slA τ m l pa st) m := by
  unfold slA
  refine ⟨fun x hx => by rw [pz_u, if_neg (by omega), pz_u, if_neg (by omega), pz_u, if_neg (by omega), pz_u, if_neg (by omega)], rfl, fun j hj => ⟨?_, ?_, ?_⟩⟩
  · rw [pz_u, if_neg (by decide), pz_u, if_neg (by decide), pz_u, if_neg (by decide), pz_u, if_pos rfl, pz_upd, if_neg (by omega)]
  · rw [pz_u, if_neg (by decide), pz_u, if_neg (by decide), pz_u, if_pos rfl, pz_upd, if_neg (by omega), pz_u, if_neg (by decide)]
  · rw [pz_u, if_neg (by decide), pz_u, if_pos rfl, pz_upd, if_neg (by omega), pz_u, if_neg (by decide), pz_u, if_neg (by decide)]
theorem slA_c (τ : gs_S) (m l pa st : Nat) : (slA τ m l pa st).1 35 m = nI l ∧ (slA τ m l pa st).1 36 m = nI pa ∧ (slA τ m l pa st).1 37 m = nI st ∧ (slA τ m l pa st).1 34 3 = nI (m + 1) := by
  unfold slA
  refine ⟨?_, ?_, ?_, pz_ua _ _ _ _⟩
  · rw [pz_u, if_neg (by decide), pz_u, if_neg (by decide), pz_u, if_neg (by decide), pz_ua]
  · rw [pz_u, if_neg (by decide), pz_u, if_neg (by decide), pz_ua]
  · rw [pz_u, if_neg (by decide), pz_ua]
def xT (σ τ : gs_S) (k : Nat) : Prop := (∀ x, ¬ x = 63 → ¬ x = 73 → τ.1 x = σ.1 x) ∧ (∀ i, ¬ i = 13 → ¬ i = 14 → τ.1 63 i = σ.1 63 i) ∧ τ.2 = σ.2 ∧ ∀ i, i < 3 * k → τ.1 73 i = σ.1 73 i
theorem xtp_T {σ τ : gs_S} {T : Nat → Nat} {n k : Nat} (h : xtp σ T n) (f : xT σ τ k) : xtp τ T n := xtp_F2 h ⟨f.1, f.2.1, f.2.2.1⟩
theorem tr_both (T : Nat → Nat) (n : Nat) (hn : n ≤ 140) (hT : ∀ k, k < n → 32 ≤ T k ∧ T k ≤ 126) : ∀ f k p, k + f = 5 → p ≤ n → zSk T n p = p → ∃ (ok : Bool) (c q : Nat) (L P S : Nat → Nat), q ≤ n ∧ zSk T n q = q ∧ (ok = true → k < c ∧ c ≤ 6 ∧ ∀ j, k ≤ j → j < c → 1 ≤ L j ∧ L j ≤ 99 ∧ 1 ≤ P j ∧ P j ≤ 9 ∧ S j ≤ 99) ∧
    (∀ τ N, f + 1 < N → tp τ T n → τ.1 34 3 = nI k → ∃ τ' e, gv_loop (fun x : Int32 × gs_S => pX0_readTrain_L14 x.1 x.2) N (nI k, ca τ p) = some e ∧ (ok = true → e = .inr (nI c, ca τ' q)) ∧ (ok = false → ∃ a, e = .inl (a, ca τ' q)) ∧ tF τ τ' k ∧ (ok = true → τ'.1 34 3 = nI c ∧ ∀ j, k ≤ j → j < c → τ'.1 35 j = nI (L j) ∧ τ'.1 36 j = nI (P j) ∧ τ'.1 37 j = nI (S j))) ∧
    (∀ τ p0 N, f + 1 < N → xtp τ T n → p0 ≤ n → zSk T n p0 = p → ∃ τ' q0, gv_loop (fun x : Int32 × gs_S => pX11_readSleighs_L7 x.1 x.2) N (nI k, xa τ p0) = some (.inr (if ok = true then 1 else 0, xa τ' q0)) ∧ q0 ≤ n ∧ zSk T n q0 = q ∧ xT τ τ' k ∧ (ok = true → τ'.1 63 14 = nI c ∧ ∀ j, k ≤ j → j < c → τ'.1 73 (3 * j) = nI (L j) ∧ τ'.1 73 (3 * j + 1) = nI (P j) ∧ τ'.1 73 (3 * j + 2) = nI (S j))) := by
  intro f
  induction f with
  | zero =>
    intro k p hk hp hz
    obtain ⟨ok, q, l, pa, st, q1, q2, q3, q4, q5⟩ := sl_both T n hn hp hz
    have h6 : ¬ (6 : Int32) ≤ nI k := nI_ge (b := 6) (by omega) (by decide)
    cases ok with
    | false =>
      refine ⟨false, 0, q, fun _ => 0, fun _ => 0, fun _ => 0, q1, q2, fun z => (by cases z), fun τ N hN ht hs => ?_, fun τ p0 N hN ht h1 h2 => ?_⟩
      · obtain ⟨M, rfl⟩ : ∃ M, N = M + 1 := ⟨N - 1, by omega⟩
        refine ⟨τ, _, gv_loop_x _ M _ (.inl (nI k, ca τ q)) ?_, fun z => (by cases z), fun _ => ⟨_, rfl⟩, ⟨fun _ _ => rfl, rfl, fun _ _ => ⟨rfl, rfl, rfl⟩⟩, fun z => (by cases z)⟩
        dsimp only
        unfold pX0_readTrain_L14
        rw [if_neg h6, q4 τ k ht (by omega) hs, if_neg (by decide), gv_bind2_some, if_pos rfl]
      · obtain ⟨M, rfl⟩ : ∃ M, N = M + 1 := ⟨N - 1, by omega⟩
        obtain ⟨τ', q0, r1, r2, r3, r4, r5⟩ := q5 τ p0 (3 * k) ht h1 h2 (by omega)
        refine ⟨τ', q0, gv_loop_x _ M _ _ ?_, r2, r3, ⟨fun x _ x2 => r4.1 x x2, fun i _ _ => by rw [r4.1 63 (by decide)], r4.2.1, r4.2.2⟩, fun z => (by cases z)⟩
        dsimp only
        unfold pX11_readSleighs_L7
        rw [if_neg h6, show (3 : Int32) * nI k = nI (3 * k) from nI_mul 3 k, r1, if_neg (by decide), gv_bind2_some, if_pos rfl]
    | true =>
      have q3 := q3 rfl
      by_cases c : q < n
      · -- more than six, or a wrong sign
        refine ⟨false, 0, q, fun _ => 0, fun _ => 0, fun _ => 0, q1, q2, fun z => (by cases z), fun τ N hN ht hs => ?_, fun τ p0 N hN ht h1 h2 => ?_⟩
        · obtain ⟨M, rfl⟩ : ∃ M, N = M + 1 := ⟨N - 1, by omega⟩
          have ht2 := tp_tF ht (tF_A τ k l pa st)
          refine ⟨slA τ k l pa st, _, gv_loop_x _ M _ (.inl (nI k, ca (slA τ k l pa st) q)) ?_, fun z => (by cases z), fun _ => ⟨_, rfl⟩, tF_A τ k l pa st, fun z => (by cases z)⟩
          dsimp only
          unfold pX0_readTrain_L14
          rw [if_neg h6, q4 τ k ht (by omega) hs, if_pos rfl, gv_bind2_some, if_neg (by decide), pz_sign ht2 q q1, gv_bind_some, show zSi T n q = nI (T q) from if_pos c, if_neg (nI_m1 (by have := hT q c; omega)), if_pos (show nI k = (5 : Int32) by rw [show k = 5 by omega]; rfl)]
        · obtain ⟨M, rfl⟩ : ∃ M, N = M + 1 := ⟨N - 1, by omega⟩
          obtain ⟨τ', q0, r1, r2, r3, r4, r5⟩ := q5 τ p0 (3 * k) ht h1 h2 (by omega)
          have ht3 : xtp (gs_u τ' 63 14 (nI (k + 1))) T n := xtp_u (xtp_S ht r4) _ _ _ (Or.inr (by decide)) (by decide)
          refine ⟨gs_u τ' 63 14 (nI (k + 1)), q, gv_loop_x _ M _ _ ?_, q1, q2, ⟨fun x x1 x2 => by rw [pz_u, if_neg x1, r4.1 x x2], fun i _ i2 => by rw [pz_u, if_pos rfl, pz_upd, if_neg i2, r4.1 63 (by decide)], by rw [pz_u2, r4.2.1], fun i hi => by rw [pz_u, if_neg (by decide)]; exact r4.2.2 i hi⟩, fun z => (by cases z)⟩
          dsimp only
          unfold pX11_readSleighs_L7
          rw [if_neg h6, show (3 : Int32) * nI k = nI (3 * k) from nI_mul 3 k, r1, if_pos rfl, gv_bind2_some, if_neg (by decide), nI_1, xa_u _ _ _ _ _ (Or.inr (by decide)), gv_let_p, pz_next0 ht3 r2, gv_bind2_some, r3, if_pos ((xSi_0 ht3 q).mpr c)]
          by_cases k44 : zSi T n q = (44 : Int32)
          · rw [if_pos k44, if_pos (show nI k = (5 : Int32) by rw [show k = 5 by omega]; rfl)]
            rfl
          · rw [if_neg k44]
            rfl
      · -- the end
        refine ⟨true, k + 1, q, fun _ => l, fun _ => pa, fun _ => st, q1, q2, fun _ => ⟨by omega, by omega, fun _ _ _ => q3⟩, fun τ N hN ht hs => ?_, fun τ p0 N hN ht h1 h2 => ?_⟩
        · obtain ⟨M, rfl⟩ : ∃ M, N = M + 1 := ⟨N - 1, by omega⟩
          have ht2 := tp_tF ht (tF_A τ k l pa st)
          obtain ⟨s1, s2, s3, s4⟩ := slA_c τ k l pa st
          refine ⟨slA τ k l pa st, _, gv_loop_x _ M _ (.inr (nI (k + 1), ca (slA τ k l pa st) q)) ?_, fun _ => rfl, fun z => (by cases z), tF_A τ k l pa st, fun _ => ⟨s4, fun j j1 j2 => ?_⟩⟩
          · dsimp only
            unfold pX0_readTrain_L14
            rw [if_neg h6, q4 τ k ht (by omega) hs, if_pos rfl, gv_bind2_some, if_neg (by decide), pz_sign ht2 q q1, gv_bind_some, show zSi T n q = -1 from if_neg c, if_pos rfl, ca_o _ _ _ (by decide), s4]
          · have : j = k := by omega
            subst this
            exact ⟨s1, s2, s3⟩
        · obtain ⟨M, rfl⟩ : ∃ M, N = M + 1 := ⟨N - 1, by omega⟩
          obtain ⟨τ', q0, r1, r2, r3, r4, r5⟩ := q5 τ p0 (3 * k) ht h1 h2 (by omega)
          have ht3 : xtp (gs_u τ' 63 14 (nI (k + 1))) T n := xtp_u (xtp_S ht r4) _ _ _ (Or.inr (by decide)) (by decide)
          refine ⟨gs_u τ' 63 14 (nI (k + 1)), q, gv_loop_x _ M _ _ ?_, q1, q2, ⟨fun x x1 x2 => by rw [pz_u, if_neg x1, r4.1 x x2], fun i _ i2 => by rw [pz_u, if_pos rfl, pz_upd, if_neg i2, r4.1 63 (by decide)], by rw [pz_u2, r4.2.1], fun i hi => by rw [pz_u, if_neg (by decide)]; exact r4.2.2 i hi⟩, fun _ => ⟨pz_ua _ _ _ _, fun j j1 j2 => ?_⟩⟩
          · dsimp only
            unfold pX11_readSleighs_L7
            rw [if_neg h6, show (3 : Int32) * nI k = nI (3 * k) from nI_mul 3 k, r1, if_pos rfl, gv_bind2_some, if_neg (by decide), nI_1, xa_u _ _ _ _ _ (Or.inr (by decide)), gv_let_p, pz_next0 ht3 r2, gv_bind2_some, r3, if_neg (fun y => c ((xSi_0 ht3 q).mp y))]
          · have : j = k := by omega
            subst this
            rw [pz_u, if_neg (by decide)]
            exact r5 rfl
  | succ f ih =>
    intro k p hk hp hz
    obtain ⟨ok, q, l, pa, st, q1, q2, q3, q4, q5⟩ := sl_both T n hn hp hz
    have h6 : ¬ (6 : Int32) ≤ nI k := nI_ge (b := 6) (by omega) (by decide)
    have h5 : ¬ nI k = (5 : Int32) := fun y => by have := (nI_eq (by omega) (by decide)).mp (show nI k = nI 5 from y); omega
    cases ok with
    | false =>
      refine ⟨false, 0, q, fun _ => 0, fun _ => 0, fun _ => 0, q1, q2, fun z => (by cases z), fun τ N hN ht hs => ?_, fun τ p0 N hN ht h1 h2 => ?_⟩
      · obtain ⟨M, rfl⟩ : ∃ M, N = M + 1 := ⟨N - 1, by omega⟩
        refine ⟨τ, _, gv_loop_x _ M _ (.inl (nI k, ca τ q)) ?_, fun z => (by cases z), fun _ => ⟨_, rfl⟩, ⟨fun _ _ => rfl, rfl, fun _ _ => ⟨rfl, rfl, rfl⟩⟩, fun z => (by cases z)⟩
        dsimp only
        unfold pX0_readTrain_L14
        rw [if_neg h6, q4 τ k ht (by omega) hs, if_neg (by decide), gv_bind2_some, if_pos rfl]
      · obtain ⟨M, rfl⟩ : ∃ M, N = M + 1 := ⟨N - 1, by omega⟩
        obtain ⟨τ', q0, r1, r2, r3, r4, r5⟩ := q5 τ p0 (3 * k) ht h1 h2 (by omega)
        refine ⟨τ', q0, gv_loop_x _ M _ _ ?_, r2, r3, ⟨fun x _ x2 => r4.1 x x2, fun i _ _ => by rw [r4.1 63 (by decide)], r4.2.1, r4.2.2⟩, fun z => (by cases z)⟩
        dsimp only
        unfold pX11_readSleighs_L7
        rw [if_neg h6, show (3 : Int32) * nI k = nI (3 * k) from nI_mul 3 k, r1, if_neg (by decide), gv_bind2_some, if_pos rfl]
    | true =>
      have q3 := q3 rfl
      by_cases c : q < n
      · by_cases d : T q = 44
        · -- the next one
          obtain ⟨z1, z2, z3, z4⟩ := zSk_b (T := T) (show q + 1 ≤ n by omega)
          obtain ⟨ok, cc, q', L, P, S, i1, i2, i3, i4, i5⟩ := ih (k + 1) (zSk T n (q + 1)) (by omega) z2 z4
          refine ⟨ok, cc, q', fun j => if j = k then l else L j, fun j => if j = k then pa else P j, fun j => if j = k then st else S j, i1, i2, fun o => ?_, fun τ N hN ht hs => ?_, fun τ p0 N hN ht h1 h2 => ?_⟩
          · obtain ⟨a1, a2, a3⟩ := i3 o
            refine ⟨by omega, a2, fun j j1 j2 => ?_⟩
            dsimp only
            by_cases e : j = k
            · rw [if_pos e, if_pos e, if_pos e]; exact q3
            · rw [if_neg e, if_neg e, if_neg e]; exact a3 j (by omega) j2
          · obtain ⟨M, rfl⟩ : ∃ M, N = M + 1 := ⟨N - 1, by omega⟩
            have ht2 := tp_tF ht (tF_A τ k l pa st)
            obtain ⟨s1, s2, s3, s4⟩ := slA_c τ k l pa st
            obtain ⟨τ', e, j1, j2, j3, j4, j5⟩ := i4 (slA τ k l pa st) M (by omega) ht2 s4
            have step : pX0_readTrain_L14 (nI k) (ca τ p) = some (.inl (nI (k + 1), ca (slA τ k l pa st) (zSk T n (q + 1)))) := by
              unfold pX0_readTrain_L14
              rw [if_neg h6, q4 τ k ht (by omega) hs, if_pos rfl, gv_bind2_some, if_neg (by decide), pz_sign ht2 q q1, gv_bind_some, show zSi T n q = nI (T q) from if_pos c, if_neg (nI_m1 (by have := hT q c; omega)), if_neg h5, show (44 : Int32) = nI 44 from rfl, (pz_takes ht2 q q1 (by decide)).1 ⟨c, d⟩, gv_bind2_some, if_neg (by decide), gv_let_p, nI_1]
            have fA := tF_A τ k l pa st
            refine ⟨τ', e, by rw [gv_loop_s _ M _ _ step]; exact j1, j2, j3, ⟨fun x hx => by rw [j4.1 x hx, fA.1 x hx], by rw [j4.2.1, fA.2.1], fun j hj => ?_⟩, fun o => ⟨(j5 o).1, fun j ja jb => ?_⟩⟩
            · obtain ⟨w1, w2, w3⟩ := j4.2.2 j (by omega)
              rw [w1, w2, w3]
              exact fA.2.2 j hj
            · dsimp only
              by_cases e : j = k
              · obtain ⟨w1, w2, w3⟩ := j4.2.2 j (by omega)
                rw [if_pos e, if_pos e, if_pos e, w1, w2, w3, e]; exact ⟨s1, s2, s3⟩
              · rw [if_neg e, if_neg e, if_neg e]; exact (j5 o).2 j (by omega) jb
          · obtain ⟨M, rfl⟩ : ∃ M, N = M + 1 := ⟨N - 1, by omega⟩
            obtain ⟨τ', q0, r1, r2, r3, r4, r5⟩ := q5 τ p0 (3 * k) ht h1 h2 (by omega)
            have ht3 : xtp (gs_u τ' 63 14 (nI (k + 1))) T n := xtp_u (xtp_S ht r4) _ _ _ (Or.inr (by decide)) (by decide)
            obtain ⟨τ2, q02, j1, j2, j3, j4, j5⟩ := i5 (gs_u τ' 63 14 (nI (k + 1))) (q + 1) M (by omega) ht3 (by omega) rfl
            have step : pX11_readSleighs_L7 (nI k) (xa τ p0) = some (.inl (nI (k + 1), xa (gs_u τ' 63 14 (nI (k + 1))) (q + 1))) := by
              unfold pX11_readSleighs_L7
              rw [if_neg h6, show (3 : Int32) * nI k = nI (3 * k) from nI_mul 3 k, r1, if_pos rfl, gv_bind2_some, if_neg (by decide), nI_1, xa_u _ _ _ _ _ (Or.inr (by decide)), gv_let_p, pz_next0 ht3 r2, gv_bind2_some, r3, if_pos ((xSi_0 ht3 q).mpr c), show (44 : Int32) = nI 44 from rfl, if_pos ((xSi_eq ht3 q (by decide)).mpr ⟨c, d⟩), if_neg h5, xa_13, nI_1, xa_xa, gv_let_p, gv_let_p]
            have b : ∀ i, i < 3 * k + 3 → τ2.1 73 i = τ'.1 73 i := fun i hi => by rw [j4.2.2.2 i (by omega), pz_u, if_neg (by decide)]
            refine ⟨τ2, q02, by rw [gv_loop_s _ M _ _ step]; exact j1, j2, j3, ⟨fun x x1 x2 => by rw [j4.1 x x1 x2, pz_u, if_neg x1, r4.1 x x2], fun i ia ib => by rw [j4.2.1 i ia ib, pz_u, if_pos rfl, pz_upd, if_neg ib, r4.1 63 (by decide)], by rw [j4.2.2.1, pz_u2, r4.2.1], fun i hi => by rw [b i (by omega)]; exact r4.2.2 i hi⟩, fun o => ⟨(j5 o).1, fun j ja jb => ?_⟩⟩
            dsimp only
            by_cases e : j = k
            · rw [if_pos e, if_pos e, if_pos e, b _ (by omega), b _ (by omega), b _ (by omega), e]; exact r5 rfl
            · rw [if_neg e, if_neg e, if_neg e]; exact (j5 o).2 j (by omega) jb
        · -- a wrong sign
          refine ⟨false, 0, q, fun _ => 0, fun _ => 0, fun _ => 0, q1, q2, fun z => (by cases z), fun τ N hN ht hs => ?_, fun τ p0 N hN ht h1 h2 => ?_⟩
          · obtain ⟨M, rfl⟩ : ∃ M, N = M + 1 := ⟨N - 1, by omega⟩
            have ht2 := tp_tF ht (tF_A τ k l pa st)
            refine ⟨slA τ k l pa st, _, gv_loop_x _ M _ (.inl (nI k, ca (slA τ k l pa st) q)) ?_, fun z => (by cases z), fun _ => ⟨_, rfl⟩, tF_A τ k l pa st, fun z => (by cases z)⟩
            dsimp only
            unfold pX0_readTrain_L14
            rw [if_neg h6, q4 τ k ht (by omega) hs, if_pos rfl, gv_bind2_some, if_neg (by decide), pz_sign ht2 q q1, gv_bind_some, show zSi T n q = nI (T q) from if_pos c, if_neg (nI_m1 (by have := hT q c; omega)), if_neg h5, show (44 : Int32) = nI 44 from rfl, (pz_takes ht2 q q1 (by decide)).2 (fun y => d y.2), gv_bind2_some, if_pos rfl]
          · obtain ⟨M, rfl⟩ : ∃ M, N = M + 1 := ⟨N - 1, by omega⟩
            obtain ⟨τ', q0, r1, r2, r3, r4, r5⟩ := q5 τ p0 (3 * k) ht h1 h2 (by omega)
            have ht3 : xtp (gs_u τ' 63 14 (nI (k + 1))) T n := xtp_u (xtp_S ht r4) _ _ _ (Or.inr (by decide)) (by decide)
            refine ⟨gs_u τ' 63 14 (nI (k + 1)), q, gv_loop_x _ M _ _ ?_, q1, q2, ⟨fun x x1 x2 => by rw [pz_u, if_neg x1, r4.1 x x2], fun i _ i2 => by rw [pz_u, if_pos rfl, pz_upd, if_neg i2, r4.1 63 (by decide)], by rw [pz_u2, r4.2.1], fun i hi => by rw [pz_u, if_neg (by decide)]; exact r4.2.2 i hi⟩, fun z => (by cases z)⟩
            dsimp only
            unfold pX11_readSleighs_L7
            rw [if_neg h6, show (3 : Int32) * nI k = nI (3 * k) from nI_mul 3 k, r1, if_pos rfl, gv_bind2_some, if_neg (by decide), nI_1, xa_u _ _ _ _ _ (Or.inr (by decide)), gv_let_p, pz_next0 ht3 r2, gv_bind2_some, r3, if_pos ((xSi_0 ht3 q).mpr c), show (44 : Int32) = nI 44 from rfl, if_neg (fun y => d ((xSi_eq ht3 q (by decide)).mp y).2)]
            rfl
      · -- the end
        refine ⟨true, k + 1, q, fun _ => l, fun _ => pa, fun _ => st, q1, q2, fun _ => ⟨by omega, by omega, fun _ _ _ => q3⟩, fun τ N hN ht hs => ?_, fun τ p0 N hN ht h1 h2 => ?_⟩
        · obtain ⟨M, rfl⟩ : ∃ M, N = M + 1 := ⟨N - 1, by omega⟩
          have ht2 := tp_tF ht (tF_A τ k l pa st)
          obtain ⟨s1, s2, s3, s4⟩ := slA_c τ k l pa st
          refine ⟨slA τ k l pa st, _, gv_loop_x _ M _ (.inr (nI (k + 1), ca (slA τ k l pa st) q)) ?_, fun _ => rfl, fun z => (by cases z), tF_A τ k l pa st, fun _ => ⟨s4, fun j j1 j2 => ?_⟩⟩
          · dsimp only
            unfold pX0_readTrain_L14
            rw [if_neg h6, q4 τ k ht (by omega) hs, if_pos rfl, gv_bind2_some, if_neg (by decide), pz_sign ht2 q q1, gv_bind_some, show zSi T n q = -1 from if_neg c, if_pos rfl, ca_o _ _ _ (by decide), s4]
          · have : j = k := by omega
            subst this
            exact ⟨s1, s2, s3⟩
        · obtain ⟨M, rfl⟩ : ∃ M, N = M + 1 := ⟨N - 1, by omega⟩
          obtain ⟨τ', q0, r1, r2, r3, r4, r5⟩ := q5 τ p0 (3 * k) ht h1 h2 (by omega)
          have ht3 : xtp (gs_u τ' 63 14 (nI (k + 1))) T n := xtp_u (xtp_S ht r4) _ _ _ (Or.inr (by decide)) (by decide)
          refine ⟨gs_u τ' 63 14 (nI (k + 1)), q, gv_loop_x _ M _ _ ?_, q1, q2, ⟨fun x x1 x2 => by rw [pz_u, if_neg x1, r4.1 x x2], fun i _ i2 => by rw [pz_u, if_pos rfl, pz_upd, if_neg i2, r4.1 63 (by decide)], by rw [pz_u2, r4.2.1], fun i hi => by rw [pz_u, if_neg (by decide)]; exact r4.2.2 i hi⟩, fun _ => ⟨pz_ua _ _ _ _, fun j j1 j2 => ?_⟩⟩
          · dsimp only
            unfold pX11_readSleighs_L7
            rw [if_neg h6, show (3 : Int32) * nI k = nI (3 * k) from nI_mul 3 k, r1, if_pos rfl, gv_bind2_some, if_neg (by decide), nI_1, xa_u _ _ _ _ _ (Or.inr (by decide)), gv_let_p, pz_next0 ht3 r2, gv_bind2_some, r3, if_neg (fun y => c ((xSi_0 ht3 q).mp y))]
          · have : j = k := by omega
            subst this
            rw [pz_u, if_neg (by decide)]
            exact r5 rfl
