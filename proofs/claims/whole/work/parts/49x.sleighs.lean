/-! PURE, 49x: sleighs as a text -/
def nmN (T : Nat → Nat) (n : Nat) : Nat → Nat → Nat → Nat × Nat
  | 0, v, p => (v, p)
  | f + 1, v, p => if p < n ∧ 48 ≤ T p ∧ T p ≤ 57 then nmN T n f (min 1000 (10 * v + (T p - 48))) (p + 1) else (v, p)
theorem nmN_b (T : Nat → Nat) (n : Nat) : ∀ f v p, p ≤ n → v ≤ 1000 → p ≤ (nmN T n f v p).2 ∧ (nmN T n f v p).2 ≤ n ∧ (nmN T n f v p).1 ≤ 1000 := by
  intro f
  induction f with
  | zero => intro v p h1 h2; exact ⟨Nat.le_refl _, h1, h2⟩
  | succ f ih =>
    intro v p h1 h2
    unfold nmN
    by_cases c : p < n ∧ 48 ≤ T p ∧ T p ≤ 57
    · rw [if_pos c]
      obtain ⟨a1, a2, a3⟩ := ih (min 1000 (10 * v + (T p - 48))) (p + 1) (by omega) (by omega)
      exact ⟨by omega, a2, a3⟩
    · rw [if_neg c]; exact ⟨Nat.le_refl _, h1, h2⟩
theorem pz_numL {T : Nat → Nat} {n : Nat} {τ : gs_S} (h : tp τ T n) : ∀ f v p N, n - p = f → f < N → p ≤ n → v ≤ 1000 → gv_loop (fun q : Int32 × gs_S => pX7_number_L8 q.1 q.2) N (nI v, ca τ p) = some (nI (nmN T n f v p).1, ca τ (nmN T n f v p).2) := by
  intro f
  induction f with
  | zero =>
    intro v p N h1 hN hp hv
    obtain ⟨M, rfl⟩ : ∃ M, N = M + 1 := ⟨N - 1, by omega⟩
    refine gv_loop_x _ M _ _ ?_
    dsimp only
    unfold pX7_number_L8
    have hn := h.1
    rw [ca_2, ca_i _ _ _ (by decide), h.2.1, if_pos (nI_le (by omega) (by omega))]
    rfl
  | succ f ih =>
    intro v p N h1 hN hp hv
    obtain ⟨M, rfl⟩ : ∃ M, N = M + 1 := ⟨N - 1, by omega⟩
    have hn := h.1
    obtain ⟨d, d1, d2⟩ := pz_digit h p hp
    unfold nmN
    by_cases c : p < n ∧ 48 ≤ T p ∧ T p ≤ 57
    · have dz : ¬ d = 0 := fun y => (d2.mp y) c
      have step : pX7_number_L8 (nI v) (ca τ p) = some (.inl (nI (min 1000 (10 * v + (T p - 48))), ca τ (p + 1))) := by
        unfold pX7_number_L8
        rw [ca_2, ca_i _ _ _ (by decide), h.2.1, if_neg (nI_ge c.1 (by omega)), d1, gv_bind_some, if_neg dz, pz_sign h p hp, gv_bind_some, show zSi T n p = nI (T p) from if_pos c.1, show (10 : Int32) = nI 10 from rfl, nI_mul, nI_add, show (48 : Int32) = nI 48 from rfl, nI_sub (by omega), show (1000 : Int32) = nI 1000 from rfl]
        have mn : gv_min (nI 1000) (nI (10 * v + T p - 48)) = nI (min 1000 (10 * v + (T p - 48))) := by
          unfold gv_min
          by_cases y : 10 * v + T p - 48 < 1000
          · rw [if_pos (nI_lt y (by decide))]; exact congrArg nI (by omega)
          · rw [if_neg (nI_nlt (by omega) (by omega))]; exact congrArg nI (by omega)
        rw [mn, gv_let_p, nI_1, ca_ca, gv_let_p]
      rw [if_pos c, gv_loop_s _ M _ _ step]
      exact ih _ (p + 1) M (by omega) (by omega) (by omega) (by omega)
    · have dz : d = 0 := d2.mpr c
      rw [if_neg c]
      refine gv_loop_x _ M _ _ ?_
      dsimp only
      unfold pX7_number_L8
      rw [ca_2, ca_i _ _ _ (by decide), h.2.1, if_neg (nI_ge (by omega) (by omega)), d1, gv_bind_some, if_pos dz]
theorem pz_xnumL {T : Nat → Nat} {n : Nat} {τ : gs_S} (h : xtp τ T n) : ∀ f v w p N, n - p = f → f < N → p ≤ n → v = min 1000 w → w ≤ 9999 → ∃ w', gv_loop (fun q : Int32 × gs_S => pX11_readNumber_L13 q.1 q.2) N (nI w, xa τ p) = some (nI w', xa τ (nmN T n f v p).2) ∧ (nmN T n f v p).1 = min 1000 w' ∧ w' ≤ 9999 := by
  intro f
  induction f with
  | zero =>
    intro v w p N h1 hN hp hv hw
    obtain ⟨M, rfl⟩ : ∃ M, N = M + 1 := ⟨N - 1, by omega⟩
    refine ⟨w, gv_loop_x _ M _ _ ?_, hv, hw⟩
    dsimp only
    unfold pX11_readNumber_L13
    have hn := h.1
    rw [xa_13, xa_i _ _ _ (by decide), h.2.1, if_pos (nI_le (by omega) (by omega))]
    rfl
  | succ f ih =>
    intro v w p N h1 hN hp hv hw
    obtain ⟨M, rfl⟩ : ∃ M, N = M + 1 := ⟨N - 1, by omega⟩
    have hn := h.1
    have e72 : (xa τ p).1 72 p = nI (T p) := by rw [xa_o _ _ _ (by decide)]; exact (h.2.2 p (by omega)).1
    have tb := (h.2.2 p (by omega)).2
    have dg : (pX11_in (nI (T p)).toInt64 48 57 = 0) ↔ ¬ (p < n ∧ 48 ≤ T p ∧ T p ≤ 57) := by
      rw [pz_x11, show (48 : Int64).toInt = (48 : Nat) from rfl, show (57 : Int64).toInt = (57 : Nat) from rfl]
      unfold iv_in
      rw [nI_toInt (by omega)]
      omega
    unfold nmN
    by_cases c : p < n ∧ 48 ≤ T p ∧ T p ≤ 57
    · obtain ⟨w2, ew⟩ : ∃ w2, w2 = if w ≤ 999 then 10 * w + T p - 48 else w := ⟨_, rfl⟩
      have step : pX11_readNumber_L13 (nI w) (xa τ p) = some (.inl (nI w2, xa τ (p + 1))) := by
        unfold pX11_readNumber_L13 pX11_readNumber_J77
        rw [xa_13, xa_i _ _ _ (by decide), h.2.1, if_neg (nI_ge c.1 (by omega)), pz_inN (by omega) (by decide), nI_clamp (by omega), e72, if_neg (fun y => (dg.mp y) c), pz_inN (by omega) (by decide), nI_1, xa_xa, gv_let_p, gv_let_p]
        by_cases y : w ≤ 999
        · rw [if_pos (show nI w ≤ (999 : Int32) from nI_le (b := 999) y (by decide)), show (10 : Int32) = nI 10 from rfl, nI_mul, nI_add, show (48 : Int32) = nI 48 from rfl, nI_sub (by omega), ew, if_pos y]
        · rw [if_neg (show ¬ nI w ≤ (999 : Int32) from nI_ge (a := 999) (by omega) (by omega)), ew, if_neg y]
      have hv2 : min 1000 (10 * v + (T p - 48)) = min 1000 w2 ∧ w2 ≤ 9999 := by
        by_cases y : w ≤ 999
        · rw [ew, if_pos y]; omega
        · rw [ew, if_neg y]; omega
      rw [if_pos c]
      obtain ⟨w', i1, i2, i3⟩ := ih (min 1000 (10 * v + (T p - 48))) w2 (p + 1) M (by omega) (by omega) (by omega) hv2.1 hv2.2
      exact ⟨w', by rw [gv_loop_s _ M _ _ step]; exact i1, i2, i3⟩
    · rw [if_neg c]
      refine ⟨w, gv_loop_x _ M _ _ ?_, hv, hw⟩
      dsimp only
      unfold pX11_readNumber_L13
      rw [xa_13, xa_i _ _ _ (by decide), h.2.1, if_neg (nI_ge (by omega) (by omega)), pz_inN (by omega) (by decide), nI_clamp (by omega), e72, if_pos (dg.mpr c)]
/-- a number, on both sides -/
theorem num_both (T : Nat → Nat) (n : Nat) {lo hi : Nat} (hl : lo ≤ hi) (hh : hi < 1000) {p : Nat} (hp : p ≤ n) (hn : n ≤ 140) : ∃ o : Option (Nat × Nat), (∀ v e, o = some (v, e) → lo ≤ v ∧ v ≤ hi ∧ e ≤ n) ∧ (∀ τ, tp τ T n → (o = none → pX7_number (nI lo) (nI hi) (ca τ p) = some (-4, ca τ p)) ∧ (∀ v e, o = some (v, e) → pX7_number (nI lo) (nI hi) (ca τ p) = some (nI v, ca τ (zSk T n e)))) ∧ (∀ τ p0, xtp τ T n → p0 ≤ n → zSk T n p0 = p → (o = none → pX11_readNumber (nI lo) (nI hi) (xa τ p0) = some (-1, xa τ p)) ∧ (∀ v e, o = some (v, e) → pX11_readNumber (nI lo) (nI hi) (xa τ p0) = some (nI v, xa τ e))) := by
  obtain ⟨b1, b2, b3⟩ := nmN_b T n (n - p) 0 p hp (by omega)
  have C : ∀ τ, tp τ T n → pX7_number (nI lo) (nI hi) (ca τ p) = if (nmN T n (n - p) 0 p).2 = p ∨ ¬ (lo ≤ (nmN T n (n - p) 0 p).1 ∧ (nmN T n (n - p) 0 p).1 ≤ hi) then some (-4, ca τ p) else some (nI (nmN T n (n - p) 0 p).1, ca τ (zSk T n (nmN T n (n - p) 0 p).2)) := by
    intro τ ht
    have L := pz_numL ht (n - p) 0 p gv_N rfl (gv_N_lt (by omega)) hp (by omega)
    generalize nmN T n (n - p) 0 p = r at *
    unfold pX7_number pX7_number_J79
    have L' : gv_loop (fun q : Int32 × gs_S => pX7_number_L8 q.1 q.2) gv_N ((0 : Int32), ca τ p) = some (nI r.1, ca τ r.2) := L
    rw [ca_2, gv_let_p, L', gv_bind_some, gv_let_p, gv_let_p]
    dsimp only
    rw [ca_2, ca_ca, gv_let_p]
    by_cases c1 : r.2 = p
    · rw [if_pos (by rw [c1]), if_pos (Or.inl c1)]
    · rw [if_neg (fun y => c1 ((nI_eq (by omega) (by omega)).mp y))]
      have rg : (pX10_isWithin (nI r.1).toInt64 (nI lo) (nI hi) = 0) ↔ ¬ (lo ≤ r.1 ∧ r.1 ≤ hi) := by
        rw [pz_w10]
        unfold iv_in
        rw [nI_toInt (by omega), nI_toInt (by omega), nI_toInt (by omega)]; omega
      by_cases c2 : lo ≤ r.1 ∧ r.1 ≤ hi
      · rw [if_neg (fun y => (rg.mp y) c2), if_neg (fun y => by rcases y with y | y; exact c1 y; exact y c2), pz_skip ht b2, gv_bind_some]
      · rw [if_pos (rg.mpr c2), if_pos (Or.inr c2)]
  have X : ∀ τ p0, xtp τ T n → p0 ≤ n → zSk T n p0 = p → pX11_readNumber (nI lo) (nI hi) (xa τ p0) = if (nmN T n (n - p) 0 p).2 = p ∨ ¬ (lo ≤ (nmN T n (n - p) 0 p).1 ∧ (nmN T n (n - p) 0 p).1 ≤ hi) then some (-1, xa τ p) else some (nI (nmN T n (n - p) 0 p).1, xa τ (nmN T n (n - p) 0 p).2) := by
    intro τ p0 ht hp0 hz
    obtain ⟨w', L, L2, L3⟩ := pz_xnumL ht (n - p) 0 0 p gv_N rfl (gv_N_lt (by omega)) hp (by omega) (by omega)
    generalize nmN T n (n - p) 0 p = r at *
    unfold pX11_readNumber
    have L' : gv_loop (fun q : Int32 × gs_S => pX11_readNumber_L13 q.1 q.2) gv_N ((0 : Int32), xa τ p) = some (nI w', xa τ r.2) := L
    rw [pz_next0 ht hp0, gv_bind2_some, hz, xa_13, gv_let_p, L', gv_bind_some, gv_let_p, gv_let_p]
    dsimp only
    rw [xa_13, xa_xa, gv_let_p]
    by_cases c1 : r.2 = p
    · rw [if_pos (by rw [c1]), if_pos (Or.inl c1), c1]
    · rw [if_neg (fun y => c1 ((nI_eq (by omega) (by omega)).mp y))]
      have rg : (pX11_in (nI w').toInt64 (nI lo).toInt64 (nI hi).toInt64 = 0) ↔ ¬ (lo ≤ r.1 ∧ r.1 ≤ hi) := by
        rw [pz_x11]
        unfold iv_in
        rw [Int32.toInt_toInt64, Int32.toInt_toInt64, nI_toInt (by omega), nI_toInt (by omega), nI_toInt (by omega)]; omega
      by_cases c2 : lo ≤ r.1 ∧ r.1 ≤ hi
      · rw [if_neg (fun y => (rg.mp y) c2), if_neg (fun y => by rcases y with y | y; exact c1 y; exact y c2), show w' = r.1 by omega]
      · rw [if_pos (rg.mpr c2), if_pos (Or.inr c2)]
  generalize nmN T n (n - p) 0 p = r at *
  by_cases c : r.2 = p ∨ ¬ (lo ≤ r.1 ∧ r.1 ≤ hi)
  · refine ⟨none, fun v e z => (by cases z), fun τ ht => ⟨fun _ => ?_, fun v e z => (by cases z)⟩, fun τ p0 ht h1 h2 => ⟨fun _ => ?_, fun v e z => (by cases z)⟩⟩
    · rw [C τ ht, if_pos c]
    · rw [X τ p0 ht h1 h2, if_pos c]
  · refine ⟨some (r.1, r.2), fun v e z => ?_, fun τ ht => ⟨fun z => (by cases z), fun v e z => ?_⟩, fun τ p0 ht h1 h2 => ⟨fun z => (by cases z), fun v e z => ?_⟩⟩
    · cases z
      exact ⟨by omega, by omega, b2⟩
    · cases z
      rw [C τ ht, if_neg c]
    · cases z
      rw [X τ p0 ht h1 h2, if_neg c]
/-- one sleigh, on both sides -/
def slA (τ : gs_S) (m l pa st : Nat) : gs_S := gs_u (gs_u (gs_u (gs_u τ 35 m (nI l)) 36 m (nI pa)) 37 m (nI st)) 34 3 (nI (m + 1))
theorem pz_tadd {τ : gs_S} {m : Nat} (hm : m < 6) (e : τ.1 34 3 = nI m) (p l pa st : Nat) : pX8_add 34 (nI l) (nI pa) (nI st) (ca τ p) = some (ca (slA τ m l pa st) p) := by
  unfold pX8_add slA
  have e0 : (ca τ p).1 34 3 = nI m := by rw [ca_o _ _ _ (by decide)]; exact e
  rw [e0, pz_inN hm (by decide), nI_clamp (by omega), show 34 + 1 = 35 from rfl, show 34 + 2 = 36 from rfl, show 34 + 3 = 37 from rfl, ca_u _ _ _ _ _ (by decide), gv_let_p]
  have e1 : (ca (gs_u τ 35 m (nI l)) p).1 34 3 = nI m := by rw [ca_o _ _ _ (by decide), pz_u, if_neg (by decide)]; exact e
  rw [e1, pz_inN hm (by decide), nI_clamp (by omega), ca_u _ _ _ _ _ (by decide), gv_let_p]
  have e2 : (ca (gs_u (gs_u τ 35 m (nI l)) 36 m (nI pa)) p).1 34 3 = nI m := by rw [ca_o _ _ _ (by decide), pz_u, if_neg (by decide), pz_u, if_neg (by decide)]; exact e
  rw [e2, pz_inN hm (by decide), nI_clamp (by omega), ca_u _ _ _ _ _ (by decide), gv_let_p]
  have e3 : (ca (gs_u (gs_u (gs_u τ 35 m (nI l)) 36 m (nI pa)) 37 m (nI st)) p).1 34 3 = nI m := by rw [ca_o _ _ _ (by decide), pz_u, if_neg (by decide), pz_u, if_neg (by decide), pz_u, if_neg (by decide)]; exact e
  rw [e3, nI_1, ca_u _ _ _ _ _ (by decide), gv_let_p]
def xS (τ τ' : gs_S) (to : Nat) : Prop := (∀ x, ¬ x = 73 → τ'.1 x = τ.1 x) ∧ τ'.2 = τ.2 ∧ ∀ i, i < to → τ'.1 73 i = τ.1 73 i
theorem xS_u {τ τ' : gs_S} {to i : Nat} (h : xS τ τ' to) (hi : to ≤ i) (v : Int32) : xS τ (gs_u τ' 73 i v) to := ⟨fun x hx => by rw [pz_u, if_neg hx]; exact h.1 x hx, h.2.1, fun j hj => by rw [pz_u, if_pos rfl, pz_upd, if_neg (by omega)]; exact h.2.2 j hj⟩
theorem xtp_S {σ τ : gs_S} {T : Nat → Nat} {n to : Nat} (h : xtp σ T n) (f : xS σ τ to) : xtp τ T n := xtp_F h ⟨f.1, f.2.1⟩
theorem sl_both (T : Nat → Nat) (n : Nat) (hn : n ≤ 140) {p : Nat} (hp : p ≤ n) (hz : zSk T n p = p) : ∃ (ok : Bool) (q l pa st : Nat), q ≤ n ∧ zSk T n q = q ∧ (ok = true → 1 ≤ l ∧ l ≤ 99 ∧ 1 ≤ pa ∧ pa ≤ 9 ∧ st ≤ 99) ∧ (∀ τ m, tp τ T n → m < 6 → τ.1 34 3 = nI m → pX0_readSleigh (ca τ p) = if ok = true then some (1, ca (slA τ m l pa st) q) else some (0, ca τ q)) ∧ (∀ τ p0 to, xtp τ T n → p0 ≤ n → zSk T n p0 = p → to + 2 < 64 → ∃ τ' q0, pX11_readSleigh (nI to) (xa τ p0) = some (if ok = true then 1 else 0, xa τ' q0) ∧ q0 ≤ n ∧ zSk T n q0 = q ∧ xS τ τ' to ∧ (ok = true → τ'.1 73 to = nI l ∧ τ'.1 73 (to + 1) = nI pa ∧ τ'.1 73 (to + 2) = nI st)) := by
  obtain ⟨o, o1, o2, o3⟩ := num_both T n (lo := 1) (hi := 99) (by decide) (by decide) hp hn
  rcases o with _ | ⟨l, e⟩
  · -- no number
    refine ⟨false, p, 0, 0, 0, hp, hz, fun z => (by cases z), fun τ m ht hm hs => ?_, fun τ p0 to ht h1 h2 h3 => ?_⟩
    · unfold pX0_readSleigh
      rw [show (1 : Int32) = nI 1 from rfl, show (99 : Int32) = nI 99 from rfl, (o2 τ ht).1 rfl, gv_bind2_some, if_pos rfl]
      rfl
    · refine ⟨gs_u τ 73 to (-1), p, ?_, hp, hz, xS_u ⟨fun _ _ => rfl, rfl, fun _ _ => rfl⟩ (Nat.le_refl _) _, fun z => (by cases z)⟩
      unfold pX11_readSleigh
      rw [show pX11_readNumber 1 99 (xa τ p0) = some (-1, xa τ p) from (o3 τ p0 ht h1 h2).1 rfl, gv_bind2_some, pz_inN (by omega) (by decide), nI_clamp (by omega), xa_u _ _ _ _ _ (Or.inl (by decide)), gv_let_p, pz_inN (by omega) (by decide), xa_o _ _ _ (by decide), pz_ua, if_pos (by decide)]
      rfl
  obtain ⟨lb1, lb2, eb⟩ := o1 l e rfl
  obtain ⟨p1, ep1⟩ : ∃ p1, p1 = zSk T n e := ⟨_, rfl⟩
  obtain ⟨z1, z2, z3, z4⟩ := zSk_b (T := T) eb
  rw [← ep1] at z1 z2 z3 z4
  have num1 : ∀ τ, tp τ T n → pX7_number 1 99 (ca τ p) = some (nI l, ca τ p1) := fun τ ht => by rw [ep1]; exact (o2 τ ht).2 l e rfl
  have xnum1 : ∀ τ p0, xtp τ T n → p0 ≤ n → zSk T n p0 = p → pX11_readNumber 1 99 (xa τ p0) = some (nI l, xa τ e) := fun τ p0 ht h1 h2 => (o3 τ p0 ht h1 h2).2 l e rfl
  have n4 : ¬ nI l = (-4 : Int32) := by
    rw [← zI_n, show (-4 : Int32) = zI (-4) from by decide, zI_eq (by omega) (by omega) (by omega) (by omega)]; omega
  by_cases c1 : p1 < n ∧ T p1 = 112
  rotate_left
  · refine ⟨false, p1, 0, 0, 0, z2, z4, fun z => (by cases z), fun τ m ht hm hs => ?_, fun τ p0 to ht h1 h2 h3 => ?_⟩
    · unfold pX0_readSleigh
      rw [num1 τ ht, gv_bind2_some, if_neg n4, show (112 : Int32) = nI 112 from rfl, (pz_takes ht p1 z2 (by decide)).2 c1, gv_bind2_some, if_pos rfl]
      rfl
    · have ht2 : xtp (gs_u τ 73 to (nI l)) T n := xtp_u ht _ _ _ (Or.inl (by decide)) (by decide)
      refine ⟨gs_u τ 73 to (nI l), p1, ?_, z2, z4, xS_u ⟨fun _ _ => rfl, rfl, fun _ _ => rfl⟩ (Nat.le_refl _) _, fun z => (by cases z)⟩
      unfold pX11_readSleigh
      rw [xnum1 τ p0 ht h1 h2, gv_bind2_some, pz_inN (by omega) (by decide), nI_clamp (by omega), xa_u _ _ _ _ _ (Or.inl (by decide)), gv_let_p, pz_inN (by omega) (by decide), xa_o _ _ _ (by decide), pz_ua, if_neg (nI_pos (by omega)), pz_next0 ht2 eb, gv_bind2_some, ← ep1, show (112 : Int32) = nI 112 from rfl, if_neg (fun y => c1 ((xSi_eq ht2 p1 (by decide)).mp y))]
      rfl
  obtain ⟨p2, ep2⟩ : ∃ p2, p2 = zSk T n (p1 + 1) := ⟨_, rfl⟩
  obtain ⟨y1, y2, y3, y4⟩ := zSk_b (T := T) (show p1 + 1 ≤ n by omega)
  rw [← ep2] at y1 y2 y3 y4
  have tk1 : ∀ τ, tp τ T n → pX7_takes 112 (ca τ p1) = some (1, ca τ p2) := fun τ ht => by rw [ep2]; exact (pz_takes ht p1 z2 (by decide)).1 c1
  by_cases c2 : p2 < n ∧ 49 ≤ T p2 ∧ T p2 ≤ 57
  rotate_left
  · refine ⟨false, p2, 0, 0, 0, y2, y4, fun z => (by cases z), fun τ m ht hm hs => ?_, fun τ p0 to ht h1 h2 h3 => ?_⟩
    · unfold pX0_readSleigh
      have w : pX10_isWithin (zSi T n p2).toInt64 49 57 = 0 := by
        rw [pz_w10, show (49 : Int32).toInt = (49 : Nat) from rfl, show (57 : Int32).toInt = (57 : Nat) from rfl, zSi_in ht p2 (by omega) (by omega)]
        exact c2
      rw [num1 τ ht, gv_bind2_some, if_neg n4, tk1 τ ht, gv_bind2_some, if_neg (by decide), pz_sign ht p2 y2, gv_bind_some, if_pos w]
      rfl
    · have ht2 : xtp (gs_u τ 73 to (nI l)) T n := xtp_u ht _ _ _ (Or.inl (by decide)) (by decide)
      refine ⟨gs_u (gs_u τ 73 to (nI l)) 73 (to + 1) (zSi T n p2 - 48), p2, ?_, y2, y4, xS_u (xS_u ⟨fun _ _ => rfl, rfl, fun _ _ => rfl⟩ (Nat.le_refl _) _) (by omega) _, fun z => (by cases z)⟩
      have w : pX11_in (zSi T n p2 - 48).toInt64 1 9 = 0 := by
        rw [pz_x11, show (1 : Int64).toInt = 1 from rfl, show (9 : Int64).toInt = 9 from rfl]
        unfold iv_in zSi
        by_cases k : p2 < n
        · have tb := (ht.2.2 p2 k).2
          rw [if_pos k, ← zI_n, show (48 : Int32) = zI 48 from by decide, zI_sub, zI_t (by omega) (by omega)]
          omega
        · rw [if_neg k, zI_m1, show (48 : Int32) = zI 48 from by decide, zI_sub, zI_t (by omega) (by omega)]
          omega
      unfold pX11_readSleigh
      rw [xnum1 τ p0 ht h1 h2, gv_bind2_some, pz_inN (by omega) (by decide), nI_clamp (show to < 2 ^ 31 by omega), xa_u _ _ _ _ _ (Or.inl (by decide)), gv_let_p, pz_inN (by omega) (by decide), xa_o _ _ _ (by decide), pz_ua, if_neg (nI_pos (by omega)), pz_next0 ht2 eb, gv_bind2_some, ← ep1, show (112 : Int32) = nI 112 from rfl, if_pos ((xSi_eq ht2 p1 (by decide)).mpr c1), xa_13, nI_1, xa_xa, gv_let_p, pz_next0 ht2 (show p1 + 1 ≤ n by omega), gv_bind2_some, ← ep2, nI_1, pz_inN (show to + 1 < 64 by omega) (by decide), nI_clamp (show to + 1 < 2 ^ 31 by omega), xa_u _ _ _ _ _ (Or.inl (by decide)), gv_let_p, pz_inN (show to + 1 < 64 by omega) (by decide), xa_o _ _ _ (by decide), pz_ua, if_pos w]
      rfl
  obtain ⟨p3, ep3⟩ : ∃ p3, p3 = zSk T n (p2 + 1) := ⟨_, rfl⟩
  obtain ⟨x1, x2, x3, x4⟩ := zSk_b (T := T) (show p2 + 1 ≤ n by omega)
  rw [← ep3] at x1 x2 x3 x4
  have si2 : zSi T n p2 - (48 : Int32) = nI (T p2 - 48) := by
    rw [show zSi T n p2 = nI (T p2) from if_pos c2.1, show (48 : Int32) = nI 48 from rfl, nI_sub (by omega)]
  -- the class up to m
  have C : ∀ τ, tp τ T n → pX0_readSleigh (ca τ p) = gv_bind2 (pX7_takes 109 (ca τ p3)) (fun v9 s10 => if v9 = 0 then pX0_readSleigh_J72 (nI l) (nI (T p2 - 48)) 0 s10 else gv_bind2 (pX7_number 0 99 s10) (fun v14 s15 => pX0_readSleigh_J72 (nI l) (nI (T p2 - 48)) v14 s15)) := fun τ ht => by
    unfold pX0_readSleigh
    have w : ¬ pX10_isWithin (zSi T n p2).toInt64 49 57 = 0 := by
      rw [pz_w10, show (49 : Int32).toInt = (49 : Nat) from rfl, show (57 : Int32).toInt = (57 : Nat) from rfl, zSi_in ht p2 (by omega) (by omega)]
      exact fun y => y c2
    rw [num1 τ ht, gv_bind2_some, if_neg n4, tk1 τ ht, gv_bind2_some, if_neg (by decide), pz_sign ht p2 y2, gv_bind_some, if_neg w, gv_bind_some, si2, gv_let_p, pz_pass ht p2 c2.1, gv_bind_some, ← ep3]
  -- the reference up to m
  have X : ∀ τ p0 to, xtp τ T n → p0 ≤ n → zSk T n p0 = p → to + 2 < 64 → ∀ ρ, ρ = gs_u (gs_u (gs_u τ 73 to (nI l)) 73 (to + 1) (nI (T p2 - 48))) 73 (to + 2) 0 → pX11_readSleigh (nI to) (xa τ p0) = if zSi T n p3 = (109 : Int32) then gv_bind2 (pX11_readNumber 0 99 (xa ρ (p3 + 1))) (fun v22 s23 => gv_let (gs_u s23 73 (to + 2) v22) (fun s25 => pX11_readSleigh_J132 (nI to) s25)) else pX11_readSleigh_J132 (nI to) (xa ρ p3) := fun τ p0 to ht h1 h2 h3 ρ eρ => by
    have ht2 : xtp (gs_u τ 73 to (nI l)) T n := xtp_u ht _ _ _ (Or.inl (by decide)) (by decide)
    have ht3 : xtp (gs_u (gs_u τ 73 to (nI l)) 73 (to + 1) (nI (T p2 - 48))) T n := xtp_u ht2 _ _ _ (Or.inl (by decide)) (by decide)
    have ht4 : xtp ρ T n := by rw [eρ]; exact xtp_u ht3 _ _ _ (Or.inl (by decide)) (by decide)
    have w : ¬ pX11_in (nI (T p2 - 48)).toInt64 1 9 = 0 := by
      rw [pz_x11, show (1 : Int64).toInt = 1 from rfl, show (9 : Int64).toInt = 9 from rfl]
      unfold iv_in
      rw [nI_toInt (by omega)]
      omega
    have a2 : nI to + (2 : Int32) = nI (to + 2) := nI_add to 2
    unfold pX11_readSleigh
    rw [xnum1 τ p0 ht h1 h2, gv_bind2_some, pz_inN (by omega) (by decide), nI_clamp (show to < 2 ^ 31 by omega), xa_u _ _ _ _ _ (Or.inl (by decide)), gv_let_p, pz_inN (by omega) (by decide), xa_o _ _ _ (by decide), pz_ua, if_neg (nI_pos (by omega)), pz_next0 ht2 eb, gv_bind2_some, ← ep1, show (112 : Int32) = nI 112 from rfl, if_pos ((xSi_eq ht2 p1 (by decide)).mpr c1), xa_13, nI_1, xa_xa, gv_let_p, pz_next0 ht2 (show p1 + 1 ≤ n by omega), gv_bind2_some, ← ep2, nI_1, pz_inN (show to + 1 < 64 by omega) (by decide), nI_clamp (show to + 1 < 2 ^ 31 by omega), si2, xa_u _ _ _ _ _ (Or.inl (by decide)), gv_let_p, pz_inN (show to + 1 < 64 by omega) (by decide), xa_o _ _ _ (by decide), pz_ua, if_neg w, xa_13, nI_1, xa_xa, gv_let_p, a2, pz_inN (show to + 2 < 64 by omega) (by decide), nI_clamp (show to + 2 < 2 ^ 31 by omega), xa_u _ _ _ _ _ (Or.inl (by decide)), gv_let_p, ← eρ, pz_next0 ht4 (show p2 + 1 ≤ n by omega), gv_bind2_some, ← ep3, xa_13, nI_1, xa_xa, gv_let_p]
    by_cases k : zSi T n p3 = (109 : Int32)
    · rw [if_pos k, if_pos k]
      congr 1
      funext v22 s23
      rw [pz_inN (show to + 2 < 64 by omega) (by decide)]
    · rw [if_neg k, if_neg k]
  have paB : 1 ≤ T p2 - 48 ∧ T p2 - 48 ≤ 9 := by omega
  by_cases c3 : p3 < n ∧ T p3 = 109
  rotate_left
  · -- no m
    refine ⟨true, p3, l, T p2 - 48, 0, x2, x4, fun _ => ⟨lb1, lb2, paB.1, paB.2, by omega⟩, fun τ m ht hm hs => ?_, fun τ p0 to ht h1 h2 h3 => ?_⟩
    · rw [C τ ht, show (109 : Int32) = nI 109 from rfl, (pz_takes ht p3 x2 (by decide)).2 c3, gv_bind2_some, if_pos rfl]
      unfold pX0_readSleigh_J72
      rw [if_neg (by decide), show (0 : Int32) = nI 0 from rfl, pz_tadd hm hs, gv_bind_some, if_pos rfl]
    · obtain ⟨ρ, eρ⟩ : ∃ ρ, ρ = gs_u (gs_u (gs_u τ 73 to (nI l)) 73 (to + 1) (nI (T p2 - 48))) 73 (to + 2) 0 := ⟨_, rfl⟩
      have ht4 : xtp ρ T n := by rw [eρ]; exact xtp_u (xtp_u (xtp_u ht _ _ _ (Or.inl (by decide)) (by decide)) _ _ _ (Or.inl (by decide)) (by decide)) _ _ _ (Or.inl (by decide)) (by decide)
      have r2 : ρ.1 73 (to + 2) = 0 := by rw [eρ, pz_ua]
      refine ⟨ρ, p3, ?_, x2, x4, by rw [eρ]; exact xS_u (xS_u (xS_u ⟨fun _ _ => rfl, rfl, fun _ _ => rfl⟩ (Nat.le_refl _) _) (by omega) _) (by omega) _, fun _ => ⟨?_, ?_, r2⟩⟩
      · rw [X τ p0 to ht h1 h2 h3 ρ eρ, show (109 : Int32) = nI 109 from rfl, if_neg (fun y => c3 ((xSi_eq ht4 p3 (by decide)).mp y))]
        unfold pX11_readSleigh_J132
        rw [show nI to + (2 : Int32) = nI (to + 2) from nI_add to 2, pz_inN (by omega) (by decide), nI_clamp (by omega), xa_o _ _ _ (by decide), r2, if_neg (by decide)]
        rfl
      · rw [eρ, pz_u, if_pos rfl, pz_upd, if_neg (by omega), pz_u, if_pos rfl, pz_upd, if_neg (by omega), pz_ua]
      · rw [eρ, pz_u, if_pos rfl, pz_upd, if_neg (by omega), pz_ua]
  obtain ⟨p4, ep4⟩ : ∃ p4, p4 = zSk T n (p3 + 1) := ⟨_, rfl⟩
  obtain ⟨v1, v2, v3, v4⟩ := zSk_b (T := T) (show p3 + 1 ≤ n by omega)
  rw [← ep4] at v1 v2 v3 v4
  obtain ⟨u, u1, u2, u3⟩ := num_both T n (lo := 0) (hi := 99) (by decide) (by decide) v2 hn
  have tk2 : ∀ τ, tp τ T n → pX7_takes 109 (ca τ p3) = some (1, ca τ p4) := fun τ ht => by rw [ep4]; exact (pz_takes ht p3 x2 (by decide)).1 c3
  rcases u with _ | ⟨st, e2⟩
  · -- m without a number
    refine ⟨false, p4, 0, 0, 0, v2, v4, fun z => (by cases z), fun τ m ht hm hs => ?_, fun τ p0 to ht h1 h2 h3 => ?_⟩
    · rw [C τ ht, tk2 τ ht, gv_bind2_some, if_neg (by decide), show pX7_number 0 99 (ca τ p4) = some (-4, ca τ p4) from (u2 τ ht).1 rfl, gv_bind2_some]
      unfold pX0_readSleigh_J72
      rw [if_pos rfl]
      rfl
    · obtain ⟨ρ, eρ⟩ : ∃ ρ, ρ = gs_u (gs_u (gs_u τ 73 to (nI l)) 73 (to + 1) (nI (T p2 - 48))) 73 (to + 2) 0 := ⟨_, rfl⟩
      have ht4 : xtp ρ T n := by rw [eρ]; exact xtp_u (xtp_u (xtp_u ht _ _ _ (Or.inl (by decide)) (by decide)) _ _ _ (Or.inl (by decide)) (by decide)) _ _ _ (Or.inl (by decide)) (by decide)
      refine ⟨gs_u ρ 73 (to + 2) (-1), p4, ?_, v2, v4, by rw [eρ]; exact xS_u (xS_u (xS_u (xS_u ⟨fun _ _ => rfl, rfl, fun _ _ => rfl⟩ (Nat.le_refl _) _) (by omega) _) (by omega) _) (by omega) _, fun z => (by cases z)⟩
      rw [X τ p0 to ht h1 h2 h3 ρ eρ, show (109 : Int32) = nI 109 from rfl, if_pos ((xSi_eq ht4 p3 (by decide)).mpr c3), show pX11_readNumber 0 99 (xa ρ (p3 + 1)) = some (-1, xa ρ p4) from (u3 ρ (p3 + 1) ht4 (by omega) ep4.symm).1 rfl, gv_bind2_some, xa_u _ _ _ _ _ (Or.inl (by decide)), gv_let_p]
      unfold pX11_readSleigh_J132
      rw [show nI to + (2 : Int32) = nI (to + 2) from nI_add to 2, pz_inN (by omega) (by decide), nI_clamp (by omega), xa_o _ _ _ (by decide), pz_ua, if_pos (by decide)]
      rfl
  · obtain ⟨_, sb2, e2b⟩ := u1 st e2 rfl
    obtain ⟨w1, w2, w3, w4⟩ := zSk_b (T := T) e2b
    have s4 : ¬ nI st = (-4 : Int32) := by
      rw [← zI_n, show (-4 : Int32) = zI (-4) from by decide, zI_eq (by omega) (by omega) (by omega) (by omega)]; omega
    refine ⟨true, zSk T n e2, l, T p2 - 48, st, w2, w4, fun _ => ⟨lb1, lb2, paB.1, paB.2, sb2⟩, fun τ m ht hm hs => ?_, fun τ p0 to ht h1 h2 h3 => ?_⟩
    · rw [C τ ht, tk2 τ ht, gv_bind2_some, if_neg (by decide), show pX7_number 0 99 (ca τ p4) = some (nI st, ca τ (zSk T n e2)) from (u2 τ ht).2 st e2 rfl, gv_bind2_some]
      unfold pX0_readSleigh_J72
      rw [if_neg s4, pz_tadd hm hs, gv_bind_some, if_pos rfl]
    · obtain ⟨ρ, eρ⟩ : ∃ ρ, ρ = gs_u (gs_u (gs_u τ 73 to (nI l)) 73 (to + 1) (nI (T p2 - 48))) 73 (to + 2) 0 := ⟨_, rfl⟩
      have ht4 : xtp ρ T n := by rw [eρ]; exact xtp_u (xtp_u (xtp_u ht _ _ _ (Or.inl (by decide)) (by decide)) _ _ _ (Or.inl (by decide)) (by decide)) _ _ _ (Or.inl (by decide)) (by decide)
      refine ⟨gs_u ρ 73 (to + 2) (nI st), e2, ?_, e2b, rfl, by rw [eρ]; exact xS_u (xS_u (xS_u (xS_u ⟨fun _ _ => rfl, rfl, fun _ _ => rfl⟩ (Nat.le_refl _) _) (by omega) _) (by omega) _) (by omega) _, fun _ => ⟨?_, ?_, pz_ua _ _ _ _⟩⟩
      · rw [X τ p0 to ht h1 h2 h3 ρ eρ, show (109 : Int32) = nI 109 from rfl, if_pos ((xSi_eq ht4 p3 (by decide)).mpr c3), show pX11_readNumber 0 99 (xa ρ (p3 + 1)) = some (nI st, xa ρ e2) from (u3 ρ (p3 + 1) ht4 (by omega) ep4.symm).2 st e2 rfl, gv_bind2_some, xa_u _ _ _ _ _ (Or.inl (by decide)), gv_let_p]
        unfold pX11_readSleigh_J132
        rw [show nI to + (2 : Int32) = nI (to + 2) from nI_add to 2, pz_inN (by omega) (by decide), nI_clamp (by omega), xa_o _ _ _ (by decide), pz_ua, if_neg (nI_pos (by omega))]
        rfl
      · rw [pz_u, if_pos rfl, pz_upd, if_neg (by omega), eρ, pz_u, if_pos rfl, pz_upd, if_neg (by omega), pz_u, if_pos rfl, pz_upd, if_neg (by omega), pz_ua]
      · rw [pz_u, if_pos rfl, pz_upd, if_neg (by omega), eρ, pz_u, if_pos rfl, pz_upd, if_neg (by omega), pz_ua]
