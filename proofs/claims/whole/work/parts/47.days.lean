/-! PURE, 47: days -/
theorem pz_uw (σ : gs_S) (c : Nat) (f : Nat → Int32) (i : Nat) (v : Int32) : gs_u (gs_w σ c f) c i v = gs_w σ c (upd f i v) := by
  refine Prod.ext ?_ rfl
  funext a
  rw [pz_u, pz_w, pz_w, pz_w, if_pos rfl]
  by_cases h : a = c
  · rw [if_pos h, if_pos h]
  · rw [if_neg h, if_neg h, if_neg h]
theorem pz_ws (σ : gs_S) (c : Nat) : gs_w σ c (σ.1 c) = σ := by
  refine Prod.ext ?_ rfl
  funext a
  rw [pz_w]
  by_cases h : a = c
  · rw [if_pos h, h]
  · rw [if_neg h]
theorem pz_wc (σ : gs_S) (c : Nat) (f : Nat → Int32) : (gs_w σ c f).1 c = f := by rw [pz_w, if_pos rfl]
theorem pz_ww (σ : gs_S) (c : Nat) (f g : Nat → Int32) : gs_w (gs_w σ c f) c g = gs_w σ c g := by
  refine Prod.ext ?_ rfl
  funext a
  rw [pz_w, pz_w, pz_w]
  by_cases h : a = c
  · rw [if_pos h, if_pos h]
  · rw [if_neg h, if_neg h, if_neg h]
theorem upd_same (f : Nat → Int32) (i : Nat) : upd f i (f i) = f := by
  funext j
  rw [pz_upd]
  by_cases h : j = i
  · rw [if_pos h, h]
  · rw [if_neg h]
def zSum (f : Nat → Int32) : Nat → Int32
  | 0 => 0
  | k + 1 => zSum f k + f k
theorem zSum_eq {f g : Nat → Int32} : ∀ n, (∀ k, k < n → f k = g k) → zSum f n = zSum g n := by
  intro n
  induction n with
  | zero => intro _; rfl
  | succ n ih =>
    intro h
    unfold zSum
    rw [ih (fun k hk => h k (by omega)), h n (by omega)]
theorem pz_total {t : Nat} (ht : t < 5) (σ : gs_S) : pX2_total (nI t) σ = some (zSum (fun k => σ.1 3 (t * 64 + k)) 64) := by
  unfold pX2_total
  have h := gv_for (fun q : Int32 × Int32 => pX2_total_L4 (nI t) σ q.1 q.2) (fun k => (zSum (fun k => σ.1 3 (t * 64 + k)) k, nI k)) 64 gv_N (gv_N_lt (by decide)) (zSum (fun k => σ.1 3 (t * 64 + k)) 64, nI 64) ?_ ?_
  · have h2 : gv_loop (fun q : Int32 × Int32 => pX2_total_L4 (nI t) σ q.1 q.2) gv_N ((0 : Int32), (0 : Int32)) = some (zSum (fun k => σ.1 3 (t * 64 + k)) 64, nI 64) := h
    rw [h2]
    simp only [gv_bind, gv_let]
  · intro k hk
    dsimp only
    unfold pX2_total_L4
    rw [if_neg (show ¬ (64 : Int32) ≤ nI k from nI_ge (b := 64) hk (by decide)), pz_trait (by omega) ht]
    simp only [gv_bind, gv_let, nI_1]
    rfl
  · dsimp only
    unfold pX2_total_L4
    rw [if_pos (by decide)]
/-- a day at a square: its thickness and kind, by the cold, the snow, the spring -/
def zG (c sn sp t : Int32) : Int32 := gv_max 0 (gv_min 99 ((t + ((c * ((10 : Int32) - sn)) / (10 : Int32))) - ((3 : Int32) * sp)))
def zSt (c sn sp : Int32) (p : Int32 × Int32) : Int32 × Int32 := (zG c sn sp p.1, if p.1 = 0 ∧ ¬ zG c sn sp p.1 ≤ 0 then 0 else p.2)
def zStN (c sn sp : Int32) (p : Int32 × Int32) : Nat → Int32 × Int32
  | 0 => p
  | d + 1 => zSt c sn sp (zStN c sn sp p d)
theorem pz_clamp (v : Int32) : gv_max 0 (gv_min 99 v) = if 0 ≤ v then (if v ≤ 99 then v else 99) else 0 := by
  unfold gv_max gv_min
  simp only [Int32.lt_iff_toInt_lt, Int32.le_iff_toInt_le]
  have h0 : (0 : Int32).toInt = 0 := rfl
  have h9 : (99 : Int32).toInt = 99 := rfl
  rw [h0, h9]
  by_cases h1 : 0 ≤ v.toInt
  · rw [if_pos h1]
    by_cases h2 : v.toInt ≤ 99
    · rw [if_pos h2]
      by_cases h3 : v.toInt < 99
      · rw [if_pos h3]
        by_cases h4 : 0 < v.toInt
        · rw [if_pos h4]
        · rw [if_neg h4]; exact Int32.toInt_inj.mp (by rw [h0]; omega)
      · rw [if_neg h3, h9, if_pos (by decide)]; exact Int32.toInt_inj.mp (by rw [h9]; omega)
    · rw [if_neg h2, if_neg (show ¬ v.toInt < 99 by omega), h9, if_pos (by decide)]
  · rw [if_neg h1, if_pos (show v.toInt < 99 by omega), if_neg (show ¬ 0 < v.toInt by omega)]
theorem zG_in (c sn sp t : Int32) : iv_in (zG c sn sp t) 0 99 := by
  unfold zG
  rw [pz_clamp]
  generalize ((t + ((c * ((10 : Int32) - sn)) / (10 : Int32))) - ((3 : Int32) * sp)) = v
  have h0 : (0 : Int32).toInt = 0 := rfl
  have h9 : (99 : Int32).toInt = 99 := rfl
  unfold iv_in
  by_cases h1 : 0 ≤ v
  · rw [if_pos h1]
    by_cases h2 : v ≤ 99
    · rw [if_pos h2]; rw [Int32.le_iff_toInt_le] at h1 h2; omega
    · rw [if_neg h2]; omega
  · rw [if_neg h1]; omega
theorem zStN_in (c sn sp : Int32) (p : Int32 × Int32) (h1 : iv_in p.1 0 99) (h2 : iv_in p.2 0 4) : ∀ d, iv_in (zStN c sn sp p d).1 0 99 ∧ iv_in (zStN c sn sp p d).2 0 4 := by
  intro d
  induction d with
  | zero => exact ⟨h1, h2⟩
  | succ d ih =>
    refine ⟨zG_in _ _ _ _, ?_⟩
    show iv_in (if _ then _ else _) 0 4
    split
    · exact ⟨by decide, by decide⟩
    · exact ih.2
/-- the whole row after a day at square q -/
def zFr (c : Int32) (f : Nat → Int32) (q : Nat) : Nat → Int32 := upd (upd f q (zSt c (f (128 + q)) (f (192 + q)) (f q, f (64 + q))).1) (64 + q) (zSt c (f (128 + q)) (f (192 + q)) (f q, f (64 + q))).2
theorem zFr_at (c : Int32) (f : Nat → Int32) (q j : Nat) (hq : q < 64) (hj : j < 64) : (zFr c f q j, zFr c f q (64 + j)) = if j = q then zSt c (f (128 + q)) (f (192 + q)) (f q, f (64 + q)) else (f j, f (64 + j)) := by
  unfold zFr
  simp only [pz_upd]
  by_cases h : j = q
  · subst h
    rw [if_pos rfl, if_pos rfl, if_pos rfl, if_neg (by omega)]
  · rw [if_neg h, if_neg h, if_neg (by omega), if_neg (by omega), if_neg (by omega)]
theorem zFr_hi (c : Int32) (f : Nat → Int32) (q j : Nat) (hq : q < 64) (hj : 128 ≤ j) : zFr c f q j = f j := by
  unfold zFr
  simp only [pz_upd]
  rw [if_neg (by omega), if_neg (by omega)]
def zFA (c : Int32) (f : Nat → Int32) : Nat → Nat → Int32
  | 0 => f
  | k + 1 => zFr c (zFA c f k) k
theorem zFA_hi (c : Int32) (f : Nat → Int32) (j : Nat) (hj : 128 ≤ j) : ∀ k, k ≤ 64 → zFA c f k j = f j := by
  intro k
  induction k with
  | zero => intro _; rfl
  | succ k ih => intro h; unfold zFA; rw [zFr_hi _ _ _ _ (by omega) hj]; exact ih (by omega)
theorem zFA_at (c : Int32) (f : Nat → Int32) (j : Nat) (hj : j < 64) : ∀ k, k ≤ 64 → (zFA c f k j, zFA c f k (64 + j)) = if j < k then zSt c (f (128 + j)) (f (192 + j)) (f j, f (64 + j)) else (f j, f (64 + j)) := by
  intro k
  induction k with
  | zero => intro _; rw [if_neg (by omega)]; rfl
  | succ k ih =>
    intro h
    have ih := ih (by omega)
    unfold zFA
    rw [zFr_at _ _ _ _ (by omega) hj, zFA_hi _ _ _ (by omega) _ (by omega), zFA_hi _ _ _ (by omega) _ (by omega)]
    by_cases e : j = k
    · subst e
      rw [if_neg (by omega)] at ih
      rw [if_pos rfl, if_pos (by omega), ih]
    · rw [if_neg e, ih]
      by_cases e2 : j < k
      · rw [if_pos e2, if_pos (by omega)]
      · rw [if_neg e2, if_neg (by omega)]
def zDA (c : Int32) (f : Nat → Int32) : Nat → Nat → Int32
  | 0 => f
  | d + 1 => zFA c (zDA c f d) 64
theorem zDA_hi (c : Int32) (f : Nat → Int32) (j : Nat) (hj : 128 ≤ j) : ∀ d, zDA c f d j = f j := by
  intro d
  induction d with
  | zero => rfl
  | succ d ih => unfold zDA; rw [zFA_hi _ _ _ hj _ (by omega)]; exact ih
theorem zDA_at (c : Int32) (f : Nat → Int32) (j : Nat) (hj : j < 64) : ∀ d, (zDA c f d j, zDA c f d (64 + j)) = zStN c (f (128 + j)) (f (192 + j)) (f j, f (64 + j)) d := by
  intro d
  induction d with
  | zero => rfl
  | succ d ih => unfold zDA zStN; rw [zFA_at _ _ _ hj _ (by omega), if_pos hj, zDA_hi _ _ _ (by omega), zDA_hi _ _ _ (by omega), ih]
theorem pz_freeze (c : Int32) (σ : gs_S) (f : Nat → Int32) : pX2_freeze c (gs_w σ 3 f) = some (gs_w σ 3 (zFA c f 64)) := by
  unfold pX2_freeze
  have h := gv_for (fun q : Int32 × gs_S => pX2_freeze_L2 c q.1 q.2) (fun k => (nI k, gs_w σ 3 (zFA c f k))) 64 gv_N (gv_N_lt (by decide)) (nI 64, gs_w σ 3 (zFA c f 64)) ?_ ?_
  · have h2 : gv_loop (fun q : Int32 × gs_S => pX2_freeze_L2 c q.1 q.2) gv_N ((0 : Int32), gs_w σ 3 f) = some (nI 64, gs_w σ 3 (zFA c f 64)) := h
    rw [h2]
    simp only [gv_bind, gv_let]
  · intro k hk
    dsimp only
    unfold pX2_freeze_L2
    rw [if_neg (show ¬ (64 : Int32) ≤ nI k from nI_ge (b := 64) hk (by decide)), pz_t0 hk, pz_t2 hk, pz_t3 hk]
    simp only [gv_bind, gv_let, nI_1, pz_p0 hk, pz_wc, pz_uw]
    show _ = some (Sum.inl (nI (k + 1), gs_w σ 3 (zFr c (zFA c f k) k)))
    generalize zFA c f k = g
    unfold zFr zSt
    dsimp only
    rw [show gv_max 0 (gv_min 99 ((g k + ((c * ((10 : Int32) - g (128 + k))) / (10 : Int32))) - ((3 : Int32) * g (192 + k)))) = zG c (g (128 + k)) (g (192 + k)) (g k) from rfl]
    generalize zG c (g (128 + k)) (g (192 + k)) (g k) = v
    have e : upd (upd g k v) (64 + k) (g (64 + k)) = upd g k v := by
      have h9 := upd_same (upd g k v) (64 + k)
      rw [show upd g k v (64 + k) = g (64 + k) by rw [pz_upd, if_neg (by omega)]] at h9
      exact h9
    by_cases c1 : g k = 0
    · rw [if_pos c1]
      by_cases c2 : v ≤ 0
      · rw [if_pos c2, if_neg (fun q => q.2 c2), e]
      · rw [if_neg c2, if_pos ⟨c1, c2⟩, pz_p1 hk]
        simp only [pz_uw]
    · rw [if_neg c1, if_neg (fun q => c1 q.1), e]
  · dsimp only
    unfold pX2_freeze_L2
    rw [if_pos (by decide)]
theorem pz_xfreeze {q : Nat} (hq : q < 64) (c : Int32) (σ : gs_S) (g : Nat → Int32) : pX11_freeze (nI q) c (gs_w σ 64 g) = some (gs_w σ 64 (zFr c g q)) := by
  unfold pX11_freeze
  simp only [show (128 : Int32) + nI q = nI (128 + q) from nI_add 128 q, show (192 : Int32) + nI q = nI (192 + q) from nI_add 192 q, pz_inN (show q < 320 by omega) (by decide), pz_inN (show 128 + q < 320 by omega) (by decide), pz_inN (show 192 + q < 320 by omega) (by decide), nI_clamp (show q < 2 ^ 31 by omega), nI_clamp (show 128 + q < 2 ^ 31 by omega), nI_clamp (show 192 + q < 2 ^ 31 by omega), gv_let, pz_wc]
  have key : ∀ v, pX11_freeze_J70 (nI q) (gs_w σ 64 g) (g q) v = some (gs_w σ 64 (upd (upd g q v) (64 + q) (if g q = 0 ∧ ¬ v ≤ 0 then 0 else g (64 + q)))) := by
    intro v
    unfold pX11_freeze_J70 pX11_freeze_J96
    simp only [show (64 : Int32) + nI q = nI (64 + q) from nI_add 64 q, pz_inN (show q < 320 by omega) (by decide), pz_inN (show 64 + q < 320 by omega) (by decide), nI_clamp (show q < 2 ^ 31 by omega), nI_clamp (show 64 + q < 2 ^ 31 by omega), gv_let, pz_wc, pz_uw]
    have e : upd (upd g q v) (64 + q) (upd g q v (64 + q)) = upd (upd g q v) (64 + q) (g (64 + q)) := by
      rw [show upd g q v (64 + q) = g (64 + q) by rw [pz_upd, if_neg (by omega)]]
    rw [show upd g q v q = v by rw [pz_upd, if_pos rfl], e]
    by_cases c1 : g q = 0
    · rw [if_pos c1]
      by_cases c2 : v ≤ 0
      · rw [if_pos c2, if_neg (fun q => q.2 c2)]
      · rw [if_neg c2, if_pos ⟨c1, c2⟩]
    · rw [if_neg c1, if_neg (fun q => c1 q.1)]
  simp only [key]
  unfold zFr zSt zG
  dsimp only
  rw [pz_clamp]
  by_cases h1 : 0 ≤ ((g q + ((c * ((10 : Int32) - g (128 + q))) / (10 : Int32))) - ((3 : Int32) * g (192 + q)))
  · rw [if_pos h1, if_pos h1]
    by_cases h2 : ((g q + ((c * ((10 : Int32) - g (128 + q))) / (10 : Int32))) - ((3 : Int32) * g (192 + q))) ≤ 99
    · rw [if_pos h2, if_pos h2]
    · rw [if_neg h2, if_neg h2]
  · rw [if_neg h1, if_neg h1]
def zHA (c : Int32) (g : Nat → Int32) (q : Nat) : Nat → Nat → Int32
  | 0 => g
  | d + 1 => zFr c (zHA c g q d) q
theorem zHA_hi (c : Int32) (g : Nat → Int32) (q j : Nat) (hq : q < 64) (hj : 128 ≤ j) : ∀ d, zHA c g q d j = g j := by
  intro d
  induction d with
  | zero => rfl
  | succ d ih => unfold zHA; rw [zFr_hi _ _ _ _ hq hj]; exact ih
theorem zHA_at (c : Int32) (g : Nat → Int32) (q j : Nat) (hq : q < 64) (hj : j < 64) : ∀ d, (zHA c g q d j, zHA c g q d (64 + j)) = if j = q then zStN c (g (128 + q)) (g (192 + q)) (g q, g (64 + q)) d else (g j, g (64 + j)) := by
  intro d
  induction d with
  | zero =>
    by_cases e : j = q
    · rw [if_pos e, e]; rfl
    · rw [if_neg e]; rfl
  | succ d ih =>
    unfold zHA zStN
    rw [zFr_at _ _ _ _ hq hj, zHA_hi _ _ _ _ hq (by omega), zHA_hi _ _ _ _ hq (by omega)]
    by_cases e : j = q
    · subst e
      rw [if_pos rfl] at ih ⊢
      rw [if_pos rfl, ih]
    · rw [if_neg e] at ih ⊢
      rw [if_neg e, ih]
def zRA (c : Int32) (g : Nat → Int32) (n : Nat) : Nat → Nat → Int32
  | 0 => g
  | q + 1 => zHA c (zRA c g n q) q n
theorem zRA_hi (c : Int32) (g : Nat → Int32) (n j : Nat) (hj : 128 ≤ j) : ∀ k, k ≤ 64 → zRA c g n k j = g j := by
  intro k
  induction k with
  | zero => intro _; rfl
  | succ k ih => intro h; unfold zRA; rw [zHA_hi _ _ _ _ (by omega) hj]; exact ih (by omega)
theorem zRA_at (c : Int32) (g : Nat → Int32) (n j : Nat) (hj : j < 64) : ∀ k, k ≤ 64 → (zRA c g n k j, zRA c g n k (64 + j)) = if j < k then zStN c (g (128 + j)) (g (192 + j)) (g j, g (64 + j)) n else (g j, g (64 + j)) := by
  intro k
  induction k with
  | zero => intro _; rw [if_neg (by omega)]; rfl
  | succ k ih =>
    intro h
    have ih := ih (by omega)
    unfold zRA
    rw [zHA_at _ _ _ _ (by omega) hj, zRA_hi _ _ _ _ (by omega) _ (by omega), zRA_hi _ _ _ _ (by omega) _ (by omega)]
    by_cases e : j = k
    · subst e
      rw [if_neg (by omega)] at ih
      rw [if_pos rfl, if_pos (by omega), ih]
    · rw [if_neg e, ih]
      by_cases e2 : j < k
      · rw [if_pos e2, if_pos (by omega)]
      · rw [if_neg e2, if_neg (by omega)]
theorem pz_xdays (c : Int32) {n : Nat} (hn : n < 1000) (σ : gs_S) (g : Nat → Int32) : gv_loop (fun q : Int32 × Int32 × gs_S => pX11_days_L31 (nI n) c q.1 q.2.1 q.2.2) gv_N ((0 : Int32), (0 : Int32), gs_w σ 64 g) = some (zSum (fun k => zRA c g n 64 k) 64, nI 64, gs_w σ 64 (zRA c g n 64)) := by
  refine gv_for (fun q : Int32 × Int32 × gs_S => pX11_days_L31 (nI n) c q.1 q.2.1 q.2.2) (fun k => (zSum (fun j => zRA c g n 64 j) k, nI k, gs_w σ 64 (zRA c g n k))) 64 gv_N (gv_N_lt (by decide)) _ ?_ ?_
  · intro k hk
    dsimp only
    unfold pX11_days_L31
    rw [if_neg (show ¬ (64 : Int32) ≤ nI k from nI_ge (b := 64) hk (by decide))]
    have h := gv_for (fun q : Int32 × gs_S => pX11_days_L41 (nI n) (nI k) c q.1 q.2) (fun d => (nI d, gs_w σ 64 (zHA c (zRA c g n k) k d))) n gv_N (gv_N_lt (by omega)) (nI n, gs_w σ 64 (zHA c (zRA c g n k) k n)) ?_ ?_
    · have h2 : gv_loop (fun q : Int32 × gs_S => pX11_days_L41 (nI n) (nI k) c q.1 q.2) gv_N ((0 : Int32), gs_w σ 64 (zRA c g n k)) = some (nI n, gs_w σ 64 (zHA c (zRA c g n k) k n)) := h
      rw [h2]
      simp only [gv_bind, gv_let, nI_1, pz_inN (show k < 320 by omega) (by decide), nI_clamp (show k < 2 ^ 31 by omega), pz_wc]
      have e1 : zHA c (zRA c g n k) k n k = zRA c g n 64 k := by
        have a1 := zRA_at c g n k hk 64 (by omega)
        have a2 := zRA_at c g n k hk (k + 1) (by omega)
        rw [if_pos (by omega)] at a1 a2
        exact (Prod.mk.inj (a2.trans a1.symm)).1
      rw [e1]
      rfl
    · intro d hd
      dsimp only
      unfold pX11_days_L41
      rw [if_neg (nI_ge hd (by omega)), pz_xfreeze hk]
      simp only [gv_bind, gv_let, nI_1]
      rfl
    · dsimp only
      unfold pX11_days_L41
      rw [if_pos (nI_le (Nat.le_refl n) (by omega))]
  · dsimp only
    unfold pX11_days_L31
    rw [if_pos (by decide)]
theorem pz_ddays (c : Int32) {n : Nat} (hn : n < 1000) (σ : gs_S) (f : Nat → Int32) : gv_loop (fun q : Int32 × gs_S => pX10_days_L26 (nI n) c q.1 q.2) gv_N ((0 : Int32), gs_w σ 3 f) = some (nI n, gs_w σ 3 (zDA c f n)) := by
  refine gv_for (fun q : Int32 × gs_S => pX10_days_L26 (nI n) c q.1 q.2) (fun d => (nI d, gs_w σ 3 (zDA c f d))) n gv_N (gv_N_lt (by omega)) _ ?_ ?_
  · intro d hd
    dsimp only
    unfold pX10_days_L26
    rw [if_neg (nI_ge hd (by omega)), pz_freeze]
    simp only [gv_bind, gv_let, nI_1]
    rfl
  · dsimp only
    unfold pX10_days_L26
    rw [if_pos (nI_le (Nat.le_refl n) (by omega))]
theorem op_days (σ : gs_S) (hI : inv σ) (a1 : Int32) (a2 : Int32) : ∃ (r : Int32) (σ1 : gs_S) (σ2 : gs_S), pX10_days a1 a2 σ = some (r, σ1) ∧ pX11_days a1 a2 σ1 = some (r, σ2) ∧ inv σ2 := by
  unfold pX10_days pX11_days
  by_cases h1 : iv_in a1 0 9
  rotate_left
  · exact ⟨-1, σ, σ, pz_if_f (pz_w10 a1 0 9) h1 _ _, pz_if_f (pz_x11 a1 0 9) h1 _ _, hI⟩
  rw [pz_if_t (pz_w10 a1 0 9) h1]
  by_cases h2 : iv_in a2 1 30
  rotate_left
  · exact ⟨-1, σ, σ, pz_if_f (pz_w10 a2 1 30) h2 _ _, by rw [pz_if_t (pz_x11 a1 0 9) h1, pz_if_f (pz_x11 a2 1 30) h2], hI⟩
  rw [pz_if_t (pz_w10 a2 1 30) h2]
  obtain ⟨n, hn, rfl⟩ := pz_nat 30 ⟨by have := h2.1; omega, h2.2⟩ (by decide)
  obtain ⟨⟨i1, i2, i3⟩, i4⟩ := id hI
  obtain ⟨τ, eτ⟩ : ∃ τ, τ = gs_w σ 3 (zDA a1 (σ.1 3) n) := ⟨_, rfl⟩
  have hl := pz_ddays a1 (show n < 1000 by omega) σ (σ.1 3)
  rw [pz_ws] at hl
  rw [← eτ] at hl
  have t64 : τ.1 64 = σ.1 64 := by rw [eτ]; rfl
  have t3 : τ.1 3 = zDA a1 (σ.1 3) n := by rw [eτ]; rfl
  have hr := pz_xdays a1 (show n < 1000 by omega) τ (τ.1 64)
  rw [pz_ws, t64] at hr
  have all : ∀ k, k < 320 → zDA a1 (σ.1 3) n k = zRA a1 (σ.1 64) n 64 k := by
    intro k hk
    by_cases c1 : k < 64
    · have b1 := zDA_at a1 (σ.1 3) k c1 n
      have b2 := zRA_at a1 (σ.1 64) n k c1 64 (by omega)
      rw [if_pos c1, ← i1 k (by omega), ← i1 (64 + k) (by omega), ← i1 (128 + k) (by omega), ← i1 (192 + k) (by omega)] at b2
      exact (Prod.mk.inj (b1.trans b2.symm)).1
    · by_cases c2 : k < 128
      · obtain ⟨j, rfl⟩ : ∃ j, k = 64 + j := ⟨k - 64, by omega⟩
        have c1 : j < 64 := by omega
        have b1 := zDA_at a1 (σ.1 3) j c1 n
        have b2 := zRA_at a1 (σ.1 64) n j c1 64 (by omega)
        rw [if_pos c1, ← i1 j (by omega), ← i1 (64 + j) (by omega), ← i1 (128 + j) (by omega), ← i1 (192 + j) (by omega)] at b2
        exact (Prod.mk.inj (b1.trans b2.symm)).2
      · rw [zDA_hi _ _ _ (by omega), zRA_hi _ _ _ _ (by omega) _ (by omega)]; exact i1 k hk
  have pr : ∀ k, k < 64 → iv_in (zDA a1 (σ.1 3) n k) 0 99 ∧ iv_in (zDA a1 (σ.1 3) n (64 + k)) 0 4 := by
    intro k hk
    have b1 := zDA_at a1 (σ.1 3) k hk n
    have b2 := zStN_in a1 (σ.1 3 (128 + k)) (σ.1 3 (192 + k)) (σ.1 3 k, σ.1 3 (64 + k)) (i2 k hk) (i3 k hk) n
    rw [← b1] at b2
    exact b2
  refine ⟨zSum (fun k => zDA a1 (σ.1 3) n k) 64, τ, gs_w τ 64 (zRA a1 (σ.1 64) n 64), ?_, ?_, ?_⟩
  · rw [hl]
    simp only [gv_bind, gv_let]
    have ht := pz_total (show 0 < 5 by decide) τ
    rw [show nI 0 = (0 : Int32) from rfl] at ht
    rw [ht, t3]
    simp only [Nat.zero_mul, Nat.zero_add]
  · rw [pz_if_t (pz_x11 a1 0 9) h1, pz_if_t (pz_x11 (nI n) 1 30) h2, hr]
    simp only [gv_bind, gv_let]
    rw [zSum_eq 64 (fun k hk => all k (by omega))]
  · subst eτ
    exact ⟨⟨fun k hk => all k hk, fun k hk => (pr k hk).1, fun k hk => (pr k hk).2⟩, i4⟩
