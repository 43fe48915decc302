/-! PURE, 49u: texts: places of the tape on both sides -/
theorem pz_uu (σ : gs_S) (c i : Nat) (v w : Int32) : gs_u (gs_u σ c i v) c i w = gs_u σ c i w := by
  refine Prod.ext (funext fun a => ?_) rfl
  show (if a = c then upd (if c = c then upd (σ.1 c) i v else σ.1 c) i w else if a = c then upd (σ.1 c) i v else σ.1 a) = if a = c then upd (σ.1 c) i w else σ.1 a
  by_cases e : a = c
  · rw [if_pos e, if_pos e, if_pos rfl]
    funext j
    rw [pz_upd, pz_upd, pz_upd]
    by_cases q : j = i
    · rw [if_pos q, if_pos q]
    · rw [if_neg q, if_neg q, if_neg q]
  · rw [if_neg e, if_neg e, if_neg e]
theorem pz_uc (σ : gs_S) {c d i j : Nat} (v w : Int32) (h : ¬ c = d ∨ ¬ i = j) : gs_u (gs_u σ c i v) d j w = gs_u (gs_u σ d j w) c i v := by
  refine Prod.ext (funext fun a => ?_) rfl
  rw [pz_u, pz_u, pz_u, pz_u, pz_u, pz_u]
  by_cases e : a = d
  · by_cases f : a = c
    · subst f
      subst e
      rw [if_pos rfl, if_pos rfl, if_pos rfl, if_pos rfl]
      funext k
      rw [pz_upd, pz_upd, pz_upd, pz_upd]
      have hij : ¬ i = j := by rcases h with h | h; exact absurd rfl h; exact h
      by_cases q : k = j
      · rw [if_pos q, if_neg (fun z => hij (by rw [← z, q])), if_pos q]
      · rw [if_neg q]
        by_cases z : k = i
        · rw [if_pos z, if_pos z]
        · rw [if_neg z, if_neg z, if_neg q]
    · subst e
      rw [if_pos rfl, if_neg f, if_neg f, if_pos rfl]
  · rw [if_neg e]
    by_cases f : a = c
    · subst f
      rw [if_pos rfl, if_pos rfl, if_neg e]
    · rw [if_neg f, if_neg f, if_neg e]
def zSkD (T : Nat → Nat) : Nat → Nat → Nat
  | 0, p => p
  | d + 1, p => if T p = 32 then zSkD T d (p + 1) else p
def zSk (T : Nat → Nat) (n p : Nat) : Nat := zSkD T (n - p) p
def zSi (T : Nat → Nat) (n p : Nat) : Int32 := if p < n then nI (T p) else -1
theorem zSk_e {T : Nat → Nat} {n p : Nat} (h : ¬ p < n) : zSk T n p = p := by
  unfold zSk
  rw [show n - p = 0 by omega]; rfl
theorem zSk_n {T : Nat → Nat} {n p : Nat} (h : ¬ T p = 32) : zSk T n p = p := by
  unfold zSk
  cases n - p with
  | zero => rfl
  | succ d => exact if_neg h
theorem zSk_y {T : Nat → Nat} {n p : Nat} (h : p < n) (h2 : T p = 32) : zSk T n p = zSk T n (p + 1) := by
  unfold zSk
  obtain ⟨d, hd⟩ : ∃ d, n - p = d + 1 := ⟨n - p - 1, by omega⟩
  rw [hd, show n - (p + 1) = d by omega]
  exact if_pos h2
theorem zSk_p (T : Nat → Nat) (n : Nat) : ∀ d p, n - p = d → p ≤ n → p ≤ zSk T n p ∧ zSk T n p ≤ n ∧ (zSk T n p < n → ¬ T (zSk T n p) = 32) ∧ zSk T n (zSk T n p) = zSk T n p := by
  intro d
  induction d with
  | zero =>
    intro p hd hp
    have e : zSk T n p = p := zSk_e (by omega)
    rw [e, e]
    exact ⟨Nat.le_refl _, hp, fun z => absurd z (by omega), rfl⟩
  | succ d ih =>
    intro p hd hp
    by_cases c : T p = 32
    · rw [zSk_y (by omega) c]
      obtain ⟨a1, a2, a3, a4⟩ := ih (p + 1) (by omega) (by omega)
      exact ⟨by omega, a2, a3, a4⟩
    · have e : zSk T n p = p := zSk_n c
      rw [e, e]
      exact ⟨Nat.le_refl _, hp, fun _ => c, rfl⟩
theorem zSk_b {T : Nat → Nat} {n p : Nat} (hp : p ≤ n) : p ≤ zSk T n p ∧ zSk T n p ≤ n ∧ (zSk T n p < n → ¬ T (zSk T n p) = 32) ∧ zSk T n (zSk T n p) = zSk T n p := zSk_p T n _ p rfl hp
/-- the tape as it stands -/
def tp (σ : gs_S) (T : Nat → Nat) (n : Nat) : Prop := n ≤ 140 ∧ σ.1 29 1 = nI n ∧ (∀ k, k < n → σ.1 30 k = nI (T k) ∧ 32 ≤ T k ∧ T k ≤ 126)
def xtp (σ : gs_S) (T : Nat → Nat) (n : Nat) : Prop := n ≤ 140 ∧ σ.1 63 12 = nI n ∧ (∀ k, k < n → σ.1 72 k = nI (T k) ∧ 32 ≤ T k ∧ T k ≤ 126)
def ca (τ : gs_S) (p : Nat) : gs_S := gs_u τ 29 2 (nI p)
def xa (τ : gs_S) (p : Nat) : gs_S := gs_u τ 63 13 (nI p)
theorem ca_ca (τ : gs_S) (p q : Nat) : gs_u (ca τ p) 29 2 (nI q) = ca τ q := pz_uu τ 29 2 _ _
theorem xa_xa (τ : gs_S) (p q : Nat) : gs_u (xa τ p) 63 13 (nI q) = xa τ q := pz_uu τ 63 13 _ _
theorem ca_2 (τ : gs_S) (p : Nat) : (ca τ p).1 29 2 = nI p := pz_ua τ 29 2 _
theorem xa_13 (τ : gs_S) (p : Nat) : (xa τ p).1 63 13 = nI p := pz_ua τ 63 13 _
theorem ca_o (τ : gs_S) (p c : Nat) (h : ¬ c = 29) : (ca τ p).1 c = τ.1 c := by unfold ca; rw [pz_u, if_neg h]
theorem xa_o (τ : gs_S) (p c : Nat) (h : ¬ c = 63) : (xa τ p).1 c = τ.1 c := by unfold xa; rw [pz_u, if_neg h]
theorem ca_i (τ : gs_S) (p i : Nat) (h : ¬ i = 2) : (ca τ p).1 29 i = τ.1 29 i := by unfold ca; rw [pz_u, if_pos rfl, pz_upd, if_neg h]
theorem xa_i (τ : gs_S) (p i : Nat) (h : ¬ i = 13) : (xa τ p).1 63 i = τ.1 63 i := by unfold xa; rw [pz_u, if_pos rfl, pz_upd, if_neg h]
theorem ca_u (τ : gs_S) (p c i : Nat) (v : Int32) (h : ¬ c = 29) : gs_u (ca τ p) c i v = ca (gs_u τ c i v) p := pz_uc τ _ _ (Or.inl (fun z => h z.symm))
theorem xa_u (τ : gs_S) (p c i : Nat) (v : Int32) (h : ¬ c = 63 ∨ ¬ i = 13) : gs_u (xa τ p) c i v = xa (gs_u τ c i v) p := pz_uc τ _ _ (by rcases h with h | h; exact Or.inl (fun z => h z.symm); exact Or.inr (fun z => h z.symm))
theorem tp_ca {τ : gs_S} {T : Nat → Nat} {n : Nat} (h : tp τ T n) (p : Nat) : tp (ca τ p) T n := ⟨h.1, by rw [ca_i _ _ _ (by decide)]; exact h.2.1, fun k hk => by rw [ca_o _ _ _ (by decide)]; exact h.2.2 k hk⟩
theorem tp_u {τ : gs_S} {T : Nat → Nat} {n : Nat} (h : tp τ T n) (c i : Nat) (v : Int32) (h1 : ¬ c = 29) (h2 : ¬ c = 30) : tp (gs_u τ c i v) T n := ⟨h.1, by rw [pz_u, if_neg (fun z => h1 z.symm)]; exact h.2.1, fun k hk => by rw [pz_u, if_neg (fun z => h2 z.symm)]; exact h.2.2 k hk⟩
theorem xtp_u {τ : gs_S} {T : Nat → Nat} {n : Nat} (h : xtp τ T n) (c i : Nat) (v : Int32) (h1 : ¬ c = 63 ∨ ¬ i = 12) (h2 : ¬ c = 72) : xtp (gs_u τ c i v) T n := ⟨h.1, by
    rw [pz_u]
    by_cases e : 63 = c
    · rw [if_pos e, pz_upd, if_neg (by rcases h1 with h1 | h1; exact absurd e.symm h1; exact fun z => h1 z.symm), ← e]; exact h.2.1
    · rw [if_neg e]; exact h.2.1, fun k hk => by rw [pz_u, if_neg (fun z => h2 z.symm)]; exact h.2.2 k hk⟩
theorem pz_skip {T : Nat → Nat} {n : Nat} {τ : gs_S} (h : tp τ T n) {p : Nat} (hp : p ≤ n) : pX7_skipBlanks (ca τ p) = some (ca τ (zSk T n p)) := by
  obtain ⟨h1, h2, h3⟩ := h
  have key : ∀ d p N, n - p = d → p ≤ n → d < N → gv_loop (fun q => pX7_skipBlanks_L0 q) N (ca τ p) = some (ca τ (zSk T n p)) := by
    intro d
    induction d with
    | zero =>
      intro p N hd hp hN
      obtain ⟨M, rfl⟩ : ∃ M, N = M + 1 := ⟨N - 1, by omega⟩
      rw [zSk_e (show ¬ p < n by omega)]
      refine gv_loop_x _ M _ _ ?_
      show pX7_skipBlanks_L0 (ca τ p) = _
      unfold pX7_skipBlanks_L0
      rw [ca_2, ca_i _ _ _ (by decide), h2, if_pos (nI_le (by omega) (by omega))]
    | succ d ih =>
      intro p N hd hp hN
      obtain ⟨M, rfl⟩ : ∃ M, N = M + 1 := ⟨N - 1, by omega⟩
      have st : pX7_skipBlanks_L0 (ca τ p) = if T p = 32 then some (.inl (ca τ (p + 1))) else some (.inr (ca τ p)) := by
        unfold pX7_skipBlanks_L0
        have e3 := h3 p (by omega)
        rw [ca_2, ca_i _ _ _ (by decide), h2, if_neg (nI_ge (by omega) (by omega)), pz_inN (by omega) (by decide), nI_clamp (by omega), ca_o _ _ _ (by decide), e3.1, gv_let_p, nI_1, ca_ca]
        exact pz_ite ⟨fun z => (nI_eq (by omega) (by decide)).mp (show nI (T p) = nI 32 from z), fun z => by rw [z]⟩ _ _
      by_cases c : T p = 32
      · rw [if_pos c] at st
        rw [gv_loop_s _ M _ _ st, zSk_y (by omega) c]
        exact ih (p + 1) M (by omega) (by omega) (by omega)
      · rw [if_neg c] at st
        rw [gv_loop_x _ M _ _ st, zSk_n c]
  unfold pX7_skipBlanks
  rw [key (n - p) p gv_N rfl hp (gv_N_lt (by omega))]
  rfl
theorem pz_sign {T : Nat → Nat} {n : Nat} {τ : gs_S} (h : tp τ T n) (p : Nat) (hp : p ≤ n) : pX7_sign (ca τ p) = some (zSi T n p) := by
  obtain ⟨h1, h2, h3⟩ := h
  unfold pX7_sign zSi
  rw [ca_2, ca_i _ _ _ (by decide), h2]
  by_cases c : p < n
  · rw [if_neg (nI_ge c (by omega)), if_pos c, pz_inN (by omega) (by decide), nI_clamp (by omega), ca_o _ _ _ (by decide), (h3 p c).1]
  · rw [if_pos (nI_le (by omega) (by omega)), if_neg c]
theorem pz_pass {T : Nat → Nat} {n : Nat} {τ : gs_S} (h : tp τ T n) (p : Nat) (hp : p < n) : pX7_pass (ca τ p) = some (ca τ (zSk T n (p + 1))) := by
  unfold pX7_pass
  rw [ca_2, nI_1, ca_ca, gv_let_p, pz_skip h (by omega)]
  rfl
def zDg (T : Nat → Nat) (n p : Nat) : Prop := p < n ∧ 48 ≤ T p ∧ T p ≤ 57
theorem zSi_in {σ : gs_S} {T : Nat → Nat} {n : Nat} (h : tp σ T n) (p : Nat) {lo hi : Nat} (hl : 1 ≤ lo) (hh : hi < 1000) : iv_in (zSi T n p) lo hi ↔ (p < n ∧ lo ≤ T p ∧ T p ≤ hi) := by
  unfold zSi iv_in
  by_cases c : p < n
  · have := (h.2.2 p c).2
    rw [if_pos c, nI_toInt (by omega)]
    omega
  · rw [if_neg c, show (-1 : Int32).toInt = -1 from rfl]
    omega
theorem pz_digit {T : Nat → Nat} {n : Nat} {τ : gs_S} (h : tp τ T n) (p : Nat) (hp : p ≤ n) : ∃ r, pX7_isDigit (ca τ p) = some r ∧ (r = 0 ↔ ¬ zDg T n p) := by
  unfold pX7_isDigit
  rw [pz_sign h p hp, gv_bind_some]
  refine ⟨_, rfl, ?_⟩
  rw [pz_w10, show (48 : Int32).toInt = (48 : Nat) from rfl, show (57 : Int32).toInt = (57 : Nat) from rfl, zSi_in h p (by omega) (by omega)]
  exact Iff.rfl
theorem pz_takes {T : Nat → Nat} {n : Nat} {τ : gs_S} (h : tp τ T n) (p : Nat) (hp : p ≤ n) {x : Nat} (hx : x < 1000) : (p < n ∧ T p = x → pX7_takes (nI x) (ca τ p) = some (1, ca τ (zSk T n (p + 1)))) ∧ (¬ (p < n ∧ T p = x) → pX7_takes (nI x) (ca τ p) = some (0, ca τ p)) := by
  unfold pX7_takes pX7_takes_J13
  rw [pz_sign h p hp, gv_bind_some]
  unfold zSi
  by_cases c : p < n
  · have := (h.2.2 p c).2
    rw [if_pos c]
    refine ⟨fun z => ?_, fun z => ?_⟩
    · rw [if_pos (by rw [z.2]), if_neg (by decide), pz_pass h p c, gv_bind_some]
      exact if_pos (Or.inr rfl)
    · rw [if_neg (fun y => z ⟨c, (nI_eq (by omega) (by omega)).mp y⟩), if_pos rfl]
      exact if_pos (Or.inl rfl)
  · rw [if_neg c]
    refine ⟨fun z => absurd z.1 c, fun z => ?_⟩
    rw [if_neg (fun y => nI_m1 hx y.symm), if_pos rfl]
    exact if_pos (Or.inl rfl)
/-! the reference's -/
theorem pz_next0 {T : Nat → Nat} {n : Nat} {τ : gs_S} (h : xtp τ T n) {p : Nat} (hp : p ≤ n) : pX11_nextByte (xa τ p) = some (zSi T n (zSk T n p), xa τ (zSk T n p)) := by
  obtain ⟨h1, h2, h3⟩ := h
  have key : ∀ d p N, n - p = d → p ≤ n → d < N → gv_loop (fun q => pX11_nextByte_L0 q) N (xa τ p) = some (xa τ (zSk T n p)) := by
    intro d
    induction d with
    | zero =>
      intro p N hd hp hN
      obtain ⟨M, rfl⟩ : ∃ M, N = M + 1 := ⟨N - 1, by omega⟩
      rw [zSk_e (show ¬ p < n by omega)]
      refine gv_loop_x _ M _ _ ?_
      show pX11_nextByte_L0 (xa τ p) = _
      unfold pX11_nextByte_L0
      rw [xa_13, xa_i _ _ _ (by decide), h2, if_pos (nI_le (by omega) (by omega))]
    | succ d ih =>
      intro p N hd hp hN
      obtain ⟨M, rfl⟩ : ∃ M, N = M + 1 := ⟨N - 1, by omega⟩
      have st : pX11_nextByte_L0 (xa τ p) = if T p = 32 then some (.inl (xa τ (p + 1))) else some (.inr (xa τ p)) := by
        unfold pX11_nextByte_L0
        have e3 := h3 p (by omega)
        rw [xa_13, xa_i _ _ _ (by decide), h2, if_neg (nI_ge (by omega) (by omega)), pz_inN (by omega) (by decide), nI_clamp (by omega), xa_o _ _ _ (by decide), e3.1, gv_let_p, nI_1, xa_xa]
        exact pz_ite ⟨fun z => (nI_eq (by omega) (by decide)).mp (show nI (T p) = nI 32 from z), fun z => by rw [z]⟩ _ _
      by_cases c : T p = 32
      · rw [if_pos c] at st
        rw [gv_loop_s _ M _ _ st, zSk_y (by omega) c]
        exact ih (p + 1) M (by omega) (by omega) (by omega)
      · rw [if_neg c] at st
        rw [gv_loop_x _ M _ _ st, zSk_n c]
  unfold pX11_nextByte
  rw [key (n - p) p gv_N rfl hp (gv_N_lt (by omega)), gv_bind_some, gv_let_p, xa_13, xa_i _ _ _ (by decide), h2]
  obtain ⟨b1, b2, -, -⟩ := zSk_b (T := T) hp
  unfold zSi
  by_cases c : zSk T n p < n
  · rw [if_neg (nI_ge c (by omega)), if_pos c, pz_inN (by omega) (by decide), nI_clamp (by omega), xa_o _ _ _ (by decide), (h3 _ c).1]
  · rw [if_pos (nI_le (by omega) (by omega)), if_neg c]
theorem xSi_in {σ : gs_S} {T : Nat → Nat} {n : Nat} (h : xtp σ T n) (p : Nat) {lo hi : Nat} (hl : 1 ≤ lo) (hh : hi < 1000) : iv_in (zSi T n p) lo hi ↔ (p < n ∧ lo ≤ T p ∧ T p ≤ hi) := by
  unfold zSi iv_in
  by_cases c : p < n
  · have := (h.2.2 p c).2
    rw [if_pos c, nI_toInt (by omega)]
    omega
  · rw [if_neg c, show (-1 : Int32).toInt = -1 from rfl]
    omega
theorem xSi_eq {σ : gs_S} {T : Nat → Nat} {n : Nat} (h : xtp σ T n) (p : Nat) {x : Nat} (hx : x < 1000) : zSi T n p = nI x ↔ (p < n ∧ T p = x) := by
  unfold zSi
  by_cases c : p < n
  · have := (h.2.2 p c).2
    rw [if_pos c, nI_eq (by omega) (by omega)]
    exact ⟨fun z => ⟨c, z⟩, fun z => z.2⟩
  · rw [if_neg c]
    exact ⟨fun z => absurd z.symm (nI_m1 hx), fun z => absurd z.1 c⟩
theorem xSi_0 {σ : gs_S} {T : Nat → Nat} {n : Nat} (h : xtp σ T n) (p : Nat) : 0 ≤ zSi T n p ↔ p < n := by
  unfold zSi
  by_cases c : p < n
  · have := (h.2.2 p c).2
    rw [if_pos c]
    exact ⟨fun _ => c, fun _ => nI_pos' (by omega)⟩
  · rw [if_neg c]
    exact ⟨fun z => absurd z (by decide), fun z => absurd z c⟩
theorem inv_tp {σ : gs_S} (hI : inv σ) : ∃ T n, tp σ T n ∧ xtp σ T n := by
  obtain ⟨m, hm, e1, e2, t0⟩ := hI.2.2.2.2.2.2.1
  refine ⟨fun k => zN (σ.1 30 k), m, ⟨hm, e1, fun k hk => ?_⟩, ⟨hm, e2, fun k hk => ?_⟩⟩
  · obtain ⟨a1, a2, a3⟩ := zN_of (lo := 32) (hi := 126) (t0 k hk).2 (by decide)
    exact ⟨a1, a2, a3⟩
  · obtain ⟨a1, a2, a3⟩ := zN_of (lo := 32) (hi := 126) (t0 k hk).2 (by decide)
    exact ⟨by rw [← (t0 k hk).1]; exact a1, a2, a3⟩
