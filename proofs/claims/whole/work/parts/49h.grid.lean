/-! PURE, 49h: loops by a measure; neighbours; the line of squares (0-1 breadth first), abstractly -/
theorem gv_wh {S E : Type} (b : S → Option (S ⊕ E)) (I : S → Prop) (μ : S → Nat) (X : E → Prop) (h : ∀ s, I s → (∃ t, b s = some (.inl t) ∧ I t ∧ μ t < μ s) ∨ (∃ e, b s = some (.inr e) ∧ X e)) : ∀ (N : Nat) (s : S), I s → μ s < N → ∃ e, gv_loop b N s = some e ∧ X e := by
  intro N
  induction N with
  | zero => intro s _ h2; omega
  | succ n ih =>
    intro s hs h2
    rcases h s hs with ⟨t, h3, h4, h5⟩ | ⟨e, h3, h4⟩
    · obtain ⟨e, h6, h7⟩ := ih t h4 (by omega)
      exact ⟨e, by rw [gv_loop_s b n s t h3]; exact h6, h7⟩
    · exact ⟨e, gv_loop_x b n s e h3, h4⟩
/-- a loop that counts from 0 to n, by a relation -/
theorem gv_rel {S E : Type} (b : S → Option (S ⊕ E)) (R : Nat → S → Prop) (n N : Nat) (hn : n < N) (X : E → Prop) (hs : ∀ k s, k < n → R k s → ∃ t, b s = some (.inl t) ∧ R (k + 1) t) (he : ∀ s, R n s → ∃ e, b s = some (.inr e) ∧ X e) (s0 : S) (h0 : R 0 s0) : ∃ e, gv_loop b N s0 = some e ∧ X e := by
  have key : ∀ (d k M : Nat) (s : S), k + d = n → d < M → R k s → ∃ e, gv_loop b M s = some e ∧ X e := by
    intro d
    induction d with
    | zero =>
      intro k M s h1 h2 h3
      obtain ⟨M', rfl⟩ : ∃ M', M = M' + 1 := ⟨M - 1, by omega⟩
      have : k = n := by omega
      subst this
      obtain ⟨e, e1, e2⟩ := he s h3
      exact ⟨e, gv_loop_x b M' s e e1, e2⟩
    | succ d ih =>
      intro k M s h1 h2 h3
      obtain ⟨M', rfl⟩ : ∃ M', M = M' + 1 := ⟨M - 1, by omega⟩
      obtain ⟨t, t1, t2⟩ := hs k s (by omega) h3
      rw [gv_loop_s b M' s t t1]
      exact ih (k + 1) M' t (by omega) (by omega) t2
  exact key n 0 N s0 (by omega) hn h0
def zNb (u s : Nat) : Nat := if s = 0 then (if u < 8 then 64 else u - 8) else if s = 1 then (if u % 8 = 0 then 64 else u - 1) else if s = 2 then (if u % 8 = 7 then 64 else u + 1) else (if u < 56 then u + 8 else 64)
theorem zNb_x : ∀ u, u < 64 → ∀ s, s < 4 → pX11_nextTo (nI u) (nI s) = (if zNb u s < 64 then nI (zNb u s) else -1) ∧ pX10_beside (nI u) (nI s) = (if zNb u s < 64 then nI (zNb u s) else -1) := by decide +kernel
theorem zNb_b : ∀ u, u < 64 → ∀ s, s < 4 → zNb u s ≤ 64 ∧ ¬ zNb u s = u ∧ (zNb u s < 64 → zNb (zNb u s) (3 - s) = u) := by decide +kernel
/-- h, t, the line, the sums -/
abbrev dS : Type := Nat × Nat × (Nat → Nat) × (Nat → Int)
def dqS (c : Nat → Int) (u : Nat) (S : dS) (s : Nat) : dS :=
  if zNb u s < 64 ∧ ¬ c (zNb u s) = -1 ∧ S.2.2.2 (zNb u s) = -1 then
    (if c (zNb u s) = 0 then (S.1 - 1, S.2.1, (fun i => if i = S.1 - 1 then zNb u s else S.2.2.1 i), (fun q => if q = zNb u s then S.2.2.2 u + c (zNb u s) else S.2.2.2 q))
    else (S.1, S.2.1 + 1, (fun i => if i = S.2.1 then zNb u s else S.2.2.1 i), (fun q => if q = zNb u s then S.2.2.2 u + c (zNb u s) else S.2.2.2 q)))
  else S
def dqP (c : Nat → Int) (u : Nat) (S : dS) : Nat → dS
  | 0 => S
  | k + 1 => dqS c u (dqP c u S k) k
def dqR (c : Nat → Int) (s0 : dS) : Nat → dS
  | 0 => s0
  | r + 1 => if (dqR c s0 r).1 < (dqR c s0 r).2.1 then dqP c ((dqR c s0 r).2.2.1 (dqR c s0 r).1) ((dqR c s0 r).1 + 1, (dqR c s0 r).2.1, (dqR c s0 r).2.2.1, (dqR c s0 r).2.2.2) 4 else dqR c s0 r
def dq0 (c : Nat → Int) (s : Nat) : dS := (64, 65, (fun _ => s), (fun q => if q = s then c s else -1))
def dqN (D : Nat → Int) : Nat := fb_ct (fun q => decide (¬ D q = -1)) 64
def dqG (c : Nat → Int) (s : Nat) (g : Nat → Int) : Prop := g s ≤ c s ∧ ∀ u, u < 64 → ∀ k, k < 4 → zNb u k < 64 → ¬ c (zNb u k) = -1 → g (zNb u k) ≤ g u + c (zNb u k)
/-- what holds of the sums at all times -/
def dqA (c : Nat → Int) (s : Nat) (D : Nat → Int) : Prop := D s = c s ∧ (∀ q, q < 64 → ¬ D q = -1 → 0 ≤ D q ∧ D q ≤ (dqN D : Int) ∧ ¬ c q = -1 ∧ (q = s ∨ ∃ k, k < 4 ∧ zNb q k < 64 ∧ ¬ D (zNb q k) = -1 ∧ D q = D (zNb q k) + c q)) ∧ (∀ g, dqG c s g → ∀ q, q < 64 → ¬ D q = -1 → g q ≤ D q)
/-- the line: in order, between m and m + 1 -/
def dqL (S : dS) (m : Int) : Prop := S.1 ≤ S.2.1 ∧ (∀ i, S.1 ≤ i → i < S.2.1 → S.2.2.1 i < 64 ∧ ¬ S.2.2.2 (S.2.2.1 i) = -1 ∧ m ≤ S.2.2.2 (S.2.2.1 i) ∧ S.2.2.2 (S.2.2.1 i) ≤ m + 1) ∧ (∀ i j, S.1 ≤ i → i ≤ j → j < S.2.1 → S.2.2.2 (S.2.2.1 i) ≤ S.2.2.2 (S.2.2.1 j))
/-- u's sides below k are done -/
def dqU (c : Nat → Int) (D : Nat → Int) (u k : Nat) : Prop := u < 64 ∧ ¬ D u = -1 ∧ ∀ j, j < k → zNb u j < 64 → ¬ c (zNb u j) = -1 → ¬ D (zNb u j) = -1 ∧ D (zNb u j) ≤ D u + c (zNb u j)
def dqM (c : Nat → Int) (D : Nat → Int) (m : Int) : Prop := 0 ≤ m ∧ ∀ q, q < 64 → ¬ D q = -1 → D q ≤ m + c q
def dqK (S : dS) (p f b : Nat) : Prop := S.1 + f = 64 + p ∧ S.2.1 = 65 + b ∧ f + b + 1 = dqN S.2.2.2
def dqC (c : Nat → Int) : Prop := ∀ q, q < 64 → c q = -1 ∨ c q = 0 ∨ c q = 1
def dqJ (c : Nat → Int) (s p : Nat) (S : dS) : Prop := ∃ (Pd : Nat → Prop) (m : Int) (f b : Nat), dqK S p f b ∧ dqL S m ∧ dqA c s S.2.2.2 ∧ (∀ q, q < 64 → ¬ S.2.2.2 q = -1 → Pd q ∨ ∃ i, S.1 ≤ i ∧ i < S.2.1 ∧ S.2.2.1 i = q) ∧ (∀ u, Pd u → dqU c S.2.2.2 u 4) ∧ dqM c S.2.2.2 m
/-- within the sides of u -/
def dqJ1 (c : Nat → Int) (s p : Nat) (S : dS) (u k : Nat) : Prop := ∃ (Pd : Nat → Prop) (f b : Nat), dqK S p f b ∧ dqL S (S.2.2.2 u) ∧ dqA c s S.2.2.2 ∧ (∀ q, q < 64 → ¬ S.2.2.2 q = -1 → Pd q ∨ q = u ∨ ∃ i, S.1 ≤ i ∧ i < S.2.1 ∧ S.2.2.1 i = q) ∧ (∀ v, Pd v → dqU c S.2.2.2 v 4) ∧ dqU c S.2.2.2 u k ∧ dqM c S.2.2.2 (S.2.2.2 u)
theorem dqN_up (D : Nat → Int) (v : Nat) (x : Int) (hv : v < 64) (h : D v = -1) (hx : ¬ x = -1) : dqN (fun q => if q = v then x else D q) = dqN D + 1 := by
  unfold dqN
  have e := fb_ct_upd (fun q => decide (¬ D q = -1)) true (i := v) (n := 64) hv
  have e2 : fb_ct (fun q => decide (¬ (if q = v then x else D q) = -1)) 64 = fb_ct (fun k => if k = v then true else decide (¬ D k = -1)) 64 := by
    apply fb_ct_cong
    intro k hk
    by_cases q : k = v
    · simp only [if_pos q, hx, not_false_eq_true, decide_true]
    · simp only [if_neg q]
  rw [e2]
  simp only [h, not_true_eq_false, decide_false, if_true] at e
  simpa using e
theorem dqN_le (D : Nat → Int) : dqN D ≤ 64 := fb_ct_le _ 64
theorem dqN_lt (D : Nat → Int) (v : Nat) (hv : v < 64) (h : D v = -1) : dqN D < 64 := by
  have := dqN_up D v 0 hv h (by decide)
  have := dqN_le (fun q => if q = v then 0 else D q)
  omega
theorem dqA_up (c : Nat → Int) (s : Nat) (D : Nat → Int) (h : dqA c s D) (u k : Nat) (hu : u < 64) (hk : k < 4) (hd : ¬ D u = -1) (hv : zNb u k < 64) (hc : ¬ c (zNb u k) = -1) (hc2 : dqC c) (hn : D (zNb u k) = -1) (hs : ¬ c s = -1) : dqA c s (fun q => if q = zNb u k then D u + c (zNb u k) else D q) := by
  obtain ⟨h1, h2, h3⟩ := h
  have hu0 := h2 u hu hd
  have hx : ¬ D u + c (zNb u k) = -1 := by rcases hc2 _ hv with q | q | q <;> omega
  have hx0 : 0 ≤ D u + c (zNb u k) ∧ D u + c (zNb u k) ≤ D u + 1 := by rcases hc2 _ hv with q | q | q <;> omega
  have N := dqN_up D (zNb u k) (D u + c (zNb u k)) hv hn hx
  have ne : ∀ w, ¬ D w = -1 → ¬ w = zNb u k := fun w q e => q (by rw [e]; exact hn)
  refine ⟨?_, fun q hq hq2 => ?_, fun g hg q hq hq2 => ?_⟩
  · show (if s = zNb u k then _ else D s) = c s
    rw [if_neg (ne s (by rw [h1]; exact hs))]; exact h1
  · show 0 ≤ (if q = zNb u k then D u + c (zNb u k) else D q) ∧ _
    rw [N]
    by_cases e : q = zNb u k
    · rw [e]
      simp only [if_true]
      refine ⟨hx0.1, by omega, hc, Or.inr ⟨3 - k, by omega, ?_, ?_, ?_⟩⟩
      · rw [(zNb_b u hu k hk).2.2 hv]; exact hu
      · rw [(zNb_b u hu k hk).2.2 hv, if_neg (ne u hd)]; exact hd
      · rw [(zNb_b u hu k hk).2.2 hv, if_neg (ne u hd)]
    · have hq3 : ¬ D q = -1 := by intro z; apply hq2; show (if q = zNb u k then _ else D q) = -1; rw [if_neg e]; exact z
      obtain ⟨a1, a2, a3, a4⟩ := h2 q hq hq3
      simp only [if_neg e]
      refine ⟨a1, by omega, a3, ?_⟩
      rcases a4 with a4 | ⟨j, j1, j2, j3, j4⟩
      · exact Or.inl a4
      · exact Or.inr ⟨j, j1, j2, by rw [if_neg (ne _ j3)]; exact j3, by rw [if_neg (ne _ j3)]; exact j4⟩
  · show g q ≤ (if q = zNb u k then D u + c (zNb u k) else D q)
    by_cases e : q = zNb u k
    · rw [if_pos e, e]
      have := h3 g hg u hu hd
      have := hg.2 u hu k hk hv hc
      omega
    · rw [if_neg e]
      exact h3 g hg q hq (by intro z; apply hq2; show (if q = zNb u k then _ else D q) = -1; rw [if_neg e]; exact z)
theorem dqU_up (c : Nat → Int) (D : Nat → Int) (w k v : Nat) (x : Int) (h : dqU c D w k) (hn : D v = -1) : dqU c (fun q => if q = v then x else D q) w k := by
  obtain ⟨h1, h2, h4⟩ := h
  have ne : ∀ w, ¬ D w = -1 → ¬ w = v := fun w q e => q (by rw [e]; exact hn)
  refine ⟨h1, ?_, fun j j1 j2 j3 => ?_⟩
  · show ¬ (if w = v then x else D w) = -1
    rw [if_neg (ne w h2)]; exact h2
  · obtain ⟨a1, a2⟩ := h4 j j1 j2 j3
    show ¬ (if zNb w j = v then x else D (zNb w j)) = -1 ∧ (if zNb w j = v then x else D (zNb w j)) ≤ (if w = v then x else D w) + c (zNb w j)
    rw [if_neg (ne w h2), if_neg (ne _ a1)]
    exact ⟨a1, a2⟩
theorem dq_side (c : Nat → Int) (s p : Nat) (S : dS) (u k : Nat) (hc : dqC c) (hs : ¬ c s = -1) (hk : k < 4) (h : dqJ1 c s p S u k) : dqJ1 c s p (dqS c u S k) u (k + 1) := by
  obtain ⟨Pd, f, b, hK, hL, hA, h4, h5, hU, hM⟩ := h
  obtain ⟨h, t, Q, D⟩ := S
  obtain ⟨u1, u2, u4⟩ := id hU
  unfold dqS
  dsimp only at *
  by_cases C : zNb u k < 64 ∧ ¬ c (zNb u k) = -1 ∧ D (zNb u k) = -1
  rotate_left
  · rw [if_neg C]
    refine ⟨Pd, f, b, hK, hL, hA, h4, h5, ⟨u1, u2, fun j j1 j2 j3 => ?_⟩, hM⟩
    by_cases e : j = k
    · subst e
      have z : ¬ D (zNb u j) = -1 := fun q => C ⟨j2, j3, q⟩
      exact ⟨z, hM.2 _ j2 z⟩
    · exact u4 j (by omega) j2 j3
  rw [if_pos C]
  obtain ⟨v1, v2, v3⟩ := C
  have ne : ∀ w, ¬ D w = -1 → ¬ w = zNb u k := fun w q e => q (by rw [e]; exact v3)
  have hu0 := hA.2.1 u u1 u2
  have hx : ¬ D u + c (zNb u k) = -1 := by rcases hc _ v1 with q | q | q <;> omega
  have N := dqN_up D (zNb u k) (D u + c (zNb u k)) v1 v3 hx
  have N2 := dqN_lt D (zNb u k) v1 v3
  have A2 := dqA_up c s D hA u k u1 hk u2 v1 v2 hc v3 hs
  have U2 := fun w j (q : dqU c D w j) => dqU_up c D w j (zNb u k) (D u + c (zNb u k)) q v3
  obtain ⟨k1, k2, k3⟩ := hK
  obtain ⟨l1, l2, l3⟩ := hL
  dsimp only at k1 k2 k3 l1 l2 l3
  have Du : (if u = zNb u k then D u + c (zNb u k) else D u) = D u := if_neg (ne u u2)
  have UU : dqU c (fun q => if q = zNb u k then D u + c (zNb u k) else D q) u (k + 1) := by
    obtain ⟨a1, a2, a3⟩ := U2 u k hU
    refine ⟨a1, a2, fun j j1 j2 j3 => ?_⟩
    by_cases e : j = k
    · subst e
      dsimp only
      rw [if_pos rfl, Du]
      exact ⟨hx, Int.le_refl _⟩
    · exact a3 j (by omega) j2 j3
  have MM : dqM c (fun q => if q = zNb u k then D u + c (zNb u k) else D q) (D u) := by
    refine ⟨hM.1, fun q q1 q2 => ?_⟩
    dsimp only at q2 ⊢
    by_cases e : q = zNb u k
    · rw [if_pos e, e]; exact Int.le_refl _
    · rw [if_neg e] at q2 ⊢; exact hM.2 q q1 q2
  by_cases c0 : c (zNb u k) = 0
  · rw [if_pos c0]
    refine ⟨Pd, f + 1, b, ?_, ?_, A2, ?_, fun v q => U2 v 4 (h5 v q), UU, ?_⟩
    · refine ⟨?_, k2, ?_⟩
      · show h - 1 + (f + 1) = 64 + p
        omega
      · show f + 1 + b + 1 = dqN _
        rw [N]; omega
    · dsimp only
      rw [Du]
      refine ⟨by show h - 1 ≤ t; omega, fun i i1 i2 => ?_, fun i j i1 i2 i3 => ?_⟩
      · dsimp only at i1 i2 ⊢
        by_cases e : i = h - 1
        · rw [if_pos e, if_pos rfl, c0]
          exact ⟨v1, by omega, by omega, by omega⟩
        · obtain ⟨b1, b2, b3, b4⟩ := l2 i (by omega) i2
          rw [if_neg e, if_neg (ne _ b2)]
          exact ⟨b1, b2, b3, b4⟩
      · dsimp only at i1 i2 i3 ⊢
        by_cases e : i = h - 1
        · rw [if_pos e, if_pos rfl, c0]
          by_cases e2 : j = h - 1
          · rw [if_pos e2, if_pos rfl]; exact Int.le_refl _
          · obtain ⟨b1, b2, b3, b4⟩ := l2 j (by omega) i3
            rw [if_neg e2, if_neg (ne _ b2)]
            omega
        · obtain ⟨b1, b2, b3, b4⟩ := l2 j (by omega) i3
          obtain ⟨d1, d2, d3, d4⟩ := l2 i (by omega) (by omega)
          rw [if_neg e, if_neg (ne _ d2), if_neg (show ¬ j = h - 1 by omega), if_neg (ne _ b2)]
          exact l3 i j (by omega) i2 i3
    · intro q q1 q2
      dsimp only at q2 ⊢
      by_cases e : q = zNb u k
      · exact Or.inr (Or.inr ⟨h - 1, Nat.le_refl _, by omega, by rw [if_pos rfl, e]⟩)
      · rw [if_neg e] at q2
        rcases h4 q q1 q2 with z | z | ⟨i, i1, i2, i3⟩
        · exact Or.inl z
        · exact Or.inr (Or.inl z)
        · exact Or.inr (Or.inr ⟨i, by omega, i2, by rw [if_neg (by omega)]; exact i3⟩)
    · dsimp only
      rw [Du]; exact MM
  · rw [if_neg c0]
    have c1 : c (zNb u k) = 1 := by
      rcases hc _ v1 with q | q | q
      · exact absurd q v2
      · exact absurd q c0
      · exact q
    refine ⟨Pd, f, b + 1, ?_, ?_, A2, ?_, fun v q => U2 v 4 (h5 v q), UU, ?_⟩
    · refine ⟨k1, ?_, ?_⟩
      · show t + 1 = 65 + (b + 1)
        omega
      · show f + (b + 1) + 1 = dqN _
        rw [N]; omega
    · dsimp only
      rw [Du]
      refine ⟨by show h ≤ t + 1; omega, fun i i1 i2 => ?_, fun i j i1 i2 i3 => ?_⟩
      · dsimp only at i1 i2 ⊢
        by_cases e : i = t
        · rw [if_pos e, if_pos rfl, c1]
          exact ⟨v1, by omega, by omega, by omega⟩
        · obtain ⟨b1, b2, b3, b4⟩ := l2 i i1 (by omega)
          rw [if_neg e, if_neg (ne _ b2)]
          exact ⟨b1, b2, b3, b4⟩
      · dsimp only at i1 i2 i3 ⊢
        by_cases e : j = t
        · rw [if_pos e, if_pos rfl, c1]
          by_cases e2 : i = t
          · rw [if_pos e2, if_pos rfl]; exact Int.le_refl _
          · obtain ⟨b1, b2, b3, b4⟩ := l2 i i1 (by omega)
            rw [if_neg e2, if_neg (ne _ b2)]
            omega
        · obtain ⟨b1, b2, b3, b4⟩ := l2 j (by omega) (by omega)
          obtain ⟨d1, d2, d3, d4⟩ := l2 i (by omega) (by omega)
          rw [if_neg (show ¬ i = t by omega), if_neg (ne _ d2), if_neg e, if_neg (ne _ b2)]
          exact l3 i j (by omega) i2 (by omega)
    · intro q q1 q2
      dsimp only at q2 ⊢
      by_cases e : q = zNb u k
      · exact Or.inr (Or.inr ⟨t, l1, by omega, by rw [if_pos rfl, e]⟩)
      · rw [if_neg e] at q2
        rcases h4 q q1 q2 with z | z | ⟨i, i1, i2, i3⟩
        · exact Or.inl z
        · exact Or.inr (Or.inl z)
        · exact Or.inr (Or.inr ⟨i, by omega, by omega, by rw [if_neg (by omega)]; exact i3⟩)
    · dsimp only
      rw [Du]; exact MM
theorem dq_sides (c : Nat → Int) (s p : Nat) (S : dS) (u : Nat) (hc : dqC c) (hs : ¬ c s = -1) (h : dqJ1 c s p S u 0) : ∀ k, k ≤ 4 → dqJ1 c s p (dqP c u S k) u k := by
  intro k
  induction k with
  | zero => intro _; exact h
  | succ k ih => intro hk; exact dq_side c s p _ u k hc hs (by omega) (ih (by omega))
theorem dq_pop (c : Nat → Int) (s p : Nat) (S : dS) (h : dqJ c s p S) (lt : S.1 < S.2.1) : dqJ1 c s (p + 1) (S.1 + 1, S.2.1, S.2.2.1, S.2.2.2) (S.2.2.1 S.1) 0 := by
  obtain ⟨Pd, m, f, b, ⟨k1, k2, k3⟩, ⟨l1, l2, l3⟩, hA, h4, h5, hM⟩ := h
  obtain ⟨b1, b2, b3, b4⟩ := l2 S.1 (Nat.le_refl _) lt
  refine ⟨Pd, f, b, ⟨?_, k2, k3⟩, ⟨lt, fun i i1 i2 => ?_, fun i j i1 i2 i3 => l3 i j (by dsimp only at i1; omega) i2 i3⟩, hA, fun q q1 q2 => ?_, h5, ⟨b1, b2, fun j j1 => absurd j1 (by omega)⟩, ⟨(hA.2.1 _ b1 b2).1, fun q q1 q2 => ?_⟩⟩
  · show S.1 + 1 + f = 64 + (p + 1)
    omega
  · dsimp only at i1 i2 ⊢
    obtain ⟨d1, d2, d3, d4⟩ := l2 i (by omega) i2
    have := l3 S.1 i (Nat.le_refl _) (by omega) i2
    exact ⟨d1, d2, this, by omega⟩
  · rcases h4 q q1 q2 with z | ⟨i, i1, i2, i3⟩
    · exact Or.inl z
    · by_cases e : i = S.1
      · exact Or.inr (Or.inl (by rw [← i3, e]))
      · exact Or.inr (Or.inr ⟨i, by dsimp only; omega, i2, i3⟩)
  · have := hM.2 q q1 q2
    dsimp only
    omega
theorem dq_done (c : Nat → Int) (s p : Nat) (S : dS) (u : Nat) (h : dqJ1 c s p S u 4) : dqJ c s p S := by
  obtain ⟨Pd, f, b, hK, hL, hA, h4, h5, hU, hM⟩ := h
  refine ⟨fun q => Pd q ∨ q = u, S.2.2.2 u, f, b, hK, hL, hA, fun q q1 q2 => ?_, fun v q => ?_, hM⟩
  · rcases h4 q q1 q2 with z | z | z
    · exact Or.inl (Or.inl z)
    · exact Or.inl (Or.inr z)
    · exact Or.inr z
  · rcases q with q | q
    · exact h5 v q
    · rw [q]; exact hU
theorem dq_start (c : Nat → Int) (s : Nat) (hc : dqC c) (h : s < 64) (hs : ¬ c s = -1) : dqJ c s 0 (dq0 c s) := by
  have hs2 : 0 ≤ c s ∧ c s ≤ 1 := by rcases hc s h with q | q | q <;> omega
  have N : dqN (fun q => if q = s then c s else -1) = 1 := by
    have := dqN_up (fun _ => -1) s (c s) h rfl hs
    rw [this]
    have z : dqN (fun _ => -1) = 0 := by unfold dqN; exact fb_ct_zero.mpr (fun k _ => by simp)
    rw [z]
  refine ⟨fun _ => False, 0, 0, 0, ⟨rfl, rfl, ?_⟩, ⟨by show 64 ≤ 65; omega, fun i i1 i2 => ?_, fun i j i1 i2 i3 => ?_⟩, ⟨?_, fun q q1 q2 => ?_, fun g hg q q1 q2 => ?_⟩, fun q q1 q2 => ?_, fun u q => q.elim, ⟨Int.le_refl _, fun q q1 q2 => ?_⟩⟩
  · show 0 + 0 + 1 = dqN (fun q => if q = s then c s else -1)
    rw [N]
  · show s < 64 ∧ ¬ (if s = s then c s else -1) = -1 ∧ 0 ≤ (if s = s then c s else -1) ∧ (if s = s then c s else -1) ≤ 0 + 1
    rw [if_pos rfl]
    exact ⟨h, hs, hs2.1, by omega⟩
  · show (if s = s then c s else -1) ≤ (if s = s then c s else -1)
    exact Int.le_refl _
  · show (if s = s then c s else -1) = c s
    rw [if_pos rfl]
  · have e : q = s := Classical.byContradiction fun z => q2 (if_neg z)
    show 0 ≤ (if q = s then c s else -1) ∧ (if q = s then c s else -1) ≤ ((dqN (fun q => if q = s then c s else -1) : Nat) : Int) ∧ _
    rw [N, if_pos e, e]
    exact ⟨hs2.1, by omega, hs, Or.inl rfl⟩
  · have e : q = s := Classical.byContradiction fun z => q2 (if_neg z)
    show g q ≤ (if q = s then c s else -1)
    rw [if_pos e, e]
    exact hg.1
  · have e : q = s := Classical.byContradiction fun z => q2 (if_neg z)
    exact Or.inr ⟨64, Nat.le_refl _, by show 64 < 65; omega, e.symm⟩
  · have e : q = s := Classical.byContradiction fun z => q2 (if_neg z)
    show (if q = s then c s else -1) ≤ 0 + c q
    rw [if_pos e, e]
    omega
theorem dq_round (c : Nat → Int) (s : Nat) (hc : dqC c) (h : s < 64) (hs : ¬ c s = -1) : ∀ r, (∀ k, k < r → (dqR c (dq0 c s) k).1 < (dqR c (dq0 c s) k).2.1) → dqJ c s r (dqR c (dq0 c s) r) := by
  intro r
  induction r with
  | zero => intro _; exact dq_start c s hc h hs
  | succ r ih =>
    intro hr
    have lt := hr r (by omega)
    have ih := ih (fun k hk => hr k (by omega))
    unfold dqR
    rw [if_pos lt]
    exact dq_done c s (r + 1) _ _ (dq_sides c s (r + 1) _ _ hc hs (dq_pop c s r _ ih lt) 4 (Nat.le_refl _))
/-- it ends -/
theorem dq_stop (c : Nat → Int) (s : Nat) (hc : dqC c) (h : s < 64) (hs : ¬ c s = -1) : ∃ K, K ≤ 64 ∧ (∀ k, k < K → (dqR c (dq0 c s) k).1 < (dqR c (dq0 c s) k).2.1) ∧ (dqR c (dq0 c s) K).1 = (dqR c (dq0 c s) K).2.1 := by
  obtain ⟨K, k1, k2⟩ := pk_least (fun K => 64 ≤ K ∨ ¬ (dqR c (dq0 c s) K).1 < (dqR c (dq0 c s) K).2.1) ⟨64, Or.inl (Nat.le_refl _)⟩
  have k3 : ∀ k, k < K → (dqR c (dq0 c s) k).1 < (dqR c (dq0 c s) k).2.1 := fun k hk => Classical.byContradiction fun z => k2 k hk (Or.inr z)
  have k4 : K ≤ 64 := by
    rcases Nat.lt_or_ge 64 K with z | z
    · exact absurd (Or.inl (Nat.le_refl _)) (k2 64 z)
    · exact z
  obtain ⟨Pd, m, f, b, ⟨j1, j2, j3⟩, ⟨l1, -⟩, -⟩ := dq_round c s hc h hs K k3
  have := dqN_le (dqR c (dq0 c s) K).2.2.2
  refine ⟨K, k4, k3, ?_⟩
  rcases k1 with z | z
  · omega
  · omega
theorem dq_stay (c : Nat → Int) (s0 : dS) (K : Nat) (h : (dqR c s0 K).1 = (dqR c s0 K).2.1) : ∀ d, dqR c s0 (K + d) = dqR c s0 K := by
  intro d
  induction d with
  | zero => rfl
  | succ d ih =>
    show dqR c s0 (K + d + 1) = _
    conv => lhs; unfold dqR
    rw [ih, if_neg (by omega)]
def dqF (c : Nat → Int) (s : Nat) : Nat → Int := (dqR c (dq0 c s) 64).2.2.2
theorem dq_fin (c : Nat → Int) (s : Nat) (hc : dqC c) (h : s < 64) (hs : ¬ c s = -1) : dqA c s (dqF c s) ∧ ∀ u, u < 64 → ¬ dqF c s u = -1 → ∀ k, k < 4 → zNb u k < 64 → ¬ c (zNb u k) = -1 → ¬ dqF c s (zNb u k) = -1 ∧ dqF c s (zNb u k) ≤ dqF c s u + c (zNb u k) := by
  obtain ⟨K, k1, k2, k3⟩ := dq_stop c s hc h hs
  have e : dqR c (dq0 c s) 64 = dqR c (dq0 c s) K := by
    have := dq_stay c (dq0 c s) K k3 (64 - K)
    rw [show K + (64 - K) = 64 by omega] at this
    exact this
  obtain ⟨Pd, m, f, b, -, -, hA, h4, h5, -⟩ := dq_round c s hc h hs K k2
  unfold dqF
  rw [e]
  refine ⟨hA, fun u u1 u2 k j1 j2 j3 => ?_⟩
  rcases h4 u u1 u2 with z | ⟨i, i1, i2, -⟩
  · exact (h5 u z).2.2 k j1 j2 j3
  · omega
