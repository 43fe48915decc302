/-! PURE, 49c: type; frames of the relation's parts -/
theorem fr_ice {σ τ : gs_S} (h : inv σ) (a : τ.1 3 = σ.1 3) (b : τ.1 64 = σ.1 64) : iv_ice (τ.1 3) (τ.1 64) := by rw [a, b]; exact h.1
theorem fr_tr {σ τ : gs_S} (h : inv σ) (a : τ.1 4 = σ.1 4) (b : τ.1 63 4 = σ.1 63 4) (c1 : τ.1 5 = σ.1 5) (c2 : τ.1 6 = σ.1 6) (c3 : τ.1 7 = σ.1 7) (d1 : τ.1 65 = σ.1 65) (d2 : τ.1 66 = σ.1 66) (d3 : τ.1 67 = σ.1 67) : iv_tr (τ.1 4 3) (τ.1 63 4) (τ.1 5) (τ.1 6) (τ.1 7) (τ.1 65) (τ.1 66) (τ.1 67) := by rw [a, b, c1, c2, c3, d1, d2, d3]; exact h.2.1
theorem fr_way {σ τ : gs_S} (h : inv σ) (a : τ.1 8 = σ.1 8) (b : τ.1 63 6 = σ.1 63 6) (c : τ.1 9 = σ.1 9) (d : τ.1 68 = σ.1 68) : iv_way (τ.1 8 1) (τ.1 63 6) (τ.1 9) (τ.1 68) := by rw [a, b, c, d]; exact h.2.2.1
theorem fr_set {σ τ : gs_S} (h : inv σ) (a : τ.1 1 = σ.1 1) (b : τ.1 69 = σ.1 69) : iv_set (τ.1 1 4) (τ.1 69 0) ∧ iv_set (τ.1 1 5) (τ.1 69 1) := by rw [a, b]; exact ⟨h.2.2.2.1, h.2.2.2.2.1⟩
theorem fr_ears {σ τ : gs_S} (h : inv σ) (a : τ.1 10 = σ.1 10) (b : τ.1 63 10 = σ.1 63 10) (c1 : τ.1 11 = σ.1 11) (c2 : τ.1 12 = σ.1 12) (c3 : τ.1 13 = σ.1 13) (c4 : τ.1 14 = σ.1 14) (d1 : τ.1 70 = σ.1 70) (d2 : τ.1 71 = σ.1 71) : iv_ears (τ.1 10 4) (τ.1 63 10) (τ.1 11) (τ.1 70) (τ.1 12) (τ.1 13) (τ.1 14) (τ.1 71) := by rw [a, b, c1, c2, c3, c4, d1, d2]; exact h.2.2.2.2.2.1
theorem fr_tape {σ τ : gs_S} (h : inv σ) (a : τ.1 29 1 = σ.1 29 1) (b : τ.1 63 12 = σ.1 63 12) (c : τ.1 30 = σ.1 30) (d : τ.1 72 = σ.1 72) : iv_tape (τ.1 29 1) (τ.1 63 12) (τ.1 30) (τ.1 72) := by rw [a, b, c, d]; exact h.2.2.2.2.2.2.1
theorem fr_kept {σ τ : gs_S} (h : inv σ) (a : τ.1 0 = σ.1 0) (b : τ.1 63 22 = σ.1 63 22) (c : ∀ c, 15 ≤ c → c ≤ 28 → τ.1 c = σ.1 c) (d : τ.1 79 = σ.1 79) (e : τ.1 80 = σ.1 80) : iv_kept τ := by
  unfold iv_kept
  rw [a, b, d, e, c 17 (by omega) (by omega), c 18 (by omega) (by omega), c 19 (by omega) (by omega), c 20 (by omega) (by omega), c 21 (by omega) (by omega), c 22 (by omega) (by omega), c 23 (by omega) (by omega), c 15 (by omega) (by omega), c 24 (by omega) (by omega), c 25 (by omega) (by omega), c 26 (by omega) (by omega), c 27 (by omega) (by omega), c 28 (by omega) (by omega)]
  exact h.2.2.2.2.2.2.2.1
def iv_shs (σ : gs_S) : Prop := iv_sheet (σ.1 47 3) (σ.1 47 4) (σ.1 81 0) (σ.1 82 0) (σ.1 49) (σ.2 50) (fun k => σ.2 83 k) ∧ iv_sheet (σ.1 51 3) (σ.1 51 4) (σ.1 81 1) (σ.1 82 1) (σ.1 53) (σ.2 54) (fun k => σ.2 83 (24 + k)) ∧ iv_sheet (σ.1 55 3) (σ.1 55 4) (σ.1 81 2) (σ.1 82 2) (σ.1 57) (σ.2 58) (fun k => σ.2 83 (48 + k)) ∧ iv_sheet (σ.1 59 3) (σ.1 59 4) (σ.1 81 3) (σ.1 82 3) (σ.1 61) (σ.2 62) (fun k => σ.2 83 (72 + k))
theorem fr_shs {σ τ : gs_S} (h : inv σ) (a : ∀ c, 47 ≤ c → c ≤ 62 → τ.1 c = σ.1 c) (b : τ.1 81 = σ.1 81) (c : τ.1 82 = σ.1 82) (d : τ.2 = σ.2) : iv_shs τ := by
  unfold iv_shs
  rw [a 47 (by omega) (by omega), a 49 (by omega) (by omega), a 51 (by omega) (by omega), a 53 (by omega) (by omega), a 55 (by omega) (by omega), a 57 (by omega) (by omega), a 59 (by omega) (by omega), a 61 (by omega) (by omega), b, c, d]
  exact h.2.2.2.2.2.2.2.2
theorem inv_mk {τ : gs_S} (a1 : iv_ice (τ.1 3) (τ.1 64)) (a2 : iv_tr (τ.1 4 3) (τ.1 63 4) (τ.1 5) (τ.1 6) (τ.1 7) (τ.1 65) (τ.1 66) (τ.1 67)) (a3 : iv_way (τ.1 8 1) (τ.1 63 6) (τ.1 9) (τ.1 68)) (a4 : iv_set (τ.1 1 4) (τ.1 69 0) ∧ iv_set (τ.1 1 5) (τ.1 69 1)) (a5 : iv_ears (τ.1 10 4) (τ.1 63 10) (τ.1 11) (τ.1 70) (τ.1 12) (τ.1 13) (τ.1 14) (τ.1 71)) (a6 : iv_tape (τ.1 29 1) (τ.1 63 12) (τ.1 30) (τ.1 72)) (a7 : iv_kept τ) (a8 : iv_shs τ) : inv τ := ⟨a1, a2, a3, a4.1, a4.2, a5, a6, a7, a8⟩
/-- what no answer shows: the rows of work -/
def sm (σ τ : gs_S) : Prop := (∀ c, (c ≤ 30 ∨ (46 ≤ c ∧ c ≤ 62) ∨ (64 ≤ c ∧ c ≤ 72) ∨ 79 ≤ c) → τ.1 c = σ.1 c) ∧ (∀ i, ¬ i = 13 → ¬ i = 14 → ¬ i = 18 → τ.1 63 i = σ.1 63 i) ∧ τ.2 = σ.2
theorem sm_rf (σ : gs_S) : sm σ σ := ⟨fun _ _ => rfl, fun _ _ _ _ => rfl, rfl⟩
theorem sm_tr {σ τ υ : gs_S} (h1 : sm σ τ) (h2 : sm τ υ) : sm σ υ := ⟨fun c hc => (h2.1 c hc).trans (h1.1 c hc), fun i a b c => (h2.2.1 i a b c).trans (h1.2.1 i a b c), h2.2.2.trans h1.2.2⟩
theorem sm_u {σ : gs_S} {c i : Nat} {v : Int32} (h : (31 ≤ c ∧ c ≤ 45) ∨ (73 ≤ c ∧ c ≤ 78)) : sm σ (gs_u σ c i v) := ⟨fun a ha => by rw [pz_u, if_neg (by omega)], fun j _ _ _ => by rw [pz_u, if_neg (by omega)], rfl⟩
theorem sm_w {σ : gs_S} {c : Nat} {f : Nat → Int32} (h : (31 ≤ c ∧ c ≤ 45) ∨ (73 ≤ c ∧ c ≤ 78)) : sm σ (gs_w σ c f) := ⟨fun a ha => by rw [pz_w, if_neg (by omega)], fun j _ _ _ => by rw [pz_w, if_neg (by omega)], rfl⟩
theorem sm_63 {σ : gs_S} {i : Nat} {v : Int32} (h : i = 13 ∨ i = 14 ∨ i = 18) : sm σ (gs_u σ 63 i v) := ⟨fun a ha => by rw [pz_u, if_neg (by omega)], fun j a b c => by rw [pz_u, if_pos rfl, pz_upd, if_neg (by omega)], rfl⟩
theorem inv_sm {σ τ : gs_S} (h : inv σ) (s : sm σ τ) : inv τ := by
  obtain ⟨hc, h6, h2⟩ := s
  have k6 : ∀ i, i < 13 → τ.1 63 i = σ.1 63 i := fun i hi => h6 i (by omega) (by omega) (by omega)
  exact inv_mk (fr_ice h (hc _ (by omega)) (hc _ (by omega))) (fr_tr h (hc _ (by omega)) (k6 _ (by omega)) (hc _ (by omega)) (hc _ (by omega)) (hc _ (by omega)) (hc _ (by omega)) (hc _ (by omega)) (hc _ (by omega))) (fr_way h (hc _ (by omega)) (k6 _ (by omega)) (hc _ (by omega)) (hc _ (by omega))) (fr_set h (hc _ (by omega)) (hc _ (by omega))) (fr_ears h (hc _ (by omega)) (k6 _ (by omega)) (hc _ (by omega)) (hc _ (by omega)) (hc _ (by omega)) (hc _ (by omega)) (hc _ (by omega)) (hc _ (by omega))) (fr_tape h (by rw [hc 29 (by omega)]) (k6 _ (by omega)) (hc _ (by omega)) (hc _ (by omega))) (fr_kept h (hc _ (by omega)) (h6 22 (by omega) (by omega) (by omega)) (fun c c1 c2 => hc c (by omega)) (hc _ (by omega)) (hc _ (by omega))) (fr_shs h (fun c c1 c2 => hc c (by omega)) (hc _ (by omega)) (hc _ (by omega)) h2)
/-- byte i of the word, as the reference has it -/
def zLb (a : Int64) (i : Nat) : Int64 := (a >>> (((8 : Int32) * nI i).toInt64 &&& 63)) &&& (255 : Int64)
theorem pz_byteOf (a : Int64) {i : Nat} (hi : i < 8) : pX10_byteOf a (nI i) = (zLb a i).toInt32 ∧ (pX10_byteOf a (nI i)).toInt64 = zLb a i := by
  have hA : (((8 : Int32) * nI i).toInt64 &&& 63).toBitVec.smod 64 = BitVec.ofNat 64 (8 * i) := (show ∀ i, i < 8 → (((8 : Int32) * nI i).toInt64 &&& 63).toBitVec.smod 64 = BitVec.ofNat 64 (8 * i) by decide +kernel) i hi
  have hB : (((8 : Int32) * nI i).toInt64.toUInt64 &&& Int64.toUInt64 63).toBitVec % 64 = BitVec.ofNat 64 (8 * i) := (show ∀ i, i < 8 → (((8 : Int32) * nI i).toInt64.toUInt64 &&& Int64.toUInt64 63).toBitVec % 64 = BitVec.ofNat 64 (8 * i) by decide +kernel) i hi
  have hN : (BitVec.ofNat 64 (8 * i)).toNat = 8 * i := by rw [BitVec.toNat_ofNat]; omega
  have e1 : (zLb a i).toBitVec = a.toBitVec.sshiftRight (8 * i) &&& 255#64 := by
    unfold zLb
    rw [Int64.toBitVec_and, Int64.toBitVec_shiftRight]
    show (a.toBitVec.sshiftRight' _) &&& _ = _
    rw [show ((((8 : Int32) * nI i).toInt64 &&& 63).toBitVec.smod 64) = BitVec.ofNat 64 (8 * i) from hA, BitVec.sshiftRight_eq', hN]; rfl
  have e2 : (pX10_byteOf a (nI i)).toBitVec = (a.toBitVec >>> (8 * i)).setWidth 32 &&& 255#32 := by
    unfold pX10_byteOf
    rw [Int32.toBitVec_and, Int64.toBitVec_toInt32, BitVec.signExtend_eq_setWidth_of_le _ (by decide)]
    show (BitVec.setWidth 32 ((a.toUInt64 >>> _).toBitVec)) &&& _ = _
    rw [UInt64.toBitVec_shiftRight]
    show (BitVec.setWidth 32 (a.toBitVec >>> ((((8 : Int32) * nI i).toInt64.toUInt64 &&& Int64.toUInt64 63).toBitVec % 64))) &&& _ = _
    rw [hB, BitVec.ushiftRight_eq', hN]; rfl
  have h255a : ∀ j, (255#64).getLsbD j = decide (j < 8) := by
    intro j
    by_cases h : j < 64
    · exact (show ∀ j, j < 64 → (255#64).getLsbD j = decide (j < 8) by decide +kernel) j h
    · rw [BitVec.getLsbD_of_ge _ _ (by omega)]; exact (decide_eq_false (by omega)).symm
  have h255b : ∀ j, (255#32).getLsbD j = decide (j < 8) := by
    intro j
    by_cases h : j < 32
    · exact (show ∀ j, j < 32 → (255#32).getLsbD j = decide (j < 8) by decide +kernel) j h
    · rw [BitVec.getLsbD_of_ge _ _ (by omega)]; exact (decide_eq_false (by omega)).symm
  constructor
  · apply Int32.toBitVec_inj.mp
    rw [e2, Int64.toBitVec_toInt32, e1, BitVec.signExtend_eq_setWidth_of_le _ (by decide)]
    apply BitVec.eq_of_getLsbD_eq
    intro j hj
    rw [BitVec.getLsbD_and, BitVec.getLsbD_setWidth, BitVec.getLsbD_setWidth, BitVec.getLsbD_and, BitVec.getLsbD_ushiftRight, BitVec.getLsbD_sshiftRight, h255a, h255b]
    by_cases h : j < 8
    · have : 8 * i + j < 64 := by omega
      simp [h, hj, this, show ¬ 64 ≤ j by omega]
    · simp [h]
  · apply Int64.toBitVec_inj.mp
    rw [Int32.toBitVec_toInt64, e2, e1]
    apply BitVec.eq_of_getLsbD_eq
    intro j hj
    rw [BitVec.getLsbD_signExtend, BitVec.msb_eq_getLsbD_last, BitVec.getLsbD_and, BitVec.getLsbD_and, BitVec.getLsbD_and, BitVec.getLsbD_setWidth, BitVec.getLsbD_ushiftRight, BitVec.getLsbD_sshiftRight, h255a, h255b, h255b]
    by_cases h : j < 8
    · have : 8 * i + j < 64 := by omega
      simp [h, hj, this, show j < 32 by omega, show ¬ 64 ≤ j by omega]
    · simp [h]
def zDn (n k : Nat) : Int32 := if k < n then nI (n - 1 - k) else -1
theorem zDn_s {n k : Nat} (h : k < n) : nI (n - 1 - k) + (-1 : Int32) = zDn n (k + 1) := by
  unfold zDn
  rw [← Int32.sub_eq_add_neg]
  by_cases c : k + 1 < n
  · rw [if_pos c, show n - 1 - k = (n - 1 - (k + 1)) + 1 by omega, nI_pred]
  · rw [if_neg c, show n - 1 - k = 0 by omega]; decide
def zGood (a : Int64) (i : Nat) : Prop := 32 ≤ (zLb a i).toInt ∧ (zLb a i).toInt ≤ 126
def zTy (σ : gs_S) (c d p m n : Nat) (B : Nat → Int32) : Nat → gs_S
  | 0 => σ
  | k + 1 => gs_u (gs_u (zTy σ c d p m n B k) c (m + k) (B (n - 1 - k))) d p (nI (m + k + 1))
theorem zTy_1 (σ : gs_S) (c d p m n : Nat) (B : Nat → Int32) (x : Nat) (h1 : ¬ x = c) (h2 : ¬ x = d) : ∀ k, (zTy σ c d p m n B k).1 x = σ.1 x := by
  intro k
  induction k with
  | zero => rfl
  | succ k ih => unfold zTy; rw [pz_u, if_neg h2, pz_u, if_neg h1]; exact ih
theorem zTy_2 (σ : gs_S) (c d p m n : Nat) (B : Nat → Int32) : ∀ k, (zTy σ c d p m n B k).2 = σ.2 := by
  intro k
  induction k with
  | zero => rfl
  | succ k ih => unfold zTy; rw [pz_u2, pz_u2]; exact ih
theorem zTy_p (σ : gs_S) (c d p m n : Nat) (B : Nat → Int32) (hcd : ¬ d = c) (e : σ.1 d p = nI m) : ∀ k, (zTy σ c d p m n B k).1 d p = nI (m + k) := by
  intro k
  cases k with
  | zero => exact e
  | succ k => unfold zTy; rw [pz_u, if_pos rfl, pz_upd, if_pos rfl]; rfl
theorem zTy_o (σ : gs_S) (c d p m n : Nat) (B : Nat → Int32) (hcd : ¬ d = c) (i : Nat) (hi : ¬ i = p) : ∀ k, (zTy σ c d p m n B k).1 d i = σ.1 d i := by
  intro k
  induction k with
  | zero => rfl
  | succ k ih => unfold zTy; rw [pz_u, if_pos rfl, pz_upd, if_neg hi, pz_u, if_neg hcd]; exact ih
theorem zTy_c (σ : gs_S) (c d p m n : Nat) (B : Nat → Int32) (hcd : ¬ c = d) (i : Nat) : ∀ k, (zTy σ c d p m n B k).1 c i = if m ≤ i ∧ i < m + k then B (n - 1 - (i - m)) else σ.1 c i := by
  intro k
  induction k with
  | zero => rw [if_neg (by omega)]; rfl
  | succ k ih =>
    unfold zTy
    rw [pz_u, if_neg hcd, pz_u, if_pos rfl, pz_upd]
    by_cases e : i = m + k
    · rw [if_pos e, if_pos (by omega), e, show m + k - m = k by omega]
    · rw [if_neg e, ih]
      by_cases e2 : m ≤ i ∧ i < m + k
      · rw [if_pos e2, if_pos (by omega)]
      · rw [if_neg e2, if_neg (by omega)]
theorem op_type (σ : gs_S) (hI : inv σ) (a1 : Int64) (a3 : Int32) : ∃ (r : Int32) (σ1 : gs_S) (σ2 : gs_S), pX10_type a1 a3 σ = some (r, σ1) ∧ pX11_type a1 a3 σ1 = some (r, σ2) ∧ inv σ2 := by
  unfold pX10_type pX11_type
  by_cases h1 : iv_in a3 1 8
  rotate_left
  · exact ⟨-1, σ, σ, pz_if_f (pz_w10 a3 1 8) h1 _ _, pz_if_f (pz_x11 a3 1 8) h1 _ _, hI⟩
  rw [pz_if_t (pz_w10 a3 1 8) h1]
  have h1' := h1
  obtain ⟨n, hn, rfl⟩ := pz_nat 8 (x := a3) ⟨by have := h1.1; omega, h1.2⟩ (by decide)
  have hn0 : 1 ≤ n := by have := h1.1; rw [nI_toInt (by omega)] at this; omega
  have gc : ∀ i, i < 8 → ((pX10_isWithin ((pX10_byteOf a1 (nI i)).toInt64) 32 126 = 0) ↔ ¬ zGood a1 i) := fun i hi => by
    rw [pz_within, pz_if10, (pz_byteOf a1 hi).2]; rfl
  have gx : ∀ i, ((pX11_in ((a1 >>> (((8 : Int32) * nI i).toInt64 &&& 63)) &&& (255 : Int64)) 32 126 = 0) ↔ ¬ zGood a1 i) := fun i => by
    rw [pz_xin, pz_if10]; rfl
  have L1 := gv_find (fun q : Int32 => pX10_type_L16 (nI n) a1 σ q) (fun k => nI k) (fun k => ¬ zGood a1 k) (fun k => .inr ((-1 : Int32), σ)) n gv_N (gv_N_lt (by omega)) (.inl (nI n)) ?_ ?_ ?_
  rotate_left
  · intro k hk c
    show pX10_type_L16 (nI n) a1 σ (nI k) = _
    unfold pX10_type_L16
    rw [if_neg (nI_ge hk (by omega)), pz_if_t (gc k (by omega)) (Classical.not_not.mp c)]
    simp only [gv_let, nI_1]
  · intro k hk c
    show pX10_type_L16 (nI n) a1 σ (nI k) = _
    unfold pX10_type_L16
    rw [if_neg (nI_ge hk (by omega)), pz_if_f (gc k (by omega)) c]
  · show pX10_type_L16 (nI n) a1 σ (nI n) = _
    unfold pX10_type_L16
    rw [if_pos (nI_le (Nat.le_refl n) (by omega))]
  have hf0 : zDn n 0 = nI n - 1 := by
    unfold zDn
    rw [if_pos (by omega)]
    obtain ⟨j, rfl⟩ : ∃ j, n = j + 1 := ⟨n - 1, by omega⟩
    rw [nI_pred]; rfl
  have L2 : ∀ τ : gs_S, (∃ k, k < n ∧ ¬ zGood a1 (n - 1 - k) ∧ (∀ j, j < k → ¬ ¬ zGood a1 (n - 1 - j)) ∧ gv_loop (fun q : Int32 => pX11_type_L19 a1 τ q) gv_N (zDn n 0) = some (.inr ((-1 : Int32), τ))) ∨ ((∀ k, k < n → ¬ ¬ zGood a1 (n - 1 - k)) ∧ gv_loop (fun q : Int32 => pX11_type_L19 a1 τ q) gv_N (zDn n 0) = some (.inl (-1 : Int32))) := by
    intro τ
    refine gv_find (fun q : Int32 => pX11_type_L19 a1 τ q) (fun k => zDn n k) (fun k => ¬ zGood a1 (n - 1 - k)) (fun k => .inr ((-1 : Int32), τ)) n gv_N (gv_N_lt (by omega)) (.inl (-1 : Int32)) ?_ ?_ ?_
    · intro k hk c
      show pX11_type_L19 a1 τ (zDn n k) = _
      unfold pX11_type_L19
      rw [show zDn n k = nI (n - 1 - k) from if_pos hk, if_neg (nI_pos (by omega)), pz_if_t (gx (n - 1 - k)) (Classical.not_not.mp c)]
      simp only [gv_let]
      rw [zDn_s hk]
    · intro k hk c
      show pX11_type_L19 a1 τ (zDn n k) = _
      unfold pX11_type_L19
      rw [show zDn n k = nI (n - 1 - k) from if_pos hk, if_neg (nI_pos (by omega)), pz_if_f (gx (n - 1 - k)) c]
    · show pX11_type_L19 a1 τ (zDn n n) = _
      unfold pX11_type_L19
      rw [show zDn n n = -1 from if_neg (by omega), if_pos (by decide)]
  rcases L1 with ⟨k, k1, k2, -, k4⟩ | ⟨k1, k4⟩
  · have h9 : gv_loop (fun q : Int32 => pX10_type_L16 (nI n) a1 σ q) gv_N (0 : Int32) = some (.inr ((-1 : Int32), σ)) := k4
    refine ⟨-1, σ, σ, by rw [h9]; rfl, ?_, hI⟩
    rw [pz_if_t (pz_x11 (nI n) 1 8) h1]
    simp only [gv_let]
    rw [← hf0]
    rcases L2 σ with ⟨i, i1, i2, -, i4⟩ | ⟨i1, i4⟩
    · rw [i4]; rfl
    · exact absurd k2 (by have := i1 (n - 1 - k) (by omega); rw [show n - 1 - (n - 1 - k) = k by omega] at this; exact this)
  have good : ∀ k, k < n → zGood a1 k := fun k hk => Classical.not_not.mp (k1 k hk)
  have h9 : gv_loop (fun q : Int32 => pX10_type_L16 (nI n) a1 σ q) gv_N (0 : Int32) = some (.inl (nI n)) := k4
  rw [h9]
  simp only [gv_bret, gv_let]
  have xgood : ∀ τ : gs_S, gv_loop (fun q : Int32 => pX11_type_L19 a1 τ q) gv_N (nI n - 1) = some (.inl (-1 : Int32)) := by
    intro τ
    rw [← hf0]
    rcases L2 τ with ⟨i, i1, i2, -, i4⟩ | ⟨i1, i4⟩
    · exact absurd (good _ (by omega)) i2
    · exact i4
  obtain ⟨m, hm, e1, e2, t0⟩ := id hI.2.2.2.2.2.2.1
  by_cases c : m + n ≤ 140
  rotate_left
  · refine ⟨-3, σ, σ, ?_, ?_, hI⟩
    · rw [e1, nI_add, if_neg (show ¬ nI (m + n) ≤ (140 : Int32) from nI_ge (a := 140) (by omega) (by omega))]
    · rw [pz_if_t (pz_x11 (nI n) 1 8) h1, xgood]
      dsimp only
      rw [e2, nI_add, if_neg (show ¬ nI (m + n) ≤ (140 : Int32) from nI_ge (a := 140) (by omega) (by omega))]
  obtain ⟨B, hB⟩ : ∃ B : Nat → Int32, B = fun i => (zLb a1 i).toInt32 := ⟨_, rfl⟩
  have Bin : ∀ i, i < n → iv_in (B i) 32 126 := by
    intro i hi
    obtain ⟨g1, g2⟩ := good i hi
    rw [hB]
    unfold iv_in
    dsimp only
    rw [Int64.toInt_toInt32, Int.bmod_eq_of_le (by omega) (by omega)]
    exact ⟨g1, g2⟩
  have nar : ∀ i, i < n → vp_nar .byte ((pX10_byteOf a1 (nI i)).toInt8.toInt32) = B i := by
    intro i hi
    rw [(pz_byteOf a1 (show i < 8 by omega)).1, show (zLb a1 i).toInt32 = B i by rw [hB]]
    obtain ⟨b, hb, e⟩ := pz_nat 126 (x := B i) ⟨by have := (Bin i hi).1; omega, (Bin i hi).2⟩ (by decide)
    rw [e]
    exact (show ∀ b, b ≤ 126 → vp_nar .byte ((nI b).toInt8.toInt32) = nI b by decide +kernel) b hb
  have W := gv_for (fun q : Int32 × gs_S => pX10_type_L70 a1 q.1 q.2) (fun k => (zDn n k, zTy σ 30 29 1 m n B k)) n gv_N (gv_N_lt (by omega)) (-1, zTy σ 30 29 1 m n B n) ?_ ?_
  rotate_left
  · intro k hk
    dsimp only
    unfold pX10_type_L70 pX7_add
    rw [show zDn n k = nI (n - 1 - k) from if_pos hk, if_neg (nI_pos (by omega)), zTy_p _ _ _ _ _ _ _ (by decide) e1, pz_inN (by omega) (by decide), nI_clamp (by omega)]
    simp only [gv_let, gv_bind]
    rw [zDn_s hk, nar _ (by omega), pz_u, if_neg (by decide), zTy_p _ _ _ _ _ _ _ (by decide) e1, nI_1]
    rfl
  · dsimp only
    unfold pX10_type_L70
    rw [show zDn n n = -1 from if_neg (by omega), if_pos (by decide)]
  have W2 : gv_loop (fun q : Int32 × gs_S => pX10_type_L70 a1 q.1 q.2) gv_N (nI n - 1, σ) = some (-1, zTy σ 30 29 1 m n B n) := by rw [← hf0]; exact W
  obtain ⟨τ, eτ⟩ : ∃ τ, τ = zTy σ 30 29 1 m n B n := ⟨_, rfl⟩
  have t1 : ∀ x, ¬ x = 30 → ¬ x = 29 → τ.1 x = σ.1 x := fun x x1 x2 => by rw [eτ, zTy_1 _ _ _ _ _ _ _ _ x1 x2]
  have f2 : τ.1 63 12 = nI m := by rw [t1 63 (by decide) (by decide)]; exact e2
  have X := gv_for (fun q : Int32 × gs_S => pX11_type_L75 a1 q.1 q.2) (fun k => (zDn n k, zTy τ 72 63 12 m n B k)) n gv_N (gv_N_lt (by omega)) (-1, zTy τ 72 63 12 m n B n) ?_ ?_
  rotate_left
  · intro k hk
    dsimp only
    unfold pX11_type_L75
    rw [show zDn n k = nI (n - 1 - k) from if_pos hk, if_neg (nI_pos (by omega)), zTy_p _ _ _ _ _ _ _ (by decide) f2, pz_inN (by omega) (by decide), nI_clamp (by omega)]
    simp only [gv_let]
    rw [zDn_s hk, pz_u, if_neg (by decide), zTy_p _ _ _ _ _ _ _ (by decide) f2, nI_1]
    rw [show ((a1 >>> (((8 : Int32) * nI (n - 1 - k)).toInt64 &&& 63)) &&& (255 : Int64)).toInt32 = B (n - 1 - k) by rw [hB]; rfl]
    rfl
  · dsimp only
    unfold pX11_type_L75
    rw [show zDn n n = -1 from if_neg (by omega), if_pos (by decide)]
  have X2 : gv_loop (fun q : Int32 × gs_S => pX11_type_L75 a1 q.1 q.2) gv_N (nI n - 1, τ) = some (-1, zTy τ 72 63 12 m n B n) := by rw [← hf0]; exact X
  have le : nI (m + n) ≤ (140 : Int32) := nI_le (b := 140) c (by decide)
  refine ⟨nI (m + n), τ, zTy τ 72 63 12 m n B n, ?_, ?_, ?_⟩
  · rw [e1, nI_add, if_pos le, W2]
    simp only [gv_bind]
    rw [zTy_p _ _ _ _ _ _ _ (by decide) e1, eτ]
  · rw [pz_if_t (pz_x11 (nI n) 1 8) h1, xgood]
    dsimp only
    rw [f2, nI_add, if_pos le, X2]
    simp only [gv_bind]
    rw [zTy_p _ _ _ _ _ _ _ (by decide) f2]
  · have k1 : ∀ x, ¬ x = 29 → ¬ x = 30 → ¬ x = 63 → ¬ x = 72 → (zTy τ 72 63 12 m n B n).1 x = σ.1 x := fun x x1 x2 x3 x4 => by rw [zTy_1 _ _ _ _ _ _ _ _ x4 x3, t1 x x2 x1]
    have k6 : ∀ i, ¬ i = 12 → (zTy τ 72 63 12 m n B n).1 63 i = σ.1 63 i := fun i hi => by rw [zTy_o _ _ _ _ _ _ _ (by decide) i hi, t1 63 (by decide) (by decide)]
    refine inv_mk (fr_ice hI (k1 _ (by omega) (by omega) (by omega) (by omega)) (k1 _ (by omega) (by omega) (by omega) (by omega))) (fr_tr hI (k1 _ (by omega) (by omega) (by omega) (by omega)) (k6 _ (by omega)) (k1 _ (by omega) (by omega) (by omega) (by omega)) (k1 _ (by omega) (by omega) (by omega) (by omega)) (k1 _ (by omega) (by omega) (by omega) (by omega)) (k1 _ (by omega) (by omega) (by omega) (by omega)) (k1 _ (by omega) (by omega) (by omega) (by omega)) (k1 _ (by omega) (by omega) (by omega) (by omega))) (fr_way hI (k1 _ (by omega) (by omega) (by omega) (by omega)) (k6 _ (by omega)) (k1 _ (by omega) (by omega) (by omega) (by omega)) (k1 _ (by omega) (by omega) (by omega) (by omega))) (fr_set hI (k1 _ (by omega) (by omega) (by omega) (by omega)) (k1 _ (by omega) (by omega) (by omega) (by omega))) (fr_ears hI (k1 _ (by omega) (by omega) (by omega) (by omega)) (k6 _ (by omega)) (k1 _ (by omega) (by omega) (by omega) (by omega)) (k1 _ (by omega) (by omega) (by omega) (by omega)) (k1 _ (by omega) (by omega) (by omega) (by omega)) (k1 _ (by omega) (by omega) (by omega) (by omega)) (k1 _ (by omega) (by omega) (by omega) (by omega)) (k1 _ (by omega) (by omega) (by omega) (by omega))) ?_ (fr_kept hI (k1 _ (by omega) (by omega) (by omega) (by omega)) (k6 _ (by omega)) (fun c c1 c2 => k1 _ (by omega) (by omega) (by omega) (by omega)) (k1 _ (by omega) (by omega) (by omega) (by omega)) (k1 _ (by omega) (by omega) (by omega) (by omega))) (fr_shs hI (fun c c1 c2 => k1 _ (by omega) (by omega) (by omega) (by omega)) (k1 _ (by omega) (by omega) (by omega) (by omega)) (k1 _ (by omega) (by omega) (by omega) (by omega)) (by rw [zTy_2, eτ, zTy_2]))
    refine ⟨m + n, c, ?_, zTy_p _ _ _ _ _ _ _ (by decide) f2 n, fun k hk => ?_⟩
    · rw [zTy_1 _ _ _ _ _ _ _ _ (by decide) (by decide), eτ]; exact zTy_p _ _ _ _ _ _ _ (by decide) e1 n
    · rw [zTy_1 _ _ _ _ _ _ _ _ (by decide) (by decide), zTy_c _ _ _ _ _ _ _ (by decide), t1 72 (by decide) (by decide), eτ, zTy_c _ _ _ _ _ _ _ (by decide)]
      by_cases q : m ≤ k ∧ k < m + n
      · rw [if_pos q, if_pos q]; exact ⟨rfl, Bin _ (by omega)⟩
      · rw [if_neg q, if_neg q]; exact t0 k (by omega)
