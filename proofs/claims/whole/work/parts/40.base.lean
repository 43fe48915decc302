/-! THE RELATION between the class's cells and the reference's, and what each cell holds (40) -/
def iv_in (x : Int32) (lo hi : Int) : Prop := lo ≤ x.toInt ∧ x.toInt ≤ hi
def iv_ice (a b : Nat → Int32) : Prop := (∀ k, k < 320 → a k = b k) ∧ (∀ k, k < 64 → iv_in (a k) 0 99) ∧ (∀ k, k < 64 → iv_in (a (64 + k)) 0 4)
def iv_tr (n n2 : Int32) (lo pa st lo2 pa2 st2 : Nat → Int32) : Prop := ∃ m : Nat, m ≤ 6 ∧ n = nI m ∧ n2 = nI m ∧ ∀ k, k < m → lo k = lo2 k ∧ pa k = pa2 k ∧ st k = st2 k ∧ iv_in (lo k) 1 99 ∧ iv_in (pa k) 1 9 ∧ iv_in (st k) 0 99
def iv_way (n n2 : Int32) (w w2 : Nat → Int32) : Prop := ∃ m : Nat, m ≤ 24 ∧ n = nI m ∧ n2 = nI m ∧ ∀ k, k < m → w k = w2 k ∧ iv_in (w k) 0 63
def iv_set (x y : Int32) : Prop := x = y ∧ iv_in x 0 99
def iv_ears (n n2 : Int32) (sl sl2 hr sq pi hd : Nat → Int32) : Prop := (∀ k, k < 4 → sl k = sl2 k ∧ iv_in (sl k) 0 99) ∧ ∃ m : Nat, m ≤ 16 ∧ n = nI m ∧ n2 = nI m ∧ ∀ k, k < m → hr k = hd (3 * k) ∧ sq k = hd (3 * k + 1) ∧ pi k = hd (3 * k + 2) ∧ iv_in (hr k) 0 3 ∧ iv_in (sq k) 0 63 ∧ iv_in (pi k) 90 9999
def iv_tape (n n2 : Int32) (t t2 : Nat → Int32) : Prop := ∃ m : Nat, m ≤ 140 ∧ n = nI m ∧ n2 = nI m ∧ ∀ k, k < m → t k = t2 k ∧ iv_in (t k) 32 126
def iv_sheet (ln sz ln2 sz2 : Int32) (y : Nat → Int32) (lo it : Nat → Int64) : Prop := ln = ln2 ∧ (ln = -1 ∨ ln = 0 ∨ ln = 1 ∨ ln = 2) ∧ ∃ m : Nat, m ≤ 24 ∧ sz = nI m ∧ sz2 = nI m ∧ (ln = 1 → ∀ k, k < m → (y k).toInt64 = it k) ∧ (ln = 2 → ∀ k, k < m → lo k = it k)
def iv_kept (σ : gs_S) : Prop := σ.1 0 2 = σ.1 63 22 ∧ (σ.1 0 2 = 0 ∨ (σ.1 0 2 = 1 ∧ iv_ice (σ.1 17) (σ.1 79) ∧ iv_tr (σ.1 18 3) (σ.1 80 0) (σ.1 19) (σ.1 20) (σ.1 21) (fun k => σ.1 79 (320 + k)) (fun k => σ.1 79 (326 + k)) (fun k => σ.1 79 (332 + k)) ∧ iv_way (σ.1 22 1) (σ.1 80 1) (σ.1 23) (fun k => σ.1 79 (338 + k)) ∧ iv_set (σ.1 15 4) (σ.1 79 362) ∧ iv_set (σ.1 15 5) (σ.1 79 363) ∧ iv_ears (σ.1 24 4) (σ.1 80 2) (σ.1 25) (fun k => σ.1 79 (364 + k)) (σ.1 26) (σ.1 27) (σ.1 28) (fun k => σ.1 79 (368 + k))))
def inv (σ : gs_S) : Prop := iv_ice (σ.1 3) (σ.1 64) ∧ iv_tr (σ.1 4 3) (σ.1 63 4) (σ.1 5) (σ.1 6) (σ.1 7) (σ.1 65) (σ.1 66) (σ.1 67) ∧ iv_way (σ.1 8 1) (σ.1 63 6) (σ.1 9) (σ.1 68) ∧ iv_set (σ.1 1 4) (σ.1 69 0) ∧ iv_set (σ.1 1 5) (σ.1 69 1) ∧ iv_ears (σ.1 10 4) (σ.1 63 10) (σ.1 11) (σ.1 70) (σ.1 12) (σ.1 13) (σ.1 14) (σ.1 71) ∧ iv_tape (σ.1 29 1) (σ.1 63 12) (σ.1 30) (σ.1 72) ∧ iv_kept σ ∧
  iv_sheet (σ.1 47 3) (σ.1 47 4) (σ.1 81 0) (σ.1 82 0) (σ.1 49) (σ.2 50) (fun k => σ.2 83 k) ∧ iv_sheet (σ.1 51 3) (σ.1 51 4) (σ.1 81 1) (σ.1 82 1) (σ.1 53) (σ.2 54) (fun k => σ.2 83 (24 + k)) ∧ iv_sheet (σ.1 55 3) (σ.1 55 4) (σ.1 81 2) (σ.1 82 2) (σ.1 57) (σ.2 58) (fun k => σ.2 83 (48 + k)) ∧ iv_sheet (σ.1 59 3) (σ.1 59 4) (σ.1 81 3) (σ.1 82 3) (σ.1 61) (σ.2 62) (fun k => σ.2 83 (72 + k))
/-! small rows -/
theorem pz_u (σ : gs_S) (c i : Nat) (v : Int32) (a : Nat) : (gs_u σ c i v).1 a = if a = c then upd (σ.1 c) i v else σ.1 a := rfl
theorem pz_u2 (σ : gs_S) (c i : Nat) (v : Int32) : (gs_u σ c i v).2 = σ.2 := rfl
theorem pz_ul (σ : gs_S) (c i : Nat) (v : Int64) (a : Nat) : (gs_ul σ c i v).2 a = if a = c then vp_updL (σ.2 c) i v else σ.2 a := rfl
theorem pz_ul1 (σ : gs_S) (c i : Nat) (v : Int64) : (gs_ul σ c i v).1 = σ.1 := rfl
theorem pz_w (σ : gs_S) (c : Nat) (f : Nat → Int32) (a : Nat) : (gs_w σ c f).1 a = if a = c then f else σ.1 a := rfl
theorem pz_w2 (σ : gs_S) (c : Nat) (f : Nat → Int32) : (gs_w σ c f).2 = σ.2 := rfl
theorem pz_upd (f : Nat → Int32) (i : Nat) (x : Int32) (j : Nat) : upd f i x j = if j = i then x else f j := rfl
theorem pz_updL (f : Nat → Int64) (i : Nat) (x : Int64) (j : Nat) : vp_updL f i x j = if j = i then x else f j := rfl
theorem pz_in {β : Type} {i : Int32} {n : Nat} (h : vp_in i n) (k : Option β) : gv_in i n k = k := if_neg h
theorem pz_inN {β : Type} {i n : Nat} (h : i < n) (hn : n < 2 ^ 31) (k : Option β) : gv_in (nI i) n k = k := pz_in (vp_in_nI h hn) k
theorem pz_cmp_lt (x y : Int64) : (lg_cmp x y < 0) ↔ x.toInt < y.toInt := by
  unfold lg_cmp
  rw [← Int64.lt_iff_toInt_lt]
  by_cases h : x > y
  · rw [if_pos h]
    constructor
    · intro q; exact absurd q (by decide)
    · intro q; rw [gt_iff_lt, Int64.lt_iff_toInt_lt] at h; rw [Int64.lt_iff_toInt_lt] at q; omega
  · rw [if_neg h]
    by_cases h2 : x = y
    · rw [if_pos h2]; subst h2
      constructor
      · intro q; exact absurd q (by decide)
      · intro q; exact absurd q h
    · rw [if_neg h2]
      constructor
      · intro _
        rw [gt_iff_lt, Int64.lt_iff_toInt_lt] at h
        rw [Int64.lt_iff_toInt_lt]
        have : x.toInt ≠ y.toInt := fun q => h2 (Int64.toInt_inj.mp q)
        omega
      · intro _; decide
theorem pz_cmp_gt (x y : Int64) : (0 < lg_cmp x y) ↔ y.toInt < x.toInt := by
  unfold lg_cmp
  rw [← Int64.lt_iff_toInt_lt]
  by_cases h : x > y
  · rw [if_pos h]
    exact ⟨fun _ => h, fun _ => by decide⟩
  · rw [if_neg h]
    constructor
    · intro q
      by_cases h2 : x = y
      · rw [if_pos h2] at q; exact absurd q (by decide)
      · rw [if_neg h2] at q; exact absurd q (by decide)
    · intro q; exact absurd q h
theorem pz_within (v : Int64) (a b : Int32) : pX10_isWithin v a b = if a.toInt ≤ v.toInt ∧ v.toInt ≤ b.toInt then 1 else 0 := by
  unfold pX10_isWithin
  simp only [pz_cmp_lt, pz_cmp_gt, Int32.toInt_toInt64]
  by_cases h1 : v.toInt < a.toInt
  · rw [if_pos h1, if_neg (by omega)]
  · rw [if_neg h1]
    by_cases h2 : b.toInt < v.toInt
    · rw [if_pos h2, if_neg (by omega)]
    · rw [if_neg h2, if_pos (by omega)]
theorem pz_xin (v a b : Int64) : pX11_in v a b = if a.toInt ≤ v.toInt ∧ v.toInt ≤ b.toInt then 1 else 0 := by
  unfold pX11_in
  simp only [pz_cmp_lt, pz_cmp_gt]
  by_cases h1 : v.toInt < a.toInt
  · rw [if_pos h1, if_neg (by omega)]
  · rw [if_neg h1]
    by_cases h2 : b.toInt < v.toInt
    · rw [if_pos h2, if_neg (by omega)]
    · rw [if_neg h2, if_pos (by omega)]
/-- a number between two: a natural one -/
theorem pz_nat {x : Int32} (hi : Nat) (h : iv_in x 0 hi) (hh : hi < 2 ^ 31) : ∃ n : Nat, n ≤ hi ∧ x = nI n := by
  refine ⟨x.toInt.toNat, by unfold iv_in at h; omega, Int32.toInt_inj.mp ?_⟩
  rw [nI_toInt (by unfold iv_in at h; omega)]
  unfold iv_in at h
  omega
theorem pz_if10 {c : Prop} [Decidable c] : ((if c then (1 : Int32) else 0) = 0) ↔ ¬ c := by
  by_cases h : c
  · rw [if_pos h]; exact ⟨fun q => absurd q (by decide), fun q => absurd h q⟩
  · rw [if_neg h]; exact ⟨fun _ => h, fun _ => rfl⟩
theorem pz_ite {β : Type} {c d : Prop} [Decidable c] [Decidable d] (h : c ↔ d) (x y : β) : (if c then x else y) = if d then x else y := by
  by_cases q : d
  · rw [if_pos q, if_pos (h.mpr q)]
  · rw [if_neg q, if_neg (fun z => q (h.mp z))]
theorem nI_mul (a b : Nat) : nI a * nI b = nI (a * b) := (Int32.ofNat_mul a b).symm
