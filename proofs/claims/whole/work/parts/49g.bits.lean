/-! PURE, 49g: bits of a long; how many there are; count -/
def bL (x : Int64) (i : Nat) : Bool := x.toBitVec.getLsbD i
theorem bL_ext {x y : Int64} (h : ∀ i, i < 64 → bL x i = bL y i) : x = y := Int64.toBitVec_inj.mp (BitVec.eq_of_getLsbD_eq (fun i hi => h i hi))
theorem bL_or (x y : Int64) (i : Nat) : bL (x ||| y) i = (bL x i || bL y i) := by unfold bL; rw [Int64.toBitVec_or, BitVec.getLsbD_or]
theorem bL_and (x y : Int64) (i : Nat) : bL (x &&& y) i = (bL x i && bL y i) := by unfold bL; rw [Int64.toBitVec_and, BitVec.getLsbD_and]
theorem bL_0 (i : Nat) : bL 0 i = false := BitVec.getLsbD_zero
theorem bL_big {x : Int64} {i : Nat} (h : 64 ≤ i) : bL x i = false := BitVec.getLsbD_of_ge _ _ h
theorem sL_l : ∀ n, n < 64 → (((nI n).toInt64 &&& 63).toBitVec.smod 64).toNat = n := by decide +kernel
theorem sL_u : ∀ n, n < 64 → (((nI n).toInt64.toUInt64 &&& Int64.toUInt64 63).toBitVec % 64).toNat = n := by decide +kernel
theorem bL_shl (n : Nat) (hn : n < 64) (x : Int64) {i : Nat} (hi : i < 64) : bL (x <<< ((nI n).toInt64 &&& 63)) i = (decide (n ≤ i) && bL x (i - n)) := by
  unfold bL
  rw [Int64.toBitVec_shiftLeft]
  show (x.toBitVec <<< (((nI n).toInt64 &&& 63).toBitVec.smod 64).toNat).getLsbD i = _
  rw [sL_l n hn, BitVec.getLsbD_shiftLeft]
  rcases Nat.lt_or_ge i n with h | h
  · simp [h, Nat.not_le.mpr h]
  · simp [hi, h, Nat.not_lt.mpr h]
theorem bL_ushr (n : Nat) (hn : n < 64) (x : Int64) (i : Nat) : bL ((x.toUInt64 >>> ((nI n).toInt64.toUInt64 &&& Int64.toUInt64 63)).toInt64) i = bL x (n + i) := by
  show (x.toUInt64 >>> ((nI n).toInt64.toUInt64 &&& Int64.toUInt64 63)).toBitVec.getLsbD i = x.toUInt64.toBitVec.getLsbD (n + i)
  rw [UInt64.toBitVec_shiftRight]
  show (x.toUInt64.toBitVec >>> (((nI n).toInt64.toUInt64 &&& Int64.toUInt64 63).toBitVec % 64).toNat).getLsbD i = _
  rw [sL_u n hn, BitVec.getLsbD_ushiftRight]
theorem bL_1 (i : Nat) : bL 1 i = decide (i = 0) := by
  rcases Nat.lt_or_ge i 64 with h | h
  · exact (show ∀ i, i < 64 → bL 1 i = decide (i = 0) by decide +kernel) i h
  · rw [bL_big h]; exact (decide_eq_false (by omega)).symm
theorem bL_one (n : Nat) (hn : n < 64) {i : Nat} (hi : i < 64) : bL ((1 : Int64) <<< ((nI n).toInt64 &&& 63)) i = decide (i = n) := by
  rw [bL_shl n hn 1 hi, bL_1, ← Bool.decide_and]
  exact decide_eq_decide.mpr (by omega)
/-! how many -/
def pcA : Nat → Nat
  | 0 => 0
  | k + 1 => 85 + 256 * pcA k
def pcB : Nat → Nat
  | 0 => 0
  | k + 1 => 51 + 256 * pcB k
def pcC : Nat → Nat
  | 0 => 0
  | k + 1 => 15 + 256 * pcC k
theorem pc_and (a b m n : Nat) (ha : a < 256) (hm : m < 256) : (a + 256 * b) &&& (m + 256 * n) = (a &&& m) + 256 * (b &&& n) := by
  have e : ∀ x y : Nat, x + 256 * y = 2 ^ 8 * y + x := by intro x y; omega
  rw [e, e, e]
  apply Nat.eq_of_testBit_eq
  intro i
  rw [Nat.testBit_and, Nat.testBit_two_pow_mul_add _ (show a < 2 ^ 8 by omega), Nat.testBit_two_pow_mul_add _ (show m < 2 ^ 8 by omega), Nat.testBit_two_pow_mul_add _ (Nat.and_lt_two_pow _ (show m < 2 ^ 8 by omega))]
  split
  · rw [Nat.testBit_and]
  · rw [Nat.testBit_and]
def pc1 (k n : Nat) : Nat := n - ((n / 2) &&& pcA k)
def pc2 (k v : Nat) : Nat := (v &&& pcB k) + ((v / 4) &&& pcB k)
def pc3 (k v : Nat) : Nat := (v + v / 16) &&& pcC k
def pcD : Nat → Nat → Nat
  | 0, _ => 0
  | k + 1, n => fb_ct (n % 256).testBit 8 + 256 * pcD k (n / 256)
def pcS : Nat → Nat → Nat
  | 0, _ => 0
  | k + 1, n => fb_ct (n % 256).testBit 8 + pcS k (n / 256)
theorem pc_byte : ∀ n, n < 256 → pc1 1 n ≤ 255 ∧ pc2 1 (pc1 1 n) ≤ 68 ∧ pc2 1 (pc1 1 n) % 16 ≤ 4 ∧ pc3 1 (pc2 1 (pc1 1 n)) = fb_ct n.testBit 8 := by decide +kernel
theorem pc_f1 : ∀ a, a < 256 → ∀ t, t < 2 → (a / 2 + 128 * t) &&& 85 = (a / 2) &&& 85 ∧ (a / 2) &&& 85 ≤ a := by decide +kernel
theorem pc_f2 : ∀ a, a < 256 → ∀ t, t < 4 → (a / 4 + 64 * t) &&& 51 = (a / 4) &&& 51 := by decide +kernel
theorem pc_f3 : ∀ a, a < 69 → ∀ t, t < 5 → (a + a / 16 + 16 * t) &&& 15 = (a + a / 16) &&& 15 := by decide +kernel
set_option maxHeartbeats 400000 in
theorem pc_s1 (k a b : Nat) (ha : a < 256) : pc1 (k + 1) (a + 256 * b) = pc1 1 a + 256 * pc1 k b := by
  unfold pc1
  have e : (a + 256 * b) / 2 = (a / 2 + 128 * (b % 2)) + 256 * (b / 2) := by omega
  have f := pc_f1 a ha (b % 2) (by omega)
  rw [e, show pcA (k + 1) = 85 + 256 * pcA k from rfl, pc_and _ _ _ _ (by omega) (by omega), f.1, show pcA 1 = 85 from rfl]
  have g : (b / 2) &&& pcA k ≤ b / 2 := Nat.and_le_left
  have f2 := f.2
  generalize (b / 2) &&& pcA k = y at g
  generalize (a / 2) &&& 85 = x at f2
  omega
set_option maxHeartbeats 400000 in
theorem pc_s2 (k a b : Nat) (ha : a < 256) : pc2 (k + 1) (a + 256 * b) = pc2 1 a + 256 * pc2 k b := by
  unfold pc2
  have e : (a + 256 * b) / 4 = (a / 4 + 64 * (b % 4)) + 256 * (b / 4) := by omega
  rw [e, show pcB (k + 1) = 51 + 256 * pcB k from rfl, pc_and _ _ _ _ ha (by omega), pc_and _ _ _ _ (by omega) (by omega), pc_f2 a ha (b % 4) (by omega), show pcB 1 = 51 from rfl]
  omega
set_option maxHeartbeats 400000 in
theorem pc_s3 (k a b : Nat) (ha : a ≤ 68) (hb : b % 16 ≤ 4) : pc3 (k + 1) (a + 256 * b) = pc3 1 a + 256 * pc3 k b := by
  unfold pc3
  have e : (a + 256 * b) + (a + 256 * b) / 16 = (a + a / 16 + 16 * (b % 16)) + 256 * (b + b / 16) := by omega
  rw [e, show pcC (k + 1) = 15 + 256 * pcC k from rfl, pc_and _ _ _ _ (by omega) (by omega), pc_f3 a (by omega) (b % 16) (by omega), show pcC 1 = 15 from rfl]
set_option maxHeartbeats 400000 in
theorem pc_main : ∀ k n, n < 256 ^ k → pc2 k (pc1 k n) % 16 ≤ 4 ∧ pc3 k (pc2 k (pc1 k n)) = pcD k n := by
  intro k
  induction k with
  | zero =>
    intro n hn
    have : n = 0 := by rw [Nat.pow_zero] at hn; omega
    subst this
    decide
  | succ k ih =>
    intro n hn
    obtain ⟨a, b, ha, e, ea, eb⟩ : ∃ a b, a < 256 ∧ n = a + 256 * b ∧ n % 256 = a ∧ n / 256 = b := ⟨n % 256, n / 256, by omega, by omega, rfl, rfl⟩
    have hb : b < 256 ^ k := by rw [Nat.pow_succ] at hn; omega
    obtain ⟨i1, i2⟩ := ih b hb
    obtain ⟨b1, b2, b3, b4⟩ := pc_byte a ha
    rw [show pcD (k + 1) n = fb_ct (n % 256).testBit 8 + 256 * pcD k (n / 256) from rfl, ea, eb, e, pc_s1 k a b ha, pc_s2 k _ _ (by omega), pc_s3 k _ _ b2 i1, b4, i2]
    exact ⟨by omega, rfl⟩
set_option maxHeartbeats 400000 in
theorem pc_sum : ∀ k n, fb_ct n.testBit (8 * k) = pcS k n := by
  intro k
  induction k with
  | zero => intro n; rfl
  | succ k ih =>
    intro n
    rw [show 8 * (k + 1) = 8 + 8 * k by omega, fb_ct_split, show pcS (k + 1) n = fb_ct (n % 256).testBit 8 + pcS k (n / 256) from rfl, ← ih (n / 256)]
    congr 1
    · exact fb_ct_cong (fun i hi => by rw [show (256 : Nat) = 2 ^ 8 from rfl, Nat.testBit_mod_two_pow]; simp [hi])
    · exact fb_ct_cong (fun i hi => by rw [show (256 : Nat) = 2 ^ 8 from rfl, Nat.testBit_div_two_pow, Nat.add_comm])
theorem pc_dv (k a b : Nat) (h : a < k) : (a + k * b) / k = b := by
  rw [Nat.add_mul_div_left _ _ (by omega), Nat.div_eq_of_lt h, Nat.zero_add]
set_option maxHeartbeats 400000 in
theorem pc_end8 (c0 c1 c2 c3 c4 c5 c6 c7 d : Nat) (h0 : c0 ≤ 8) (h1 : c1 ≤ 8) (h2 : c2 ≤ 8) (h3 : c3 ≤ 8) (h4 : c4 ≤ 8) (h5 : c5 ≤ 8) (h6 : c6 ≤ 8) (h7 : c7 ≤ 8) (hd : d = c0 + 256 * (c1 + 256 * (c2 + 256 * (c3 + 256 * (c4 + 256 * (c5 + 256 * (c6 + 256 * c7))))))) : (d + d / 256 + (d + d / 256) / 65536 + (d + d / 256 + (d + d / 256) / 65536) / 4294967296) % 128 = c0 + (c1 + (c2 + (c3 + (c4 + (c5 + (c6 + c7)))))) := by
  have e1 : d / 256 = c1 + 256 * (c2 + 256 * (c3 + 256 * (c4 + 256 * (c5 + 256 * (c6 + 256 * c7))))) := by
    rw [hd]; exact pc_dv 256 _ _ (by omega)
  have f1 : d + d / 256 = ((c0 + c1) + 256 * (c1 + c2)) + 65536 * (((c2 + c3) + 256 * (c3 + c4)) + 65536 * (((c4 + c5) + 256 * (c5 + c6)) + 65536 * ((c6 + c7) + 256 * c7))) := by
    rw [e1, hd]; clear e1 hd h0 h1 h2 h3 h4 h5 h6 h7; omega
  rw [f1]
  rw [pc_dv 65536 _ _ (by clear e1 f1 hd; omega)]
  have f2 : ((c0 + c1) + 256 * (c1 + c2)) + 65536 * (((c2 + c3) + 256 * (c3 + c4)) + 65536 * (((c4 + c5) + 256 * (c5 + c6)) + 65536 * ((c6 + c7) + 256 * c7))) + (((c2 + c3) + 256 * (c3 + c4)) + 65536 * (((c4 + c5) + 256 * (c5 + c6)) + 65536 * ((c6 + c7) + 256 * c7))) = ((c0 + c1 + c2 + c3) + 256 * (c1 + c2 + c3 + c4) + 65536 * ((c2 + c3 + c4 + c5) + 256 * (c3 + c4 + c5 + c6))) + 4294967296 * ((c4 + c5 + c6 + c7) + 256 * (c5 + c6 + c7) + 65536 * ((c6 + c7) + 256 * c7)) := by
    clear e1 f1 hd h0 h1 h2 h3 h4 h5 h6 h7; omega
  rw [f2]
  rw [pc_dv 4294967296 _ _ (by clear e1 f1 f2 hd; omega)]
  have f3 : ((c0 + c1 + c2 + c3) + 256 * (c1 + c2 + c3 + c4) + 65536 * ((c2 + c3 + c4 + c5) + 256 * (c3 + c4 + c5 + c6))) + 4294967296 * ((c4 + c5 + c6 + c7) + 256 * (c5 + c6 + c7) + 65536 * ((c6 + c7) + 256 * c7)) + ((c4 + c5 + c6 + c7) + 256 * (c5 + c6 + c7) + 65536 * ((c6 + c7) + 256 * c7)) = (c0 + (c1 + (c2 + (c3 + (c4 + (c5 + (c6 + c7))))))) + 128 * (2 * (c1 + c2 + c3 + c4) + 512 * ((c2 + c3 + c4 + c5) + 256 * (c3 + c4 + c5 + c6)) + 33554432 * ((c4 + c5 + c6 + c7) + 256 * (c5 + c6 + c7) + 65536 * ((c6 + c7) + 256 * c7)) + (2 * (c5 + c6 + c7) + 512 * ((c6 + c7) + 256 * c7))) := by
    clear e1 f1 f2 hd h0 h1 h2 h3 h4 h5 h6 h7; omega
  rw [f3, Nat.add_mul_mod_self_left]
  exact Nat.mod_eq_of_lt (by clear e1 f1 f2 f3 hd; omega)
theorem pc_end (n : Nat) : ∃ d, d = pcD 8 n ∧ d ≤ 8 * 72340172838076673 ∧ (d + d / 256 + (d + d / 256) / 65536 + (d + d / 256 + (d + d / 256) / 65536) / 4294967296) % 128 = pcS 8 n := by
  refine ⟨_, rfl, ?_⟩
  have h : ∀ m : Nat, fb_ct (m % 256).testBit 8 ≤ 8 := fun m => fb_ct_le _ 8
  have eD : ∀ k m, pcD (k + 1) m = fb_ct (m % 256).testBit 8 + 256 * pcD k (m / 256) := fun _ _ => rfl
  have eS : ∀ k m, pcS (k + 1) m = fb_ct (m % 256).testBit 8 + pcS k (m / 256) := fun _ _ => rfl
  rw [eD, eD, eD, eD, eD, eD, eD, eD, eS, eS, eS, eS, eS, eS, eS, eS, show pcD 0 _ = 0 from rfl, show pcS 0 _ = 0 from rfl, Nat.mul_zero, Nat.add_zero]
  have h0 := h n
  have h1 := h (n / 256)
  have h2 := h (n / 256 / 256)
  have h3 := h (n / 256 / 256 / 256)
  have h4 := h (n / 256 / 256 / 256 / 256)
  have h5 := h (n / 256 / 256 / 256 / 256 / 256)
  have h6 := h (n / 256 / 256 / 256 / 256 / 256 / 256)
  have h7 := h (n / 256 / 256 / 256 / 256 / 256 / 256 / 256)
  clear h eD eS
  generalize fb_ct (n % 256).testBit 8 = c0 at *
  generalize fb_ct (n / 256 % 256).testBit 8 = c1 at *
  generalize fb_ct (n / 256 / 256 % 256).testBit 8 = c2 at *
  generalize fb_ct (n / 256 / 256 / 256 % 256).testBit 8 = c3 at *
  generalize fb_ct (n / 256 / 256 / 256 / 256 % 256).testBit 8 = c4 at *
  generalize fb_ct (n / 256 / 256 / 256 / 256 / 256 % 256).testBit 8 = c5 at *
  generalize fb_ct (n / 256 / 256 / 256 / 256 / 256 / 256 % 256).testBit 8 = c6 at *
  generalize fb_ct (n / 256 / 256 / 256 / 256 / 256 / 256 / 256 % 256).testBit 8 = c7 at *
  exact ⟨by omega, pc_end8 c0 c1 c2 c3 c4 c5 c6 c7 _ h0 h1 h2 h3 h4 h5 h6 h7 rfl⟩
theorem pc_lA : (6148914691236517205 : Int64) = lN (pcA 8) ∧ pcA 8 < 2 ^ 64 := by decide +kernel
theorem pc_lB : (3689348814741910323 : Int64) = lN (pcB 8) ∧ pcB 8 < 2 ^ 64 := by decide +kernel
theorem pc_lC : (1085102592571150095 : Int64) = lN (pcC 8) ∧ pcC 8 < 2 ^ 64 := by decide +kernel
set_option maxHeartbeats 400000 in
theorem pc_bc (x : Int64) : pJ13_bitCount_95d88 x = nI (fb_ct (bL x) 64) := by
  obtain ⟨n, hn, rfl⟩ := wb_of x
  have hb : bL (lN n) = n.testBit := by
    funext i
    show (lN n).toBitVec.toNat.testBit i = _
    rw [wb_tn hn]
  have sh : ∀ (m k : Nat), m < 2 ^ 64 → k < 64 → ((lN m).toUInt64 >>> ((nI k).toInt64.toUInt64 &&& Int64.toUInt64 63)).toInt64 = lN (m / 2 ^ k) := fun m k hm hk => wb_shr hm hk
  have v1 : lN n - ((((lN n).toUInt64 >>> ((1 : Int32).toInt64.toUInt64 &&& Int64.toUInt64 63)).toInt64) &&& (6148914691236517205 : Int64)) = lN (pc1 8 n) := by
    rw [show ((lN n).toUInt64 >>> ((1 : Int32).toInt64.toUInt64 &&& Int64.toUInt64 63)).toInt64 = lN (n / 2 ^ 1) from sh n 1 hn (by decide), pc_lA.1, wb_and (by omega) pc_lA.2, lN_sub (Nat.le_trans Nat.and_le_left (by omega))]
    rfl
  have l1 : pc1 8 n < 2 ^ 64 := by unfold pc1; omega
  have v2 : ((lN (pc1 8 n)) &&& (3689348814741910323 : Int64)) + ((((lN (pc1 8 n)).toUInt64 >>> ((2 : Int32).toInt64.toUInt64 &&& Int64.toUInt64 63)).toInt64) &&& (3689348814741910323 : Int64)) = lN (pc2 8 (pc1 8 n)) := by
    rw [show ((lN (pc1 8 n)).toUInt64 >>> ((2 : Int32).toInt64.toUInt64 &&& Int64.toUInt64 63)).toInt64 = lN (pc1 8 n / 2 ^ 2) from sh _ 2 l1 (by decide), pc_lB.1, wb_and (by omega) pc_lB.2, wb_and (by omega) pc_lB.2, lN_add]
    rfl
  have l2 : pc2 8 (pc1 8 n) < 2 ^ 63 := by
    unfold pc2
    have a1 : pc1 8 n &&& pcB 8 ≤ pcB 8 := Nat.and_le_right
    have a2 : (pc1 8 n / 4) &&& pcB 8 ≤ pcB 8 := Nat.and_le_right
    have a3 : pcB 8 < 2 ^ 62 := by decide +kernel
    omega
  have v3 : ((lN (pc2 8 (pc1 8 n))) + (((lN (pc2 8 (pc1 8 n))).toUInt64 >>> ((4 : Int32).toInt64.toUInt64 &&& Int64.toUInt64 63)).toInt64)) &&& (1085102592571150095 : Int64) = lN (pc3 8 (pc2 8 (pc1 8 n))) := by
    rw [show ((lN (pc2 8 (pc1 8 n))).toUInt64 >>> ((4 : Int32).toInt64.toUInt64 &&& Int64.toUInt64 63)).toInt64 = lN (pc2 8 (pc1 8 n) / 2 ^ 4) from sh _ 4 (by omega) (by decide), lN_add, pc_lC.1, wb_and (by omega) pc_lC.2]
    rfl
  obtain ⟨d, hd, hd1, hd2⟩ := pc_end n
  have m := (pc_main 8 n (by rw [show (256 : Nat) ^ 8 = 2 ^ 64 from by decide]; exact hn)).2
  rw [m, ← hd] at v3
  unfold pJ13_bitCount_95d88
  simp only [gv_let]
  rw [v1, v2, v3]
  rw [show ((lN d).toUInt64 >>> ((8 : Int32).toInt64.toUInt64 &&& Int64.toUInt64 63)).toInt64 = lN (d / 2 ^ 8) from sh _ 8 (by omega) (by decide), lN_add]
  rw [show ((lN (d + d / 2 ^ 8)).toUInt64 >>> ((16 : Int32).toInt64.toUInt64 &&& Int64.toUInt64 63)).toInt64 = lN ((d + d / 2 ^ 8) / 2 ^ 16) from sh _ 16 (by omega) (by decide), lN_add]
  rw [show ((lN (d + d / 2 ^ 8 + (d + d / 2 ^ 8) / 2 ^ 16)).toUInt64 >>> ((32 : Int32).toInt64.toUInt64 &&& Int64.toUInt64 63)).toInt64 = lN ((d + d / 2 ^ 8 + (d + d / 2 ^ 8) / 2 ^ 16) / 2 ^ 32) from sh _ 32 (by omega) (by decide), lN_add, lN_i, pk_and _ (m := 127) 7 (by decide)]
  rw [hb, show (64 : Nat) = 8 * 8 from rfl, pc_sum, ← hd2]
  congr 1
  show (BitVec.ofNat 32 _).toNat % 2 ^ 7 = _
  rw [BitVec.toNat_ofNat, show (2 : Nat) ^ 8 = 256 from rfl, show (2 : Nat) ^ 16 = 65536 from rfl, show (2 : Nat) ^ 32 = 4294967296 from rfl, show (2 : Nat) ^ 7 = 128 from rfl]
  generalize d + d / 256 + (d + d / 256) / 65536 + (d + d / 256 + (d + d / 256) / 65536) / 4294967296 = z
  clear hd2 v1 v2 v3
  omega
/-! squares thinner than -/
def zTh (f : Nat → Int32) (a : Int32) : Nat → Int64
  | 0 => 0
  | k + 1 => if a ≤ f k then zTh f a k else zTh f a k ||| ((1 : Int64) <<< ((nI k).toInt64 &&& 63))
theorem zTh_bit (f : Nat → Int32) (a : Int32) {i : Nat} (hi : i < 64) : ∀ k, k ≤ 64 → bL (zTh f a k) i = decide (i < k ∧ ¬ a ≤ f i) := by
  intro k
  induction k with
  | zero => intro _; rw [show zTh f a 0 = 0 from rfl, bL_0]; exact (decide_eq_false (by omega)).symm
  | succ k ih =>
    intro hk
    have ih := ih (by omega)
    unfold zTh
    by_cases c : a ≤ f k
    · rw [if_pos c, ih]
      refine decide_eq_decide.mpr ⟨fun h => ⟨by omega, h.2⟩, fun h => ⟨?_, h.2⟩⟩
      by_cases e : i = k
      · subst e; exact absurd c h.2
      · omega
    · rw [if_neg c, bL_or, ih, bL_one k (by omega) hi, ← Bool.decide_or]
      refine decide_eq_decide.mpr ⟨?_, ?_⟩
      · rintro (h | h)
        · exact ⟨by omega, h.2⟩
        · subst h; exact ⟨by omega, c⟩
      · intro h
        by_cases e : i = k
        · exact Or.inr e
        · exact Or.inl ⟨by omega, h.2⟩
theorem pz_thin (a : Int32) (σ : gs_S) : pX2_thinnerThan a σ = some (zTh (σ.1 3) a 64) := by
  unfold pX2_thinnerThan
  have h := gv_for (fun q : Int64 × Int32 => pX2_thinnerThan_L5 σ a q.1 q.2) (fun k => (zTh (σ.1 3) a k, nI k)) 64 gv_N (gv_N_lt (by decide)) (zTh (σ.1 3) a 64, nI 64) ?_ ?_
  · have h2 : gv_loop (fun q : Int64 × Int32 => pX2_thinnerThan_L5 σ a q.1 q.2) gv_N ((0 : Int64), (0 : Int32)) = some (zTh (σ.1 3) a 64, nI 64) := h
    rw [h2]; rfl
  · intro k hk
    dsimp only
    unfold pX2_thinnerThan_L5
    rw [if_neg (show ¬ (64 : Int32) ≤ nI k from nI_ge (b := 64) hk (by decide)), pz_t0 hk]
    simp only [gv_bind, gv_let, nI_1]
    by_cases c : a ≤ σ.1 3 k
    · rw [if_pos c, show zTh (σ.1 3) a (k + 1) = zTh (σ.1 3) a k by conv => lhs; unfold zTh; rw [if_pos c]]
    · rw [if_neg c, show zTh (σ.1 3) a (k + 1) = zTh (σ.1 3) a k ||| ((1 : Int64) <<< ((nI k).toInt64 &&& 63)) by conv => lhs; unfold zTh; rw [if_neg c]]
  · dsimp only
    unfold pX2_thinnerThan_L5
    rw [if_pos (by decide)]
theorem pz_one_le {x : Int32} (h : iv_in x 0 99) : ¬ (1 : Int32) ≤ x ↔ x = 0 := by
  unfold iv_in at h
  rw [Int32.le_iff_toInt_le]
  constructor
  · intro q
    apply Int32.toInt_inj.mp
    have : (1 : Int32).toInt = 1 := rfl
    have : (0 : Int32).toInt = 0 := rfl
    omega
  · intro q
    subst q
    decide
set_option maxHeartbeats 400000 in
theorem op_count (σ : gs_S) (hI : inv σ) (a1 : Int32) : ∃ (r : Int32), pX10_count a1 σ = some r ∧ pX11_count a1 σ = some r := by
  obtain ⟨⟨i1, i2, i3⟩, ⟨m, hm, e1, e2, it⟩, ⟨w, hw, w1, w2, iw⟩, s0, s1, ⟨sl, h, hh, h1, h2, ih⟩, -⟩ := id hI
  unfold pX10_count pX11_count
  have L := gv_for (fun q : Int32 × Int32 × Int32 => pX11_count_L7 σ q.1 q.2.1 q.2.2) (fun k => (nI (fb_ct (fun i => decide (σ.1 64 i = 0)) k), zSum (fun i => σ.1 64 (4 * 64 + i)) k, nI k)) 64 gv_N (gv_N_lt (by decide)) (nI (fb_ct (fun i => decide (σ.1 64 i = 0)) 64), zSum (fun i => σ.1 64 (4 * 64 + i)) 64, nI 64) ?_ ?_
  rotate_left
  · intro k hk
    dsimp only
    unfold pX11_count_L7 pX11_count_J30
    rw [if_neg (show ¬ (64 : Int32) ≤ nI k from nI_ge (b := 64) hk (by decide)), pz_inN (show k < 320 by omega) (by decide), nI_clamp (show k < 2 ^ 31 by omega), show (256 : Int32) + nI k = nI (4 * 64 + k) from nI_add 256 k]
    simp only [gv_let, nI_1, pz_inN (show 4 * 64 + k < 320 by omega) (show 320 < 2 ^ 31 by decide), nI_clamp (show 4 * 64 + k < 2 ^ 31 by omega)]
    by_cases c : σ.1 64 k = 0
    · rw [if_pos c, fb_ct_succ, if_pos (by simp [c])]; rfl
    · rw [if_neg c, show nI (fb_ct (fun i => decide (σ.1 64 i = 0)) k) + (0 : Int32) = nI (fb_ct (fun i => decide (σ.1 64 i = 0)) k + 0) from nI_add _ 0, fb_ct_succ, if_neg (by simp [c])]; rfl
  · dsimp only
    unfold pX11_count_L7
    rw [if_pos (by decide)]
  have L2 : gv_loop (fun q : Int32 × Int32 × Int32 => pX11_count_L7 σ q.1 q.2.1 q.2.2) gv_N ((0 : Int32), (0 : Int32), (0 : Int32)) = _ := L
  rw [L2]
  simp only [gv_bind, gv_let]
  by_cases c0 : a1 = 0
  · rw [if_pos c0, if_pos c0]; exact ⟨_, rfl, by rw [e1, e2]⟩
  rw [if_neg c0, if_neg c0]
  by_cases c1 : a1 = 1
  · rw [if_pos c1, if_pos c1]; exact ⟨_, rfl, by rw [w1, w2]⟩
  rw [if_neg c1, if_neg c1]
  by_cases c2 : a1 = 2
  · rw [if_pos c2, if_pos c2]; exact ⟨_, rfl, by rw [h1, h2]⟩
  rw [if_neg c2, if_neg c2]
  by_cases c3 : a1 = 3
  · rw [if_pos c3, if_pos c3, pz_thin]
    refine ⟨_, rfl, ?_⟩
    rw [pc_bc]
    congr 2
    refine fb_ct_cong (fun i hi => ?_)
    rw [zTh_bit _ _ hi 64 (by omega)]
    refine decide_eq_decide.mpr ?_
    rw [← i1 i (by omega), pz_one_le (i2 i hi)]
    exact ⟨fun q => ⟨hi, q⟩, fun q => q.2⟩
  rw [if_neg c3, if_neg c3]
  by_cases c4 : a1 = 4
  · rw [if_pos c4, if_pos c4, show (4 : Int32) = nI 4 from rfl, pz_total (by omega)]
    refine ⟨_, rfl, ?_⟩
    exact congrArg some (zSum_eq 64 (fun k hk => i1 (4 * 64 + k) (by omega))).symm
  rw [if_neg c4, if_neg c4]
  exact ⟨_, rfl, rfl⟩
