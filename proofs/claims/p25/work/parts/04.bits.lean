-- BITS of a long, and counts of them
def bi (x : Int64) (i : Nat) : Bool := x.toBitVec.getLsbD i
def ol (i : Nat) : Int64 := Int64.ofBitVec (BitVec.twoPow 64 i)
theorem bi_big {x : Int64} {i : Nat} (h : 64 ≤ i) : bi x i = false := BitVec.getLsbD_of_ge _ _ h
theorem bi_lt {x : Int64} {i : Nat} (h : bi x i = true) : i < 64 := by
  rcases Nat.lt_or_ge i 64 with q | q
  · exact q
  · rw [bi_big q] at h; cases h
theorem bi_ext {x y : Int64} (h : ∀ i, i < 64 → bi x i = bi y i) : x = y := Int64.toBitVec_inj.mp (BitVec.eq_of_getLsbD_eq (fun i hi => h i hi))
theorem bi_or (x y : Int64) (i : Nat) : bi (x ||| y) i = (bi x i || bi y i) := by simp [bi]
theorem bi_and (x y : Int64) (i : Nat) : bi (x &&& y) i = (bi x i && bi y i) := by simp [bi]
theorem bi_m1 (i : Nat) : bi (-1) i = decide (i < 64) := by
  show (-1 : Int64).toBitVec.getLsbD i = _
  rw [show (-1 : Int64).toBitVec = BitVec.allOnes 64 by decide +kernel, BitVec.getLsbD_allOnes]
theorem bi_not (x : Int64) (i : Nat) : bi (x ^^^ (-1)) i = (decide (i < 64) && !bi x i) := by
  have h : bi (x ^^^ (-1)) i = (bi x i ^^ bi (-1) i) := by
    show (x ^^^ (-1)).toBitVec.getLsbD i = _
    rw [Int64.toBitVec_xor, BitVec.getLsbD_xor]; rfl
  rw [h, bi_m1]
  by_cases q : i < 64
  · simp [q]
  · rw [bi_big (Nat.le_of_not_lt q)]; simp [q]
theorem bi_0 (i : Nat) : bi 0 i = false := by simp [bi]
theorem bi_ol (i j : Nat) : bi (ol i) j = (decide (i < 64) && decide (i = j)) := by
  show (Int64.ofBitVec (BitVec.twoPow 64 i)).toBitVec.getLsbD j = _
  rw [Int64.toBitVec_ofBitVec, BitVec.getLsbD_twoPow]
theorem bi_ol1 {i j : Nat} (hi : i < 64) : bi (ol i) j = decide (i = j) := by rw [bi_ol]; simp [hi]
theorem ol_shl : ∀ i, i < 64 → (1 : Int64) <<< ((nI i).toInt64 &&& 63) = ol i := by decide +kernel
theorem has_0 {x : Int64} {i : Nat} (hi : i < 64) : x &&& ol i = 0 ↔ bi x i = false := by
  constructor
  · intro h
    have h1 : bi (x &&& ol i) i = bi 0 i := by rw [h]
    rw [bi_and, bi_ol1 hi, bi_0] at h1
    simpa using h1
  · intro h
    refine bi_ext (fun j _ => ?_)
    rw [bi_and, bi_ol1 hi, bi_0]
    by_cases q : i = j
    · subst q; rw [h]; rfl
    · simp [q]
theorem sh_c : ∀ k, k < 64 → (((nI k).toInt64.toUInt64 &&& Int64.toUInt64 63)).toNat = k := by decide +kernel
/-- the other side's way to ask for a bit -/
theorem has_1 {x : Int64} {i : Nat} (hi : i < 64) : (x.toUInt64 >>> ((nI i).toInt64.toUInt64 &&& Int64.toUInt64 63)).toInt64 &&& 1 = ol 0 &&& (if bi x i then 1 else 0) := by
  refine bi_ext (fun j hj => ?_)
  have e1 : bi 1 j = decide (0 = j) := by
    have : (1 : Int64) = ol 0 := by decide +kernel
    rw [this, bi_ol1 (by omega)]
  have e2 : bi ((x.toUInt64 >>> ((nI i).toInt64.toUInt64 &&& Int64.toUInt64 63)).toInt64) j = bi x (i + j) := by
    show ((x.toUInt64 >>> ((nI i).toInt64.toUInt64 &&& Int64.toUInt64 63)).toInt64).toBitVec.getLsbD j = x.toBitVec.getLsbD (i + j)
    have h9 : (((nI i).toInt64.toUInt64 &&& Int64.toUInt64 63).toBitVec % 64).toNat = i := by
      rw [BitVec.toNat_umod]
      have := sh_c i hi
      rw [← UInt64.toNat_toBitVec] at this
      rw [this]
      exact Nat.mod_eq_of_lt hi
    simp only [UInt64.toBitVec_toInt64, UInt64.toBitVec_shiftRight, Int64.toBitVec_toUInt64]
    rw [BitVec.ushiftRight_eq', BitVec.getLsbD_ushiftRight, h9]
  rw [bi_and, bi_and, e1, e2, bi_ol1 (by omega)]
  by_cases q : 0 = j
  · subst q
    simp only [Nat.add_zero, decide_true, Bool.and_true, Bool.true_and]
    cases bi x i
    · exact (bi_0 0).symm
    · have : (1 : Int64) = ol 0 := by decide +kernel
      rw [if_pos rfl, this, bi_ol1 (by omega)]; rfl
  · simp [q]
theorem has_1t {x : Int64} {i : Nat} (hi : i < 64) : ((x.toUInt64 >>> ((nI i).toInt64.toUInt64 &&& Int64.toUInt64 63)).toInt64 &&& 1 = 1) ↔ bi x i = true := by
  rw [has_1 hi]
  cases bi x i
  · exact ⟨fun h => absurd h (by decide +kernel), fun h => by cases h⟩
  · exact ⟨fun _ => rfl, fun _ => by decide +kernel⟩
-- counts
def ct (p : Nat → Bool) : Nat → Nat
  | 0 => 0
  | n + 1 => ct p n + (if p n then 1 else 0)
theorem ct_le (p : Nat → Bool) : ∀ n, ct p n ≤ n
  | 0 => Nat.le_refl 0
  | n + 1 => by
    have := ct_le p n
    show ct p n + (if p n then 1 else 0) ≤ n + 1
    split <;> omega
theorem ct_congr {p q : Nat → Bool} : ∀ {n : Nat}, (∀ k, k < n → p k = q k) → ct p n = ct q n
  | 0, _ => rfl
  | n + 1, h => by
    show ct p n + (if p n then 1 else 0) = ct q n + (if q n then 1 else 0)
    rw [ct_congr (fun k hk => h k (by omega)), h n (by omega)]
theorem ct_false : ∀ {p : Nat → Bool} (n m : Nat), (∀ k, n ≤ k → p k = false) → ct p (n + m) = ct p n
  | _, _, 0, _ => rfl
  | p, n, m + 1, h => by
    show ct p (n + m) + (if p (n + m) then 1 else 0) = ct p n
    rw [ct_false n m h, h (n + m) (by omega)]
    rfl
theorem ct_to {p : Nat → Bool} {n m : Nat} (hnm : n ≤ m) (h : ∀ k, n ≤ k → p k = false) : ct p m = ct p n := by
  obtain ⟨d, rfl⟩ : ∃ d, m = n + d := ⟨m - n, by omega⟩
  exact ct_false n d h
theorem ct_new {p q : Nat → Bool} : ∀ n, ct (fun k => p k || q k) n = ct p n + ct (fun k => q k && !p k) n
  | 0 => rfl
  | n + 1 => by
    show ct (fun k => p k || q k) n + (if (p n || q n) then 1 else 0) = ct p n + (if p n then 1 else 0) + (ct (fun k => q k && !p k) n + (if (q n && !p n) then 1 else 0))
    rw [ct_new n]
    cases p n <;> cases q n <;> simp <;> omega
theorem ct_split (p : Nat → Bool) (m : Nat) : ∀ n, ct p (m + n) = ct p m + ct (fun k => p (m + k)) n
  | 0 => rfl
  | n + 1 => by
    show ct p (m + n) + (if p (m + n) then 1 else 0) = ct p m + (ct (fun k => p (m + k)) n + (if p (m + n) then 1 else 0))
    rw [ct_split p m n]; omega
/-- how many bits are set -/
def pc64 (x : Int64) : Nat := ct (bi x) 64
