-- HOW MANY BITS ARE SET: the JDK's way, byte by byte
def un (x : Int64) : Nat := x.toBitVec.toNat
theorem un_lt (x : Int64) : un x < 18446744073709551616 := x.toBitVec.isLt
theorem un_inj {x y : Int64} (h : un x = un y) : x = y := Int64.toBitVec_inj.mp (BitVec.eq_of_toNat_eq h)
theorem un_add (x y : Int64) : un (x + y) = (un x + un y) % 18446744073709551616 := by
  show (x + y).toBitVec.toNat = _
  rw [Int64.toBitVec_add, BitVec.toNat_add]; rfl
theorem un_sub {x y : Int64} (h : un y ≤ un x) : un (x - y) = un x - un y := by
  show (x - y).toBitVec.toNat = _
  rw [Int64.toBitVec_sub, BitVec.toNat_sub]
  have h1 := un_lt x
  have h2 := un_lt y
  unfold un at *
  omega
theorem un_and (x y : Int64) : un (x &&& y) = un x &&& un y := by
  show (x &&& y).toBitVec.toNat = _
  rw [Int64.toBitVec_and, BitVec.toNat_and]; rfl
theorem un_shr (x : Int64) {k : Nat} (hk : k < 64) : un ((x.toUInt64 >>> ((nI k).toInt64.toUInt64 &&& Int64.toUInt64 63)).toInt64) = un x / 2 ^ k := by
  have h9 : (((nI k).toInt64.toUInt64 &&& Int64.toUInt64 63).toBitVec % 64).toNat = k := by
    rw [BitVec.toNat_umod]
    have := sh_c k hk
    rw [← UInt64.toNat_toBitVec] at this
    rw [this]
    exact Nat.mod_eq_of_lt hk
  show ((x.toUInt64 >>> ((nI k).toInt64.toUInt64 &&& Int64.toUInt64 63)).toInt64).toBitVec.toNat = _
  simp only [UInt64.toBitVec_toInt64, UInt64.toBitVec_shiftRight, Int64.toBitVec_toUInt64]
  rw [BitVec.ushiftRight_eq', BitVec.toNat_ushiftRight, h9, Nat.shiftRight_eq_div_pow]
  rfl
theorem land256 {a b x y : Nat} (ha : a < 256) (hb : b < 256) : (a + 256 * x) &&& (b + 256 * y) = (a &&& b) + 256 * (x &&& y) := by
  have hab : a &&& b < 2 ^ 8 := Nat.and_lt_two_pow a (by omega)
  apply Nat.eq_of_testBit_eq
  intro j
  rw [Nat.testBit_and, Nat.add_comm a, Nat.add_comm b, Nat.add_comm (a &&& b)]
  have e1 := Nat.testBit_two_pow_mul_add x (show a < 2 ^ 8 by omega) j
  have e2 := Nat.testBit_two_pow_mul_add y (show b < 2 ^ 8 by omega) j
  have e3 := Nat.testBit_two_pow_mul_add (x &&& y) hab j
  rw [show (2 : Nat) ^ 8 = 256 from rfl] at e1 e2 e3
  rw [e1, e2, e3]
  split
  · rw [Nat.testBit_and]
  · rw [Nat.testBit_and]
def msk (c : Nat) : Nat → Nat
  | 0 => 0
  | k + 1 => c + 256 * msk c k
def bmap (f : Nat → Nat) : Nat → Nat → Nat
  | 0, _ => 0
  | k + 1, N => f (N % 256) + 256 * bmap f k (N / 256)
def bf1 (b : Nat) : Nat := b - ((b / 2) &&& 85)
def bf2 (b : Nat) : Nat := (b &&& 51) + ((b / 4) &&& 51)
def bf3 (b : Nat) : Nat := (b + b / 16) % 16
theorem bd1 : ∀ b, b < 256 → ∀ c, c < 2 → (b / 2 + 128 * c) &&& 85 = (b / 2) &&& 85 := by decide +kernel
theorem bd2 : ∀ b, b < 256 → ∀ c, c < 4 → (b / 4 + 64 * c) &&& 51 = (b / 4) &&& 51 := by decide +kernel
theorem bd3 : ∀ b, b < 256 → bf2 (bf1 b) < 256 ∧ bf2 (bf1 b) % 16 ≤ 6 ∧ bf2 (bf1 b) / 16 ≤ 6 := by decide +kernel
theorem bd4 : ∀ b, b < 256 → bf3 (bf2 (bf1 b)) = ct (fun i => b.testBit i) 8 := by decide +kernel
theorem bd5 : ∀ b, b < 256 → bf3 (bf2 (bf1 b)) ≤ 8 := by decide +kernel
theorem bd6 : ∀ b, b < 256 → bf1 b < 256 := by decide +kernel
theorem bl1 : ∀ (k N : Nat), N < 256 ^ k → N - ((N / 2) &&& msk 85 k) = bmap bf1 k N
  | 0, N, h => by simp at h; subst h; rfl
  | k + 1, N, h => by
    have ih := bl1 k (N / 256) (by rw [Nat.pow_succ] at h; omega)
    have e1 : N / 2 = (N % 256 / 2 + 128 * (N / 256 % 2)) + 256 * (N / 256 / 2) := by omega
    rw [msk, bmap, e1, land256 (by omega) (by omega), bd1 _ (by omega) _ (by omega), ← ih, bf1]
    have h1 : (N % 256 / 2) &&& 85 ≤ N % 256 / 2 := Nat.and_le_left
    have h2 : (N / 256 / 2) &&& msk 85 k ≤ N / 256 / 2 := Nat.and_le_left
    omega
theorem bl2 : ∀ (k N : Nat), (N &&& msk 51 k) + ((N / 4) &&& msk 51 k) = bmap bf2 k N
  | 0, N => by simp [msk, bmap]
  | k + 1, N => by
    have ih := bl2 k (N / 256)
    have e1 : N / 4 = (N % 256 / 4 + 64 * (N / 256 % 4)) + 256 * (N / 256 / 4) := by omega
    have e2 : N &&& (51 + 256 * msk 51 k) = (N % 256 &&& 51) + 256 * (N / 256 &&& msk 51 k) := by
      have e3 : N = N % 256 + 256 * (N / 256) := by omega
      rw [← land256 (by omega) (by omega), ← e3]
    rw [msk, bmap, e2, e1, land256 (by omega) (by omega), bd2 _ (by omega) _ (by omega), ← ih, bf2]
    omega
def nib : Nat → Nat → Prop
  | 0, N => N = 0
  | k + 1, N => N % 256 % 16 ≤ 6 ∧ N % 256 / 16 ≤ 6 ∧ nib k (N / 256)
theorem nib_lo : ∀ {k N : Nat}, nib k N → N % 16 ≤ 6
  | 0, N, h => by rw [h]; omega
  | k + 1, N, h => by have := h.1; omega
theorem bl3 : ∀ (k N : Nat), nib k N → (N + N / 16) &&& msk 15 k = bmap bf3 k N
  | 0, N, _ => by simp [msk, bmap]
  | k + 1, N, h => by
    have ih := bl3 k (N / 256) h.2.2
    have h1 := h.1
    have h2 := h.2.1
    have h3 := nib_lo h.2.2
    have e1 : N + N / 16 = (N % 256 + N % 256 / 16 + 16 * (N / 256 % 16)) + 256 * (N / 256 + N / 256 / 16) := by omega
    have e2 : ∀ z : Nat, z &&& 15 = z % 16 := fun z => Nat.and_two_pow_sub_one_eq_mod z 4
    rw [msk, bmap, e1, land256 (by omega) (by omega), ← ih, e2, bf3]
    omega
theorem bcomp {f g : Nat → Nat} (hg : ∀ b, b < 256 → g b < 256) : ∀ (k N : Nat), bmap f k (bmap g k N) = bmap (fun b => f (g b)) k N
  | 0, _ => rfl
  | k + 1, N => by
    have h := hg (N % 256) (by omega)
    rw [bmap, bmap, bmap, show (g (N % 256) + 256 * bmap g k (N / 256)) % 256 = g (N % 256) by omega, show (g (N % 256) + 256 * bmap g k (N / 256)) / 256 = bmap g k (N / 256) by omega, bcomp hg k]
theorem bnib {g : Nat → Nat} (hg : ∀ b, b < 256 → g b < 256 ∧ g b % 16 ≤ 6 ∧ g b / 16 ≤ 6) : ∀ (k N : Nat), nib k (bmap g k N)
  | 0, _ => rfl
  | k + 1, N => by
    have h := hg (N % 256) (by omega)
    rw [bmap, nib, show (g (N % 256) + 256 * bmap g k (N / 256)) % 256 = g (N % 256) by omega, show (g (N % 256) + 256 * bmap g k (N / 256)) / 256 = bmap g k (N / 256) by omega]
    exact ⟨h.2.1, h.2.2, bnib hg k _⟩
def bsum (f : Nat → Nat) : Nat → Nat → Nat
  | 0, _ => 0
  | k + 1, N => f (N % 256) + bsum f k (N / 256)
theorem bsum_ct : ∀ (k N : Nat), ct (fun i => N.testBit i) (8 * k) = bsum (fun b => ct (fun i => b.testBit i) 8) k N
  | 0, _ => rfl
  | k + 1, N => by
    rw [bsum, ← bsum_ct k (N / 256), show 8 * (k + 1) = 8 + 8 * k by omega, ct_split]
    congr 1
    · refine ct_congr (fun i hi => ?_)
      have := Nat.testBit_mod_two_pow N 8 i
      rw [show (2 : Nat) ^ 8 = 256 from rfl] at this
      rw [this]
      simp [hi]
    · refine ct_congr (fun i _ => ?_)
      have := Nat.testBit_div_two_pow (n := 8) N i
      rw [show (2 : Nat) ^ 8 = 256 from rfl] at this
      show N.testBit (8 + i) = (N / 256).testBit i
      rw [this, Nat.add_comm]
theorem bmap_congr {f g : Nat → Nat} (h : ∀ b, b < 256 → f b = g b) : ∀ (k N : Nat), bmap f k N = bmap g k N
  | 0, _ => rfl
  | k + 1, N => by rw [bmap, bmap, h _ (by omega), bmap_congr h k]
theorem bsum_congr {f g : Nat → Nat} (h : ∀ b, b < 256 → f b = g b) : ∀ (k N : Nat), bsum f k N = bsum g k N
  | 0, _ => rfl
  | k + 1, N => by rw [bsum, bsum, h _ (by omega), bsum_congr h k]
/-- eight bytes added up by three foldings -/
theorem bfold {f : Nat → Nat} (hf : ∀ b, b < 256 → f b ≤ 8) (N : Nat) : ∃ Z A4 A5 A6 : Nat, Z = bmap f 8 N ∧ A4 = Z + Z / 256 ∧ A5 = A4 + A4 / 65536 ∧ A6 = A5 + A5 / 4294967296 ∧ A4 < 18446744073709551616 ∧ A5 < 18446744073709551616 ∧ A6 < 18446744073709551616 ∧ A6 % 128 = bsum f 8 N := by
  refine ⟨_, _, _, _, rfl, rfl, rfl, rfl, ?_⟩
  simp only [bmap, bsum]
  generalize N / 256 = N1
  generalize hc0 : f (N % 256) = c0
  generalize hc1 : f (N1 % 256) = c1
  generalize hc2 : f (N1 / 256 % 256) = c2
  generalize hc3 : f (N1 / 256 / 256 % 256) = c3
  generalize hc4 : f (N1 / 256 / 256 / 256 % 256) = c4
  generalize hc5 : f (N1 / 256 / 256 / 256 / 256 % 256) = c5
  generalize hc6 : f (N1 / 256 / 256 / 256 / 256 / 256 % 256) = c6
  generalize hc7 : f (N1 / 256 / 256 / 256 / 256 / 256 / 256 % 256) = c7
  have b0 : c0 ≤ 8 := by rw [← hc0]; exact hf _ (by omega)
  have b1 : c1 ≤ 8 := by rw [← hc1]; exact hf _ (by omega)
  have b2 : c2 ≤ 8 := by rw [← hc2]; exact hf _ (by omega)
  have b3 : c3 ≤ 8 := by rw [← hc3]; exact hf _ (by omega)
  have b4 : c4 ≤ 8 := by rw [← hc4]; exact hf _ (by omega)
  have b5 : c5 ≤ 8 := by rw [← hc5]; exact hf _ (by omega)
  have b6 : c6 ≤ 8 := by rw [← hc6]; exact hf _ (by omega)
  have b7 : c7 ≤ 8 := by rw [← hc7]; exact hf _ (by omega)
  clear hc0 hc1 hc2 hc3 hc4 hc5 hc6 hc7 hf
  obtain ⟨Z, hZ⟩ : ∃ Z, Z = c0 + 256 * (c1 + 256 * (c2 + 256 * (c3 + 256 * (c4 + 256 * (c5 + 256 * (c6 + 256 * (c7 + 256 * 0))))))) := ⟨_, rfl⟩
  rw [← hZ]
  have z1 : Z / 256 = c1 + 256 * c2 + 65536 * c3 + 16777216 * c4 + 4294967296 * c5 + 1099511627776 * c6 + 281474976710656 * c7 := by omega
  obtain ⟨A, hA⟩ : ∃ A, A = Z + Z / 256 := ⟨_, rfl⟩
  rw [← hA]
  have a1 : A = (c0 + c1) + 256 * (c1 + c2) + 65536 * (c2 + c3) + 16777216 * (c3 + c4) + 4294967296 * (c4 + c5) + 1099511627776 * (c5 + c6) + 281474976710656 * (c6 + c7) + 72057594037927936 * c7 := by omega
  clear hA z1 hZ
  have a2 : A / 65536 = (c2 + c3) + 256 * (c3 + c4) + 65536 * (c4 + c5) + 16777216 * (c5 + c6) + 4294967296 * (c6 + c7) + 1099511627776 * c7 := by omega
  obtain ⟨B, hB⟩ : ∃ B, B = A + A / 65536 := ⟨_, rfl⟩
  rw [← hB]
  have q1 : B = (c0 + c1 + c2 + c3) + 256 * (c1 + c2 + c3 + c4) + 65536 * (c2 + c3 + c4 + c5) + 16777216 * (c3 + c4 + c5 + c6) + 4294967296 * (c4 + c5 + c6 + c7) + 1099511627776 * (c5 + c6 + c7) + 281474976710656 * (c6 + c7) + 72057594037927936 * c7 := by omega
  have hA4 : A < 18446744073709551616 := by omega
  clear hB a2 a1
  have q2 : B / 4294967296 = (c4 + c5 + c6 + c7) + 256 * (c5 + c6 + c7) + 65536 * (c6 + c7) + 16777216 * c7 := by omega
  exact ⟨hA4, by omega, by omega, by omega⟩
theorem pc_val {x a1 a2 a3 a4 a5 a6 : Int64} (e1 : a1 = x - ((x.toUInt64 >>> ((nI 1).toInt64.toUInt64 &&& Int64.toUInt64 63)).toInt64 &&& 6148914691236517205))
    (e2 : a2 = (a1 &&& 3689348814741910323) + ((a1.toUInt64 >>> ((nI 2).toInt64.toUInt64 &&& Int64.toUInt64 63)).toInt64 &&& 3689348814741910323))
    (e3 : a3 = (a2 + (a2.toUInt64 >>> ((nI 4).toInt64.toUInt64 &&& Int64.toUInt64 63)).toInt64) &&& 1085102592571150095)
    (e4 : a4 = a3 + (a3.toUInt64 >>> ((nI 8).toInt64.toUInt64 &&& Int64.toUInt64 63)).toInt64)
    (e5 : a5 = a4 + (a4.toUInt64 >>> ((nI 16).toInt64.toUInt64 &&& Int64.toUInt64 63)).toInt64)
    (e6 : a6 = a5 + (a5.toUInt64 >>> ((nI 32).toInt64.toUInt64 &&& Int64.toUInt64 63)).toInt64) : a6.toInt32 &&& nI 127 = nI (pc64 x) := by
  have m1 : un 6148914691236517205 = msk 85 8 := by decide +kernel
  have m2 : un 3689348814741910323 = msk 51 8 := by decide +kernel
  have m3 : un 1085102592571150095 = msk 15 8 := by decide +kernel
  have hx := un_lt x
  have u1 : un a1 = bmap bf1 8 (un x) := by
    rw [e1, ← bl1 8 (un x) (by omega), un_sub, un_and, un_shr x (by omega), m1]
    rw [un_and, un_shr x (by omega)]
    exact Nat.le_trans Nat.and_le_left (Nat.div_le_self _ _)
  have bnd : ∀ (f : Nat → Nat), (∀ b, b < 256 → f b < 256) → ∀ (k N : Nat), bmap f k N < 256 ^ k := by
    intro f hf k
    induction k with
    | zero => intro N; simp [bmap]
    | succ k ih =>
      intro N
      have h1 := ih (N / 256)
      have h2 := hf (N % 256) (by omega)
      rw [bmap, Nat.pow_succ]
      omega
  have u2 : un a2 = bmap (fun b => bf2 (bf1 b)) 8 (un x) := by
    have h := bnd (fun b => bf2 (bf1 b)) (fun b hb => (bd3 b hb).1) 8 (un x)
    rw [e2, un_add, un_and, un_and, un_shr a1 (by omega), m2]
    have := bl2 8 (un a1)
    rw [show (2 : Nat) ^ 2 = 4 from rfl, this, u1, bcomp bd6]
    exact Nat.mod_eq_of_lt (by omega)
  have u3 : un a3 = bmap (fun b => bf3 (bf2 (bf1 b))) 8 (un x) := by
    have hn := bnib (g := fun b => bf2 (bf1 b)) bd3 8 (un x)
    have h := bnd (fun b => bf2 (bf1 b)) (fun b hb => (bd3 b hb).1) 8 (un x)
    have h7 : ∀ N : Nat, nib 8 N → N ≤ 7378697629483820646 := by
      intro N hN
      simp only [nib] at hN
      omega
    have h8 := h7 _ hn
    rw [e3, un_and, un_add, un_shr a2 (by omega), m3, u2, show (2 : Nat) ^ 4 = 16 from rfl, Nat.mod_eq_of_lt (by omega), bl3 8 _ hn, bcomp (fun b hb => (bd3 b hb).1)]
  obtain ⟨Z, A4, A5, A6, hZ, h4, h5, h6, l4, l5, l6, hs⟩ := bfold (f := fun b => bf3 (bf2 (bf1 b))) bd5 (un x)
  have u4 : un a4 = A4 := by
    rw [e4, un_add, un_shr a3 (by omega), u3, ← hZ, show (2 : Nat) ^ 8 = 256 from rfl, ← h4]
    exact Nat.mod_eq_of_lt l4
  have u5 : un a5 = A5 := by
    rw [e5, un_add, un_shr a4 (by omega), u4, show (2 : Nat) ^ 16 = 65536 from rfl, ← h5]
    exact Nat.mod_eq_of_lt l5
  have u6 : un a6 = A6 := by
    rw [e6, un_add, un_shr a5 (by omega), u5, show (2 : Nat) ^ 32 = 4294967296 from rfl, ← h6]
    exact Nat.mod_eq_of_lt l6
  have hp : pc64 x = A6 % 128 := by
    rw [hs, pc64, bsum_congr (f := fun b => bf3 (bf2 (bf1 b))) bd4 8 (un x), ← bsum_ct]
    rfl
  have key : (a6.toInt32 &&& nI 127).toBitVec.toNat = A6 % 128 := by
    rw [Int32.toBitVec_and, BitVec.toNat_and, show (nI 127).toBitVec.toNat = 2 ^ 7 - 1 by decide +kernel, Nat.and_two_pow_sub_one_eq_mod]
    have : a6.toInt32.toBitVec.toNat = A6 % 4294967296 := by
      rw [Int64.toBitVec_toInt32, BitVec.signExtend_eq_setWidth_of_le _ (by omega), BitVec.toNat_setWidth]
      show un a6 % _ = _
      rw [u6]
    rw [this]
    omega
  have hl : A6 % 128 < 2 ^ 32 := by omega
  apply Int32.toBitVec_inj.mp
  apply BitVec.eq_of_toNat_eq
  rw [key, hp]
  exact (pk_tn hl).symm
