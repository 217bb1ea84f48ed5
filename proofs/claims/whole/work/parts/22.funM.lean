-- the reference's own functions
def inr (v lo hi : Int32) : Bool := !(decide (v < lo)) && !(decide (hi < v))
theorem inr_f1 {v lo hi : Int32} (h : v < lo) : inr v lo hi = false := by simp [inr, h]
theorem inr_f2 {v lo hi : Int32} (h : hi < v) : inr v lo hi = false := by simp [inr, h]
theorem inr_t {v lo hi : Int32} (h1 : ¬ v < lo) (h2 : ¬ hi < v) : inr v lo hi = true := by simp [inr, h1, h2]
theorem inr_ev {L : Nat} (x : Int32) (hL : L + 1 < 2 ^ 31) : inr x (nI 0) (nI L) = ev (L + 1) x := by
  have h : (¬ nI L < x) ↔ x < nI (L + 1) := by
    rw [Int32.lt_iff_toInt_lt, Int32.lt_iff_toInt_lt, nI_toInt (by omega), nI_toInt hL]
    omega
  unfold inr ev
  rw [nI_0]
  by_cases q : x < nI (L + 1)
  · have := h.mpr q
    simp [q, this]
  · have : nI L < x := by
      by_cases z : nI L < x
      · exact z
      · exact absurd (h.mp z) q
    simp [q, this]
theorem inr_sub {L : Nat} (x : Int32) (hL : L < 2 ^ 31) : inr x (nI 0) (nI L - nI 1) = ev L x := by
  cases L with
  | zero =>
    have e : nI 0 - nI 1 = -1 := by decide +kernel
    rw [e]
    by_cases q : x < 0
    · rw [ev_f1 q, inr_f1 (by rw [nI_0]; exact q)]
    · have h1 : (-1 : Int32) < x := by
        rw [Int32.lt_iff_toInt_lt] at q ⊢
        rw [Int32.toInt_zero] at q
        have : (-1 : Int32).toInt = -1 := by decide
        omega
      rw [inr_f2 h1, ev_f2]
      rw [nI_0, Int32.le_iff_toInt_le]
      rw [Int32.lt_iff_toInt_lt] at q
      omega
  | succ L =>
    have e : nI (L + 1) - nI 1 = nI L := by rw [pk_sub (by omega)]; rfl
    rw [e, inr_ev x hL]
theorem bad_of_ev {n : Nat} {x : Int32} (hn : n < 2 ^ 31) (h : ev n x = false) : bad n x := by
  rcases bad_or x hn with q | ⟨i, hi, rfl⟩
  · exact q
  · rw [ev_nI hn hi] at h; cases h
def a1 (b : Bool) : Nat := bif b then 0 else 1
def a2 (b1 b2 : Bool) : Nat := bif b1 then (bif b2 then 0 else 2) else 1
def a3 (b1 b2 b3 : Bool) : Nat := bif b1 then (bif b2 then (bif b3 then 0 else 3) else 2) else 1
def hM (pa : Nat → Int64) (v : Int64) : Nat → Int64
  | 0 => v
  | k + 1 => hM pa v k &&& (if bi v k = true then pa k ^^^ (-1) else -1)
theorem hM_bit (pa : Nat → Int64) (v : Int64) : ∀ k i, i < 64 → bi (hM pa v k) i = (bi v i && !bi (hO pa v k) i)
  | 0, i, _ => by rw [hM, hO, bi_0]; simp
  | k + 1, i, hi => by
    rw [hM, hO, bi_and, hM_bit pa v k i hi]
    by_cases q : bi v k = true
    · rw [if_pos q, if_pos q, bi_not, bi_or]
      simp only [hi, decide_true, Bool.true_and]
      cases bi v i <;> cases bi (hO pa v k) i <;> cases bi (pa k) i <;> rfl
    · rw [if_neg q, if_neg q, bi_m1]
      simp [hi]
theorem hM_eq (pa : Nat → Int64) (v : Int64) (n : Nat) : hM pa v n = hdX pa v n := by
  refine bi_ext (fun i hi => ?_)
  rw [hM_bit pa v n i hi, hdX, bi_and, bi_not]
  simp [hi]
/-- two events, neither of which is later -/
def acB (an : Nat → Int64) (i j : Nat) : Bool := !(decide (i = j)) && (!bi (an i) j && !bi (an j) i)
def cM1 (an : Nat → Int64) (v : Int64) (k : Nat) : Nat → Nat
  | 0 => 0
  | j + 1 => cM1 an v k j + (if bi v k = true ∧ bi v j = true ∧ acB an j k = true then 1 else 0)
def cM (an : Nat → Int64) (v : Int64) : Nat → Nat
  | 0 => 0
  | k + 1 => cM an v k + cM1 an v k k
/-- does event k go with each of the first j that are known -/
def crj (an : Nat → Int64) (v : Int64) (k : Nat) : Nat → Bool
  | 0 => bi v k
  | j + 1 => crj an v k j && (!bi v j || !acB an j k)
def crM (an : Nat → Int64) (v : Int64) (n : Nat) : Nat → Int64
  | 0 => 0
  | k + 1 => if crj an v k n = true then crM an v n k ||| ol k else crM an v n k
theorem crj_f {an : Nat → Int64} {v : Int64} {k j : Nat} (h : crj an v k j = false) : ∀ d, crj an v k (j + d) = false
  | 0 => h
  | d + 1 => by
    show crj an v k (j + d + 1) = false
    rw [crj, crj_f h d]; rfl
def gB (mk lt tg : Nat → Int32) (pa : Nat → Int64) (i : Nat) : Bool := ins lt i && (!(decide (tg i = -1)) && (decide (pa i = ol (cl (tg i))) && decide (mk (cl (tg i)) = mk i)))
def rnM (mk lt tg : Nat → Int32) (pa : Nat → Int64) (v : Int64) : Nat → Nat
  | 0 => 0
  | k + 1 => rnM mk lt tg pa v k + (if bi v k = true ∧ gB mk lt tg pa k = false then 1 else 0)
