-- WHAT THE CLASS'S READERS ANSWER, as functions of what the cells hold
def ins (lt : Nat → Int32) (i : Nat) : Bool := !(decide (lt i = -1))
def cl (x : Int32) : Nat := x.toNatClampNeg
theorem cl_nI {i : Nat} (h : i < 2 ^ 31) : cl (nI i) = i := nI_clamp h
theorem eb_1 {b : Bool} (h : b = true) : nI 1 = eb b := by subst h; decide +kernel
theorem eb_z {b : Bool} (h : b = false) : nI 0 = eb b := by subst h; decide +kernel
theorem ins_t {lt : Nat → Int32} {i : Nat} (h : ¬ lt i = -1) : ins lt i = true := by simp [ins, h]
theorem ins_f {lt : Nat → Int32} {i : Nat} (h : lt i = -1) : ins lt i = false := by simp [ins, h]
theorem ins_ne {lt : Nat → Int32} {i : Nat} (h : ins lt i = true) : ¬ lt i = -1 := by simpa [ins] using h
theorem ins_eq {lt : Nat → Int32} {i : Nat} (h : ins lt i = false) : lt i = -1 := by simpa [ins] using h
def hO (pa : Nat → Int64) (v : Int64) : Nat → Int64
  | 0 => 0
  | k + 1 => if bi v k = true then hO pa v k ||| pa k else hO pa v k
def hdX (pa : Nat → Int64) (v : Int64) (n : Nat) : Int64 := v &&& (hO pa v n ^^^ (-1))
def rel (an la : Nat → Int64) (i : Nat) : Int64 := (an i ||| ol i) ||| la i
def cO (an la : Nat → Int64) (v : Int64) : Nat → Int64
  | 0 => 0
  | k + 1 => if bi v k = true ∧ v &&& (rel an la k ^^^ (-1)) = 0 then cO an la v k ||| ol k else cO an la v k
def sI (lt : Nat → Int32) (v : Int64) : Nat → Int64
  | 0 => 0
  | k + 1 => if bi v k = true ∧ ins lt k = true then sI lt v k ||| ol k else sI lt v k
def sG (lt tg : Nat → Int32) (v : Int64) : Nat → Int64
  | 0 => 0
  | k + 1 => if bi v k = true ∧ ins lt k = false then sG lt tg v k ||| ol (cl (tg k)) else sG lt tg v k
def sdX (lt tg : Nat → Int32) (v : Int64) (n : Nat) : Int64 := sI lt v n &&& (sG lt tg v n ^^^ (-1))
def cR (n : Nat) (mk lt tg : Nat → Int32) (pa : Nat → Int64) (i : Nat) : Bool := ins lt i && (ev n (tg i) && (decide (pa i = ol (cl (tg i))) && decide (mk i = mk (cl (tg i)))))
def cnX (an la : Nat → Int64) (v : Int64) : Nat → Nat
  | 0 => 0
  | k + 1 => if bi v k = true then cnX an la v k + pc64 (v &&& (rel an la k ^^^ (-1))) else cnX an la v k
def tpX (an : Nat → Int64) (r : Int64) : Nat → Int64
  | 0 => 0
  | k + 1 => if bi r k = true then an k ||| ol k else tpX an r k
def rnX (n : Nat) (mk lt tg : Nat → Int32) (pa : Nat → Int64) (v : Int64) : Nat → Nat
  | 0 => 0
  | k + 1 => if bi v k = true ∧ cR n mk lt tg pa k = false then rnX n mk lt tg pa v k + 1 else rnX n mk lt tg pa v k
def mL (la : Nat → Int64) (v : Int64) (j k : Nat) : Nat → Int64 := fun e => if e < k ∧ bi v e = true then la e ||| ol j else la e
theorem ev_f1 {n : Nat} {x : Int32} (h : x < 0) : ev n x = false := by simp [ev, h]
theorem ev_f2 {n : Nat} {x : Int32} (h : nI n ≤ x) : ev n x = false := by
  have : ¬ x < nI n := by rw [Int32.lt_iff_toInt_lt]; rw [Int32.le_iff_toInt_le] at h; omega
  simp [ev, this]
theorem ev_t {n : Nat} {x : Int32} (h1 : ¬ x < 0) (h2 : ¬ nI n ≤ x) : ev n x = true := by
  have : x < nI n := by rw [Int32.lt_iff_toInt_lt]; rw [Int32.le_iff_toInt_le] at h2; omega
  simp [ev, h1, this]
theorem has_0n {x : Int64} {i : Nat} (hi : i < 64) (h : ¬ x &&& ol i = 0) : bi x i = true := by
  cases q : bi x i
  · exact absurd ((has_0 hi).mpr q) h
  · rfl
theorem mL_0 (la : Nat → Int64) (v : Int64) (j : Nat) : mL la v j 0 = la := by
  funext e
  simp [mL]
theorem mL_t {la : Nat → Int64} {v : Int64} {j i : Nat} (h : bi v i = true) : vp_updL (mL la v j i) i (mL la v j i i ||| ol j) = mL la v j (i + 1) := by
  funext e
  unfold vp_updL mL
  by_cases q : e = i
  · subst q
    simp [h]
  · rw [if_neg q]
    by_cases z : e < i
    · simp [z, show e < i + 1 by omega]
    · simp [z, show ¬ e < i + 1 by omega]
theorem mL_f {la : Nat → Int64} {v : Int64} {j i : Nat} (h : bi v i = false) : mL la v j i = mL la v j (i + 1) := by
  funext e
  unfold mL
  by_cases q : e = i
  · subst q
    simp [h]
  · by_cases z : e < i
    · simp [z, show e < i + 1 by omega]
    · simp [z, show ¬ e < i + 1 by omega]
