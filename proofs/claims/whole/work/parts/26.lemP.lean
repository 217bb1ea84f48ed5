-- lemmas for the reference's counts
theorem or0 (x : Int64) : x ||| 0 = x := bi_ext (fun i _ => by rw [bi_or, bi_0, Bool.or_false])
theorem lrn {n : Nat} {k v : Int64} (hn : n ≤ 60) (hv : ∀ i, bi v i = true → i < n) : ct (bi (k ||| v)) n = ct (bi k) n + pc64 (v &&& (k ^^^ (-1))) := by
  have e1 : ct (bi (k ||| v)) n = ct (fun i => bi k i || bi v i) n := ct_congr (fun i _ => bi_or k v i)
  have e2 : pc64 (v &&& (k ^^^ (-1))) = ct (fun i => bi v i && !bi k i) n := by
    unfold pc64
    have e3 : ct (bi (v &&& (k ^^^ (-1)))) 64 = ct (fun i => bi v i && !bi k i) 64 := ct_congr (fun i hi => by rw [bi_and, bi_not]; simp [hi])
    rw [e3]
    refine ct_to (by omega) (fun i hi => ?_)
    cases h : bi v i
    · rfl
    · have := hv i h; omega
  rw [e1, e2, ct_new]
theorem pc_n {n : Nat} {x y : Int64} (hn : n ≤ 60) (hx : ∀ i, bi x i = true → i < n) : ct (bi (x &&& y)) n = pc64 (x &&& y) := by
  unfold pc64
  refine (ct_to (by omega) (fun i hi => ?_)).symm
  rw [bi_and]
  cases h : bi x i
  · rfl
  · have := hx i h; omega
theorem crj_t {an : Nat → Int64} {v : Int64} {k j : Nat} (h1 : crj an v k j = true) (h2 : bi v j = false ∨ acB an j k = false) : nI 1 = eb (crj an v k (j + 1)) := by
  refine eb_1 ?_
  rw [crj, h1]
  rcases h2 with h | h <;> simp [h]
theorem crj_z {an : Nat → Int64} {v : Int64} {k j : Nat} (h2 : bi v j = true) (h3 : acB an j k = true) : nI 0 = eb (crj an v k (j + 1)) := by
  refine eb_z ?_
  rw [crj, h2, h3]
  simp
theorem crj_end {an : Nat → Int64} {v : Int64} {k j n : Nat} (hj : j ≤ n) (h : crj an v k j = false) : crj an v k j = crj an v k n := by
  have := crj_f h (n - j)
  rw [show j + (n - j) = n by omega] at this
  rw [h, this]
