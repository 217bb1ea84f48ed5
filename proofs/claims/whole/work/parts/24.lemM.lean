-- how the reference puts letters into its row, and passes over the deleted ones
def shf (f : Nat → Int32) (j len : Nat) : Nat → Int32 := fun m => if j < m ∧ m ≤ len then f (m - 1) else f m
theorem shf_0 (f : Nat → Int32) (len : Nat) : shf f len len = f := by
  funext m
  unfold shf
  rw [if_neg (by omega)]
theorem shf_step {f : Nat → Int32} {j len : Nat} (h0 : 0 < j) (hj : j ≤ len) : upd (shf f j len) j (shf f j len (j - 1)) = shf f (j - 1) len := by
  funext m
  by_cases q : m = j
  · subst q
    rw [pk_us]
    unfold shf
    rw [if_neg (by omega), if_pos (by omega)]
  · rw [pk_un q]
    unfold shf
    by_cases z : j < m ∧ m ≤ len
    · rw [if_pos z, if_pos (by omega)]
    · rw [if_neg z, if_neg (by omega)]
section
variable {n : Nat} {lt tg : Nat → Int32} {v : Int64} {i : Nat}
theorem put_front (h1 : bi v i = true) (h2 : ¬ lt i = -1) (hm : tg i = -1) : ∃ L1 L2 : List Nat, lay (vI lt v) tg i = L1 ++ L2 ∧ L1.length = 0 ∧ lay (vI lt v) tg (i + 1) = L1 ++ i :: L2 := by
  have e : vI lt v i = true := by simp [vI, h1, ins_t h2]
  exact ⟨[], lay (vI lt v) tg i, rfl, rfl, by rw [lay, if_pos e, hm, insA_front]; rfl⟩
/-- the place of the letter at which another one hangs -/
theorem put_find (hn : n ≤ 60) (hc : hang (vI lt v) tg n) (hi : i < n) (h1 : bi v i = true) (h2 : ¬ lt i = -1) (hm : ¬ tg i = -1) : ∃ t j0 : Nat, tg i = nI t ∧ t < i ∧ (lay (vI lt v) tg i)[j0]? = some t := by
  have e : vI lt v i = true := by simp [vI, h1, ins_t h2]
  rcases hc i hi e with q | ⟨t, q1, q2, q3⟩
  · exact absurd q hm
  · obtain ⟨j0, hj⟩ := List.getElem?_of_mem (lay_in (hang_le hc (by omega)) q1 q3)
    exact ⟨t, j0, q2, q1, hj⟩
theorem put_at (hn : n ≤ 60) (hc : hang (vI lt v) tg n) (hi : i < n) (h1 : bi v i = true) (h2 : ¬ lt i = -1) {t pl : Nat} (ht : tg i = nI t) (hti : t < i) (hp : (lay (vI lt v) tg i)[pl]? = some t) : ∃ L1 L2 : List Nat, lay (vI lt v) tg i = L1 ++ L2 ∧ L1.length = pl + 1 ∧ lay (vI lt v) tg (i + 1) = L1 ++ i :: L2 := by
  have e : vI lt v i = true := by simp [vI, h1, ins_t h2]
  have hnd := lay_nodup (n := i) (by omega) (hang_le hc (by omega))
  obtain ⟨hlt, hget⟩ := List.getElem?_eq_some_iff.mp hp
  have hs : lay (vI lt v) tg i = (lay (vI lt v) tg i).take pl ++ t :: (lay (vI lt v) tg i).drop (pl + 1) := by
    have h9 := (List.take_append_drop pl (lay (vI lt v) tg i)).symm
    rw [List.drop_eq_getElem_cons hlt, hget] at h9
    exact h9
  have hmem : ∀ x, x ∈ lay (vI lt v) tg i → x < 2 ^ 31 := fun x hx => by have := (lay_mem hx).1; omega
  generalize hA : (lay (vI lt v) tg i).take pl = A at hs
  generalize hB : (lay (vI lt v) tg i).drop (pl + 1) = B at hs
  have hAl : A.length = pl := by rw [← hA, List.length_take]; omega
  have hne : ∀ x, x ∈ A ++ B → x < 2 ^ 31 ∧ x ≠ t := by
    intro x hx
    refine ⟨hmem x ?_, ?_⟩
    · rw [hs]
      rcases List.mem_append.mp hx with h | h
      · exact List.mem_append_left _ h
      · exact List.mem_append_right _ (List.mem_cons_of_mem _ h)
    · intro q
      subst q
      rw [hs, List.nodup_append] at hnd
      obtain ⟨_, g2, g3⟩ := hnd
      rcases List.mem_append.mp hx with h | h
      · exact g3 x h x List.mem_cons_self rfl
      · exact (List.nodup_cons.mp g2).1 h
  refine ⟨A ++ [t], B, by rw [hs]; simp, by rw [List.length_append, hAl]; rfl, ?_⟩
  rw [lay, if_pos e, ht, hs, insA_at (by omega) hne]
  simp
theorem lay_same (h : bi v i = false ∨ lt i = -1) : lay (vI lt v) tg (i + 1) = lay (vI lt v) tg i := by
  have e : vI lt v i = false := by
    rcases h with h | h
    · simp [vI, h]
    · simp [vI, ins_f h]
  rw [lay, e]; rfl
theorem holds_put {row0 : Nat → Int32} {L1 L2 : List Nat} (hh : holds row0 (L1 ++ L2)) : holds (upd (shf row0 L1.length (L1 ++ L2).length) L1.length (nI i)) (L1 ++ i :: L2) := by
  refine holds_ins hh (fun m hm => ?_) pk_us (fun m g1 g2 => ?_)
  · rw [pk_un (by omega)]
    unfold shf
    rw [if_neg (by omega)]
  · rw [pk_un (by omega)]
    unfold shf
    rw [if_pos ⟨g1, g2⟩]
def nG (n : Nat) (lt tg : Nat → Int32) (v : Int64) : Nat → Bool := fun i => !gO lt tg v n (nI i)
theorem tk_x {L : List Nat} {x : Nat} (hx : L[i]? = some x) : L.take (i + 1) = L.take i ++ [x] := by
  rw [List.take_succ, hx]; rfl
theorem tk_gone {L : List Nat} {x : Nat} (hx : L[i]? = some x) (h : gO lt tg v n (nI x) = true) : (L.take (i + 1)).filter (nG n lt tg v) = (L.take i).filter (nG n lt tg v) := by
  rw [tk_x hx, List.filter_append, List.filter_cons_of_neg (by simp [nG, h])]
  simp
theorem tk_stay {L : List Nat} {x : Nat} (hx : L[i]? = some x) (h : gO lt tg v n (nI x) = false) : (L.take (i + 1)).filter (nG n lt tg v) = (L.take i).filter (nG n lt tg v) ++ [x] := by
  rw [tk_x hx, List.filter_append, List.filter_cons_of_pos (by simp [nG, h])]
  rfl
theorem holds_keep {f : Nat → Int32} {L : List Nat} {w : Int32} (h : holds f L) : holds (upd f L.length w) L := by
  intro j x hx
  have : j < L.length := (List.getElem?_eq_some_iff.mp hx).1
  rw [pk_un (by omega)]
  exact h j x hx
theorem tk_len {L : List Nat} : ((L.take i).filter (nG n lt tg v)).length ≤ i := by
  refine Nat.le_trans (List.length_filter_le _ _) ?_
  rw [List.length_take]
  omega
end
