-- THE ORDER OF THE LETTERS: laid one behind the other; the tree's walk; rows that hold a list
def NN : Int32 := -1
def ev (n : Nat) (x : Int32) : Bool := !(decide (x < 0)) && decide (x < nI n)
theorem ev_nI {n i : Nat} (hn : n < 2 ^ 31) (hi : i < n) : ev n (nI i) = true := by
  simp only [ev, Bool.and_eq_true, Bool.not_eq_true', decide_eq_false_iff_not, decide_eq_true_eq]
  exact ⟨nI_pos (by omega), nI_lt hi hn⟩
theorem ev_of {n : Nat} {x : Int32} (hn : n < 2 ^ 31) (h : ev n x = true) : ∃ i, i < n ∧ x = nI i := by
  simp only [ev, Bool.and_eq_true, Bool.not_eq_true', decide_eq_false_iff_not, decide_eq_true_eq] at h
  obtain ⟨j, hj, rfl⟩ := nI_of h.1
  exact ⟨j, (nI_ltI hj hn).mp h.2, rfl⟩
theorem ev_m1 (n : Nat) : ev n (-1) = false := by
  simp [ev]
theorem nI_m1 {i : Nat} (h : i < 2 ^ 31) : ¬ nI i = -1 := by
  intro q
  have h1 := nI_pos h
  rw [q] at h1
  exact h1 (by decide)
theorem nI_in1 {i j : Nat} (hi : i < 2 ^ 31) (hj : j < 2 ^ 31) (h : nI i = nI j) : i = j := (nI_eq hi hj).mp h
/-- laid right behind its letter, or at the beginning -/
def insA (t : Int32) (k : Nat) (L : List Nat) : List Nat := if t = -1 then k :: L else L.flatMap (fun x => if nI x = t then [x, k] else [x])
def lay (P : Nat → Bool) (tg : Nat → Int32) : Nat → List Nat
  | 0 => []
  | k + 1 => if P k then insA (tg k) k (lay P tg k) else lay P tg k
/-- a set of letters that has with each the one at which it hangs -/
def hang (P : Nat → Bool) (tg : Nat → Int32) (n : Nat) : Prop := ∀ k, k < n → P k = true → tg k = -1 ∨ ∃ t, t < k ∧ tg k = nI t ∧ P t = true
theorem hang_le {P : Nat → Bool} {tg : Nat → Int32} {n m : Nat} (h : hang P tg n) (hm : m ≤ n) : hang P tg m := fun k hk => h k (by omega)
theorem insA_mem {t : Int32} {k x : Nat} {L : List Nat} (h : x ∈ insA t k L) : x = k ∨ x ∈ L := by
  unfold insA at h
  split at h
  · exact List.mem_cons.mp h
  · obtain ⟨a, ha, hx⟩ := List.mem_flatMap.mp h
    split at hx
    · rcases List.mem_cons.mp hx with rfl | hx
      · exact Or.inr ha
      · exact Or.inl (List.mem_singleton.mp hx)
    · rw [List.mem_singleton.mp hx]; exact Or.inr ha
theorem insA_old {t : Int32} {k x : Nat} {L : List Nat} (h : x ∈ L) : x ∈ insA t k L := by
  unfold insA
  split
  · exact List.mem_cons_of_mem _ h
  · refine List.mem_flatMap.mpr ⟨x, h, ?_⟩
    split <;> exact List.mem_cons_self
theorem insA_new {t : Int32} {k : Nat} {L : List Nat} (h : t = -1 ∨ ∃ x, x ∈ L ∧ t = nI x) : k ∈ insA t k L := by
  unfold insA
  split
  · exact List.mem_cons_self
  · rename_i q
    rcases h with h | ⟨x, hx, h⟩
    · exact absurd h q
    · refine List.mem_flatMap.mpr ⟨x, hx, ?_⟩
      rw [if_pos h.symm]
      exact List.mem_cons_of_mem _ List.mem_cons_self
theorem lay_mem {P : Nat → Bool} {tg : Nat → Int32} : ∀ {n x : Nat}, x ∈ lay P tg n → x < n ∧ P x = true
  | 0, _, h => by cases h
  | n + 1, x, h => by
    unfold lay at h
    split at h
    · rename_i q
      rcases insA_mem h with rfl | h
      · exact ⟨by omega, q⟩
      · have := lay_mem h; exact ⟨by omega, this.2⟩
    · have := lay_mem h; exact ⟨by omega, this.2⟩
theorem lay_in {P : Nat → Bool} {tg : Nat → Int32} : ∀ {n x : Nat}, hang P tg n → x < n → P x = true → x ∈ lay P tg n
  | 0, _, _, h, _ => absurd h (Nat.not_lt_zero _)
  | n + 1, x, hc, hx, hp => by
    unfold lay
    have hc' := hang_le hc (Nat.le_succ n)
    by_cases q : x = n
    · subst q
      rw [if_pos hp]
      refine insA_new ?_
      rcases hc x (by omega) hp with h | ⟨t, h1, h2, h3⟩
      · exact Or.inl h
      · exact Or.inr ⟨t, lay_in hc' h1 h3, h2⟩
    · have := lay_in hc' (by omega : x < n) hp
      split
      · exact insA_old this
      · exact this
theorem flat_none {t k : Nat} (g : Nat → List Nat) : ∀ {L : List Nat}, (∀ x, x ∈ L → g x = [x]) → L.flatMap g = L
  | [], _ => rfl
  | x :: L, h => by
    rw [List.flatMap_cons, h x List.mem_cons_self, flat_none (t := t) (k := k) g (fun y hy => h y (List.mem_cons_of_mem _ hy))]
    rfl
/-- the two halves of a list about the place of a letter -/
theorem insA_at {t k : Nat} (ht : t < 2 ^ 31) {L1 L2 : List Nat} (h : ∀ x, x ∈ L1 ++ L2 → x < 2 ^ 31 ∧ x ≠ t) : insA (nI t) k (L1 ++ t :: L2) = L1 ++ t :: k :: L2 := by
  unfold insA
  rw [if_neg (nI_m1 ht), List.flatMap_append, List.flatMap_cons, if_pos rfl]
  have e : ∀ x, x ∈ L1 ++ L2 → (if nI x = nI t then [x, k] else [x]) = [x] := fun x hx => if_neg (fun q => (h x hx).2 (nI_in1 (h x hx).1 ht q))
  rw [flat_none (t := t) (k := k) _ (fun x hx => e x (List.mem_append_left _ hx)), flat_none (t := t) (k := k) _ (fun x hx => e x (List.mem_append_right _ hx))]
  rfl
theorem nodup_split {t : Nat} {L : List Nat} (h : t ∈ L) (hn : L.Nodup) : ∃ L1 L2, L = L1 ++ t :: L2 ∧ t ∉ L1 ∧ t ∉ L2 := by
  obtain ⟨L1, L2, rfl⟩ := List.append_of_mem h
  rw [List.nodup_append] at hn
  obtain ⟨_, h2, h3⟩ := hn
  exact ⟨L1, L2, rfl, fun q => h3 t q t List.mem_cons_self rfl, (List.nodup_cons.mp h2).1⟩
theorem lay_nodup {P : Nat → Bool} {tg : Nat → Int32} : ∀ {n : Nat}, n ≤ 2 ^ 31 → hang P tg n → (lay P tg n).Nodup
  | 0, _, _ => List.nodup_nil
  | n + 1, hn, hc => by
    have ih := lay_nodup (by omega : n ≤ 2 ^ 31) (hang_le hc (Nat.le_succ n))
    unfold lay
    split
    · rename_i q
      have hnn : n ∉ lay P tg n := fun h => by have := (lay_mem h).1; omega
      rcases hc n (by omega) q with h | ⟨t, h1, h2, h3⟩
      · unfold insA
        rw [if_pos h]
        exact List.nodup_cons.mpr ⟨hnn, ih⟩
      · obtain ⟨L1, L2, e, g1, g2⟩ := nodup_split (lay_in (hang_le hc (Nat.le_succ n)) h1 h3) ih
        have bi : ∀ x, x ∈ L1 ++ L2 → x < 2 ^ 31 ∧ x ≠ t := by
          intro x hx
          have hm : x ∈ lay P tg n := by
            rw [e]
            rcases List.mem_append.mp hx with h | h
            · exact List.mem_append_left _ h
            · exact List.mem_append_right _ (List.mem_cons_of_mem _ h)
          refine ⟨by have := (lay_mem hm).1; omega, fun q => ?_⟩
          subst q
          rcases List.mem_append.mp hx with h | h
          · exact g1 h
          · exact g2 h
        rw [h2, e, insA_at (by omega) bi]
        rw [e] at ih hnn
        have hp : (L1 ++ t :: n :: L2).Perm (n :: (L1 ++ t :: L2)) := by
          have := (List.perm_middle (a := n) (l₁ := L1 ++ [t]) (l₂ := L2))
          simpa using this
        exact hp.nodup_iff.mpr (List.nodup_cons.mpr ⟨hnn, ih⟩)
    · exact ih
/-- fewer letters, laid alone, stand as they do among all -/
theorem lay_filter {P Q : Nat → Bool} {tg : Nat → Int32} : ∀ {n : Nat}, n ≤ 2 ^ 31 → hang Q tg n → (∀ k, k < n → Q k = true → P k = true) → lay Q tg n = (lay P tg n).filter Q
  | 0, _, _, _ => rfl
  | n + 1, hn, hc, hs => by
    have ih := lay_filter (P := P) (by omega : n ≤ 2 ^ 31) (hang_le hc (Nat.le_succ n)) (fun k hk => hs k (by omega))
    unfold lay
    by_cases q : Q n = true
    · rw [if_pos q, if_pos (hs n (by omega) q), ih]
      rcases hc n (by omega) q with h | ⟨t, h1, h2, h3⟩
      · unfold insA
        rw [if_pos h, if_pos h, List.filter_cons_of_pos q]
      · unfold insA
        rw [h2, if_neg (nI_m1 (by omega)), if_neg (nI_m1 (by omega))]
        have key : ∀ L : List Nat, (∀ x, x ∈ L → x < n) → (L.filter Q).flatMap (fun x => if nI x = nI t then [x, n] else [x]) = (L.flatMap (fun x => if nI x = nI t then [x, n] else [x])).filter Q := by
          intro L
          induction L with
          | nil => intro _; rfl
          | cons x L ihL =>
            intro hL
            have ihL := ihL (fun y hy => hL y (List.mem_cons_of_mem _ hy))
            have hxn := hL x List.mem_cons_self
            rw [List.flatMap_cons, List.filter_append, ← ihL]
            by_cases qx : Q x = true
            · rw [List.filter_cons_of_pos qx, List.flatMap_cons]
              congr 1
              split
              · rw [List.filter_cons_of_pos qx, List.filter_cons_of_pos q]; rfl
              · rw [List.filter_cons_of_pos qx]; rfl
            · rw [List.filter_cons_of_neg qx]
              have : ¬ nI x = nI t := fun e => qx (by rw [nI_in1 (by omega) (by omega) e]; exact h3)
              rw [if_neg this, List.filter_cons_of_neg qx]
              rfl
        exact key _ (fun x hx => (lay_mem hx).1)
    · rw [if_neg q]
      split
      · rw [ih]
        have key : ∀ L : List Nat, (insA (tg n) n L).filter Q = L.filter Q := by
          intro L
          unfold insA
          split
          · rw [List.filter_cons_of_neg q]
          · induction L with
            | nil => rfl
            | cons x L ihL =>
              rw [List.flatMap_cons, List.filter_append, ihL]
              have : (if nI x = tg n then [x, n] else [x]).filter Q = [x].filter Q := by
                split
                · rw [List.filter_cons, List.filter_cons_of_neg q, List.filter_cons]
                · rfl
              rw [this, ← List.filter_append]
              rfl
        rw [key]
      · exact ih
theorem lay_congr {P Q : Nat → Bool} {tg tg' : Nat → Int32} : ∀ {n : Nat}, (∀ k, k < n → P k = Q k ∧ tg k = tg' k) → lay P tg n = lay Q tg' n
  | 0, _ => rfl
  | n + 1, h => by
    unfold lay
    rw [(h n (by omega)).1, (h n (by omega)).2, lay_congr (fun k hk => h k (by omega))]
/-- a row holds a list from its place 0 on -/
def holds (f : Nat → Int32) (L : List Nat) : Prop := ∀ (j x : Nat), L[j]? = some x → f j = nI x
theorem holds_nil (f : Nat → Int32) : holds f [] := fun j x h => by simp at h
theorem holds_push {f : Nat → Int32} {L : List Nat} {k : Nat} (h : holds f L) : holds (upd f L.length (nI k)) (L ++ [k]) := by
  intro j x hx
  rcases Nat.lt_or_ge j L.length with q | q
  · rw [List.getElem?_append_left q] at hx
    rw [pk_un (by omega)]
    exact h j x hx
  · rw [List.getElem?_append_right q] at hx
    have : j = L.length := by
      rcases Nat.lt_or_ge 0 (j - L.length) with z | z
      · rw [List.getElem?_eq_none (by simp; omega)] at hx; cases hx
      · omega
    subst this
    rw [Nat.sub_self] at hx
    cases hx
    rw [pk_us]
