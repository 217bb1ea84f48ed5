-- WHAT HOLDS OF EVERY STATE, and the text of a version
def gO (lt tg : Nat → Int32) (v : Int64) : Nat → Int32 → Bool
  | 0, _ => false
  | k + 1, x => gO lt tg v k x || (bi v k && (!ins lt k && decide (tg k = x)))
def vI (lt : Nat → Int32) (v : Int64) : Nat → Bool := fun k => bi v k && ins lt k
def tx (n : Nat) (lt tg : Nat → Int32) (v : Int64) : List Nat := (lay (vI lt v) tg n).filter (fun i => !gO lt tg v n (nI i))
def Inv (n : Nat) (lt tg : Nat → Int32) (an kn : Nat → Int64) : Prop :=
  n ≤ 60 ∧ (∀ a, a < 4 → ∀ i, bi (kn a) i = true → i < n) ∧ (∀ e, e < n → ∀ i, bi (an e) i = true → i < e) ∧
  (∀ a, a < 4 → ∀ e, bi (kn a) e = true → ∀ i, bi (an e) i = true → bi (kn a) i = true) ∧
  (∀ e, e < n → ∀ d, bi (an e) d = true → ∀ i, bi (an d) i = true → bi (an e) i = true) ∧
  (∀ e, e < n → ins lt e = true → tg e = -1 ∨ ∃ t, t < e ∧ tg e = nI t ∧ ins lt t = true ∧ bi (an e) t = true) ∧
  (∀ e, e < n → ins lt e = false → ∃ t, t < e ∧ tg e = nI t ∧ ins lt t = true ∧ bi (an e) t = true)
/-- a version: with each event its ancestors -/
def vok (n : Nat) (an : Nat → Int64) (v : Int64) : Prop := (∀ i, bi v i = true → i < n) ∧ ∀ e, bi v e = true → ∀ i, bi (an e) i = true → bi v i = true
section
variable {n : Nat} {mk lt tg : Nat → Int32} {pa an kn la : Nat → Int64} {v : Int64}
theorem Inv.vk (h : Inv n lt tg an kn) {a : Nat} (ha : a < 4) : vok n an (kn a) := ⟨h.2.1 a ha, h.2.2.2.1 a ha⟩
theorem Inv.ve (h : Inv n lt tg an kn) {e : Nat} (he : e < n) : vok n an (an e ||| ol e) := by
  have h60 := h.1
  refine ⟨fun i hi => ?_, fun d hd i hi => ?_⟩
  · rw [bi_or, bi_ol1 (by omega)] at hi
    simp only [Bool.or_eq_true, decide_eq_true_eq] at hi
    rcases hi with hi | rfl
    · have := h.2.2.1 e he i hi; omega
    · exact he
  · rw [bi_or, bi_ol1 (by omega)] at hd ⊢
    simp only [Bool.or_eq_true, decide_eq_true_eq] at hd ⊢
    rcases hd with hd | rfl
    · exact Or.inl (h.2.2.2.2.1 e he d hd i hi)
    · exact Or.inl hi
theorem Inv.hangV (h : Inv n lt tg an kn) (hv : vok n an v) : hang (vI lt v) tg n := by
  intro k hk hp
  simp only [vI, Bool.and_eq_true] at hp
  rcases h.2.2.2.2.2.1 k hk hp.2 with q | ⟨t, h1, h2, h3, h4⟩
  · exact Or.inl q
  · exact Or.inr ⟨t, h1, h2, by simp only [vI, Bool.and_eq_true]; exact ⟨hv.2 k hp.1 t h4, h3⟩⟩
theorem Inv.hangA (h : Inv n lt tg an kn) : hang (ins lt) tg n := by
  intro k hk hp
  rcases h.2.2.2.2.2.1 k hk hp with q | ⟨t, h1, h2, h3, h4⟩
  · exact Or.inl q
  · exact Or.inr ⟨t, h1, h2, h3⟩
theorem Inv.hdl (h : Inv n lt tg an kn) : ∀ k, k < n → bi v k = true → lt k = -1 → ∃ t, t < n ∧ tg k = nI t := by
  intro k hk _ hd
  obtain ⟨t, h1, h2, -⟩ := h.2.2.2.2.2.2 k hk (ins_f hd)
  exact ⟨t, by omega, h2⟩
theorem bi_sI : ∀ (k i : Nat), k ≤ 64 → bi (sI lt v k) i = (decide (i < k) && vI lt v i)
  | 0, i, _ => by rw [sI, bi_0]; simp
  | k + 1, i, hk => by
    rw [sI]
    by_cases q : bi v k = true ∧ ins lt k = true
    · rw [if_pos q, bi_or, bi_sI k i (by omega), bi_ol1 (by omega)]
      by_cases z : k = i
      · subst z; simp [vI, q.1, q.2]
      · have : decide (i < k + 1) = decide (i < k) := by
          by_cases y : i < k
          · simp [y, show i < k + 1 by omega]
          · simp [y, show ¬ i < k + 1 by omega]
        simp [z, this]
    · rw [if_neg q, bi_sI k i (by omega)]
      by_cases z : k = i
      · subst z
        have : vI lt v k = false := by
          cases h1 : vI lt v k
          · rfl
          · simp only [vI, Bool.and_eq_true] at h1; exact absurd h1 q
        simp [this]
      · have : decide (i < k + 1) = decide (i < k) := by
          by_cases y : i < k
          · simp [y, show i < k + 1 by omega]
          · simp [y, show ¬ i < k + 1 by omega]
        rw [this]
theorem bi_sG (hdl : ∀ k, k < n → bi v k = true → lt k = -1 → ∃ t, t < n ∧ tg k = nI t) (hn : n ≤ 60) : ∀ (k i : Nat), k ≤ n → i < 64 → bi (sG lt tg v k) i = gO lt tg v k (nI i)
  | 0, i, _, _ => by rw [sG, bi_0]; rfl
  | k + 1, i, hk, hi => by
    rw [sG, gO]
    by_cases q : bi v k = true ∧ ins lt k = false
    · obtain ⟨t, h1, h2⟩ := hdl k (by omega) q.1 (ins_eq q.2)
      rw [if_pos q, bi_or, bi_sG hdl hn k i (by omega) hi, h2, cl_nI (by omega), bi_ol1 (by omega), q.1, q.2]
      have : decide (t = i) = decide (nI t = nI i) := by
        by_cases z : t = i
        · simp [z]
        · have : ¬ nI t = nI i := fun y => z (nI_in1 (by omega) (by omega) y)
          simp [z, this]
      rw [this]
      simp
    · rw [if_neg q, bi_sG hdl hn k i (by omega) hi]
      have : (bi v k && (!ins lt k && decide (tg k = nI i))) = false := by
        cases h1 : bi v k
        · rfl
        · cases h2 : ins lt k
          · exact absurd ⟨h1, h2⟩ q
          · rfl
      rw [this, Bool.or_false]
theorem bi_sd (h : Inv n lt tg an kn) {i : Nat} (hi : i < n) : bi (sdX lt tg v n) i = (vI lt v i && !gO lt tg v n (nI i)) := by
  have h60 := h.1
  rw [sdX, bi_and, bi_not, bi_sI n i (by omega), bi_sG h.hdl h60 n i (Nat.le_refl _) (by omega)]
  simp [hi, show i < 64 by omega]
/-- the class's walk over all letters gives the text -/
theorem tx_all (h : Inv n lt tg an kn) (hv : vok n an v) : (lay (ins lt) tg n).filter (bi (sdX lt tg v n)) = tx n lt tg v := by
  have h60 := h.1
  rw [tx, lay_filter (P := ins lt) (by omega) (h.hangV hv) (fun k _ hk => by simp only [vI, Bool.and_eq_true] at hk; exact hk.2), List.filter_filter]
  refine List.filter_congr (fun i hi => ?_)
  rw [bi_sd h (lay_mem hi).1, Bool.and_comm]
/-- .. and so does its list of one version's letters -/
theorem tx_list (h : Inv n lt tg an kn) : (lay (vI lt v) tg n).filter (bi (sdX lt tg v n)) = tx n lt tg v := by
  rw [tx]
  refine List.filter_congr (fun i hi => ?_)
  rw [bi_sd h (lay_mem hi).1, (lay_mem hi).2, Bool.true_and]
theorem lay_len {P : Nat → Bool} : ∀ k, (lay P tg k).Nodup → (lay P tg k).length ≤ k := by
  intro k hn
  have h1 : (lay P tg k).Subset (List.range k) := fun x hx => List.mem_range.mpr (lay_mem hx).1
  have h2 := List.Nodup.length_le_of_subset hn h1
  rwa [List.length_range] at h2
theorem tx_mem {x : Nat} (h : x ∈ tx n lt tg v) : x < n ∧ bi v x = true ∧ ins lt x = true := by
  have h1 := (List.mem_filter.mp h).1
  have h2 := lay_mem h1
  simp only [vI, Bool.and_eq_true] at h2
  exact ⟨h2.1, h2.2.1, h2.2.2⟩
theorem tx_len (h : Inv n lt tg an kn) (hv : vok n an v) : (tx n lt tg v).length ≤ n := by
  have h60 := h.1
  exact Nat.le_trans (List.length_filter_le _ _) (lay_len n (lay_nodup (by omega) (h.hangV hv)))
end
