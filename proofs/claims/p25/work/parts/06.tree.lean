-- THE TREE of the letters, its walk by a row of waiting ones; the chain; a row into which a letter is put
def Tr (n : Nat) (fh nb : Nat → Int32) : Nat → Int32 → List Nat → Prop
  | 0, x, L => x = -1 ∧ L = []
  | f + 1, x, L => (x = -1 ∧ L = []) ∨ ∃ (e : Nat) (A B : List Nat), x = nI e ∧ e < n ∧ L = e :: (A ++ B) ∧ Tr n fh nb f (fh e) A ∧ Tr n fh nb f (nb e) B
theorem Tr_succ {n : Nat} {fh nb : Nat → Int32} : ∀ (f : Nat) (x : Int32) (L : List Nat), Tr n fh nb f x L → Tr n fh nb (f + 1) x L
  | 0, _, _, h => Or.inl h
  | f + 1, _, _, h => by
    rcases h with h | ⟨e, A, B, h1, h2, h3, h4, h5⟩
    · exact Or.inl h
    · exact Or.inr ⟨e, A, B, h1, h2, h3, Tr_succ f _ _ h4, Tr_succ f _ _ h5⟩
theorem Tr_le {n : Nat} {fh nb : Nat → Int32} {f : Nat} {x : Int32} {L : List Nat} (h : Tr n fh nb f x L) : ∀ d, Tr n fh nb (f + d) x L
  | 0 => h
  | d + 1 => Tr_succ _ _ _ (Tr_le h d)
/-- new events, and rows that stay at the old ones -/
theorem Tr_keep {n n' : Nat} {fh nb fh' nb' : Nat → Int32} (hn : n ≤ n') (h : ∀ e, e < n → fh' e = fh e ∧ nb' e = nb e) : ∀ (f : Nat) (x : Int32) (L : List Nat), Tr n fh nb f x L → Tr n' fh' nb' f x L
  | 0, _, _, q => q
  | f + 1, _, _, q => by
    rcases q with q | ⟨e, A, B, h1, h2, h3, h4, h5⟩
    · exact Or.inl q
    · refine Or.inr ⟨e, A, B, h1, by omega, h3, ?_, ?_⟩
      · rw [(h e h2).1]; exact Tr_keep hn h f _ _ h4
      · rw [(h e h2).2]; exact Tr_keep hn h f _ _ h5
theorem insA_flat {t k : Nat} (ht : t < 2 ^ 31) (L : List Nat) : insA (nI t) k L = L.flatMap (fun x => if nI x = nI t then [x, k] else [x]) := by
  unfold insA
  rw [if_neg (nI_m1 ht)]
theorem Tr_hang {n t : Nat} {fh nb fh' nb' : Nat → Int32} (hn : n < 2 ^ 31) (ht : t < n) (h1 : ∀ e, e < n → e ≠ t → fh' e = fh e) (h2 : ∀ e, e < n → nb' e = nb e) (h3 : fh' t = nI n) (h4 : fh' n = -1) (h5 : nb' n = fh t) :
    ∀ (f : Nat) (x : Int32) (L : List Nat), Tr n fh nb f x L → Tr (n + 1) fh' nb' (f + f) x (insA (nI t) n L) := by
  intro f
  induction f with
  | zero =>
    intro x L h
    obtain ⟨h, rfl⟩ := h
    exact ⟨h, by rw [insA_flat (by omega)]; rfl⟩
  | succ f ih =>
    intro x L h
    rcases h with ⟨h, rfl⟩ | ⟨e, A, B, g1, g2, g3, g4, g5⟩
    · have : Tr (n + 1) fh' nb' 0 x (insA (nI t) n []) := ⟨h, by rw [insA_flat (by omega)]; rfl⟩
      have := Tr_le this (f + 1 + (f + 1))
      rwa [Nat.zero_add] at this
    · have i4 := ih _ _ g4
      have i5 := ih _ _ g5
      rw [insA_flat (by omega)] at i4 i5 ⊢
      rw [g3, List.flatMap_cons, List.flatMap_append]
      rw [show f + 1 + (f + 1) = (f + f + 1) + 1 by omega]
      by_cases q : e = t
      · subst q
        rw [if_pos rfl]
        refine Or.inr ⟨e, n :: ([] ++ A.flatMap (fun x => if nI x = nI e then [x, n] else [x])), B.flatMap (fun x => if nI x = nI e then [x, n] else [x]), g1, by omega, by simp, ?_, ?_⟩
        · rw [h3]
          exact Or.inr ⟨n, [], A.flatMap (fun x => if nI x = nI e then [x, n] else [x]), rfl, by omega, rfl, (by
            rw [h4]
            have : Tr (n + 1) fh' nb' 0 (-1) [] := ⟨rfl, rfl⟩
            have := Tr_le this (f + f)
            rwa [Nat.zero_add] at this), by rw [h5]; exact i4⟩
        · rw [h2 e g2]
          exact Tr_succ _ _ _ i5
      · rw [if_neg (fun z => q (nI_in1 (by omega) (by omega) z))]
        refine Or.inr ⟨e, A.flatMap (fun x => if nI x = nI t then [x, n] else [x]), B.flatMap (fun x => if nI x = nI t then [x, n] else [x]), g1, by omega, by simp, ?_, ?_⟩
        · rw [h1 e g2 q]; exact Tr_succ _ _ _ i4
        · rw [h2 e g2]; exact Tr_succ _ _ _ i5
/-- the letters that wait, the next one first; what is still to come of them -/
def St (n : Nat) (fh nb : Nat → Int32) : List Nat → List Nat → Prop
  | [], R => R = []
  | e :: S, R => ∃ (f : Nat) (A R' : List Nat), e < n ∧ Tr n fh nb f (nI e) A ∧ R = A ++ R' ∧ St n fh nb S R'
theorem St_pop {n : Nat} {fh nb : Nat → Int32} {e : Nat} {S R : List Nat} (hn : n ≤ 2 ^ 31) (h : St n fh nb (e :: S) R) : ∃ (f : Nat) (A B R' : List Nat), e < n ∧ R = e :: (A ++ (B ++ R')) ∧ Tr n fh nb f (fh e) A ∧ Tr n fh nb f (nb e) B ∧ St n fh nb S R' := by
  obtain ⟨f, A, R', h1, h2, h3, h4⟩ := h
  cases f with
  | zero => exact absurd h2.1 (nI_m1 (by omega))
  | succ f =>
    rcases h2 with h2 | ⟨e', A', B', g1, g2, g3, g4, g5⟩
    · exact absurd h2.1 (nI_m1 (by omega))
    · have := nI_in1 (by omega) (by omega) g1
      subst this
      exact ⟨f, A', B', R', h1, by rw [h3, g3]; simp, g4, g5, h4⟩
theorem St_none {n : Nat} {fh nb : Nat → Int32} {S R A : List Nat} {f : Nat} {x : Int32} (hn : n < 2 ^ 31) (h : St n fh nb S R) (ht : Tr n fh nb f x A) (hx : ev n x = false) : St n fh nb S (A ++ R) := by
  cases f with
  | zero => rw [ht.2]; exact h
  | succ f =>
    rcases ht with ht | ⟨e, _, _, g1, g2, _⟩
    · rw [ht.2]; exact h
    · rw [g1, ev_nI hn g2] at hx; cases hx
theorem St_push {n : Nat} {fh nb : Nat → Int32} {S R A : List Nat} {f e : Nat} (he : e < n) (h : St n fh nb S R) (ht : Tr n fh nb f (nI e) A) : St n fh nb (e :: S) (A ++ R) := ⟨f, A, R, he, ht, rfl, h⟩
theorem St_len {n : Nat} {fh nb : Nat → Int32} (hn : n ≤ 2 ^ 31) : ∀ (S R : List Nat), St n fh nb S R → S.length ≤ R.length
  | [], _, _ => Nat.zero_le _
  | e :: S, R, h => by
    obtain ⟨f, A, B, R', h1, h2, h3, h4, h5⟩ := St_pop hn h
    have := St_len hn S R' h5
    rw [h2]
    simp only [List.length_cons, List.length_append]
    omega
/-- the row of those that wait -/
def stk (wt : Nat → Int32) : List Nat → Prop
  | [] => True
  | e :: S => wt S.length = nI e ∧ stk wt S
theorem stk_keep {wt : Nat → Int32} {k : Nat} {v : Int32} : ∀ (S : List Nat), S.length ≤ k → stk wt S → stk (upd wt k v) S
  | [], _, _ => trivial
  | e :: S, hk, h => by
    have hk' : S.length + 1 ≤ k := hk
    exact ⟨by rw [pk_un (by omega)]; exact h.1, stk_keep S (by omega) h.2⟩
theorem stk_push {wt : Nat → Int32} {e : Nat} {S : List Nat} (h : stk wt S) : stk (upd wt S.length (nI e)) (e :: S) := ⟨pk_us, stk_keep S (Nat.le_refl _) h⟩
/-- a chain of letters -/
def Ch (bh : Nat → Int32) : Int32 → List Nat → Prop
  | x, [] => x = -1
  | x, e :: L => x = nI e ∧ Ch bh (bh e) L
theorem Ch_keep {bh bh' : Nat → Int32} : ∀ (x : Int32) (L : List Nat), (∀ e, e ∈ L → bh' e = bh e) → Ch bh x L → Ch bh' x L
  | _, [], _, h => h
  | _, e :: L, hk, h => ⟨h.1, by rw [hk e List.mem_cons_self]; exact Ch_keep _ L (fun y hy => hk y (List.mem_cons_of_mem _ hy)) h.2⟩
theorem Ch_hang {t k : Nat} {bh bh' : Nat → Int32} (hk : k < 2 ^ 31) (ht : t < 2 ^ 31) (htk : t ≠ k) (h1 : ∀ e, e ≠ t → e ≠ k → bh' e = bh e) (h2 : bh' t = nI k) (h3 : bh' k = bh t) :
    ∀ (x : Int32) (L : List Nat), L.Nodup → k ∉ L → (∀ e, e ∈ L → e < 2 ^ 31) → Ch bh x L → Ch bh' x (insA (nI t) k L)
  | x, [], _, _, _, h => by rw [insA_flat ht]; exact h
  | x, e :: L, hn, hkL, hl, h => by
    obtain ⟨g1, g2⟩ := List.nodup_cons.mp hn
    have gk : k ∉ L := fun q => hkL (List.mem_cons_of_mem _ q)
    have ek : e ≠ k := fun q => hkL (by rw [q]; exact List.mem_cons_self)
    have ih := fun x => Ch_hang hk ht htk h1 h2 h3 x L g2 gk (fun y hy => hl y (List.mem_cons_of_mem _ hy))
    rw [insA_flat ht, List.flatMap_cons]
    by_cases q : e = t
    · subst q
      rw [if_pos rfl, flat_none (t := e) (k := k) _ (fun y hy => if_neg (fun z => g1 (by rw [← nI_in1 (hl y (List.mem_cons_of_mem _ hy)) ht z]; exact hy)))]
      refine ⟨h.1, ?_⟩
      show Ch bh' (bh' e) (k :: L)
      refine ⟨h2, ?_⟩
      rw [h3]
      exact Ch_keep _ L (fun y hy => h1 y (fun z => g1 (z ▸ hy)) (fun z => gk (z ▸ hy))) h.2
    · rw [if_neg (fun z => q (nI_in1 (hl e List.mem_cons_self) ht z))]
      refine ⟨h.1, ?_⟩
      rw [h1 e q ek]
      have := ih (bh e) h.2
      rw [insA_flat ht] at this
      exact this
/-- a row into which a letter is put -/
theorem holds_ins {f g : Nat → Int32} {k : Nat} {L1 L2 : List Nat} (h : holds f (L1 ++ L2)) (h1 : ∀ i, i < L1.length → g i = f i) (h2 : g L1.length = nI k) (h3 : ∀ i, L1.length < i → i ≤ (L1 ++ L2).length → g i = f (i - 1)) : holds g (L1 ++ k :: L2) := by
  intro j x hx
  rcases Nat.lt_or_ge j L1.length with q | q
  · rw [List.getElem?_append_left q] at hx
    rw [h1 j q]
    exact h j x (by rw [List.getElem?_append_left q]; exact hx)
  · rw [List.getElem?_append_right q] at hx
    rcases Nat.lt_or_ge L1.length j with z | z
    · have e : j - L1.length = (j - 1 - L1.length) + 1 := by omega
      rw [e, List.getElem?_cons_succ] at hx
      have hl : j - 1 - L1.length < L2.length := (List.getElem?_eq_some_iff.mp hx).1
      rw [h3 j z (by simp only [List.length_append]; omega)]
      exact h (j - 1) x (by rw [List.getElem?_append_right (by omega)]; exact hx)
    · have e : j = L1.length := by omega
      subst e
      rw [Nat.sub_self] at hx
      cases hx
      exact h2
theorem insA_front {k : Nat} {L : List Nat} : insA (-1) k L = k :: L := by unfold insA; rw [if_pos rfl]
