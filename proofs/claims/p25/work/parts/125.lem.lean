-- what a putWaiting, a putText do to the lists
theorem pw_St {q : Nat → Nat} {cI cJ : ClassId} {n : Nat} {mk lt tg : Nat → Int32} {pa an la kn : Nat → Int64} {fb : Int32} {fh nb te wt bh : Nat → Int32} {x : Int32} {S R A : List Nat} {f : Nat} {r : Option Value} {w1 : va_W} (hn : n ≤ 60)
    (h : (ev n x = true ∧ S.length < 60 ∧ r = some (.int (nI (S.length + 1))) ∧ w1 = wX q cI cJ (nI n) mk lt tg pa an la kn fb fh nb te (upd wt S.length x) bh) ∨ ((ev n x = false ∨ 60 ≤ S.length) ∧ r = some (.int (nI S.length)) ∧ w1 = wX q cI cJ (nI n) mk lt tg pa an la kn fb fh nb te wt bh))
    (ht : Tr n fh nb f x A) (hs : St n fh nb S R) (hk : stk wt S) (hl : S.length < 60) :
    ∃ (S' : List Nat) (wt' : Nat → Int32), r = some (.int (nI S'.length)) ∧ w1 = wX q cI cJ (nI n) mk lt tg pa an la kn fb fh nb te wt' bh ∧ St n fh nb S' (A ++ R) ∧ stk wt' S' := by
  rcases h with ⟨h1, h2, h3, h4⟩ | ⟨h1, h3, h4⟩
  · obtain ⟨e, he, rfl⟩ := ev_of (by omega) h1
    exact ⟨e :: S, _, h3, h4, St_push he hs ht, stk_push hk⟩
  · rcases h1 with h1 | h1
    · exact ⟨S, wt, h3, h4, St_none (by omega) hs ht h1, hk⟩
    · omega
theorem pt_holds {q : Nat → Nat} {cI cJ : ClassId} {n : Nat} {mk lt tg : Nat → Int32} {pa an la kn : Nat → Int64} {fb : Int32} {fh nb te wt bh : Nat → Int32} {z : Int64} {e0 : Nat} {E : List Nat} {r : Option Value} {w1 : va_W}
    (h : (bi z e0 = true ∧ (E.filter (bi z)).length < 60 ∧ r = some (.int (nI ((E.filter (bi z)).length + 1))) ∧ w1 = wX q cI cJ (nI n) mk lt tg pa an la kn fb fh nb (upd te (E.filter (bi z)).length (nI e0)) wt bh) ∨ ((bi z e0 = false ∨ 60 ≤ (E.filter (bi z)).length) ∧ r = some (.int (nI (E.filter (bi z)).length)) ∧ w1 = wX q cI cJ (nI n) mk lt tg pa an la kn fb fh nb te wt bh))
    (hh : holds te (E.filter (bi z))) (hl : E.length < 60) :
    ∃ te' : Nat → Int32, r = some (.int (nI ((E ++ [e0]).filter (bi z)).length)) ∧ w1 = wX q cI cJ (nI n) mk lt tg pa an la kn fb fh nb te' wt bh ∧ holds te' ((E ++ [e0]).filter (bi z)) := by
  have hf : (E.filter (bi z)).length ≤ E.length := List.length_filter_le _ _
  rcases h with ⟨h1, h2, h3, h4⟩ | ⟨h1, h3, h4⟩
  · have e1 : (E ++ [e0]).filter (bi z) = E.filter (bi z) ++ [e0] := by rw [List.filter_append, List.filter_cons_of_pos h1]; rfl
    refine ⟨_, ?_, h4, ?_⟩
    · rw [e1, h3, List.length_append]; rfl
    · rw [e1]; exact holds_push hh
  · rcases h1 with h1 | h1
    · have e1 : (E ++ [e0]).filter (bi z) = E.filter (bi z) := by
        rw [List.filter_append, List.filter_cons_of_neg (by rw [h1]; decide)]; simp
      exact ⟨te, by rw [e1, h3], h4, by rw [e1]; exact hh⟩
    · omega
theorem flen {z : Int64} (E : List Nat) : (E.filter (bi z)).length ≤ E.length := List.length_filter_le _ _
