-- lemmas for the class's public calls
theorem getq {L : List Nat} {k : Nat} (h : k < L.length) : ∃ x, L[k]? = some x := ⟨L[k], List.getElem?_eq_getElem h⟩
theorem cnX_le (an la : Nat → Int64) (v : Int64) : ∀ k, cnX an la v k ≤ 64 * k
  | 0 => Nat.le_refl 0
  | k + 1 => by
    have h1 := cnX_le an la v k
    have h2 := ct_le (bi (v &&& (rel an la k ^^^ (-1)))) 64
    rw [cnX]
    split
    · show cnX an la v k + pc64 _ ≤ _
      unfold pc64
      omega
    · omega
theorem half {m : Nat} (h : m < 2 ^ 31) : nI m >>> (nI 1 &&& 31) = nI (m / 2) := by
  have := pk_shrN h (nI 1 &&& 31) 1 (by decide +kernel)
  rw [this]
/-- behind an insert the tree still gives the order of all letters -/
theorem hang_Tr {n : Nat} {lt tg : Nat → Int32} {an kn : Nat → Int64} {fb fb' : Int32} {fh nb fh' nb' : Nat → Int32} {h c : Int32} (hI : Inv n lt tg an kn) (hn : n < 60) (htr : ∃ f, Tr n fh nb f fb (lay (ins lt) tg n)) (hc : ¬ c = -1)
    (hh : h = -1 ∨ ∃ t, t < n ∧ h = nI t) (h9 : (∃ t : Nat, t < n + 1 ∧ h = nI t ∧ fb' = fb ∧ fh' = upd (upd fh n (-1)) t (nI n) ∧ nb' = upd nb n (upd fh n (-1) t)) ∨ (ev (n + 1) h = false ∧ fb' = nI n ∧ fh' = upd fh n (-1) ∧ nb' = upd nb n fb)) :
    ∃ f, Tr (n + 1) fh' nb' f fb' (lay (ins (upd lt n c)) (upd tg n h) (n + 1)) := by
  obtain ⟨f, hT⟩ := htr
  have e1 : lay (ins (upd lt n c)) (upd tg n h) n = lay (ins lt) tg n := lay_congr (fun k hk => ⟨by unfold ins; rw [pk_un (by omega)], pk_un (by omega)⟩)
  have e2 : ins (upd lt n c) n = true := ins_t (by rw [pk_us]; exact hc)
  rw [lay, if_pos e2, e1, pk_us]
  rcases hh with hh | ⟨t0, ht0, hh⟩
  · rcases h9 with ⟨t, h1, h2, -⟩ | ⟨-, rfl, rfl, rfl⟩
    · rw [hh] at h2; exact absurd h2.symm (nI_m1 (by omega))
    · subst hh
      rw [insA_front]
      refine ⟨f + 1, Or.inr ⟨n, [], lay (ins lt) tg n, rfl, by omega, rfl, ?_, ?_⟩⟩
      · rw [pk_us]
        have : Tr (n + 1) (upd fh n (-1)) (upd nb n fb) 0 (-1) [] := ⟨rfl, rfl⟩
        have := Tr_le this f
        rwa [Nat.zero_add] at this
      · rw [pk_us]
        exact Tr_keep (by omega) (fun e he => ⟨pk_un (by omega), pk_un (by omega)⟩) f _ _ hT
  · subst hh
    rcases h9 with ⟨t, h1, h2, rfl, rfl, rfl⟩ | ⟨h1, -⟩
    · have := nI_in1 (by omega) (by omega) h2
      subst this
      exact ⟨f + f, Tr_hang (by omega) ht0 (fun e g1 g2 => by rw [pk_un g2, pk_un (by omega)]) (fun e g1 => pk_un (by omega)) pk_us (by rw [pk_un (by omega), pk_us]) (by rw [pk_us, pk_un (by omega)]) f _ _ hT⟩
    · rw [ev_nI (by omega) (by omega)] at h1; cases h1
