-- the chain that layList makes
section
variable {n : Nat} {lt tg : Nat → Int32} {v : Int64} {i t : Nat} {bh1 : Nat → Int32} {x1 : Int32}
theorem Ch_s (h : bi v i = false ∨ ins lt i = false) (hC : Ch bh1 x1 (lay (vI lt v) tg i)) : Ch bh1 x1 (lay (vI lt v) tg (i + 1)) := by
  have e : vI lt v i = false := by rcases h with h | h <;> simp [vI, h]
  rw [lay, e]
  exact hC
theorem Ch_t (hn : n ≤ 60) (hc : hang (vI lt v) tg n) (hi : i < n) (h1 : bi v i = true) (h2 : ins lt i = true) (eT : tg i = nI t) (ht : t < n) (hC : Ch bh1 x1 (lay (vI lt v) tg i)) : Ch (upd (upd bh1 i (bh1 t)) t (nI i)) x1 (lay (vI lt v) tg (i + 1)) := by
  have e : vI lt v i = true := by simp [vI, h1, h2]
  have hti : t < i := by
    rcases hc i hi e with q | ⟨t', q1, q2, q3⟩
    · rw [eT] at q; exact absurd q (nI_m1 (by omega))
    · rw [eT] at q2; have := nI_in1 (by omega) (by omega) q2; omega
  rw [lay, if_pos e, eT]
  exact Ch_hang (by omega) (by omega) (by omega) (fun e1 g1 g2 => by rw [pk_un g1, pk_un g2]) pk_us (by rw [pk_un (by omega), pk_us]) x1 _ (lay_nodup (by omega) (hang_le hc (by omega))) (fun q => by have := (lay_mem q).1; omega) (fun y hy => by have := (lay_mem hy).1; omega) hC
theorem Ch_f (hn : n ≤ 60) (hc : hang (vI lt v) tg n) (hi : i < n) (h1 : bi v i = true) (h2 : ins lt i = true) (hv : ev n (tg i) = false) (hC : Ch bh1 x1 (lay (vI lt v) tg i)) : Ch (upd bh1 i x1) (nI i) (lay (vI lt v) tg (i + 1)) := by
  have e : vI lt v i = true := by simp [vI, h1, h2]
  have hm : tg i = -1 := by
    rcases hc i hi e with q | ⟨t', q1, q2, q3⟩
    · exact q
    · rw [q2, ev_nI (by omega) (by omega)] at hv; cases hv
  rw [lay, if_pos e, hm, insA_front]
  exact ⟨rfl, by rw [pk_us]; exact Ch_keep _ _ (fun y hy => pk_un (by have := (lay_mem hy).1; omega)) hC⟩
theorem Ch_pop {R : List Nat} (hC : Ch bh1 x1 R) (h : ev n x1 = true) : ∃ (e0 : Nat) (R2 : List Nat), R = e0 :: R2 ∧ x1 = nI e0 ∧ Ch bh1 (bh1 e0) R2 := by
  cases R with
  | nil => rw [show x1 = -1 from hC, ev_m1] at h; cases h
  | cons e0 R2 => exact ⟨e0, R2, rfl, hC.1, hC.2⟩
theorem Ch_end {R : List Nat} (hn : n < 2 ^ 31) (hC : Ch bh1 x1 R) (hR : ∀ e, e ∈ R → e < n) (h : ev n x1 = false) : R = [] := by
  cases R with
  | nil => rfl
  | cons e0 R2 => rw [hC.1, ev_nI hn (hR e0 List.mem_cons_self)] at h; cases h
end
