-- what holds of every state, kept by each call (whole's rows)
def InvL (n : Nat) (an la : Nat → Int64) : Prop := ∀ e j, bi (la e) j = true ↔ (j < n ∧ bi (an j) e = true)
theorem b_iff {a b : Bool} (h : a = true ↔ b = true) : a = b := by cases a <;> cases b <;> simp_all
theorem InvL.at {n : Nat} {an la : Nat → Int64} (h : InvL n an la) {j : Nat} (hj : j < n) (e : Nat) : bi (la e) j = bi (an j) e := b_iff ⟨fun q => ((h e j).mp q).2, fun q => (h e j).mpr ⟨hj, q⟩⟩
section
variable {n a : Nat} {lt tg : Nat → Int32} {an kn la : Nat → Int64} {c tt : Int32}
theorem ul_s {α : Type} {f : Nat → Int64} {i : Nat} {x : Int64} : vp_updL f i x i = x := by simp [vp_updL]
theorem ul_n {f : Nat → Int64} {i j : Nat} {x : Int64} (h : j ≠ i) : vp_updL f i x j = f j := by simp [vp_updL, h]
theorem ins_un {e : Nat} (h : e ≠ n) : ins (upd lt n c) e = ins lt e := by unfold ins; rw [pk_un h]
/-- one event more, made on what its author knows -/
theorem Inv_add (hI : Inv n lt tg an kn) (hn : n < 60) (ha : a < 4) (hc : ins (upd lt n c) n = true → tt = -1 ∨ ∃ t, t < n ∧ tt = nI t ∧ ins lt t = true ∧ bi (kn a) t = true)
    (hd : ins (upd lt n c) n = false → ∃ t, t < n ∧ tt = nI t ∧ ins lt t = true ∧ bi (kn a) t = true) : Inv (n + 1) (upd lt n c) (upd tg n tt) (vp_updL an n (kn a)) (vp_updL kn a (kn a ||| ol n)) := by
  obtain ⟨h1, h2, h3, h4, h5, h6, h7⟩ := hI
  refine ⟨hn, ?_, ?_, ?_, ?_, ?_, ?_⟩
  · intro b hb i hi
    by_cases z : b = a
    · subst z
      rw [ul_s (α := Nat), bi_or, bi_ol1 (by omega)] at hi
      simp only [Bool.or_eq_true, decide_eq_true_eq] at hi
      rcases hi with hi | hi
      · have := h2 b hb i hi; omega
      · omega
    · rw [ul_n z] at hi
      have := h2 b hb i hi; omega
  · intro e he i hi
    by_cases z : e = n
    · subst z
      rw [ul_s (α := Nat)] at hi
      exact h2 a ha i hi
    · rw [ul_n z] at hi
      exact h3 e (by omega) i hi
  · intro b hb e he i hi
    by_cases y : e = n
    · subst y
      rw [ul_s (α := Nat)] at hi
      by_cases z : b = a
      · subst z
        rw [ul_s (α := Nat), bi_or, hi]; rfl
      · rw [ul_n z] at he
        have := h2 b hb e he; omega
    · rw [ul_n y] at hi
      by_cases z : b = a
      · subst z
        rw [ul_s (α := Nat), bi_or, bi_ol1 (by omega)] at he ⊢
        simp only [Bool.or_eq_true, decide_eq_true_eq] at he ⊢
        rcases he with he | he
        · exact Or.inl (h4 b hb e he i hi)
        · exact absurd he.symm y
      · rw [ul_n z] at he ⊢
        exact h4 b hb e he i hi
  · intro e he d hd9 i hi
    by_cases z : e = n
    · subst z
      rw [ul_s (α := Nat)] at hd9 ⊢
      have hde := h2 a ha d hd9
      rw [ul_n (by omega)] at hi
      exact h4 a ha d hd9 i hi
    · rw [ul_n z] at hd9 ⊢
      have hde := h3 e (by omega) d hd9
      rw [ul_n (by omega)] at hi
      exact h5 e (by omega) d hd9 i hi
  · intro e he hp
    by_cases z : e = n
    · subst z
      rcases hc hp with q | ⟨t, q1, q2, q3, q4⟩
      · exact Or.inl (by rw [pk_us]; exact q)
      · exact Or.inr ⟨t, q1, by rw [pk_us]; exact q2, by rw [ins_un (by omega)]; exact q3, by rw [ul_s (α := Nat)]; exact q4⟩
    · rw [ins_un z] at hp
      rcases h6 e (by omega) hp with q | ⟨t, q1, q2, q3, q4⟩
      · exact Or.inl (by rw [pk_un z]; exact q)
      · exact Or.inr ⟨t, q1, by rw [pk_un z]; exact q2, by rw [ins_un (by omega)]; exact q3, by rw [ul_n z]; exact q4⟩
  · intro e he hp
    by_cases z : e = n
    · subst z
      obtain ⟨t, q1, q2, q3, q4⟩ := hd hp
      exact ⟨t, q1, by rw [pk_us]; exact q2, by rw [ins_un (by omega)]; exact q3, by rw [ul_s (α := Nat)]; exact q4⟩
    · rw [ins_un z] at hp
      obtain ⟨t, q1, q2, q3, q4⟩ := h7 e (by omega) hp
      exact ⟨t, q1, by rw [pk_un z]; exact q2, by rw [ins_un (by omega)]; exact q3, by rw [ul_n z]; exact q4⟩
theorem InvL_add (hI : Inv n lt tg an kn) (hL : InvL n an la) (hn : n < 60) (ha : a < 4) : InvL (n + 1) (vp_updL an n (kn a)) (mL la (kn a) n n) := by
  obtain ⟨h1, h2, h3, -⟩ := hI
  intro e j
  have hN : bi (la e) n = false := by
    cases q : bi (la e) n
    · rfl
    · have := ((hL e n).mp q).1; omega
  unfold mL
  by_cases y : e < n ∧ bi (kn a) e = true
  · rw [if_pos y, bi_or, bi_ol1 (by omega)]
    by_cases z : j = n
    · subst z
      rw [ul_s (α := Nat)]
      simp [y.2]
    · rw [ul_n z]
      have e0 : decide (n = j) = false := by simp; omega
      rw [e0, Bool.or_false, hL e j]
      constructor
      · rintro ⟨q1, q2⟩; exact ⟨by omega, q2⟩
      · rintro ⟨q1, q2⟩; exact ⟨by omega, q2⟩
  · rw [if_neg y]
    by_cases z : j = n
    · subst z
      rw [ul_s (α := Nat), hN]
      constructor
      · intro h; cases h
      · rintro ⟨-, q⟩
        exact absurd ⟨h2 a ha e q, q⟩ y
    · rw [ul_n z, hL e j]
      constructor
      · rintro ⟨q1, q2⟩; exact ⟨by omega, q2⟩
      · rintro ⟨q1, q2⟩; exact ⟨by omega, q2⟩
theorem Inv_learn {v : Int64} (hI : Inv n lt tg an kn) (hv : vok n an v) : Inv n lt tg an (vp_updL kn a (kn a ||| v)) := by
  obtain ⟨h1, h2, h3, h4, h5⟩ := hI
  refine ⟨h1, ?_, h3, ?_, h5⟩
  · intro b hb i hi
    by_cases z : b = a
    · subst z
      rw [ul_s (α := Nat), bi_or, Bool.or_eq_true] at hi
      rcases hi with hi | hi
      · exact h2 b hb i hi
      · exact hv.1 i hi
    · rw [ul_n z] at hi
      exact h2 b hb i hi
  · intro b hb e he i hi
    by_cases z : b = a
    · subst z
      rw [ul_s (α := Nat), bi_or, Bool.or_eq_true] at he ⊢
      rcases he with he | he
      · exact Or.inl (h4 b hb e he i hi)
      · exact Or.inr (hv.2 e he i hi)
    · rw [ul_n z] at he ⊢
      exact h4 b hb e he i hi
theorem Tr_del {fh nb : Nat → Int32} {fb h : Int32} (htr : ∃ f, Tr n fh nb f fb (lay (ins lt) tg n)) : ∃ f, Tr (n + 1) fh nb f fb (lay (ins (upd lt n (-1))) (upd tg n h) (n + 1)) := by
  obtain ⟨f, hT⟩ := htr
  have e1 : lay (ins (upd lt n (-1))) (upd tg n h) n = lay (ins lt) tg n := lay_congr (fun k hk => ⟨ins_un (by omega), pk_un (by omega)⟩)
  have e2 : ins (upd lt n (-1)) n = false := ins_f pk_us
  rw [lay, if_neg (by rw [e2]; decide), e1]
  exact ⟨f, Tr_keep (by omega) (fun e he => ⟨rfl, rfl⟩) f _ _ hT⟩
/-- what holds of every state of the class -/
def LI (n : Nat) (lt tg : Nat → Int32) (an la kn : Nat → Int64) (fb : Int32) (fh nb : Nat → Int32) : Prop := Inv n lt tg an kn ∧ InvL n an la ∧ ∃ f, Tr n fh nb f fb (lay (ins lt) tg n)
theorem LI_0 {fh nb : Nat → Int32} : LI 0 lt tg an (fun _ => 0) (fun _ => 0) (-1) fh nb := by
  refine ⟨⟨by omega, fun a _ i hi => ?_, fun e he => by omega, fun a _ e he => ?_, fun e he => by omega, fun e he => by omega, fun e he => by omega⟩, fun e j => ?_, 0, ?_⟩
  · rw [bi_0] at hi; cases hi
  · rw [bi_0] at he; cases he
  · rw [bi_0]
    constructor
    · intro h; cases h
    · rintro ⟨h, -⟩; omega
  · exact ⟨rfl, rfl⟩
end
