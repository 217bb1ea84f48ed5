-- what the class counts is what the reference counts; what holds of every state holds behind every call
def InvL (n : Nat) (an la : Nat → Int64) : Prop := ∀ e j, bi (la e) j = true ↔ (j < n ∧ bi (an j) e = true)
theorem b_iff {a b : Bool} (h : a = true ↔ b = true) : a = b := by cases a <;> cases b <;> simp_all
theorem InvL.at {n : Nat} {an la : Nat → Int64} (h : InvL n an la) {j : Nat} (hj : j < n) (e : Nat) : bi (la e) j = bi (an j) e := b_iff ⟨fun q => ((h e j).mp q).2, fun q => (h e j).mpr ⟨hj, q⟩⟩
theorem rel_bit {n : Nat} {an la : Nat → Int64} {v : Int64} {k : Nat} (h : InvL n an la) (hn : n ≤ 60) (hk : k < n) (hv : ∀ i, bi v i = true → i < n) (j : Nat) : bi (v &&& (rel an la k ^^^ (-1))) j = (bi v j && acB an j k) := by
  rw [bi_and]
  cases q : bi v j
  · rfl
  · have hj := hv j q
    rw [bi_not, rel, bi_or, bi_or, bi_ol1 (by omega), h.at hj k]
    unfold acB
    have e1 : decide (k = j) = decide (j = k) := by
      by_cases z : k = j
      · simp [z]
      · simp [z, show ¬ j = k by omega]
    rw [e1]
    have e2 : decide (j < 64) = true := by simp; omega
    rw [e2]
    cases bi (an k) j <;> cases decide (j = k) <;> cases bi (an j) k <;> rfl
theorem crj_all {an : Nat → Int64} {v : Int64} {k : Nat} : ∀ m, crj an v k m = true ↔ (bi v k = true ∧ ∀ j, j < m → (bi v j && acB an j k) = false)
  | 0 => by
    rw [crj]
    exact ⟨fun h => ⟨h, fun j hj => by omega⟩, fun h => h.1⟩
  | m + 1 => by
    rw [crj, Bool.and_eq_true, crj_all m]
    constructor
    · rintro ⟨⟨h1, h2⟩, h3⟩
      refine ⟨h1, fun j hj => ?_⟩
      by_cases z : j = m
      · subst z
        cases a : bi v j <;> cases b : acB an j k <;> simp_all
      · exact h2 j (by omega)
    · rintro ⟨h1, h2⟩
      refine ⟨⟨h1, fun j hj => h2 j (by omega)⟩, ?_⟩
      have := h2 m (by omega)
      cases a : bi v m <;> cases b : acB an m k <;> simp_all
theorem cO_crM {n : Nat} {an la : Nat → Int64} {v : Int64} (h : InvL n an la) (hn : n ≤ 60) (hv : ∀ i, bi v i = true → i < n) : ∀ m, m ≤ n → cO an la v m = crM an v n m
  | 0, _ => rfl
  | k + 1, hm => by
    have hk : k < n := by omega
    rw [cO, crM, cO_crM h hn hv k (by omega)]
    have e : (bi v k = true ∧ v &&& (rel an la k ^^^ (-1)) = 0) ↔ crj an v k n = true := by
      rw [crj_all]
      constructor
      · rintro ⟨h1, h2⟩
        refine ⟨h1, fun j _ => ?_⟩
        rw [← rel_bit h hn hk hv j, h2, bi_0]
      · rintro ⟨h1, h2⟩
        refine ⟨h1, bi_ext (fun j _ => ?_)⟩
        rw [rel_bit h hn hk hv j, bi_0]
        by_cases z : j < n
        · exact h2 j z
        · cases q : bi v j
          · rfl
          · exact absurd (hv j q) z
    by_cases z : crj an v k n = true
    · rw [if_pos z, if_pos (e.mpr z)]
    · rw [if_neg z, if_neg (fun q => z (e.mp q))]
def sm (f : Nat → Nat) : Nat → Nat
  | 0 => 0
  | k + 1 => sm f k + f k
theorem sm_congr {f g : Nat → Nat} : ∀ {n : Nat}, (∀ k, k < n → f k = g k) → sm f n = sm g n
  | 0, _ => rfl
  | n + 1, h => by rw [sm, sm, sm_congr (fun k hk => h k (by omega)), h n (by omega)]
theorem sm_add {f g : Nat → Nat} : ∀ n, sm (fun k => f k + g k) n = sm f n + sm g n
  | 0 => rfl
  | n + 1 => by
    rw [sm, sm, sm, sm_add n]
    omega
def b01 (b : Bool) : Nat := if b = true then 1 else 0
theorem ct_sm {p : Nat → Bool} : ∀ n, ct p n = sm (fun k => b01 (p k)) n
  | 0 => rfl
  | n + 1 => by
    rw [ct, sm, ct_sm n]
    cases p n <;> rfl
theorem twice {g : Nat → Nat → Bool} (hs : ∀ i j, g i j = g j i) (hd : ∀ i, g i i = false) : ∀ n, sm (fun k => ct (g k) n) n = 2 * sm (fun k => ct (g k) k) n
  | 0 => rfl
  | n + 1 => by
    have e1 : sm (fun k => ct (g k) (n + 1)) n = sm (fun k => ct (g k) n) n + ct (g n) n := by
      rw [ct_sm (p := g n) n, ← sm_add]
      refine sm_congr (fun k _ => ?_)
      show ct (g k) (n + 1) = ct (g k) n + b01 (g n k)
      rw [ct_sm, sm, ← ct_sm, hs n k]
    have e2 : ct (g n) (n + 1) = ct (g n) n := by
      rw [ct_sm, sm, ← ct_sm]
      show ct (g n) n + b01 (g n n) = _
      rw [hd]
      rfl
    rw [sm, sm, e1, e2, twice hs hd n]
    omega
theorem cnX_sm {n : Nat} {an la : Nat → Int64} {v : Int64} (h : InvL n an la) (hn : n ≤ 60) (hv : ∀ i, bi v i = true → i < n) : ∀ m, m ≤ n → cnX an la v m = sm (fun k => ct (fun j => bi v k && (bi v j && acB an j k)) n) m
  | 0, _ => rfl
  | k + 1, hm => by
    have hk : k < n := by omega
    rw [cnX, sm, cnX_sm h hn hv k (by omega)]
    cases q : bi v k
    · rw [if_neg (by simp)]
      have : ct (fun j => false && (bi v j && acB an j k)) n = 0 := by
        have := ct_false (p := fun j => false && (bi v j && acB an j k)) 0 n (fun _ _ => rfl)
        rw [Nat.zero_add] at this
        rw [this]; rfl
      rw [this, Nat.add_zero]
    · rw [if_pos rfl]
      congr 1
      unfold pc64
      rw [ct_congr (q := fun j => true && (bi v j && acB an j k)) (fun j _ => by rw [rel_bit h hn hk hv j]; rfl)]
      refine ct_to (by omega) (fun j hj => ?_)
      cases q2 : bi v j
      · rfl
      · have := hv j q2; omega
theorem cM1_ct {an : Nat → Int64} {v : Int64} {k : Nat} : ∀ m, cM1 an v k m = ct (fun j => bi v k && (bi v j && acB an j k)) m
  | 0 => rfl
  | m + 1 => by
    rw [cM1, ct_sm, sm, ← ct_sm, cM1_ct m]
    congr 1
    show (if bi v k = true ∧ bi v m = true ∧ acB an m k = true then 1 else 0) = b01 (bi v k && (bi v m && acB an m k))
    cases bi v k <;> cases bi v m <;> cases acB an m k <;> rfl
theorem cM_sm {an : Nat → Int64} {v : Int64} : ∀ m, cM an v m = sm (fun k => ct (fun j => bi v k && (bi v j && acB an j k)) k) m
  | 0 => rfl
  | m + 1 => by rw [cM, sm, cM_sm m, cM1_ct]
theorem acB_s (an : Nat → Int64) (i j : Nat) : acB an i j = acB an j i := by
  unfold acB
  have e1 : decide (i = j) = decide (j = i) := by
    by_cases z : i = j
    · simp [z]
    · simp [z, show ¬ j = i by omega]
  rw [e1]
  cases bi (an i) j <;> cases bi (an j) i <;> rfl
theorem cn_half {n : Nat} {an la : Nat → Int64} {v : Int64} (h : InvL n an la) (hn : n ≤ 60) (hv : ∀ i, bi v i = true → i < n) : cnX an la v n / 2 = cM an v n := by
  rw [cnX_sm h hn hv n (Nat.le_refl _), cM_sm, twice (g := fun k j => bi v k && (bi v j && acB an j k)) (fun i j => ?_) (fun i => ?_)]
  · omega
  · show (bi v i && (bi v j && acB an j i)) = (bi v j && (bi v i && acB an i j))
    rw [acB_s an i j]
    cases bi v i <;> cases bi v j <;> rfl
  · show (bi v i && (bi v i && acB an i i)) = false
    have : acB an i i = false := by unfold acB; simp
    rw [this]
    simp
theorem rn_eq {n : Nat} {mk lt tg : Nat → Int32} {pa an kn : Nat → Int64} {v : Int64} (hI : Inv n lt tg an kn) : ∀ m, m ≤ n → rnX n mk lt tg pa v m = rnM mk lt tg pa v m
  | 0, _ => rfl
  | k + 1, hm => by
    have h60 := hI.1
    rw [rnX, rnM, rn_eq hI k (by omega)]
    have e : cR n mk lt tg pa k = gB mk lt tg pa k := by
      unfold cR gB
      cases q : ins lt k
      · rfl
      · rw [Bool.true_and, Bool.true_and]
        have e1 : ev n (tg k) = !(decide (tg k = -1)) := by
          rcases hI.2.2.2.2.2.1 k (by omega) q with h | ⟨t, h1, h2, -⟩
          · rw [h, ev_m1]; rfl
          · rw [h2, ev_nI (by omega) (by omega)]
            have := nI_m1 (i := t) (by omega)
            simp [this]
        have e2 : decide (mk k = mk (cl (tg k))) = decide (mk (cl (tg k)) = mk k) := by
          by_cases z : mk k = mk (cl (tg k))
          · simp [z]
          · simp [z, show ¬ mk (cl (tg k)) = mk k from fun w => z w.symm]
        rw [e1, e2]
    rw [e]
    by_cases z : bi v k = true ∧ gB mk lt tg pa k = false
    · rw [if_pos z, if_pos z]
    · rw [if_neg z, if_neg z, Nat.add_zero]
section
variable {n a : Nat} {lt tg : Nat → Int32} {an kn la : Nat → Int64} {c tt : Int32}
theorem ul_s {α : Type} {f : Nat → Int64} {i : Nat} {x : Int64} : vp_updL f i x i = x := by simp [vp_updL]
theorem ul_n {f : Nat → Int64} {i j : Nat} {x : Int64} (h : j ≠ i) : vp_updL f i x j = f j := by simp [vp_updL, h]
theorem ins_un {e : Nat} (h : e ≠ n) : ins (upd lt n c) e = ins lt e := by unfold ins; rw [pk_un h]
/-- one event more, made on what its author knows -/
theorem Inv_add (hI : Inv n lt tg an kn) (hn : n < 60) (ha : a < 4) (hc : ins (upd lt n c) n = true → tt = -1 ∨ ∃ t, t < n ∧ tt = nI t ∧ ins lt t = true ∧ bi (kn a) t = true)
    (hd : ins (upd lt n c) n = false → ∃ t, t < n ∧ tt = nI t ∧ ins lt t = true ∧ bi (kn a) t = true) : Inv (n + 1) (upd lt n c) (upd tg n tt) (vp_updL an n (kn a)) (vp_updL kn a (kn a ||| ol n)) := by
  obtain ⟨h1, h2, h3, h4, h5, h6, h7⟩ := hI
  refine ⟨hn, ?_, ?_, ?_, ?_, ?_, ?_⟩
  · intro b hb i hi
    by_cases z : b = a
    · subst z
      rw [ul_s (α := Nat), bi_or, bi_ol1 (by omega)] at hi
      simp only [Bool.or_eq_true, decide_eq_true_eq] at hi
      rcases hi with hi | hi
      · have := h2 b hb i hi; omega
      · omega
    · rw [ul_n z] at hi
      have := h2 b hb i hi; omega
  · intro e he i hi
    by_cases z : e = n
    · subst z
      rw [ul_s (α := Nat)] at hi
      exact h2 a ha i hi
    · rw [ul_n z] at hi
      exact h3 e (by omega) i hi
  · intro b hb e he i hi
    by_cases y : e = n
    · subst y
      rw [ul_s (α := Nat)] at hi
      by_cases z : b = a
      · subst z
        rw [ul_s (α := Nat), bi_or, hi]; rfl
      · rw [ul_n z] at he
        have := h2 b hb e he; omega
    · rw [ul_n y] at hi
      by_cases z : b = a
      · subst z
        rw [ul_s (α := Nat), bi_or, bi_ol1 (by omega)] at he ⊢
        simp only [Bool.or_eq_true, decide_eq_true_eq] at he ⊢
        rcases he with he | he
        · exact Or.inl (h4 b hb e he i hi)
        · exact absurd he.symm y
      · rw [ul_n z] at he ⊢
        exact h4 b hb e he i hi
  · intro e he d hd9 i hi
    by_cases z : e = n
    · subst z
      rw [ul_s (α := Nat)] at hd9 ⊢
      have hde := h2 a ha d hd9
      rw [ul_n (by omega)] at hi
      exact h4 a ha d hd9 i hi
    · rw [ul_n z] at hd9 ⊢
      have hde := h3 e (by omega) d hd9
      rw [ul_n (by omega)] at hi
      exact h5 e (by omega) d hd9 i hi
  · intro e he hp
    by_cases z : e = n
    · subst z
      rcases hc hp with q | ⟨t, q1, q2, q3, q4⟩
      · exact Or.inl (by rw [pk_us]; exact q)
      · exact Or.inr ⟨t, q1, by rw [pk_us]; exact q2, by rw [ins_un (by omega)]; exact q3, by rw [ul_s (α := Nat)]; exact q4⟩
    · rw [ins_un z] at hp
      rcases h6 e (by omega) hp with q | ⟨t, q1, q2, q3, q4⟩
      · exact Or.inl (by rw [pk_un z]; exact q)
      · exact Or.inr ⟨t, q1, by rw [pk_un z]; exact q2, by rw [ins_un (by omega)]; exact q3, by rw [ul_n z]; exact q4⟩
  · intro e he hp
    by_cases z : e = n
    · subst z
      obtain ⟨t, q1, q2, q3, q4⟩ := hd hp
      exact ⟨t, q1, by rw [pk_us]; exact q2, by rw [ins_un (by omega)]; exact q3, by rw [ul_s (α := Nat)]; exact q4⟩
    · rw [ins_un z] at hp
      obtain ⟨t, q1, q2, q3, q4⟩ := h7 e (by omega) hp
      exact ⟨t, q1, by rw [pk_un z]; exact q2, by rw [ins_un (by omega)]; exact q3, by rw [ul_n z]; exact q4⟩
theorem InvL_add (hI : Inv n lt tg an kn) (hL : InvL n an la) (hn : n < 60) (ha : a < 4) : InvL (n + 1) (vp_updL an n (kn a)) (mL la (kn a) n n) := by
  obtain ⟨h1, h2, h3, -⟩ := hI
  intro e j
  have hN : bi (la e) n = false := by
    cases q : bi (la e) n
    · rfl
    · have := ((hL e n).mp q).1; omega
  unfold mL
  by_cases y : e < n ∧ bi (kn a) e = true
  · rw [if_pos y, bi_or, bi_ol1 (by omega)]
    by_cases z : j = n
    · subst z
      rw [ul_s (α := Nat)]
      simp [y.2]
    · rw [ul_n z]
      have e0 : decide (n = j) = false := by simp; omega
      rw [e0, Bool.or_false, hL e j]
      constructor
      · rintro ⟨q1, q2⟩; exact ⟨by omega, q2⟩
      · rintro ⟨q1, q2⟩; exact ⟨by omega, q2⟩
  · rw [if_neg y]
    by_cases z : j = n
    · subst z
      rw [ul_s (α := Nat), hN]
      constructor
      · intro h; cases h
      · rintro ⟨-, q⟩
        exact absurd ⟨h2 a ha e q, q⟩ y
    · rw [ul_n z, hL e j]
      constructor
      · rintro ⟨q1, q2⟩; exact ⟨by omega, q2⟩
      · rintro ⟨q1, q2⟩; exact ⟨by omega, q2⟩
theorem Inv_learn {v : Int64} (hI : Inv n lt tg an kn) (hv : vok n an v) : Inv n lt tg an (vp_updL kn a (kn a ||| v)) := by
  obtain ⟨h1, h2, h3, h4, h5⟩ := hI
  refine ⟨h1, ?_, h3, ?_, h5⟩
  · intro b hb i hi
    by_cases z : b = a
    · subst z
      rw [ul_s (α := Nat), bi_or, Bool.or_eq_true] at hi
      rcases hi with hi | hi
      · exact h2 b hb i hi
      · exact hv.1 i hi
    · rw [ul_n z] at hi
      exact h2 b hb i hi
  · intro b hb e he i hi
    by_cases z : b = a
    · subst z
      rw [ul_s (α := Nat), bi_or, Bool.or_eq_true] at he ⊢
      rcases he with he | he
      · exact Or.inl (h4 b hb e he i hi)
      · exact Or.inr (hv.2 e he i hi)
    · rw [ul_n z] at he ⊢
      exact h4 b hb e he i hi
theorem Tr_del {fh nb : Nat → Int32} {fb h : Int32} (htr : ∃ f, Tr n fh nb f fb (lay (ins lt) tg n)) : ∃ f, Tr (n + 1) fh nb f fb (lay (ins (upd lt n (-1))) (upd tg n h) (n + 1)) := by
  obtain ⟨f, hT⟩ := htr
  have e1 : lay (ins (upd lt n (-1))) (upd tg n h) n = lay (ins lt) tg n := lay_congr (fun k hk => ⟨ins_un (by omega), pk_un (by omega)⟩)
  have e2 : ins (upd lt n (-1)) n = false := ins_f pk_us
  rw [lay, if_neg (by rw [e2]; decide), e1]
  exact ⟨f, Tr_keep (by omega) (fun e he => ⟨rfl, rfl⟩) f _ _ hT⟩
/-- what holds of every state of the class -/
def LI (n : Nat) (lt tg : Nat → Int32) (an la kn : Nat → Int64) (fb : Int32) (fh nb : Nat → Int32) : Prop := Inv n lt tg an kn ∧ InvL n an la ∧ ∃ f, Tr n fh nb f fb (lay (ins lt) tg n)
theorem LI_0 {fh nb : Nat → Int32} : LI 0 lt tg an (fun _ => 0) (fun _ => 0) (-1) fh nb := by
  refine ⟨⟨by omega, fun a _ i hi => ?_, fun e he => by omega, fun a _ e he => ?_, fun e he => by omega, fun e he => by omega, fun e he => by omega⟩, fun e j => ?_, 0, ?_⟩
  · rw [bi_0] at hi; cases hi
  · rw [bi_0] at he; cases he
  · rw [bi_0]
    constructor
    · intro h; cases h
    · rintro ⟨h, -⟩; omega
  · exact ⟨rfl, rfl⟩
end
