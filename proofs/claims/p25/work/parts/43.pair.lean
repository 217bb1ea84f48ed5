-- TWO GRAPHS, of which one has all of an author by another: each call answers alike
def per (m a : Nat) : Nat := (a + m) % 4
theorem per_lt (m a : Nat) : per m a < 4 := Nat.mod_lt _ (by decide)
theorem per_inj {m a b : Nat} (ha : a < 4) (hb : b < 4) (h : per m a = per m b) : a = b := by
  unfold per at h
  omega
def Rel (m n : Nat) (mk mk' : Nat → Int32) (kn kn' : Nat → Int64) : Prop :=
  (∀ a, a < 4 → kn' (per m a) = kn a) ∧ ∀ e, e < n → ∃ a, a < 4 ∧ mk e = nI a ∧ mk' e = nI (per m a)
section EGPR
variable {m n : Nat} {mk mk' lt tg : Nat → Int32} {pa an la kn kn' : Nat → Int64}
theorem Rel_0 : Rel m 0 mk mk' (fun _ => 0) (fun _ => 0) := ⟨fun _ _ => rfl, fun e he => absurd he (Nat.not_lt_zero _)⟩
theorem Rel_kn (h : Rel m n mk mk' kn kn') {a : Nat} (ha : a < 4) (x : Int64) : ∀ c, c < 4 → (vp_updL kn' (per m a) x) (per m c) = (vp_updL kn a x) c := by
  intro c hc
  by_cases q : c = a
  · subst q; exact (ul_s (α := Nat)).trans (ul_s (α := Nat)).symm
  · rw [ul_n q, ul_n (fun z => q (per_inj hc ha z)), h.1 c hc]
theorem Rel_learn (h : Rel m n mk mk' kn kn') {a : Nat} (ha : a < 4) (x : Int64) : Rel m n mk mk' (vp_updL kn a x) (vp_updL kn' (per m a) x) := ⟨Rel_kn h ha x, h.2⟩
theorem Rel_add (h : Rel m n mk mk' kn kn') {a : Nat} (ha : a < 4) (x : Int64) : Rel m (n + 1) (upd mk n (nI a)) (upd mk' n (nI (per m a))) (vp_updL kn a x) (vp_updL kn' (per m a) x) := by
  refine ⟨Rel_kn h ha x, fun e he => ?_⟩
  by_cases q : e = n
  · subst q; exact ⟨a, ha, pk_us, pk_us⟩
  · rw [pk_un q, pk_un q]; exact h.2 e (by omega)
theorem Rel_eq (h : Rel m n mk mk' kn kn') {i j : Nat} (hi : i < n) (hj : j < n) : decide (mk i = mk j) = decide (mk' i = mk' j) := by
  obtain ⟨a, ha, h1, h2⟩ := h.2 i hi
  obtain ⟨b, hb, h3, h4⟩ := h.2 j hj
  rw [h1, h2, h3, h4]
  have p1 := per_lt m a
  have p2 := per_lt m b
  by_cases q : a = b
  · subst q; simp
  · have q1 : ¬ nI a = nI b := fun z => q ((nI_eq (by omega) (by omega)).mp z)
    have q2 : ¬ nI (per m a) = nI (per m b) := fun z => q (per_inj ha hb ((nI_eq (by omega) (by omega)).mp z))
    simp [q1, q2]
theorem Rel_by (h : Rel m n mk mk' kn kn') {i b : Nat} (hi : i < n) (hb : b < 4) : decide (mk i = nI b) = decide (mk' i = nI (per m b)) := by
  obtain ⟨a, ha, h1, h2⟩ := h.2 i hi
  rw [h1, h2]
  have p1 := per_lt m a
  have p2 := per_lt m b
  by_cases q : a = b
  · subst q; simp
  · have q1 : ¬ nI a = nI b := fun z => q ((nI_eq (by omega) (by omega)).mp z)
    have q2 : ¬ nI (per m a) = nI (per m b) := fun z => q (per_inj ha hb ((nI_eq (by omega) (by omega)).mp z))
    simp [q1, q2]
theorem Rel_cR (h : Rel m n mk mk' kn kn') (hn : n ≤ 60) {k : Nat} (hk : k < n) : cR n mk lt tg pa k = cR n mk' lt tg pa k := by
  unfold cR
  cases hv : ev n (tg k)
  · simp
  · obtain ⟨t, ht, e⟩ := ev_of (by omega) hv
    have hc : cl (tg k) = t := by rw [e]; exact cl_nI (by omega)
    rw [hc, Rel_eq h hk ht]
theorem Rel_rn (h : Rel m n mk mk' kn kn') (hn : n ≤ 60) {v : Int64} : ∀ k, k ≤ n → rnX n mk lt tg pa v k = rnX n mk' lt tg pa v k
  | 0, _ => rfl
  | k + 1, hk => by
    rw [rnX, rnX, Rel_cR h hn (by omega), Rel_rn h hn k (by omega)]
theorem ct_cong {p q : Nat → Bool} : ∀ k, (∀ j, j < k → p j = q j) → ct p k = ct q k
  | 0, _ => rfl
  | k + 1, h => by
    rw [ct, ct, h k (by omega), ct_cong k (fun j hj => h j (by omega))]
theorem Rel_of (h : Rel m n mk mk' kn kn') (hn : n ≤ 60) (v : Int64) (pp : Nat) : ∀ j, ofV n mk lt tg pa an la v pp j = ofV n mk' lt tg pa an la v pp j
  | 0 => rfl
  | 1 => rfl
  | 2 => rfl
  | 3 => by show nI _ = nI _; rw [Rel_rn h hn n (Nat.le_refl _)]
  | 4 => rfl
  | 5 => rfl
  | j + 6 => rfl
theorem Rel_set4 (h : Rel m n mk mk' kn kn') (v : Int64) {b : Nat} (hb : b < 4) : ct (fun j => decide (mk ((tx n lt tg v).getD j 0) = nI b)) (tx n lt tg v).length = ct (fun j => decide (mk' ((tx n lt tg v).getD j 0) = nI (per m b))) (tx n lt tg v).length := by
  refine ct_cong _ (fun i hi => ?_)
  have hx : (tx n lt tg v)[i]? = some (tx n lt tg v)[i] := List.getElem?_eq_getElem hi
  have hg := gD hx
  have hm := tx_mem (List.mem_of_getElem? hx)
  rw [hg]
  exact Rel_by h hm.1 hb
theorem setV_c (v u : Int64) {b b' : Nat} (key : ct (fun j => decide (mk ((tx n lt tg v).getD j 0) = nI b)) (tx n lt tg v).length = ct (fun j => decide (mk' ((tx n lt tg v).getD j 0) = nI b')) (tx n lt tg v).length) {j : Nat} (hj : j < 5) : setV n mk lt tg pa an la v u b j = setV n mk' lt tg pa an la v u b' j := by
  obtain rfl | rfl | rfl | rfl | rfl : j = 0 ∨ j = 1 ∨ j = 2 ∨ j = 3 ∨ j = 4 := by omega
  · simp only [setV]
  · simp only [setV]
  · simp only [setV]
  · simp only [setV]
  · simp only [setV]
    rw [key]
theorem Rel_set (h : Rel m n mk mk' kn kn') (v u : Int64) {b : Nat} (hb : b < 4) {j : Nat} (hj : j < 5) : setV n mk lt tg pa an la v u b j = setV n mk' lt tg pa an la v u (per m b) j := setV_c v u (Rel_set4 h v hb) hj
theorem per_long : ∀ m, m < 4 → ∀ a, a < 4 → ((nI a).toInt64 + (nI m).toInt64) - ((nI a).toInt64 + (nI m).toInt64) / 4 * 4 = (nI (per m a)).toInt64 := by decide +kernel
theorem Rel_by4 (h : Rel m n mk mk' kn kn') (hm : m < 4) {e0 : Nat} (he : e0 < n) : ((mk e0).toInt64 + (nI m).toInt64) - ((mk e0).toInt64 + (nI m).toInt64) / 4 * 4 = (mk' e0).toInt64 := by
  obtain ⟨a, ha, h1, h2⟩ := h.2 e0 he
  rw [h1, h2]
  exact per_long m hm a ha
end EGPR
section EGPP
variable (l : Launch) (D : va_G) (cI cJ : ClassId) (qa qb : Nat → Nat) {m n : Nat} {mk mk' lt tg : Nat → Int32} {pa an la kn kn' : Nat → Int64} {fb fb2 : Int32} {fh nb fh2 nb2 : Nat → Int32} (te wt bh te2 wt2 bh2 : Nat → Int32)
/-- the two graphs after an edit, its answer the same -/
def PR (l : Launch) (D : va_G) (cI cJ : ClassId) (qa qb : Nat → Nat) (m n0 : Nat) (y : MethodName) (ws : List Cond) (ava avb : List Value) (wa wb : va_W) : Prop :=
  ∃ (r : Int32) (n2 : Nat) (mk2 mk2' lt2 tg2 : Nat → Int32) (pa2 an2 la2 kn2 kn2' : Nat → Int64), n0 ≤ n2 ∧ Rel m n2 mk2 mk2' kn2 kn2' ∧
    eg_MLm D (tyL cI cJ) l y ws rmL ava wa (PX cI cJ qa n2 mk2 lt2 tg2 pa2 an2 la2 kn2 (.int r)) 1 6 ∧ eg_MLm D (tyL cI cJ) l y ws rmL avb wb (PX cI cJ qb n2 mk2' lt2 tg2 pa2 an2 la2 kn2' (.int r)) 1 6
theorem pr_insert (hfl : l.stackTraces = false) (hL : LI n lt tg an la kn fb fh nb) (hL2 : LI n lt tg an la kn' fb2 fh2 nb2) (hR : Rel m n mk mk' kn kn') {a pp c9 : Nat} (ha : a < 4) (hp : pp ≤ (tx n lt tg (kn a)).length) (hc : c9 < 26) :
    PR l D cI cJ qa qb m n yL_insert wsL_insert [.ref (qa 0), .int (nI a), .int (nI pp), .int (nI c9)] [.ref (qb 0), .int (nI (per m a)), .int (nI pp), .int (nI c9)] (wX qa cI cJ (nI n) mk lt tg pa an la kn fb fh nb te wt bh) (wX qb cI cJ (nI n) mk' lt tg pa an la kn' fb2 fh2 nb2 te2 wt2 bh2) := by
  have e := hR.1 a ha
  have hp2 : pp ≤ (tx n lt tg (kn' (per m a))).length := by rw [e]; exact hp
  by_cases hnr : n < 60
  · have h2 := one_insert l D cI cJ qb mk' pa te2 wt2 bh2 hL2 (per_lt m a) hp2 hc hnr
    rw [e] at h2
    exact ⟨_, _, _, _, _, _, _, _, _, _, _, Nat.le_succ _, Rel_add hR ha _, one_insert l D cI cJ qa mk pa te wt bh hL ha hp hc hnr, h2⟩
  · exact ⟨_, _, _, _, _, _, _, _, _, _, _, Nat.le_refl _, hR, one_insert_full l D cI cJ qa mk pa te wt bh hfl hL ha hp hc (Nat.le_of_not_lt hnr), one_insert_full l D cI cJ qb mk' pa te2 wt2 bh2 hfl hL2 (per_lt m a) hp2 hc (Nat.le_of_not_lt hnr)⟩
theorem pr_delete (hfl : l.stackTraces = false) (hL : LI n lt tg an la kn fb fh nb) (hL2 : LI n lt tg an la kn' fb2 fh2 nb2) (hR : Rel m n mk mk' kn kn') {a pp : Nat} (ha : a < 4) (hpb : pp < 2 ^ 31) :
    PR l D cI cJ qa qb m n yL_does wsL_does [.ref (qa 0), .int (nI 0), .int (nI a), .int (nI pp)] [.ref (qb 0), .int (nI 0), .int (nI (per m a)), .int (nI pp)] (wX qa cI cJ (nI n) mk lt tg pa an la kn fb fh nb te wt bh) (wX qb cI cJ (nI n) mk' lt tg pa an la kn' fb2 fh2 nb2 te2 wt2 bh2) := by
  have e := hR.1 a ha
  by_cases hp : pp < (tx n lt tg (kn a)).length
  · have hp2 : pp < (tx n lt tg (kn' (per m a))).length := by rw [e]; exact hp
    by_cases hnr : n < 60
    · have h2 := one_delete l D cI cJ qb mk' pa te2 wt2 bh2 hL2 (per_lt m a) hp2 hnr
      rw [e] at h2
      exact ⟨_, _, _, _, _, _, _, _, _, _, _, Nat.le_succ _, Rel_add hR ha _, one_delete l D cI cJ qa mk pa te wt bh hL ha hp hnr, h2⟩
    · exact ⟨_, _, _, _, _, _, _, _, _, _, _, Nat.le_refl _, hR, one_delete_full l D cI cJ qa mk pa te wt bh hfl hL ha hp (Nat.le_of_not_lt hnr), one_delete_full l D cI cJ qb mk' pa te2 wt2 bh2 hfl hL2 (per_lt m a) hp2 (Nat.le_of_not_lt hnr)⟩
  · exact ⟨_, _, _, _, _, _, _, _, _, _, _, Nat.le_refl _, hR, one_delete_bad l D cI cJ qa mk pa te wt bh hfl hL ha (Nat.le_of_not_lt hp) hpb, one_delete_bad l D cI cJ qb mk' pa te2 wt2 bh2 hfl hL2 (per_lt m a) (by rw [e]; exact Nat.le_of_not_lt hp) hpb⟩
theorem pr_learn (hL : LI n lt tg an la kn fb fh nb) (hL2 : LI n lt tg an la kn' fb2 fh2 nb2) (hR : Rel m n mk mk' kn kn') {a b : Nat} (ha : a < 4) (hb4 : b < 4) :
    PR l D cI cJ qa qb m n yL_does wsL_does [.ref (qa 0), .int (nI 1), .int (nI a), .int (nI b)] [.ref (qb 0), .int (nI 1), .int (nI (per m a)), .int (nI (per m b))] (wX qa cI cJ (nI n) mk lt tg pa an la kn fb fh nb te wt bh) (wX qb cI cJ (nI n) mk' lt tg pa an la kn' fb2 fh2 nb2 te2 wt2 bh2) := by
  have h2 := one_learn l D cI cJ qb mk' pa te2 wt2 bh2 hL2 (per_lt m a) (per_lt m b)
  rw [hR.1 a ha, hR.1 b hb4] at h2
  exact ⟨_, _, _, _, _, _, _, _, _, _, _, Nat.le_refl _, Rel_learn hR ha _, one_learn l D cI cJ qa mk pa te wt bh hL ha hb4, h2⟩
theorem pr_learnEvent (hfl : l.stackTraces = false) (hL : LI n lt tg an la kn fb fh nb) (hL2 : LI n lt tg an la kn' fb2 fh2 nb2) (hR : Rel m n mk mk' kn kn') {a e0 : Nat} (ha : a < 4) (heb : e0 < 2 ^ 31) :
    PR l D cI cJ qa qb m n yL_does wsL_does [.ref (qa 0), .int (nI 2), .int (nI a), .int (nI e0)] [.ref (qb 0), .int (nI 2), .int (nI (per m a)), .int (nI e0)] (wX qa cI cJ (nI n) mk lt tg pa an la kn fb fh nb te wt bh) (wX qb cI cJ (nI n) mk' lt tg pa an la kn' fb2 fh2 nb2 te2 wt2 bh2) := by
  by_cases he : e0 < n
  · have h2 := one_learnEvent l D cI cJ qb mk' pa te2 wt2 bh2 hL2 (per_lt m a) he
    rw [hR.1 a ha] at h2
    exact ⟨_, _, _, _, _, _, _, _, _, _, _, Nat.le_refl _, Rel_learn hR ha _, one_learnEvent l D cI cJ qa mk pa te wt bh hL ha he, h2⟩
  · exact ⟨_, _, _, _, _, _, _, _, _, _, _, Nat.le_refl _, hR, one_learnEvent_bad l D cI cJ qa mk pa te wt bh hfl hL ha (Nat.le_of_not_lt he) heb, one_learnEvent_bad l D cI cJ qb mk' pa te2 wt2 bh2 hfl hL2 (per_lt m a) (Nat.le_of_not_lt he) heb⟩
theorem pr_of (hfl : l.stackTraces = false) (hL2 : LI n lt tg an la kn' fb2 fh2 nb2) (hR : Rel m n mk mk' kn kn') {a : Nat} (pp : Nat) (ha : a < 4) (hpb : pp < 2 ^ 31) {j : Nat} (hj : j < 7) :
    eg_MLm D (tyL cI cJ) l yL_of wsL_of (rmT (tc j)) [.ref (qb 0), .int (nI j), .int (nI (per m a)), .int (nI pp)] (wX qb cI cJ (nI n) mk' lt tg pa an la kn' fb2 fh2 nb2 te2 wt2 bh2) (PX cI cJ qb n mk' lt tg pa an la kn' (.int (ofV n mk lt tg pa an la (kn a) pp j))) (tc j) (6 * tc j) := by
  have h2 := one_of l D cI cJ qb mk' pa te2 wt2 bh2 hfl hL2 pp (per_lt m a) hpb j hj
  rw [hR.1 a ha, ← Rel_of hR hL2.1.1] at h2
  exact h2
theorem pr_set (hL2 : LI n lt tg an la kn' fb2 fh2 nb2) (hR : Rel m n mk mk' kn kn') {a b : Nat} (ha : a < 4) (hb4 : b < 4) {j : Nat} (hj : j < 5) :
    eg_MLm D (tyL cI cJ) l yL_set wsL_set (rmT 0) [.ref (qb 0), .int (nI j), .int (nI (per m a)), .int (nI (per m b))] (wX qb cI cJ (nI n) mk' lt tg pa an la kn' fb2 fh2 nb2 te2 wt2 bh2) (PX cI cJ qb n mk' lt tg pa an la kn' (.long (setV n mk lt tg pa an la (kn a) (kn b) b j))) 0 (6 * 0) := by
  have h2 := one_set l D cI cJ qb mk' pa te2 wt2 bh2 hL2 (per_lt m a) (per_lt m b) j hj
  rw [hR.1 a ha, hR.1 b hb4, ← Rel_set hR _ _ hb4 hj] at h2
  exact h2
theorem pr_by (hfl : l.stackTraces = false) (hL2 : LI n lt tg an la kn' fb2 fh2 nb2) {e0 e1 : Nat} (he : e0 < n) (he1 : e1 < n) {j : Nat} (hj : j < 4) :
    eg_MLm D (tyL cI cJ) l yL_by wsL_by (rmT (tb j)) [.ref (qb 0), .int (nI j), .int (nI e0), .int (nI e1)] (wX qb cI cJ (nI n) mk' lt tg pa an la kn' fb2 fh2 nb2 te2 wt2 bh2) (PX cI cJ qb n mk' lt tg pa an la kn' (.long (byV n mk lt tg pa an e0 e1 j))) (tb j) (6 * tb j) := by
  have h2 := one_by l D cI cJ qb mk' pa te2 wt2 bh2 hfl hL2 he he1 j (by omega)
  have hv : byV n mk' lt tg pa an e0 e1 j = byV n mk lt tg pa an e0 e1 j := by
    obtain rfl | rfl | rfl | rfl : j = 0 ∨ j = 1 ∨ j = 2 ∨ j = 3 := by omega
    · simp only [byV]
    · simp only [byV]
    · simp only [byV]
    · simp only [byV]
  rw [hv] at h2
  exact h2
theorem tc_at {j : Nat} (hj : j < 7) : (j < 4 ∧ tc j = 0) ∨ (4 ≤ j ∧ tc j = 1) := by
  obtain rfl | rfl | rfl | rfl | rfl | rfl | rfl : j = 0 ∨ j = 1 ∨ j = 2 ∨ j = 3 ∨ j = 4 ∨ j = 5 ∨ j = 6 := by omega
  all_goals simp [tc]
theorem tb_at {j : Nat} (hj : j < 5) : (j = 2 ∧ tb j = 1) ∨ (j ≠ 2 ∧ tb j = 0) := by
  obtain rfl | rfl | rfl | rfl | rfl : j = 0 ∨ j = 1 ∨ j = 2 ∨ j = 3 ∨ j = 4 := by omega
  all_goals simp [tb]
end EGPP
