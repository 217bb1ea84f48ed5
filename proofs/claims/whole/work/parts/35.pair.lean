-- what a call of the class and the same call of the reference come to, side by side
def PL (cI cJ : ClassId) (qx : Nat → Nat) (o : Nat) (k : Nat) (z : Int64) (n : Nat) (mk lt tg : Nat → Int32) (pa an la kn : Nat → Int64) : Option Value → va_W → Prop := fun r w1 => r = some (.int (nI k)) ∧ ∃ (fb : Int32) (fh nb te wt bh : Nat → Int32) (out : Nat → Int64), LI n lt tg an la kn fb fh nb ∧ (k = 0 → out 0 = z) ∧ w1 = wO o cJ out ++ wX qx cI cJ (nI n) mk lt tg pa an la kn fb fh nb te wt bh
def PM (cI cJ : ClassId) (qm : Nat → Nat) (k : Nat) (v : Value) (n : Nat) (mk lt tg : Nat → Int32) (pa an kn : Nat → Int64) : Option Value → va_W → Prop := fun r w1 => r = some v ∧ ∃ (row : Nat → Int32) (len : Int32), w1 = wM qm cI cJ (nI n) mk lt tg pa an kn row len (nI k)
def PAIR {α : Type} (val : α → Value) (tol : α → Int64) (D : va_G) (cI cJ : ClassId) (l : Launch) (qx qm : Nat → Nat) (o mx : Nat) (yL : MethodName) (wsL : List Cond) (yM : MethodName) (wsM : List Cond) (avL avM : List Value) (WL WM : va_W) : Prop :=
  ∃ (k : Nat) (v : α) (rm : Room) (n : Nat) (mk lt tg : Nat → Int32) (pa an la kn : Nat → Int64), k < 4 ∧ (rm.cells = 0 ∧ rm.slots = 0 ∧ rm.frames + 1 ≤ 12 ∧ 8 + (mx + 11) + rm.locals ≤ 434) ∧
    eg_ML D (tyL cI cJ) l yL wsL rmL avL WL (PL cI cJ qx o k (tol v) n mk lt tg pa an la kn) ∧ eg_MW D (tyL cI cJ) l yM wsM rm 0 0 avM WM (PM cI cJ qm k (val v) n mk lt tg pa an kn)
def ttX (pp : Nat) (L : List Nat) : Int32 := if pp = 0 then -1 else nI (L.getD (pp - 1) 0)
theorem gD {L : List Nat} {k x : Nat} (h : L[k]? = some x) : L.getD k 0 = x := by rw [List.getD_eq_getElem?_getD, h]; rfl
theorem tt_eq {pp : Nat} {L : List Nat} {tt : Int32} (h : (pp = 0 ∧ tt = -1) ∨ (0 < pp ∧ ∃ x : Nat, L[pp - 1]? = some x ∧ tt = nI x)) : tt = ttX pp L := by
  unfold ttX
  rcases h with ⟨h1, h2⟩ | ⟨h1, x, hx, h2⟩
  · rw [if_pos h1, h2]
  · rw [if_neg (by omega), gD hx, h2]
theorem upd0 {out : Nat → Int64} {z : Int64} : vp_updL out 0 z 0 = z := by simp [vp_updL]
theorem tx_bd {n : Nat} {lt tg : Nat → Int32} {an kn : Nat → Int64} {v : Int64} (h : Inv n lt tg an kn) (hv : vok n an v) : (tx n lt tg v).length + 1 < 2 ^ 31 := by
  have h1 := tx_len h hv
  have h2 := h.1
  omega

set_option maxHeartbeats 4000000 in
set_option maxRecDepth 100000 in
theorem pair_insert (l : Launch) (D : va_G) (cI cJ : ClassId) (qx qm : Nat → Nat) (n : Nat) (mk lt tg : Nat → Int32) (pa an la kn : Nat → Int64) (fb : Int32) (fh nb te wt bh row : Nat → Int32) (len thr : Int32) (o : Nat) (out : Nat → Int64) (x y c9 : Int32) (hfl : l.stackTraces = false) (hL : LI n lt tg an la kn fb fh nb) : PAIR Value.int Int32.toInt64 D cI cJ l qx qm o 5 yL_insert wsL_insert yX1_insert wsX1_insert [.ref (qx 0), .int x, .int y, .int c9, .ref o] [.ref (qm 0), .int x, .int y, .int c9] (wO o cJ out ++ wX qx cI cJ (nI n) mk lt tg pa an la kn fb fh nb te wt bh) (wM qm cI cJ (nI n) mk lt tg pa an kn row len thr) := by
  obtain ⟨hI, hIL, htr⟩ := id hL
  have hn := hI.1
  rcases bad_or (n := 4) x (by decide) with hbad | ⟨a, ha, rfl⟩
  · refine ⟨1, nI 0, { frames := 3, cells := 0, slots := 0, locals := 64 }, n, mk, lt, tg, pa, an, la, kn, by decide, ⟨rfl, rfl, by decide, by decide⟩, ?_, ?_⟩
    · refine eg_monoL (wl_insert_b l D cI cJ qx n mk lt tg pa an la kn fb fh nb te wt bh o out x y c9 (rm := { frames := 7, cells := 1, slots := 6, locals := 103 }) ⟨rfl, rfl, by decide, by decide⟩ (c_X0_insert_no1 l D cI cJ qx n mk lt tg pa an la kn fb fh nb te wt bh x y c9 hbad hfl)) (fun r w1 h => ?_)
      obtain ⟨h0, wx, ⟨te', wt', bh', rfl⟩, rfl⟩ := h
      exact ⟨h0, fb, fh, nb, te', wt', bh', out, hL, fun h => absurd h (by decide), rfl⟩
    · refine eg_mono (c_X1_insert_no1 l D cI cJ qm n mk lt tg pa an kn row len thr x y c9 hn hbad) (fun r w1 h => ?_)
      obtain ⟨row', len', h0, rfl⟩ := h
      exact ⟨h0, row', len', rfl⟩
  · rcases bad_or (n := (tx n lt tg (kn a)).length + 1) y (by have := tx_bd hI (hI.vk ha); omega) with hbad | ⟨pp, hp, rfl⟩
    · refine ⟨1, nI 0, { frames := 3, cells := 0, slots := 0, locals := 70 }, n, mk, lt, tg, pa, an, la, kn, by decide, ⟨rfl, rfl, by decide, by decide⟩, ?_, ?_⟩
      · refine eg_monoL (wl_insert_b l D cI cJ qx n mk lt tg pa an la kn fb fh nb te wt bh o out (nI a) y c9 (rm := { frames := 7, cells := 1, slots := 6, locals := 104 }) ⟨rfl, rfl, by decide, by decide⟩ (c_X0_insert_no2 l D cI cJ qx n mk lt tg pa an la kn fb fh nb te wt bh a y c9 hI htr ha hbad hfl)) (fun r w1 h => ?_)
        obtain ⟨h0, wx, ⟨te', wt', bh', rfl⟩, rfl⟩ := h
        exact ⟨h0, fb, fh, nb, te', wt', bh', out, hL, fun h => absurd h (by decide), rfl⟩
      · refine eg_mono (c_X1_insert_no2 l D cI cJ qm n mk lt tg pa an kn row len thr a y c9 hI ha hbad) (fun r w1 h => ?_)
        obtain ⟨row', len', h0, rfl⟩ := h
        exact ⟨h0, row', len', rfl⟩
    · have hp := Nat.le_of_lt_succ hp
      cases hcv : ev 26 c9
      · have hcx := hcv
        have hcb : c9 < 0 ∨ ¬ c9 < nI 26 := by
          by_cases q1 : c9 < 0
          · exact Or.inl q1
          · refine Or.inr (fun q2 => ?_)
            have : ev 26 c9 = true := by simp [ev, q1, q2]
            rw [hcx] at this; cases this
        refine ⟨2, nI 0, { frames := 3, cells := 0, slots := 0, locals := 70 }, n, mk, lt, tg, pa, an, la, kn, by decide, ⟨rfl, rfl, by decide, by decide⟩, ?_, ?_⟩
        · refine eg_monoL (wl_insert_a l D cI cJ qx n mk lt tg pa an la kn fb fh nb te wt bh o out (nI a) (nI pp) c9 (rm := { frames := 6, cells := 1, slots := 6, locals := 97 }) ⟨rfl, rfl, by decide, by decide⟩ (c_X0_insert_no3 l D cI cJ qx n mk lt tg pa an la kn fb fh nb te wt bh a pp c9 hI htr ha hp hcb hfl)) (fun r w1 h => ?_)
          obtain ⟨h0, wx, ⟨te', wt', bh', rfl⟩, rfl⟩ := h
          exact ⟨h0, fb, fh, nb, te', wt', bh', out, hL, fun h => absurd h (by decide), rfl⟩
        · refine eg_mono (c_X1_insert_no3 l D cI cJ qm n mk lt tg pa an kn row len thr a pp c9 hI ha hp hcx) (fun r w1 h => ?_)
          obtain ⟨row', len', h0, rfl⟩ := h
          exact ⟨h0, row', len', rfl⟩
      · have hcw : ¬ c9 < 0 ∧ c9 < nI 26 := by simpa [ev] using hcv
        obtain ⟨hc, hc2⟩ := hcw
        by_cases hnr : n < 60
        · refine ⟨0, nI n, { frames := 3, cells := 0, slots := 0, locals := 70 }, n + 1, upd mk n (nI a), upd lt n c9, upd tg n (ttX pp (tx n lt tg (kn a))), vp_updL pa n (hdX pa (kn a) n), vp_updL an n (kn a), mL la (kn a) n n, vp_updL kn a (kn a ||| ol n), by decide, ⟨rfl, rfl, by decide, by decide⟩, ?_, ?_⟩
          · refine eg_monoL (wl_insert l D cI cJ qx n mk lt tg pa an la kn fb fh nb te wt bh o out (nI a) (nI pp) c9 (rm := { frames := 4, cells := 0, slots := 0, locals := 97 }) ⟨rfl, rfl, by decide, by decide⟩ (c_X0_insert l D cI cJ qx n mk lt tg pa an la kn fb fh nb te wt bh a pp c9 hI htr ha hp hc hc2 hnr) (fun v w1 h => by obtain ⟨_, _, _, _, _, _, _, _, h1, -⟩ := h; exact ⟨_, h1⟩)) (fun r w1 h => ?_)
            obtain ⟨h0, x8, wx, ⟨tt, te', wt', fb', fh', nb', htt, hTr', e, rfl⟩, rfl⟩ := h
            cases e
            have hte := tt_eq htt
            subst hte
            have h8 : ttX pp (tx n lt tg (kn a)) = -1 ∨ ∃ t, t < n ∧ ttX pp (tx n lt tg (kn a)) = nI t ∧ ins lt t = true ∧ bi (kn a) t = true := by
              rcases htt with ⟨-, h⟩ | ⟨-, x9, hx9, h⟩
              · exact Or.inl h
              · have h7 := tx_mem (List.mem_of_getElem? hx9)
                exact Or.inr ⟨x9, h7.1, h, h7.2.2, h7.2.1⟩
            exact ⟨h0, fb', fh', nb', te', wt', bh, _, ⟨Inv_add hI hnr ha (fun _ => h8) (fun h => absurd (ins_eq h) (by rw [pk_us]; intro q; exact hc (by rw [q]; decide))), InvL_add hI hIL hnr ha, hTr'⟩, fun _ => upd0, rfl⟩
          · refine eg_mono (c_X1_insert l D cI cJ qm n mk lt tg pa an kn row len thr a pp c9 hI ha hp hcv hnr) (fun r w1 h => ?_)
            obtain ⟨row', len', tt, htt, h0, rfl⟩ := h
            have hte := tt_eq htt
            subst hte
            exact ⟨h0, row', len', rfl⟩
        · have hnr := Nat.le_of_not_lt hnr
          refine ⟨3, nI 0, { frames := 3, cells := 0, slots := 0, locals := 70 }, n, mk, lt, tg, pa, an, la, kn, by decide, ⟨rfl, rfl, by decide, by decide⟩, ?_, ?_⟩
          · refine eg_monoL (wl_insert_s l D cI cJ qx n mk lt tg pa an la kn fb fh nb te wt bh o out (nI a) (nI pp) c9 (rm := { frames := 7, cells := 1, slots := 6, locals := 102 }) ⟨rfl, rfl, by decide, by decide⟩ (c_X0_insert_no4 l D cI cJ qx n mk lt tg pa an la kn fb fh nb te wt bh a pp c9 hI htr ha hp hc hc2 hnr hfl)) (fun r w1 h => ?_)
            obtain ⟨h0, wx, ⟨te', wt', bh', rfl⟩, rfl⟩ := h
            exact ⟨h0, fb, fh, nb, te', wt', bh', out, hL, fun h => absurd h (by decide), rfl⟩
          · refine eg_mono (c_X1_insert_no4 l D cI cJ qm n mk lt tg pa an kn row len thr a pp c9 hI ha hp hcv hnr) (fun r w1 h => ?_)
            obtain ⟨row', len', h0, rfl⟩ := h
            exact ⟨h0, row', len', rfl⟩
set_option maxHeartbeats 4000000 in
set_option maxRecDepth 100000 in
theorem pair_delete (l : Launch) (D : va_G) (cI cJ : ClassId) (qx qm : Nat → Nat) (n : Nat) (mk lt tg : Nat → Int32) (pa an la kn : Nat → Int64) (fb : Int32) (fh nb te wt bh row : Nat → Int32) (len thr : Int32) (o : Nat) (out : Nat → Int64) (x y : Int32) (hfl : l.stackTraces = false) (hL : LI n lt tg an la kn fb fh nb) : PAIR Value.int Int32.toInt64 D cI cJ l qx qm o 4 yL_delete wsL_delete yX1_delete wsX1_delete [.ref (qx 0), .int x, .int y, .ref o] [.ref (qm 0), .int x, .int y] (wO o cJ out ++ wX qx cI cJ (nI n) mk lt tg pa an la kn fb fh nb te wt bh) (wM qm cI cJ (nI n) mk lt tg pa an kn row len thr) := by
  obtain ⟨hI, hIL, htr⟩ := id hL
  have hn := hI.1
  rcases bad_or (n := 4) x (by decide) with hbad | ⟨a, ha, rfl⟩
  · refine ⟨1, nI 0, { frames := 3, cells := 0, slots := 0, locals := 64 }, n, mk, lt, tg, pa, an, la, kn, by decide, ⟨rfl, rfl, by decide, by decide⟩, ?_, ?_⟩
    · refine eg_monoL (wl_delete_b l D cI cJ qx n mk lt tg pa an la kn fb fh nb te wt bh o out x y (rm := { frames := 7, cells := 1, slots := 6, locals := 103 }) ⟨rfl, rfl, by decide, by decide⟩ (c_X0_delete_no1 l D cI cJ qx n mk lt tg pa an la kn fb fh nb te wt bh x y hbad hfl)) (fun r w1 h => ?_)
      obtain ⟨h0, wx, ⟨te', wt', bh', rfl⟩, rfl⟩ := h
      exact ⟨h0, fb, fh, nb, te', wt', bh', out, hL, fun h => absurd h (by decide), rfl⟩
    · refine eg_mono (c_X1_delete_no1 l D cI cJ qm n mk lt tg pa an kn row len thr x y hn hbad) (fun r w1 h => ?_)
      obtain ⟨row', len', h0, rfl⟩ := h
      exact ⟨h0, row', len', rfl⟩
  · rcases bad_or (n := (tx n lt tg (kn a)).length) y (by have := tx_bd hI (hI.vk ha); omega) with hbad | ⟨pp, hp, rfl⟩
    · refine ⟨1, nI 0, { frames := 3, cells := 0, slots := 0, locals := 70 }, n, mk, lt, tg, pa, an, la, kn, by decide, ⟨rfl, rfl, by decide, by decide⟩, ?_, ?_⟩
      · refine eg_monoL (wl_delete_b l D cI cJ qx n mk lt tg pa an la kn fb fh nb te wt bh o out (nI a) y (rm := { frames := 7, cells := 1, slots := 6, locals := 104 }) ⟨rfl, rfl, by decide, by decide⟩ (c_X0_delete_no2 l D cI cJ qx n mk lt tg pa an la kn fb fh nb te wt bh a y hI htr ha hbad hfl)) (fun r w1 h => ?_)
        obtain ⟨h0, wx, ⟨te', wt', bh', rfl⟩, rfl⟩ := h
        exact ⟨h0, fb, fh, nb, te', wt', bh', out, hL, fun h => absurd h (by decide), rfl⟩
      · refine eg_mono (c_X1_delete_no2 l D cI cJ qm n mk lt tg pa an kn row len thr a y hI ha hbad) (fun r w1 h => ?_)
        obtain ⟨row', len', h0, rfl⟩ := h
        exact ⟨h0, row', len', rfl⟩
    · by_cases hnr : n < 60
      · refine ⟨0, nI n, { frames := 3, cells := 0, slots := 0, locals := 70 }, n + 1, upd mk n (nI a), upd lt n (-1), upd tg n (nI ((tx n lt tg (kn a)).getD pp 0)), vp_updL pa n (hdX pa (kn a) n), vp_updL an n (kn a), mL la (kn a) n n, vp_updL kn a (kn a ||| ol n), by decide, ⟨rfl, rfl, by decide, by decide⟩, ?_, ?_⟩
        · refine eg_monoL (wl_delete l D cI cJ qx n mk lt tg pa an la kn fb fh nb te wt bh o out (nI a) (nI pp) (rm := { frames := 4, cells := 0, slots := 0, locals := 97 }) ⟨rfl, rfl, by decide, by decide⟩ (c_X0_delete l D cI cJ qx n mk lt tg pa an la kn fb fh nb te wt bh a pp hI htr ha hp hnr) (fun v w1 h => by obtain ⟨_, _, _, _, h1, -⟩ := h; exact ⟨_, h1⟩)) (fun r w1 h => ?_)
          obtain ⟨h0, x8, wx, ⟨x9, te', wt', hx9, e, rfl⟩, rfl⟩ := h
          cases e
          have hg := gD hx9
          subst hg
          have h7 := tx_mem (List.mem_of_getElem? hx9)
          exact ⟨h0, fb, fh, nb, te', wt', bh, _, ⟨Inv_add hI hnr ha (fun h => absurd pk_us (ins_ne h)) (fun _ => ⟨_, h7.1, rfl, h7.2.2, h7.2.1⟩), InvL_add hI hIL hnr ha, Tr_del htr⟩, fun _ => upd0, rfl⟩
        · refine eg_mono (c_X1_delete l D cI cJ qm n mk lt tg pa an kn row len thr a pp hI ha hp hnr) (fun r w1 h => ?_)
          obtain ⟨row', len', x9, hx9, h0, rfl⟩ := h
          have hg := gD hx9
          subst hg
          exact ⟨h0, row', len', rfl⟩
      · have hnr := Nat.le_of_not_lt hnr
        refine ⟨2, nI 0, { frames := 3, cells := 0, slots := 0, locals := 70 }, n, mk, lt, tg, pa, an, la, kn, by decide, ⟨rfl, rfl, by decide, by decide⟩, ?_, ?_⟩
        · refine eg_monoL (wl_delete_s l D cI cJ qx n mk lt tg pa an la kn fb fh nb te wt bh o out (nI a) (nI pp) (rm := { frames := 7, cells := 1, slots := 6, locals := 102 }) ⟨rfl, rfl, by decide, by decide⟩ (c_X0_delete_no3 l D cI cJ qx n mk lt tg pa an la kn fb fh nb te wt bh a pp hI htr ha hp hnr hfl)) (fun r w1 h => ?_)
          obtain ⟨h0, wx, ⟨te', wt', bh', rfl⟩, rfl⟩ := h
          exact ⟨h0, fb, fh, nb, te', wt', bh', out, hL, fun h => absurd h (by decide), rfl⟩
        · refine eg_mono (c_X1_delete_no3 l D cI cJ qm n mk lt tg pa an kn row len thr a pp hI ha hp hnr) (fun r w1 h => ?_)
          obtain ⟨row', len', h0, rfl⟩ := h
          exact ⟨h0, row', len', rfl⟩
set_option maxHeartbeats 4000000 in
set_option maxRecDepth 100000 in
theorem pair_learn (l : Launch) (D : va_G) (cI cJ : ClassId) (qx qm : Nat → Nat) (n : Nat) (mk lt tg : Nat → Int32) (pa an la kn : Nat → Int64) (fb : Int32) (fh nb te wt bh row : Nat → Int32) (len thr : Int32) (o : Nat) (out : Nat → Int64) (x y : Int32) (hfl : l.stackTraces = false) (hL : LI n lt tg an la kn fb fh nb) : PAIR Value.int Int32.toInt64 D cI cJ l qx qm o 3 yL_learn wsL_learn yX1_learn wsX1_learn [.ref (qx 0), .int x, .int y, .ref o] [.ref (qm 0), .int x, .int y] (wO o cJ out ++ wX qx cI cJ (nI n) mk lt tg pa an la kn fb fh nb te wt bh) (wM qm cI cJ (nI n) mk lt tg pa an kn row len thr) := by
  obtain ⟨hI, hIL, htr⟩ := id hL
  have hn := hI.1
  rcases bad_or (n := 4) x (by decide) with hbad | ⟨a, ha, rfl⟩
  · refine ⟨1, nI 0, { frames := 2, cells := 0, slots := 0, locals := 42 }, n, mk, lt, tg, pa, an, la, kn, by decide, ⟨rfl, rfl, by decide, by decide⟩, ?_, ?_⟩
    · refine eg_monoL (wl_learn_b l D cI cJ qx n mk lt tg pa an la kn fb fh nb te wt bh o out x y (rm := { frames := 7, cells := 1, slots := 6, locals := 103 }) ⟨rfl, rfl, by decide, by decide⟩ (c_X0_learn_no1 l D cI cJ qx n mk lt tg pa an la kn fb fh nb te wt bh x y hbad hfl)) (fun r w1 h => ?_)
      obtain ⟨h0, wx, ⟨te', wt', bh', rfl⟩, rfl⟩ := h
      exact ⟨h0, fb, fh, nb, te', wt', bh', out, hL, fun h => absurd h (by decide), rfl⟩
    · refine eg_mono (c_X1_learn_no1 l D cI cJ qm n mk lt tg pa an kn row len thr x y hbad) (fun r w1 h => ?_)
      obtain ⟨row', len', h0, rfl⟩ := h
      exact ⟨h0, row', len', rfl⟩
  · rcases bad_or (n := 4) y (by decide) with hbad | ⟨b, hb4, rfl⟩
    · refine ⟨1, nI 0, { frames := 2, cells := 0, slots := 0, locals := 42 }, n, mk, lt, tg, pa, an, la, kn, by decide, ⟨rfl, rfl, by decide, by decide⟩, ?_, ?_⟩
      · refine eg_monoL (wl_learn_b l D cI cJ qx n mk lt tg pa an la kn fb fh nb te wt bh o out (nI a) y (rm := { frames := 7, cells := 1, slots := 6, locals := 103 }) ⟨rfl, rfl, by decide, by decide⟩ (c_X0_learn_no2 l D cI cJ qx n mk lt tg pa an la kn fb fh nb te wt bh a y ha hbad hfl)) (fun r w1 h => ?_)
        obtain ⟨h0, wx, ⟨te', wt', bh', rfl⟩, rfl⟩ := h
        exact ⟨h0, fb, fh, nb, te', wt', bh', out, hL, fun h => absurd h (by decide), rfl⟩
      · refine eg_mono (c_X1_learn_no2 l D cI cJ qm n mk lt tg pa an kn row len thr a y hI ha hbad) (fun r w1 h => ?_)
        obtain ⟨row', len', h0, rfl⟩ := h
        exact ⟨h0, row', len', rfl⟩
    · refine ⟨0, nI (pc64 (kn b &&& (kn a ^^^ (-1)))), { frames := 3, cells := 0, slots := 0, locals := 70 }, n, mk, lt, tg, pa, an, la, vp_updL kn a (kn a ||| kn b), by decide, ⟨rfl, rfl, by decide, by decide⟩, ?_, ?_⟩
      · refine eg_monoL (wl_learn l D cI cJ qx n mk lt tg pa an la kn fb fh nb te wt bh o out (nI a) (nI b) (rm := { frames := 2, cells := 0, slots := 0, locals := 45 }) ⟨rfl, rfl, by decide, by decide⟩ (c_X0_learn l D cI cJ qx n mk lt tg pa an la kn fb fh nb te wt bh a b ha hb4) (fun v w1 h => by obtain ⟨h1, -⟩ := h; exact ⟨_, h1⟩)) (fun r w1 h => ?_)
        obtain ⟨h0, x8, wx, ⟨e, rfl⟩, rfl⟩ := h
        cases e
        exact ⟨h0, fb, fh, nb, te, wt, bh, _, ⟨Inv_learn hI (hI.vk hb4), hIL, htr⟩, fun _ => upd0, rfl⟩
      · refine eg_mono (c_X1_learn l D cI cJ qm n mk lt tg pa an kn row len thr a b hI ha hb4) (fun r w1 h => ?_)
        obtain ⟨h0, rfl⟩ := h
        exact ⟨h0, row, len, rfl⟩
set_option maxHeartbeats 4000000 in
set_option maxRecDepth 100000 in
theorem pair_learnEvent (l : Launch) (D : va_G) (cI cJ : ClassId) (qx qm : Nat → Nat) (n : Nat) (mk lt tg : Nat → Int32) (pa an la kn : Nat → Int64) (fb : Int32) (fh nb te wt bh row : Nat → Int32) (len thr : Int32) (o : Nat) (out : Nat → Int64) (x y : Int32) (hfl : l.stackTraces = false) (hL : LI n lt tg an la kn fb fh nb) : PAIR Value.int Int32.toInt64 D cI cJ l qx qm o 3 yL_learnEvent wsL_learnEvent yX1_learnEvent wsX1_learnEvent [.ref (qx 0), .int x, .int y, .ref o] [.ref (qm 0), .int x, .int y] (wO o cJ out ++ wX qx cI cJ (nI n) mk lt tg pa an la kn fb fh nb te wt bh) (wM qm cI cJ (nI n) mk lt tg pa an kn row len thr) := by
  obtain ⟨hI, hIL, htr⟩ := id hL
  have hn := hI.1
  rcases bad_or (n := 4) x (by decide) with hbad | ⟨a, ha, rfl⟩
  · refine ⟨1, nI 0, { frames := 2, cells := 0, slots := 0, locals := 42 }, n, mk, lt, tg, pa, an, la, kn, by decide, ⟨rfl, rfl, by decide, by decide⟩, ?_, ?_⟩
    · refine eg_monoL (wl_learnEvent_b l D cI cJ qx n mk lt tg pa an la kn fb fh nb te wt bh o out x y (rm := { frames := 7, cells := 1, slots := 6, locals := 103 }) ⟨rfl, rfl, by decide, by decide⟩ (c_X0_learnEvent_no1 l D cI cJ qx n mk lt tg pa an la kn fb fh nb te wt bh x y hbad hfl)) (fun r w1 h => ?_)
      obtain ⟨h0, wx, ⟨te', wt', bh', rfl⟩, rfl⟩ := h
      exact ⟨h0, fb, fh, nb, te', wt', bh', out, hL, fun h => absurd h (by decide), rfl⟩
    · refine eg_mono (c_X1_learnEvent_no1 l D cI cJ qm n mk lt tg pa an kn row len thr x y hbad) (fun r w1 h => ?_)
      obtain ⟨row', len', h0, rfl⟩ := h
      exact ⟨h0, row', len', rfl⟩
  · rcases bad_or (n := n) y (by omega) with hbad | ⟨e0, he, rfl⟩
    · refine ⟨1, nI 0, { frames := 2, cells := 0, slots := 0, locals := 43 }, n, mk, lt, tg, pa, an, la, kn, by decide, ⟨rfl, rfl, by decide, by decide⟩, ?_, ?_⟩
      · refine eg_monoL (wl_learnEvent_b l D cI cJ qx n mk lt tg pa an la kn fb fh nb te wt bh o out (nI a) y (rm := { frames := 7, cells := 1, slots := 6, locals := 103 }) ⟨rfl, rfl, by decide, by decide⟩ (c_X0_learnEvent_no2 l D cI cJ qx n mk lt tg pa an la kn fb fh nb te wt bh a y hI ha hbad hfl)) (fun r w1 h => ?_)
        obtain ⟨h0, wx, ⟨te', wt', bh', rfl⟩, rfl⟩ := h
        exact ⟨h0, fb, fh, nb, te', wt', bh', out, hL, fun h => absurd h (by decide), rfl⟩
      · refine eg_mono (c_X1_learnEvent_no2 l D cI cJ qm n mk lt tg pa an kn row len thr a y hI ha hbad) (fun r w1 h => ?_)
        obtain ⟨row', len', h0, rfl⟩ := h
        exact ⟨h0, row', len', rfl⟩
    · refine ⟨0, nI (pc64 ((an e0 ||| ol e0) &&& (kn a ^^^ (-1)))), { frames := 3, cells := 0, slots := 0, locals := 70 }, n, mk, lt, tg, pa, an, la, vp_updL kn a (kn a ||| (an e0 ||| ol e0)), by decide, ⟨rfl, rfl, by decide, by decide⟩, ?_, ?_⟩
      · refine eg_monoL (wl_learnEvent l D cI cJ qx n mk lt tg pa an la kn fb fh nb te wt bh o out (nI a) (nI e0) (rm := { frames := 2, cells := 0, slots := 0, locals := 45 }) ⟨rfl, rfl, by decide, by decide⟩ (c_X0_learnEvent l D cI cJ qx n mk lt tg pa an la kn fb fh nb te wt bh a e0 hI ha he) (fun v w1 h => by obtain ⟨h1, -⟩ := h; exact ⟨_, h1⟩)) (fun r w1 h => ?_)
        obtain ⟨h0, x8, wx, ⟨e, rfl⟩, rfl⟩ := h
        cases e
        exact ⟨h0, fb, fh, nb, te, wt, bh, _, ⟨Inv_learn hI (hI.ve he), hIL, htr⟩, fun _ => upd0, rfl⟩
      · refine eg_mono (c_X1_learnEvent l D cI cJ qm n mk lt tg pa an kn row len thr a e0 hI ha he) (fun r w1 h => ?_)
        obtain ⟨h0, rfl⟩ := h
        exact ⟨h0, row, len, rfl⟩
set_option maxHeartbeats 4000000 in
set_option maxRecDepth 100000 in
theorem pair_length (l : Launch) (D : va_G) (cI cJ : ClassId) (qx qm : Nat → Nat) (n : Nat) (mk lt tg : Nat → Int32) (pa an la kn : Nat → Int64) (fb : Int32) (fh nb te wt bh row : Nat → Int32) (len thr : Int32) (o : Nat) (out : Nat → Int64) (x : Int32) (hfl : l.stackTraces = false) (hL : LI n lt tg an la kn fb fh nb) : PAIR Value.int Int32.toInt64 D cI cJ l qx qm o 2 yL_length wsL_length yX1_length wsX1_length [.ref (qx 0), .int x, .ref o] [.ref (qm 0), .int x] (wO o cJ out ++ wX qx cI cJ (nI n) mk lt tg pa an la kn fb fh nb te wt bh) (wM qm cI cJ (nI n) mk lt tg pa an kn row len thr) := by
  obtain ⟨hI, hIL, htr⟩ := id hL
  have hn := hI.1
  rcases bad_or (n := 4) x (by decide) with hbad | ⟨a, ha, rfl⟩
  · refine ⟨1, nI 0, { frames := 3, cells := 0, slots := 0, locals := 64 }, n, mk, lt, tg, pa, an, la, kn, by decide, ⟨rfl, rfl, by decide, by decide⟩, ?_, ?_⟩
    · refine eg_monoL (wl_length_b l D cI cJ qx n mk lt tg pa an la kn fb fh nb te wt bh o out x (rm := { frames := 7, cells := 1, slots := 6, locals := 103 }) ⟨rfl, rfl, by decide, by decide⟩ (c_X0_length_no1 l D cI cJ qx n mk lt tg pa an la kn fb fh nb te wt bh x hbad hfl)) (fun r w1 h => ?_)
      obtain ⟨h0, wx, ⟨te', wt', bh', rfl⟩, rfl⟩ := h
      exact ⟨h0, fb, fh, nb, te', wt', bh', out, hL, fun h => absurd h (by decide), rfl⟩
    · refine eg_mono (c_X1_length_no1 l D cI cJ qm n mk lt tg pa an kn row len thr x hbad) (fun r w1 h => ?_)
      obtain ⟨row', len', h0, rfl⟩ := h
      exact ⟨h0, row', len', rfl⟩
  · refine ⟨0, nI (tx n lt tg (kn a)).length, { frames := 3, cells := 0, slots := 0, locals := 70 }, n, mk, lt, tg, pa, an, la, kn, by decide, ⟨rfl, rfl, by decide, by decide⟩, ?_, ?_⟩
    · refine eg_monoL (wl_length l D cI cJ qx n mk lt tg pa an la kn fb fh nb te wt bh o out (nI a) (rm := { frames := 4, cells := 0, slots := 0, locals := 97 }) ⟨rfl, rfl, by decide, by decide⟩ (c_X0_length l D cI cJ qx n mk lt tg pa an la kn fb fh nb te wt bh a hI htr ha) (fun v w1 h => by obtain ⟨_, _, h1, -⟩ := h; exact ⟨_, h1⟩)) (fun r w1 h => ?_)
      obtain ⟨h0, x8, wx, ⟨te', wt', e, rfl⟩, rfl⟩ := h
      cases e
      exact ⟨h0, fb, fh, nb, te', wt', bh, _, hL, fun _ => upd0, rfl⟩
    · refine eg_mono (c_X1_length l D cI cJ qm n mk lt tg pa an kn row len thr a hI ha) (fun r w1 h => ?_)
      obtain ⟨row', len', h0, rfl⟩ := h
      exact ⟨h0, row', len', rfl⟩
set_option maxHeartbeats 4000000 in
set_option maxRecDepth 100000 in
theorem pair_letterAt (l : Launch) (D : va_G) (cI cJ : ClassId) (qx qm : Nat → Nat) (n : Nat) (mk lt tg : Nat → Int32) (pa an la kn : Nat → Int64) (fb : Int32) (fh nb te wt bh row : Nat → Int32) (len thr : Int32) (o : Nat) (out : Nat → Int64) (x y : Int32) (hfl : l.stackTraces = false) (hL : LI n lt tg an la kn fb fh nb) : PAIR Value.int Int32.toInt64 D cI cJ l qx qm o 3 yL_letterAt wsL_letterAt yX1_letterAt wsX1_letterAt [.ref (qx 0), .int x, .int y, .ref o] [.ref (qm 0), .int x, .int y] (wO o cJ out ++ wX qx cI cJ (nI n) mk lt tg pa an la kn fb fh nb te wt bh) (wM qm cI cJ (nI n) mk lt tg pa an kn row len thr) := by
  obtain ⟨hI, hIL, htr⟩ := id hL
  have hn := hI.1
  rcases bad_or (n := 4) x (by decide) with hbad | ⟨a, ha, rfl⟩
  · refine ⟨1, nI 0, { frames := 3, cells := 0, slots := 0, locals := 64 }, n, mk, lt, tg, pa, an, la, kn, by decide, ⟨rfl, rfl, by decide, by decide⟩, ?_, ?_⟩
    · refine eg_monoL (wl_letterAt_b l D cI cJ qx n mk lt tg pa an la kn fb fh nb te wt bh o out x y (rm := { frames := 7, cells := 1, slots := 6, locals := 103 }) ⟨rfl, rfl, by decide, by decide⟩ (c_X0_letterAt_no1 l D cI cJ qx n mk lt tg pa an la kn fb fh nb te wt bh x y hbad hfl)) (fun r w1 h => ?_)
      obtain ⟨h0, wx, ⟨te', wt', bh', rfl⟩, rfl⟩ := h
      exact ⟨h0, fb, fh, nb, te', wt', bh', out, hL, fun h => absurd h (by decide), rfl⟩
    · refine eg_mono (c_X1_letterAt_no1 l D cI cJ qm n mk lt tg pa an kn row len thr x y hbad) (fun r w1 h => ?_)
      obtain ⟨row', len', h0, rfl⟩ := h
      exact ⟨h0, row', len', rfl⟩
  · rcases bad_or (n := (tx n lt tg (kn a)).length) y (by have := tx_bd hI (hI.vk ha); omega) with hbad | ⟨pp, hp, rfl⟩
    · refine ⟨1, nI 0, { frames := 3, cells := 0, slots := 0, locals := 70 }, n, mk, lt, tg, pa, an, la, kn, by decide, ⟨rfl, rfl, by decide, by decide⟩, ?_, ?_⟩
      · refine eg_monoL (wl_letterAt_b l D cI cJ qx n mk lt tg pa an la kn fb fh nb te wt bh o out (nI a) y (rm := { frames := 8, cells := 1, slots := 6, locals := 128 }) ⟨rfl, rfl, by decide, by decide⟩ (c_X0_letterAt_no2 l D cI cJ qx n mk lt tg pa an la kn fb fh nb te wt bh a y hI htr ha hbad hfl)) (fun r w1 h => ?_)
        obtain ⟨h0, wx, ⟨te', wt', bh', rfl⟩, rfl⟩ := h
        exact ⟨h0, fb, fh, nb, te', wt', bh', out, hL, fun h => absurd h (by decide), rfl⟩
      · refine eg_mono (c_X1_letterAt_no2 l D cI cJ qm n mk lt tg pa an kn row len thr a y hI ha hbad) (fun r w1 h => ?_)
        obtain ⟨row', len', h0, rfl⟩ := h
        exact ⟨h0, row', len', rfl⟩
    · refine ⟨0, lt ((tx n lt tg (kn a)).getD pp 0), { frames := 3, cells := 0, slots := 0, locals := 70 }, n, mk, lt, tg, pa, an, la, kn, by decide, ⟨rfl, rfl, by decide, by decide⟩, ?_, ?_⟩
      · refine eg_monoL (wl_letterAt l D cI cJ qx n mk lt tg pa an la kn fb fh nb te wt bh o out (nI a) (nI pp) (rm := { frames := 5, cells := 0, slots := 0, locals := 121 }) ⟨rfl, rfl, by decide, by decide⟩ (c_X0_letterAt l D cI cJ qx n mk lt tg pa an la kn fb fh nb te wt bh a pp hI htr ha hp) (fun v w1 h => by obtain ⟨_, _, _, _, h1, -⟩ := h; exact ⟨_, h1⟩)) (fun r w1 h => ?_)
        obtain ⟨h0, x8, wx, ⟨te', wt', x9, hx9, e, rfl⟩, rfl⟩ := h
        cases e
        exact ⟨h0, fb, fh, nb, te', wt', bh, _, hL, fun _ => by rw [gD hx9]; exact upd0, rfl⟩
      · refine eg_mono (c_X1_letterAt l D cI cJ qm n mk lt tg pa an kn row len thr a pp hI ha hp) (fun r w1 h => ?_)
        obtain ⟨row', len', x9, hx9, h0, rfl⟩ := h
        exact ⟨by rw [gD hx9]; exact h0, row', len', rfl⟩
set_option maxHeartbeats 4000000 in
set_option maxRecDepth 100000 in
theorem pair_letterByList (l : Launch) (D : va_G) (cI cJ : ClassId) (qx qm : Nat → Nat) (n : Nat) (mk lt tg : Nat → Int32) (pa an la kn : Nat → Int64) (fb : Int32) (fh nb te wt bh row : Nat → Int32) (len thr : Int32) (o : Nat) (out : Nat → Int64) (x y : Int32) (hfl : l.stackTraces = false) (hL : LI n lt tg an la kn fb fh nb) : PAIR Value.int Int32.toInt64 D cI cJ l qx qm o 3 yL_letterByList wsL_letterByList yX1_letterByList wsX1_letterByList [.ref (qx 0), .int x, .int y, .ref o] [.ref (qm 0), .int x, .int y] (wO o cJ out ++ wX qx cI cJ (nI n) mk lt tg pa an la kn fb fh nb te wt bh) (wM qm cI cJ (nI n) mk lt tg pa an kn row len thr) := by
  obtain ⟨hI, hIL, htr⟩ := id hL
  have hn := hI.1
  rcases bad_or (n := 4) x (by decide) with hbad | ⟨a, ha, rfl⟩
  · refine ⟨1, nI 0, { frames := 4, cells := 0, slots := 0, locals := 86 }, n, mk, lt, tg, pa, an, la, kn, by decide, ⟨rfl, rfl, by decide, by decide⟩, ?_, ?_⟩
    · refine eg_monoL (wl_letterByList_b l D cI cJ qx n mk lt tg pa an la kn fb fh nb te wt bh o out x y (rm := { frames := 7, cells := 1, slots := 6, locals := 103 }) ⟨rfl, rfl, by decide, by decide⟩ (c_X0_letterByList_no1 l D cI cJ qx n mk lt tg pa an la kn fb fh nb te wt bh x y hbad hfl)) (fun r w1 h => ?_)
      obtain ⟨h0, wx, ⟨te', wt', bh', rfl⟩, rfl⟩ := h
      exact ⟨h0, fb, fh, nb, te', wt', bh', out, hL, fun h => absurd h (by decide), rfl⟩
    · refine eg_mono (c_X1_letterByList_no1 l D cI cJ qm n mk lt tg pa an kn row len thr x y hbad) (fun r w1 h => ?_)
      obtain ⟨row', len', h0, rfl⟩ := h
      exact ⟨h0, row', len', rfl⟩
  · rcases bad_or (n := (tx n lt tg (kn a)).length) y (by have := tx_bd hI (hI.vk ha); omega) with hbad | ⟨pp, hp, rfl⟩
    · refine ⟨1, nI 0, { frames := 4, cells := 0, slots := 0, locals := 92 }, n, mk, lt, tg, pa, an, la, kn, by decide, ⟨rfl, rfl, by decide, by decide⟩, ?_, ?_⟩
      · refine eg_monoL (wl_letterByList_b l D cI cJ qx n mk lt tg pa an la kn fb fh nb te wt bh o out (nI a) y (rm := { frames := 7, cells := 1, slots := 6, locals := 104 }) ⟨rfl, rfl, by decide, by decide⟩ (c_X0_letterByList_no2 l D cI cJ qx n mk lt tg pa an la kn fb fh nb te wt bh a y hI ha hbad hfl)) (fun r w1 h => ?_)
        obtain ⟨h0, wx, ⟨te', wt', bh', rfl⟩, rfl⟩ := h
        exact ⟨h0, fb, fh, nb, te', wt', bh', out, hL, fun h => absurd h (by decide), rfl⟩
      · refine eg_mono (c_X1_letterByList_no2 l D cI cJ qm n mk lt tg pa an kn row len thr a y hI ha hbad) (fun r w1 h => ?_)
        obtain ⟨row', len', h0, rfl⟩ := h
        exact ⟨h0, row', len', rfl⟩
    · refine ⟨0, lt ((tx n lt tg (kn a)).getD pp 0), { frames := 4, cells := 0, slots := 0, locals := 92 }, n, mk, lt, tg, pa, an, la, kn, by decide, ⟨rfl, rfl, by decide, by decide⟩, ?_, ?_⟩
      · refine eg_monoL (wl_letterByList l D cI cJ qx n mk lt tg pa an la kn fb fh nb te wt bh o out (nI a) (nI pp) (rm := { frames := 4, cells := 0, slots := 0, locals := 96 }) ⟨rfl, rfl, by decide, by decide⟩ (c_X0_letterByList l D cI cJ qx n mk lt tg pa an la kn fb fh nb te wt bh a pp hI ha hp) (fun v w1 h => by obtain ⟨_, _, _, _, h1, -⟩ := h; exact ⟨_, h1⟩)) (fun r w1 h => ?_)
        obtain ⟨h0, x8, wx, ⟨te', bh', x9, hx9, e, rfl⟩, rfl⟩ := h
        cases e
        exact ⟨h0, fb, fh, nb, te', wt, bh', _, hL, fun _ => by rw [gD hx9]; exact upd0, rfl⟩
      · refine eg_mono (c_X1_letterByList l D cI cJ qm n mk lt tg pa an kn row len thr a pp hI ha hp) (fun r w1 h => ?_)
        obtain ⟨row', len', x9, hx9, h0, rfl⟩ := h
        exact ⟨by rw [gD hx9]; exact h0, row', len', rfl⟩
set_option maxHeartbeats 4000000 in
set_option maxRecDepth 100000 in
theorem pair_eventAt (l : Launch) (D : va_G) (cI cJ : ClassId) (qx qm : Nat → Nat) (n : Nat) (mk lt tg : Nat → Int32) (pa an la kn : Nat → Int64) (fb : Int32) (fh nb te wt bh row : Nat → Int32) (len thr : Int32) (o : Nat) (out : Nat → Int64) (x y : Int32) (hfl : l.stackTraces = false) (hL : LI n lt tg an la kn fb fh nb) : PAIR Value.int Int32.toInt64 D cI cJ l qx qm o 3 yL_eventAt wsL_eventAt yX1_eventAt wsX1_eventAt [.ref (qx 0), .int x, .int y, .ref o] [.ref (qm 0), .int x, .int y] (wO o cJ out ++ wX qx cI cJ (nI n) mk lt tg pa an la kn fb fh nb te wt bh) (wM qm cI cJ (nI n) mk lt tg pa an kn row len thr) := by
  obtain ⟨hI, hIL, htr⟩ := id hL
  have hn := hI.1
  rcases bad_or (n := 4) x (by decide) with hbad | ⟨a, ha, rfl⟩
  · refine ⟨1, nI 0, { frames := 3, cells := 0, slots := 0, locals := 64 }, n, mk, lt, tg, pa, an, la, kn, by decide, ⟨rfl, rfl, by decide, by decide⟩, ?_, ?_⟩
    · refine eg_monoL (wl_eventAt_b l D cI cJ qx n mk lt tg pa an la kn fb fh nb te wt bh o out x y (rm := { frames := 7, cells := 1, slots := 6, locals := 103 }) ⟨rfl, rfl, by decide, by decide⟩ (c_X0_eventAt_no1 l D cI cJ qx n mk lt tg pa an la kn fb fh nb te wt bh x y hbad hfl)) (fun r w1 h => ?_)
      obtain ⟨h0, wx, ⟨te', wt', bh', rfl⟩, rfl⟩ := h
      exact ⟨h0, fb, fh, nb, te', wt', bh', out, hL, fun h => absurd h (by decide), rfl⟩
    · refine eg_mono (c_X1_eventAt_no1 l D cI cJ qm n mk lt tg pa an kn row len thr x y hbad) (fun r w1 h => ?_)
      obtain ⟨row', len', h0, rfl⟩ := h
      exact ⟨h0, row', len', rfl⟩
  · rcases bad_or (n := (tx n lt tg (kn a)).length) y (by have := tx_bd hI (hI.vk ha); omega) with hbad | ⟨pp, hp, rfl⟩
    · refine ⟨1, nI 0, { frames := 3, cells := 0, slots := 0, locals := 70 }, n, mk, lt, tg, pa, an, la, kn, by decide, ⟨rfl, rfl, by decide, by decide⟩, ?_, ?_⟩
      · refine eg_monoL (wl_eventAt_b l D cI cJ qx n mk lt tg pa an la kn fb fh nb te wt bh o out (nI a) y (rm := { frames := 8, cells := 1, slots := 6, locals := 128 }) ⟨rfl, rfl, by decide, by decide⟩ (c_X0_eventAt_no2 l D cI cJ qx n mk lt tg pa an la kn fb fh nb te wt bh a y hI htr ha hbad hfl)) (fun r w1 h => ?_)
        obtain ⟨h0, wx, ⟨te', wt', bh', rfl⟩, rfl⟩ := h
        exact ⟨h0, fb, fh, nb, te', wt', bh', out, hL, fun h => absurd h (by decide), rfl⟩
      · refine eg_mono (c_X1_eventAt_no2 l D cI cJ qm n mk lt tg pa an kn row len thr a y hI ha hbad) (fun r w1 h => ?_)
        obtain ⟨row', len', h0, rfl⟩ := h
        exact ⟨h0, row', len', rfl⟩
    · refine ⟨0, nI ((tx n lt tg (kn a)).getD pp 0), { frames := 3, cells := 0, slots := 0, locals := 70 }, n, mk, lt, tg, pa, an, la, kn, by decide, ⟨rfl, rfl, by decide, by decide⟩, ?_, ?_⟩
      · refine eg_monoL (wl_eventAt l D cI cJ qx n mk lt tg pa an la kn fb fh nb te wt bh o out (nI a) (nI pp) (rm := { frames := 5, cells := 0, slots := 0, locals := 121 }) ⟨rfl, rfl, by decide, by decide⟩ (c_X0_eventAt l D cI cJ qx n mk lt tg pa an la kn fb fh nb te wt bh a pp hI htr ha hp) (fun v w1 h => by obtain ⟨_, _, _, _, h1, -⟩ := h; exact ⟨_, h1⟩)) (fun r w1 h => ?_)
        obtain ⟨h0, x8, wx, ⟨te', wt', x9, hx9, e, rfl⟩, rfl⟩ := h
        cases e
        exact ⟨h0, fb, fh, nb, te', wt', bh, _, hL, fun _ => by rw [gD hx9]; exact upd0, rfl⟩
      · refine eg_mono (c_X1_eventAt l D cI cJ qm n mk lt tg pa an kn row len thr a pp hI ha hp) (fun r w1 h => ?_)
        obtain ⟨row', len', x9, hx9, h0, rfl⟩ := h
        exact ⟨by rw [gD hx9]; exact h0, row', len', rfl⟩
set_option maxHeartbeats 4000000 in
set_option maxRecDepth 100000 in
theorem pair_lengthOf (l : Launch) (D : va_G) (cI cJ : ClassId) (qx qm : Nat → Nat) (n : Nat) (mk lt tg : Nat → Int32) (pa an la kn : Nat → Int64) (fb : Int32) (fh nb te wt bh row : Nat → Int32) (len thr : Int32) (o : Nat) (out : Nat → Int64) (x : Int32) (hfl : l.stackTraces = false) (hL : LI n lt tg an la kn fb fh nb) : PAIR Value.int Int32.toInt64 D cI cJ l qx qm o 2 yL_lengthOf wsL_lengthOf yX1_lengthOf wsX1_lengthOf [.ref (qx 0), .int x, .ref o] [.ref (qm 0), .int x] (wO o cJ out ++ wX qx cI cJ (nI n) mk lt tg pa an la kn fb fh nb te wt bh) (wM qm cI cJ (nI n) mk lt tg pa an kn row len thr) := by
  obtain ⟨hI, hIL, htr⟩ := id hL
  have hn := hI.1
  rcases bad_or (n := n) x (by omega) with hbad | ⟨e0, he, rfl⟩
  · refine ⟨1, nI 0, { frames := 3, cells := 0, slots := 0, locals := 65 }, n, mk, lt, tg, pa, an, la, kn, by decide, ⟨rfl, rfl, by decide, by decide⟩, ?_, ?_⟩
    · refine eg_monoL (wl_lengthOf_b l D cI cJ qx n mk lt tg pa an la kn fb fh nb te wt bh o out x (rm := { frames := 7, cells := 1, slots := 6, locals := 103 }) ⟨rfl, rfl, by decide, by decide⟩ (c_X0_lengthOf_no1 l D cI cJ qx n mk lt tg pa an la kn fb fh nb te wt bh x hbad hfl)) (fun r w1 h => ?_)
      obtain ⟨h0, wx, ⟨te', wt', bh', rfl⟩, rfl⟩ := h
      exact ⟨h0, fb, fh, nb, te', wt', bh', out, hL, fun h => absurd h (by decide), rfl⟩
    · refine eg_mono (c_X1_lengthOf_no1 l D cI cJ qm n mk lt tg pa an kn row len thr x hI hbad) (fun r w1 h => ?_)
      obtain ⟨row', len', h0, rfl⟩ := h
      exact ⟨h0, row', len', rfl⟩
  · refine ⟨0, nI (tx n lt tg (an e0 ||| ol e0)).length, { frames := 3, cells := 0, slots := 0, locals := 70 }, n, mk, lt, tg, pa, an, la, kn, by decide, ⟨rfl, rfl, by decide, by decide⟩, ?_, ?_⟩
    · refine eg_monoL (wl_lengthOf l D cI cJ qx n mk lt tg pa an la kn fb fh nb te wt bh o out (nI e0) (rm := { frames := 4, cells := 0, slots := 0, locals := 97 }) ⟨rfl, rfl, by decide, by decide⟩ (c_X0_lengthOf l D cI cJ qx n mk lt tg pa an la kn fb fh nb te wt bh e0 hI htr he) (fun v w1 h => by obtain ⟨_, _, h1, -⟩ := h; exact ⟨_, h1⟩)) (fun r w1 h => ?_)
      obtain ⟨h0, x8, wx, ⟨te', wt', e, rfl⟩, rfl⟩ := h
      cases e
      exact ⟨h0, fb, fh, nb, te', wt', bh, _, hL, fun _ => upd0, rfl⟩
    · refine eg_mono (c_X1_lengthOf l D cI cJ qm n mk lt tg pa an kn row len thr e0 hI he) (fun r w1 h => ?_)
      obtain ⟨row', len', h0, rfl⟩ := h
      exact ⟨h0, row', len', rfl⟩
set_option maxHeartbeats 4000000 in
set_option maxRecDepth 100000 in
theorem pair_letterOf (l : Launch) (D : va_G) (cI cJ : ClassId) (qx qm : Nat → Nat) (n : Nat) (mk lt tg : Nat → Int32) (pa an la kn : Nat → Int64) (fb : Int32) (fh nb te wt bh row : Nat → Int32) (len thr : Int32) (o : Nat) (out : Nat → Int64) (x y : Int32) (hfl : l.stackTraces = false) (hL : LI n lt tg an la kn fb fh nb) : PAIR Value.int Int32.toInt64 D cI cJ l qx qm o 3 yL_letterOf wsL_letterOf yX1_letterOf wsX1_letterOf [.ref (qx 0), .int x, .int y, .ref o] [.ref (qm 0), .int x, .int y] (wO o cJ out ++ wX qx cI cJ (nI n) mk lt tg pa an la kn fb fh nb te wt bh) (wM qm cI cJ (nI n) mk lt tg pa an kn row len thr) := by
  obtain ⟨hI, hIL, htr⟩ := id hL
  have hn := hI.1
  rcases bad_or (n := n) x (by omega) with hbad | ⟨e0, he, rfl⟩
  · refine ⟨1, nI 0, { frames := 3, cells := 0, slots := 0, locals := 65 }, n, mk, lt, tg, pa, an, la, kn, by decide, ⟨rfl, rfl, by decide, by decide⟩, ?_, ?_⟩
    · refine eg_monoL (wl_letterOf_b l D cI cJ qx n mk lt tg pa an la kn fb fh nb te wt bh o out x y (rm := { frames := 7, cells := 1, slots := 6, locals := 103 }) ⟨rfl, rfl, by decide, by decide⟩ (c_X0_letterOf_no1 l D cI cJ qx n mk lt tg pa an la kn fb fh nb te wt bh x y hbad hfl)) (fun r w1 h => ?_)
      obtain ⟨h0, wx, ⟨te', wt', bh', rfl⟩, rfl⟩ := h
      exact ⟨h0, fb, fh, nb, te', wt', bh', out, hL, fun h => absurd h (by decide), rfl⟩
    · refine eg_mono (c_X1_letterOf_no1 l D cI cJ qm n mk lt tg pa an kn row len thr x y hI hbad) (fun r w1 h => ?_)
      obtain ⟨row', len', h0, rfl⟩ := h
      exact ⟨h0, row', len', rfl⟩
  · rcases bad_or (n := (tx n lt tg (an e0 ||| ol e0)).length) y (by have := tx_bd hI (hI.ve he); omega) with hbad | ⟨pp, hp, rfl⟩
    · refine ⟨1, nI 0, { frames := 3, cells := 0, slots := 0, locals := 70 }, n, mk, lt, tg, pa, an, la, kn, by decide, ⟨rfl, rfl, by decide, by decide⟩, ?_, ?_⟩
      · refine eg_monoL (wl_letterOf_b l D cI cJ qx n mk lt tg pa an la kn fb fh nb te wt bh o out (nI e0) y (rm := { frames := 8, cells := 1, slots := 6, locals := 128 }) ⟨rfl, rfl, by decide, by decide⟩ (c_X0_letterOf_no2 l D cI cJ qx n mk lt tg pa an la kn fb fh nb te wt bh e0 y hI htr he hbad hfl)) (fun r w1 h => ?_)
        obtain ⟨h0, wx, ⟨te', wt', bh', rfl⟩, rfl⟩ := h
        exact ⟨h0, fb, fh, nb, te', wt', bh', out, hL, fun h => absurd h (by decide), rfl⟩
      · refine eg_mono (c_X1_letterOf_no2 l D cI cJ qm n mk lt tg pa an kn row len thr e0 y hI he hbad) (fun r w1 h => ?_)
        obtain ⟨row', len', h0, rfl⟩ := h
        exact ⟨h0, row', len', rfl⟩
    · refine ⟨0, lt ((tx n lt tg (an e0 ||| ol e0)).getD pp 0), { frames := 3, cells := 0, slots := 0, locals := 70 }, n, mk, lt, tg, pa, an, la, kn, by decide, ⟨rfl, rfl, by decide, by decide⟩, ?_, ?_⟩
      · refine eg_monoL (wl_letterOf l D cI cJ qx n mk lt tg pa an la kn fb fh nb te wt bh o out (nI e0) (nI pp) (rm := { frames := 5, cells := 0, slots := 0, locals := 121 }) ⟨rfl, rfl, by decide, by decide⟩ (c_X0_letterOf l D cI cJ qx n mk lt tg pa an la kn fb fh nb te wt bh e0 pp hI htr he hp) (fun v w1 h => by obtain ⟨_, _, _, _, h1, -⟩ := h; exact ⟨_, h1⟩)) (fun r w1 h => ?_)
        obtain ⟨h0, x8, wx, ⟨te', wt', x9, hx9, e, rfl⟩, rfl⟩ := h
        cases e
        exact ⟨h0, fb, fh, nb, te', wt', bh, _, hL, fun _ => by rw [gD hx9]; exact upd0, rfl⟩
      · refine eg_mono (c_X1_letterOf l D cI cJ qm n mk lt tg pa an kn row len thr e0 pp hI he hp) (fun r w1 h => ?_)
        obtain ⟨row', len', x9, hx9, h0, rfl⟩ := h
        exact ⟨by rw [gD hx9]; exact h0, row', len', rfl⟩
set_option maxHeartbeats 4000000 in
set_option maxRecDepth 100000 in
theorem pair_lettersBy (l : Launch) (D : va_G) (cI cJ : ClassId) (qx qm : Nat → Nat) (n : Nat) (mk lt tg : Nat → Int32) (pa an la kn : Nat → Int64) (fb : Int32) (fh nb te wt bh row : Nat → Int32) (len thr : Int32) (o : Nat) (out : Nat → Int64) (x y : Int32) (hfl : l.stackTraces = false) (hL : LI n lt tg an la kn fb fh nb) : PAIR Value.int Int32.toInt64 D cI cJ l qx qm o 6 yL_lettersBy wsL_lettersBy yX1_lettersBy wsX1_lettersBy [.ref (qx 0), .int x, .int y, .ref o] [.ref (qm 0), .int x, .int y] (wO o cJ out ++ wX qx cI cJ (nI n) mk lt tg pa an la kn fb fh nb te wt bh) (wM qm cI cJ (nI n) mk lt tg pa an kn row len thr) := by
  obtain ⟨hI, hIL, htr⟩ := id hL
  have hn := hI.1
  rcases bad_or (n := 4) x (by decide) with hbad | ⟨a, ha, rfl⟩
  · refine ⟨1, nI 0, { frames := 2, cells := 0, slots := 0, locals := 42 }, n, mk, lt, tg, pa, an, la, kn, by decide, ⟨rfl, rfl, by decide, by decide⟩, ?_, ?_⟩
    · refine eg_monoL (wl_lettersBy_b l D cI cJ qx n mk lt tg pa an la kn fb fh nb te wt bh o out x y (rm := { frames := 7, cells := 1, slots := 6, locals := 103 }) ⟨rfl, rfl, by decide, by decide⟩ (c_X0_lettersBy_no1 l D cI cJ qx n mk lt tg pa an la kn fb fh nb te wt bh x y hbad hfl)) (fun r w1 h => ?_)
      obtain ⟨h0, wx, ⟨te', wt', bh', rfl⟩, rfl⟩ := h
      exact ⟨h0, fb, fh, nb, te', wt', bh', out, hL, fun h => absurd h (by decide), rfl⟩
    · refine eg_mono (c_X1_lettersBy_no1 l D cI cJ qm n mk lt tg pa an kn row len thr x y hbad) (fun r w1 h => ?_)
      obtain ⟨row', len', h0, rfl⟩ := h
      exact ⟨h0, row', len', rfl⟩
  · rcases bad_or (n := 4) y (by decide) with hbad | ⟨b, hb4, rfl⟩
    · refine ⟨1, nI 0, { frames := 2, cells := 0, slots := 0, locals := 42 }, n, mk, lt, tg, pa, an, la, kn, by decide, ⟨rfl, rfl, by decide, by decide⟩, ?_, ?_⟩
      · refine eg_monoL (wl_lettersBy_b l D cI cJ qx n mk lt tg pa an la kn fb fh nb te wt bh o out (nI a) y (rm := { frames := 7, cells := 1, slots := 6, locals := 103 }) ⟨rfl, rfl, by decide, by decide⟩ (c_X0_lettersBy_no2 l D cI cJ qx n mk lt tg pa an la kn fb fh nb te wt bh a y ha hbad hfl)) (fun r w1 h => ?_)
        obtain ⟨h0, wx, ⟨te', wt', bh', rfl⟩, rfl⟩ := h
        exact ⟨h0, fb, fh, nb, te', wt', bh', out, hL, fun h => absurd h (by decide), rfl⟩
      · refine eg_mono (c_X1_lettersBy_no2 l D cI cJ qm n mk lt tg pa an kn row len thr a y hI ha hbad) (fun r w1 h => ?_)
        obtain ⟨row', len', h0, rfl⟩ := h
        exact ⟨h0, row', len', rfl⟩
    · refine ⟨0, nI (ct (fun j => decide (mk ((tx n lt tg (kn a)).getD j 0) = nI b)) (tx n lt tg (kn a)).length), { frames := 2, cells := 0, slots := 0, locals := 48 }, n, mk, lt, tg, pa, an, la, kn, by decide, ⟨rfl, rfl, by decide, by decide⟩, ?_, ?_⟩
      · refine eg_monoL (wl_lettersBy l D cI cJ qx n mk lt tg pa an la kn fb fh nb te wt bh o out (nI a) (nI b) (rm := { frames := 4, cells := 0, slots := 0, locals := 97 }) ⟨rfl, rfl, by decide, by decide⟩ (c_X0_lettersBy l D cI cJ qx n mk lt tg pa an la kn fb fh nb te wt bh a b hI htr ha hb4) (fun v w1 h => by obtain ⟨_, _, h1, -⟩ := h; exact ⟨_, h1⟩)) (fun r w1 h => ?_)
        obtain ⟨h0, x8, wx, ⟨te', wt', e, rfl⟩, rfl⟩ := h
        cases e
        exact ⟨h0, fb, fh, nb, te', wt', bh, _, hL, fun _ => upd0, rfl⟩
      · refine eg_mono (c_X1_lettersBy l D cI cJ qm n mk lt tg pa an kn row len thr a b hI ha hb4) (fun r w1 h => ?_)
        obtain ⟨row', len', h0, rfl⟩ := h
        exact ⟨h0, row', len', rfl⟩
set_option maxHeartbeats 4000000 in
set_option maxRecDepth 100000 in
theorem pair_authorOf (l : Launch) (D : va_G) (cI cJ : ClassId) (qx qm : Nat → Nat) (n : Nat) (mk lt tg : Nat → Int32) (pa an la kn : Nat → Int64) (fb : Int32) (fh nb te wt bh row : Nat → Int32) (len thr : Int32) (o : Nat) (out : Nat → Int64) (x : Int32) (hfl : l.stackTraces = false) (hL : LI n lt tg an la kn fb fh nb) : PAIR Value.int Int32.toInt64 D cI cJ l qx qm o 2 yL_authorOf wsL_authorOf yX1_authorOf wsX1_authorOf [.ref (qx 0), .int x, .ref o] [.ref (qm 0), .int x] (wO o cJ out ++ wX qx cI cJ (nI n) mk lt tg pa an la kn fb fh nb te wt bh) (wM qm cI cJ (nI n) mk lt tg pa an kn row len thr) := by
  obtain ⟨hI, hIL, htr⟩ := id hL
  have hn := hI.1
  rcases bad_or (n := n) x (by omega) with hbad | ⟨e0, he, rfl⟩
  · refine ⟨1, nI 0, { frames := 2, cells := 0, slots := 0, locals := 43 }, n, mk, lt, tg, pa, an, la, kn, by decide, ⟨rfl, rfl, by decide, by decide⟩, ?_, ?_⟩
    · refine eg_monoL (wl_authorOf_b l D cI cJ qx n mk lt tg pa an la kn fb fh nb te wt bh o out x (rm := { frames := 7, cells := 1, slots := 6, locals := 103 }) ⟨rfl, rfl, by decide, by decide⟩ (c_X0_authorOf_no1 l D cI cJ qx n mk lt tg pa an la kn fb fh nb te wt bh x hbad hfl)) (fun r w1 h => ?_)
      obtain ⟨h0, wx, ⟨te', wt', bh', rfl⟩, rfl⟩ := h
      exact ⟨h0, fb, fh, nb, te', wt', bh', out, hL, fun h => absurd h (by decide), rfl⟩
    · refine eg_mono (c_X1_authorOf_no1 l D cI cJ qm n mk lt tg pa an kn row len thr x hI hbad) (fun r w1 h => ?_)
      obtain ⟨row', len', h0, rfl⟩ := h
      exact ⟨h0, row', len', rfl⟩
  · refine ⟨0, mk e0, { frames := 2, cells := 0, slots := 0, locals := 43 }, n, mk, lt, tg, pa, an, la, kn, by decide, ⟨rfl, rfl, by decide, by decide⟩, ?_, ?_⟩
    · refine eg_monoL (wl_authorOf l D cI cJ qx n mk lt tg pa an la kn fb fh nb te wt bh o out (nI e0) (rm := { frames := 2, cells := 0, slots := 0, locals := 42 }) ⟨rfl, rfl, by decide, by decide⟩ (eg_toW (c_X0_authorOf l D cI cJ qx n mk lt tg pa an la kn fb fh nb te wt bh e0 hI he)) (fun v w1 h => ⟨_, h.1⟩)) (fun r w1 h => ?_)
      obtain ⟨h0, x8, wx, ⟨e, rfl⟩, rfl⟩ := h
      cases e
      exact ⟨h0, fb, fh, nb, te, wt, bh, _, hL, fun _ => upd0, rfl⟩
    · refine eg_mono (c_X1_authorOf l D cI cJ qm n mk lt tg pa an kn row len thr e0 hI he) (fun r w1 h => ?_)
      obtain ⟨h0, rfl⟩ := h
      exact ⟨h0, row, len, rfl⟩
set_option maxHeartbeats 4000000 in
set_option maxRecDepth 100000 in
theorem pair_parents (l : Launch) (D : va_G) (cI cJ : ClassId) (qx qm : Nat → Nat) (n : Nat) (mk lt tg : Nat → Int32) (pa an la kn : Nat → Int64) (fb : Int32) (fh nb te wt bh row : Nat → Int32) (len thr : Int32) (o : Nat) (out : Nat → Int64) (x : Int32) (hfl : l.stackTraces = false) (hL : LI n lt tg an la kn fb fh nb) : PAIR Value.long id D cI cJ l qx qm o 2 yL_parents wsL_parents yX1_parents wsX1_parents [.ref (qx 0), .int x, .ref o] [.ref (qm 0), .int x] (wO o cJ out ++ wX qx cI cJ (nI n) mk lt tg pa an la kn fb fh nb te wt bh) (wM qm cI cJ (nI n) mk lt tg pa an kn row len thr) := by
  obtain ⟨hI, hIL, htr⟩ := id hL
  have hn := hI.1
  rcases bad_or (n := n) x (by omega) with hbad | ⟨e0, he, rfl⟩
  · refine ⟨1, 0, { frames := 2, cells := 0, slots := 0, locals := 43 }, n, mk, lt, tg, pa, an, la, kn, by decide, ⟨rfl, rfl, by decide, by decide⟩, ?_, ?_⟩
    · refine eg_monoL (wl_parents_b l D cI cJ qx n mk lt tg pa an la kn fb fh nb te wt bh o out x (rm := { frames := 7, cells := 1, slots := 6, locals := 103 }) ⟨rfl, rfl, by decide, by decide⟩ (c_X0_parents_no1 l D cI cJ qx n mk lt tg pa an la kn fb fh nb te wt bh x hbad hfl)) (fun r w1 h => ?_)
      obtain ⟨h0, wx, ⟨te', wt', bh', rfl⟩, rfl⟩ := h
      exact ⟨h0, fb, fh, nb, te', wt', bh', out, hL, fun h => absurd h (by decide), rfl⟩
    · refine eg_mono (c_X1_parents_no1 l D cI cJ qm n mk lt tg pa an kn row len thr x hI hbad) (fun r w1 h => ?_)
      obtain ⟨row', len', h0, rfl⟩ := h
      exact ⟨h0, row', len', rfl⟩
  · refine ⟨0, pa e0, { frames := 2, cells := 0, slots := 0, locals := 43 }, n, mk, lt, tg, pa, an, la, kn, by decide, ⟨rfl, rfl, by decide, by decide⟩, ?_, ?_⟩
    · refine eg_monoL (wl_parents l D cI cJ qx n mk lt tg pa an la kn fb fh nb te wt bh o out (nI e0) (rm := { frames := 2, cells := 0, slots := 0, locals := 42 }) ⟨rfl, rfl, by decide, by decide⟩ (eg_toW (c_X0_parents l D cI cJ qx n mk lt tg pa an la kn fb fh nb te wt bh e0 hI he)) (fun v w1 h => ⟨_, h.1⟩)) (fun r w1 h => ?_)
      obtain ⟨h0, x8, wx, ⟨e, rfl⟩, rfl⟩ := h
      cases e
      exact ⟨h0, fb, fh, nb, te, wt, bh, _, hL, fun _ => upd0, rfl⟩
    · refine eg_mono (c_X1_parents l D cI cJ qm n mk lt tg pa an kn row len thr e0 hI he) (fun r w1 h => ?_)
      obtain ⟨h0, rfl⟩ := h
      exact ⟨h0, row, len, rfl⟩
set_option maxHeartbeats 4000000 in
set_option maxRecDepth 100000 in
theorem pair_isLater (l : Launch) (D : va_G) (cI cJ : ClassId) (qx qm : Nat → Nat) (n : Nat) (mk lt tg : Nat → Int32) (pa an la kn : Nat → Int64) (fb : Int32) (fh nb te wt bh row : Nat → Int32) (len thr : Int32) (o : Nat) (out : Nat → Int64) (x y : Int32) (hfl : l.stackTraces = false) (hL : LI n lt tg an la kn fb fh nb) : PAIR (fun b => Value.int (eb b)) (fun b => (eb b).toInt64) D cI cJ l qx qm o 3 yL_isLater wsL_isLater yX1_isLater wsX1_isLater [.ref (qx 0), .int x, .int y, .ref o] [.ref (qm 0), .int x, .int y] (wO o cJ out ++ wX qx cI cJ (nI n) mk lt tg pa an la kn fb fh nb te wt bh) (wM qm cI cJ (nI n) mk lt tg pa an kn row len thr) := by
  obtain ⟨hI, hIL, htr⟩ := id hL
  have hn := hI.1
  rcases bad_or (n := n) x (by omega) with hbad | ⟨e0, he, rfl⟩
  · refine ⟨1, false, { frames := 2, cells := 0, slots := 0, locals := 43 }, n, mk, lt, tg, pa, an, la, kn, by decide, ⟨rfl, rfl, by decide, by decide⟩, ?_, ?_⟩
    · refine eg_monoL (wl_isLater_b l D cI cJ qx n mk lt tg pa an la kn fb fh nb te wt bh o out x y (rm := { frames := 7, cells := 1, slots := 6, locals := 103 }) ⟨rfl, rfl, by decide, by decide⟩ (c_X0_isLater_no1 l D cI cJ qx n mk lt tg pa an la kn fb fh nb te wt bh x y hbad hfl)) (fun r w1 h => ?_)
      obtain ⟨h0, wx, ⟨te', wt', bh', rfl⟩, rfl⟩ := h
      exact ⟨h0, fb, fh, nb, te', wt', bh', out, hL, fun h => absurd h (by decide), rfl⟩
    · refine eg_mono (c_X1_isLater_no1 l D cI cJ qm n mk lt tg pa an kn row len thr x y hI hbad) (fun r w1 h => ?_)
      obtain ⟨row', len', h0, rfl⟩ := h
      exact ⟨h0, row', len', rfl⟩
  · rcases bad_or (n := n) y (by omega) with hbad | ⟨e1, he1, rfl⟩
    · refine ⟨1, false, { frames := 2, cells := 0, slots := 0, locals := 43 }, n, mk, lt, tg, pa, an, la, kn, by decide, ⟨rfl, rfl, by decide, by decide⟩, ?_, ?_⟩
      · refine eg_monoL (wl_isLater_b l D cI cJ qx n mk lt tg pa an la kn fb fh nb te wt bh o out (nI e0) y (rm := { frames := 7, cells := 1, slots := 6, locals := 103 }) ⟨rfl, rfl, by decide, by decide⟩ (c_X0_isLater_no2 l D cI cJ qx n mk lt tg pa an la kn fb fh nb te wt bh e0 y hI he hbad hfl)) (fun r w1 h => ?_)
        obtain ⟨h0, wx, ⟨te', wt', bh', rfl⟩, rfl⟩ := h
        exact ⟨h0, fb, fh, nb, te', wt', bh', out, hL, fun h => absurd h (by decide), rfl⟩
      · refine eg_mono (c_X1_isLater_no2 l D cI cJ qm n mk lt tg pa an kn row len thr e0 y hI he hbad) (fun r w1 h => ?_)
        obtain ⟨row', len', h0, rfl⟩ := h
        exact ⟨h0, row', len', rfl⟩
    · refine ⟨0, bi (an e0) e1, { frames := 2, cells := 0, slots := 0, locals := 43 }, n, mk, lt, tg, pa, an, la, kn, by decide, ⟨rfl, rfl, by decide, by decide⟩, ?_, ?_⟩
      · refine eg_monoL (wl_isLater l D cI cJ qx n mk lt tg pa an la kn fb fh nb te wt bh o out (nI e0) (nI e1) (rm := { frames := 2, cells := 0, slots := 0, locals := 42 }) ⟨rfl, rfl, by decide, by decide⟩ (eg_toW (c_X0_isLater l D cI cJ qx n mk lt tg pa an la kn fb fh nb te wt bh e0 e1 hI he he1)) (fun v w1 h => ⟨_, h.1⟩)) (fun r w1 h => ?_)
        obtain ⟨h0, x8, wx, ⟨e, rfl⟩, rfl⟩ := h
        have e : x8 = bi (an e0) e1 := by revert e; cases x8 <;> cases bi (an e0) e1 <;> decide
        subst e
        exact ⟨h0, fb, fh, nb, te, wt, bh, _, hL, fun _ => upd0, rfl⟩
      · refine eg_mono (c_X1_isLater l D cI cJ qm n mk lt tg pa an kn row len thr e0 e1 hI he he1) (fun r w1 h => ?_)
        obtain ⟨h0, rfl⟩ := h
        exact ⟨h0, row, len, rfl⟩
set_option maxHeartbeats 4000000 in
set_option maxRecDepth 100000 in
theorem pair_version (l : Launch) (D : va_G) (cI cJ : ClassId) (qx qm : Nat → Nat) (n : Nat) (mk lt tg : Nat → Int32) (pa an la kn : Nat → Int64) (fb : Int32) (fh nb te wt bh row : Nat → Int32) (len thr : Int32) (o : Nat) (out : Nat → Int64) (x : Int32) (hfl : l.stackTraces = false) (hL : LI n lt tg an la kn fb fh nb) : PAIR Value.long id D cI cJ l qx qm o 2 yL_version wsL_version yX1_version wsX1_version [.ref (qx 0), .int x, .ref o] [.ref (qm 0), .int x] (wO o cJ out ++ wX qx cI cJ (nI n) mk lt tg pa an la kn fb fh nb te wt bh) (wM qm cI cJ (nI n) mk lt tg pa an kn row len thr) := by
  obtain ⟨hI, hIL, htr⟩ := id hL
  have hn := hI.1
  rcases bad_or (n := 4) x (by decide) with hbad | ⟨a, ha, rfl⟩
  · refine ⟨1, 0, { frames := 2, cells := 0, slots := 0, locals := 42 }, n, mk, lt, tg, pa, an, la, kn, by decide, ⟨rfl, rfl, by decide, by decide⟩, ?_, ?_⟩
    · refine eg_monoL (wl_version_b l D cI cJ qx n mk lt tg pa an la kn fb fh nb te wt bh o out x (rm := { frames := 7, cells := 1, slots := 6, locals := 103 }) ⟨rfl, rfl, by decide, by decide⟩ (c_X0_version_no1 l D cI cJ qx n mk lt tg pa an la kn fb fh nb te wt bh x hbad hfl)) (fun r w1 h => ?_)
      obtain ⟨h0, wx, ⟨te', wt', bh', rfl⟩, rfl⟩ := h
      exact ⟨h0, fb, fh, nb, te', wt', bh', out, hL, fun h => absurd h (by decide), rfl⟩
    · refine eg_mono (c_X1_version_no1 l D cI cJ qm n mk lt tg pa an kn row len thr x hbad) (fun r w1 h => ?_)
      obtain ⟨row', len', h0, rfl⟩ := h
      exact ⟨h0, row', len', rfl⟩
  · refine ⟨0, kn a, { frames := 2, cells := 0, slots := 0, locals := 42 }, n, mk, lt, tg, pa, an, la, kn, by decide, ⟨rfl, rfl, by decide, by decide⟩, ?_, ?_⟩
    · refine eg_monoL (wl_version l D cI cJ qx n mk lt tg pa an la kn fb fh nb te wt bh o out (nI a) (rm := { frames := 1, cells := 0, slots := 0, locals := 21 }) ⟨rfl, rfl, by decide, by decide⟩ (eg_toW (c_X0_version l D cI cJ qx n mk lt tg pa an la kn fb fh nb te wt bh a ha)) (fun v w1 h => ⟨_, h.1⟩)) (fun r w1 h => ?_)
      obtain ⟨h0, x8, wx, ⟨e, rfl⟩, rfl⟩ := h
      cases e
      exact ⟨h0, fb, fh, nb, te, wt, bh, _, hL, fun _ => upd0, rfl⟩
    · refine eg_mono (c_X1_version l D cI cJ qm n mk lt tg pa an kn row len thr a ha) (fun r w1 h => ?_)
      obtain ⟨h0, rfl⟩ := h
      exact ⟨h0, row, len, rfl⟩
set_option maxHeartbeats 4000000 in
set_option maxRecDepth 100000 in
theorem pair_heads (l : Launch) (D : va_G) (cI cJ : ClassId) (qx qm : Nat → Nat) (n : Nat) (mk lt tg : Nat → Int32) (pa an la kn : Nat → Int64) (fb : Int32) (fh nb te wt bh row : Nat → Int32) (len thr : Int32) (o : Nat) (out : Nat → Int64) (x : Int32) (hfl : l.stackTraces = false) (hL : LI n lt tg an la kn fb fh nb) : PAIR Value.long id D cI cJ l qx qm o 2 yL_heads wsL_heads yX1_heads wsX1_heads [.ref (qx 0), .int x, .ref o] [.ref (qm 0), .int x] (wO o cJ out ++ wX qx cI cJ (nI n) mk lt tg pa an la kn fb fh nb te wt bh) (wM qm cI cJ (nI n) mk lt tg pa an kn row len thr) := by
  obtain ⟨hI, hIL, htr⟩ := id hL
  have hn := hI.1
  rcases bad_or (n := 4) x (by decide) with hbad | ⟨a, ha, rfl⟩
  · refine ⟨1, 0, { frames := 2, cells := 0, slots := 0, locals := 42 }, n, mk, lt, tg, pa, an, la, kn, by decide, ⟨rfl, rfl, by decide, by decide⟩, ?_, ?_⟩
    · refine eg_monoL (wl_heads_b l D cI cJ qx n mk lt tg pa an la kn fb fh nb te wt bh o out x (rm := { frames := 7, cells := 1, slots := 6, locals := 103 }) ⟨rfl, rfl, by decide, by decide⟩ (c_X0_heads_no1 l D cI cJ qx n mk lt tg pa an la kn fb fh nb te wt bh x hbad hfl)) (fun r w1 h => ?_)
      obtain ⟨h0, wx, ⟨te', wt', bh', rfl⟩, rfl⟩ := h
      exact ⟨h0, fb, fh, nb, te', wt', bh', out, hL, fun h => absurd h (by decide), rfl⟩
    · refine eg_mono (c_X1_heads_no1 l D cI cJ qm n mk lt tg pa an kn row len thr x hbad) (fun r w1 h => ?_)
      obtain ⟨row', len', h0, rfl⟩ := h
      exact ⟨h0, row', len', rfl⟩
  · refine ⟨0, hdX pa (kn a) n, { frames := 2, cells := 0, slots := 0, locals := 47 }, n, mk, lt, tg, pa, an, la, kn, by decide, ⟨rfl, rfl, by decide, by decide⟩, ?_, ?_⟩
    · refine eg_monoL (wl_heads l D cI cJ qx n mk lt tg pa an la kn fb fh nb te wt bh o out (nI a) (rm := { frames := 3, cells := 0, slots := 0, locals := 67 }) ⟨rfl, rfl, by decide, by decide⟩ (eg_toW (c_X0_heads l D cI cJ qx n mk lt tg pa an la kn fb fh nb te wt bh a hI ha)) (fun v w1 h => ⟨_, h.1⟩)) (fun r w1 h => ?_)
      obtain ⟨h0, x8, wx, ⟨e, rfl⟩, rfl⟩ := h
      cases e
      exact ⟨h0, fb, fh, nb, te, wt, bh, _, hL, fun _ => upd0, rfl⟩
    · refine eg_mono (c_X1_heads l D cI cJ qm n mk lt tg pa an kn row len thr a hI ha) (fun r w1 h => ?_)
      obtain ⟨h0, rfl⟩ := h
      exact ⟨h0, row, len, rfl⟩
set_option maxHeartbeats 4000000 in
set_option maxRecDepth 100000 in
theorem pair_commonHeads (l : Launch) (D : va_G) (cI cJ : ClassId) (qx qm : Nat → Nat) (n : Nat) (mk lt tg : Nat → Int32) (pa an la kn : Nat → Int64) (fb : Int32) (fh nb te wt bh row : Nat → Int32) (len thr : Int32) (o : Nat) (out : Nat → Int64) (x y : Int32) (hfl : l.stackTraces = false) (hL : LI n lt tg an la kn fb fh nb) : PAIR Value.long id D cI cJ l qx qm o 3 yL_commonHeads wsL_commonHeads yX1_commonHeads wsX1_commonHeads [.ref (qx 0), .int x, .int y, .ref o] [.ref (qm 0), .int x, .int y] (wO o cJ out ++ wX qx cI cJ (nI n) mk lt tg pa an la kn fb fh nb te wt bh) (wM qm cI cJ (nI n) mk lt tg pa an kn row len thr) := by
  obtain ⟨hI, hIL, htr⟩ := id hL
  have hn := hI.1
  rcases bad_or (n := 4) x (by decide) with hbad | ⟨a, ha, rfl⟩
  · refine ⟨1, 0, { frames := 2, cells := 0, slots := 0, locals := 42 }, n, mk, lt, tg, pa, an, la, kn, by decide, ⟨rfl, rfl, by decide, by decide⟩, ?_, ?_⟩
    · refine eg_monoL (wl_commonHeads_b l D cI cJ qx n mk lt tg pa an la kn fb fh nb te wt bh o out x y (rm := { frames := 7, cells := 1, slots := 6, locals := 103 }) ⟨rfl, rfl, by decide, by decide⟩ (c_X0_commonHeads_no1 l D cI cJ qx n mk lt tg pa an la kn fb fh nb te wt bh x y hbad hfl)) (fun r w1 h => ?_)
      obtain ⟨h0, wx, ⟨te', wt', bh', rfl⟩, rfl⟩ := h
      exact ⟨h0, fb, fh, nb, te', wt', bh', out, hL, fun h => absurd h (by decide), rfl⟩
    · refine eg_mono (c_X1_commonHeads_no1 l D cI cJ qm n mk lt tg pa an kn row len thr x y hbad) (fun r w1 h => ?_)
      obtain ⟨row', len', h0, rfl⟩ := h
      exact ⟨h0, row', len', rfl⟩
  · rcases bad_or (n := 4) y (by decide) with hbad | ⟨b, hb4, rfl⟩
    · refine ⟨1, 0, { frames := 2, cells := 0, slots := 0, locals := 42 }, n, mk, lt, tg, pa, an, la, kn, by decide, ⟨rfl, rfl, by decide, by decide⟩, ?_, ?_⟩
      · refine eg_monoL (wl_commonHeads_b l D cI cJ qx n mk lt tg pa an la kn fb fh nb te wt bh o out (nI a) y (rm := { frames := 7, cells := 1, slots := 6, locals := 103 }) ⟨rfl, rfl, by decide, by decide⟩ (c_X0_commonHeads_no2 l D cI cJ qx n mk lt tg pa an la kn fb fh nb te wt bh a y ha hbad hfl)) (fun r w1 h => ?_)
        obtain ⟨h0, wx, ⟨te', wt', bh', rfl⟩, rfl⟩ := h
        exact ⟨h0, fb, fh, nb, te', wt', bh', out, hL, fun h => absurd h (by decide), rfl⟩
      · refine eg_mono (c_X1_commonHeads_no2 l D cI cJ qm n mk lt tg pa an kn row len thr a y hI ha hbad) (fun r w1 h => ?_)
        obtain ⟨row', len', h0, rfl⟩ := h
        exact ⟨h0, row', len', rfl⟩
    · refine ⟨0, hdX pa (kn a &&& kn b) n, { frames := 2, cells := 0, slots := 0, locals := 47 }, n, mk, lt, tg, pa, an, la, kn, by decide, ⟨rfl, rfl, by decide, by decide⟩, ?_, ?_⟩
      · refine eg_monoL (wl_commonHeads l D cI cJ qx n mk lt tg pa an la kn fb fh nb te wt bh o out (nI a) (nI b) (rm := { frames := 3, cells := 0, slots := 0, locals := 67 }) ⟨rfl, rfl, by decide, by decide⟩ (eg_toW (c_X0_commonHeads l D cI cJ qx n mk lt tg pa an la kn fb fh nb te wt bh a b hI ha hb4)) (fun v w1 h => ⟨_, h.1⟩)) (fun r w1 h => ?_)
        obtain ⟨h0, x8, wx, ⟨e, rfl⟩, rfl⟩ := h
        cases e
        exact ⟨h0, fb, fh, nb, te, wt, bh, _, hL, fun _ => upd0, rfl⟩
      · refine eg_mono (c_X1_commonHeads l D cI cJ qm n mk lt tg pa an kn row len thr a b hI ha hb4) (fun r w1 h => ?_)
        obtain ⟨h0, rfl⟩ := h
        exact ⟨h0, row, len, rfl⟩
set_option maxHeartbeats 4000000 in
set_option maxRecDepth 100000 in
theorem pair_concurrent (l : Launch) (D : va_G) (cI cJ : ClassId) (qx qm : Nat → Nat) (n : Nat) (mk lt tg : Nat → Int32) (pa an la kn : Nat → Int64) (fb : Int32) (fh nb te wt bh row : Nat → Int32) (len thr : Int32) (o : Nat) (out : Nat → Int64) (x : Int32) (hfl : l.stackTraces = false) (hL : LI n lt tg an la kn fb fh nb) : PAIR Value.int Int32.toInt64 D cI cJ l qx qm o 6 yL_concurrent wsL_concurrent yX1_concurrent wsX1_concurrent [.ref (qx 0), .int x, .ref o] [.ref (qm 0), .int x] (wO o cJ out ++ wX qx cI cJ (nI n) mk lt tg pa an la kn fb fh nb te wt bh) (wM qm cI cJ (nI n) mk lt tg pa an kn row len thr) := by
  obtain ⟨hI, hIL, htr⟩ := id hL
  have hn := hI.1
  rcases bad_or (n := 4) x (by decide) with hbad | ⟨a, ha, rfl⟩
  · refine ⟨1, nI 0, { frames := 2, cells := 0, slots := 0, locals := 42 }, n, mk, lt, tg, pa, an, la, kn, by decide, ⟨rfl, rfl, by decide, by decide⟩, ?_, ?_⟩
    · refine eg_monoL (wl_concurrent_b l D cI cJ qx n mk lt tg pa an la kn fb fh nb te wt bh o out x (rm := { frames := 7, cells := 1, slots := 6, locals := 103 }) ⟨rfl, rfl, by decide, by decide⟩ (c_X0_concurrent_no1 l D cI cJ qx n mk lt tg pa an la kn fb fh nb te wt bh x hbad hfl)) (fun r w1 h => ?_)
      obtain ⟨h0, wx, ⟨te', wt', bh', rfl⟩, rfl⟩ := h
      exact ⟨h0, fb, fh, nb, te', wt', bh', out, hL, fun h => absurd h (by decide), rfl⟩
    · refine eg_mono (c_X1_concurrent_no1 l D cI cJ qm n mk lt tg pa an kn row len thr x hbad) (fun r w1 h => ?_)
      obtain ⟨row', len', h0, rfl⟩ := h
      exact ⟨h0, row', len', rfl⟩
  · refine ⟨0, nI (cM an (kn a) n), { frames := 2, cells := 0, slots := 0, locals := 44 }, n, mk, lt, tg, pa, an, la, kn, by decide, ⟨rfl, rfl, by decide, by decide⟩, ?_, ?_⟩
    · refine eg_monoL (wl_concurrent l D cI cJ qx n mk lt tg pa an la kn fb fh nb te wt bh o out (nI a) (rm := { frames := 3, cells := 0, slots := 0, locals := 62 }) ⟨rfl, rfl, by decide, by decide⟩ (eg_toW (c_X0_concurrent l D cI cJ qx n mk lt tg pa an la kn fb fh nb te wt bh a hI ha)) (fun v w1 h => ⟨_, h.1⟩)) (fun r w1 h => ?_)
      obtain ⟨h0, x8, wx, ⟨e, rfl⟩, rfl⟩ := h
      cases e
      rw [cn_half hIL hn (hI.vk ha).1]
      exact ⟨h0, fb, fh, nb, te, wt, bh, _, hL, fun _ => upd0, rfl⟩
    · refine eg_mono (c_X1_concurrent l D cI cJ qm n mk lt tg pa an kn row len thr a hI ha) (fun r w1 h => ?_)
      obtain ⟨h0, rfl⟩ := h
      exact ⟨h0, row, len, rfl⟩
set_option maxHeartbeats 4000000 in
set_option maxRecDepth 100000 in
theorem pair_critical (l : Launch) (D : va_G) (cI cJ : ClassId) (qx qm : Nat → Nat) (n : Nat) (mk lt tg : Nat → Int32) (pa an la kn : Nat → Int64) (fb : Int32) (fh nb te wt bh row : Nat → Int32) (len thr : Int32) (o : Nat) (out : Nat → Int64) (x : Int32) (hfl : l.stackTraces = false) (hL : LI n lt tg an la kn fb fh nb) : PAIR Value.long id D cI cJ l qx qm o 2 yL_critical wsL_critical yX1_critical wsX1_critical [.ref (qx 0), .int x, .ref o] [.ref (qm 0), .int x] (wO o cJ out ++ wX qx cI cJ (nI n) mk lt tg pa an la kn fb fh nb te wt bh) (wM qm cI cJ (nI n) mk lt tg pa an kn row len thr) := by
  obtain ⟨hI, hIL, htr⟩ := id hL
  have hn := hI.1
  rcases bad_or (n := 4) x (by decide) with hbad | ⟨a, ha, rfl⟩
  · refine ⟨1, 0, { frames := 2, cells := 0, slots := 0, locals := 42 }, n, mk, lt, tg, pa, an, la, kn, by decide, ⟨rfl, rfl, by decide, by decide⟩, ?_, ?_⟩
    · refine eg_monoL (wl_critical_b l D cI cJ qx n mk lt tg pa an la kn fb fh nb te wt bh o out x (rm := { frames := 7, cells := 1, slots := 6, locals := 103 }) ⟨rfl, rfl, by decide, by decide⟩ (c_X0_critical_no1 l D cI cJ qx n mk lt tg pa an la kn fb fh nb te wt bh x hbad hfl)) (fun r w1 h => ?_)
      obtain ⟨h0, wx, ⟨te', wt', bh', rfl⟩, rfl⟩ := h
      exact ⟨h0, fb, fh, nb, te', wt', bh', out, hL, fun h => absurd h (by decide), rfl⟩
    · refine eg_mono (c_X1_critical_no1 l D cI cJ qm n mk lt tg pa an kn row len thr x hbad) (fun r w1 h => ?_)
      obtain ⟨row', len', h0, rfl⟩ := h
      exact ⟨h0, row', len', rfl⟩
  · refine ⟨0, crM an (kn a) n n, { frames := 3, cells := 0, slots := 0, locals := 70 }, n, mk, lt, tg, pa, an, la, kn, by decide, ⟨rfl, rfl, by decide, by decide⟩, ?_, ?_⟩
    · refine eg_monoL (wl_critical l D cI cJ qx n mk lt tg pa an la kn fb fh nb te wt bh o out (nI a) (rm := { frames := 4, cells := 0, slots := 0, locals := 87 }) ⟨rfl, rfl, by decide, by decide⟩ (eg_toW (c_X0_critical l D cI cJ qx n mk lt tg pa an la kn fb fh nb te wt bh a hI ha)) (fun v w1 h => ⟨_, h.1⟩)) (fun r w1 h => ?_)
      obtain ⟨h0, x8, wx, ⟨e, rfl⟩, rfl⟩ := h
      cases e
      rw [cO_crM hIL hn (hI.vk ha).1 n (Nat.le_refl _)]
      exact ⟨h0, fb, fh, nb, te, wt, bh, _, hL, fun _ => upd0, rfl⟩
    · refine eg_mono (c_X1_critical l D cI cJ qm n mk lt tg pa an kn row len thr a hI ha) (fun r w1 h => ?_)
      obtain ⟨h0, rfl⟩ := h
      exact ⟨h0, row, len, rfl⟩
set_option maxHeartbeats 4000000 in
set_option maxRecDepth 100000 in
theorem pair_toReplay (l : Launch) (D : va_G) (cI cJ : ClassId) (qx qm : Nat → Nat) (n : Nat) (mk lt tg : Nat → Int32) (pa an la kn : Nat → Int64) (fb : Int32) (fh nb te wt bh row : Nat → Int32) (len thr : Int32) (o : Nat) (out : Nat → Int64) (x : Int32) (hfl : l.stackTraces = false) (hL : LI n lt tg an la kn fb fh nb) : PAIR Value.int Int32.toInt64 D cI cJ l qx qm o 7 yL_toReplay wsL_toReplay yX1_toReplay wsX1_toReplay [.ref (qx 0), .int x, .ref o] [.ref (qm 0), .int x] (wO o cJ out ++ wX qx cI cJ (nI n) mk lt tg pa an la kn fb fh nb te wt bh) (wM qm cI cJ (nI n) mk lt tg pa an kn row len thr) := by
  obtain ⟨hI, hIL, htr⟩ := id hL
  have hn := hI.1
  rcases bad_or (n := 4) x (by decide) with hbad | ⟨a, ha, rfl⟩
  · refine ⟨1, nI 0, { frames := 2, cells := 0, slots := 0, locals := 42 }, n, mk, lt, tg, pa, an, la, kn, by decide, ⟨rfl, rfl, by decide, by decide⟩, ?_, ?_⟩
    · refine eg_monoL (wl_toReplay_b l D cI cJ qx n mk lt tg pa an la kn fb fh nb te wt bh o out x (rm := { frames := 7, cells := 1, slots := 6, locals := 103 }) ⟨rfl, rfl, by decide, by decide⟩ (c_X0_toReplay_no1 l D cI cJ qx n mk lt tg pa an la kn fb fh nb te wt bh x hbad hfl)) (fun r w1 h => ?_)
      obtain ⟨h0, wx, ⟨te', wt', bh', rfl⟩, rfl⟩ := h
      exact ⟨h0, fb, fh, nb, te', wt', bh', out, hL, fun h => absurd h (by decide), rfl⟩
    · refine eg_mono (c_X1_toReplay_no1 l D cI cJ qm n mk lt tg pa an kn row len thr x hbad) (fun r w1 h => ?_)
      obtain ⟨row', len', h0, rfl⟩ := h
      exact ⟨h0, row', len', rfl⟩
  · refine ⟨0, nI (pc64 (kn a &&& (tpX an (crM an (kn a) n n) n ^^^ (-1)))), { frames := 3, cells := 0, slots := 0, locals := 70 }, n, mk, lt, tg, pa, an, la, kn, by decide, ⟨rfl, rfl, by decide, by decide⟩, ?_, ?_⟩
    · refine eg_monoL (wl_toReplay l D cI cJ qx n mk lt tg pa an la kn fb fh nb te wt bh o out (nI a) (rm := { frames := 4, cells := 0, slots := 0, locals := 87 }) ⟨rfl, rfl, by decide, by decide⟩ (eg_toW (c_X0_toReplay l D cI cJ qx n mk lt tg pa an la kn fb fh nb te wt bh a hI ha)) (fun v w1 h => ⟨_, h.1⟩)) (fun r w1 h => ?_)
      obtain ⟨h0, x8, wx, ⟨e, rfl⟩, rfl⟩ := h
      cases e
      rw [cO_crM hIL hn (hI.vk ha).1 n (Nat.le_refl _)]
      exact ⟨h0, fb, fh, nb, te, wt, bh, _, hL, fun _ => upd0, rfl⟩
    · refine eg_mono (c_X1_toReplay l D cI cJ qm n mk lt tg pa an kn row len thr a hI ha) (fun r w1 h => ?_)
      obtain ⟨h0, rfl⟩ := h
      exact ⟨h0, row, len, rfl⟩
set_option maxHeartbeats 4000000 in
set_option maxRecDepth 100000 in
theorem pair_runs (l : Launch) (D : va_G) (cI cJ : ClassId) (qx qm : Nat → Nat) (n : Nat) (mk lt tg : Nat → Int32) (pa an la kn : Nat → Int64) (fb : Int32) (fh nb te wt bh row : Nat → Int32) (len thr : Int32) (o : Nat) (out : Nat → Int64) (x : Int32) (hfl : l.stackTraces = false) (hL : LI n lt tg an la kn fb fh nb) : PAIR Value.int Int32.toInt64 D cI cJ l qx qm o 5 yL_runs wsL_runs yX1_runs wsX1_runs [.ref (qx 0), .int x, .ref o] [.ref (qm 0), .int x] (wO o cJ out ++ wX qx cI cJ (nI n) mk lt tg pa an la kn fb fh nb te wt bh) (wM qm cI cJ (nI n) mk lt tg pa an kn row len thr) := by
  obtain ⟨hI, hIL, htr⟩ := id hL
  have hn := hI.1
  rcases bad_or (n := 4) x (by decide) with hbad | ⟨a, ha, rfl⟩
  · refine ⟨1, nI 0, { frames := 2, cells := 0, slots := 0, locals := 42 }, n, mk, lt, tg, pa, an, la, kn, by decide, ⟨rfl, rfl, by decide, by decide⟩, ?_, ?_⟩
    · refine eg_monoL (wl_runs_b l D cI cJ qx n mk lt tg pa an la kn fb fh nb te wt bh o out x (rm := { frames := 7, cells := 1, slots := 6, locals := 103 }) ⟨rfl, rfl, by decide, by decide⟩ (c_X0_runs_no1 l D cI cJ qx n mk lt tg pa an la kn fb fh nb te wt bh x hbad hfl)) (fun r w1 h => ?_)
      obtain ⟨h0, wx, ⟨te', wt', bh', rfl⟩, rfl⟩ := h
      exact ⟨h0, fb, fh, nb, te', wt', bh', out, hL, fun h => absurd h (by decide), rfl⟩
    · refine eg_mono (c_X1_runs_no1 l D cI cJ qm n mk lt tg pa an kn row len thr x hbad) (fun r w1 h => ?_)
      obtain ⟨row', len', h0, rfl⟩ := h
      exact ⟨h0, row', len', rfl⟩
  · refine ⟨0, nI (rnM mk lt tg pa (kn a) n), { frames := 2, cells := 0, slots := 0, locals := 42 }, n, mk, lt, tg, pa, an, la, kn, by decide, ⟨rfl, rfl, by decide, by decide⟩, ?_, ?_⟩
    · refine eg_monoL (wl_runs l D cI cJ qx n mk lt tg pa an la kn fb fh nb te wt bh o out (nI a) (rm := { frames := 2, cells := 0, slots := 0, locals := 43 }) ⟨rfl, rfl, by decide, by decide⟩ (eg_toW (c_X0_runs l D cI cJ qx n mk lt tg pa an la kn fb fh nb te wt bh a hI ha)) (fun v w1 h => ⟨_, h.1⟩)) (fun r w1 h => ?_)
      obtain ⟨h0, x8, wx, ⟨e, rfl⟩, rfl⟩ := h
      cases e
      rw [rn_eq hI n (Nat.le_refl _)]
      exact ⟨h0, fb, fh, nb, te, wt, bh, _, hL, fun _ => upd0, rfl⟩
    · refine eg_mono (c_X1_runs l D cI cJ qm n mk lt tg pa an kn row len thr a hI ha) (fun r w1 h => ?_)
      obtain ⟨h0, rfl⟩ := h
      exact ⟨h0, row, len, rfl⟩
