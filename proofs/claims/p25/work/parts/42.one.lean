-- WHAT EACH CALL OF THE LAW COMES TO over one graph (by specO.py)
def PX (cI cJ : ClassId) (q : Nat → Nat) (n : Nat) (mk lt tg : Nat → Int32) (pa an la kn : Nat → Int64) (r : Value) : Option Value → va_W → Prop := fun v w1 => v = some r ∧ ∃ (fb : Int32) (fh nb te wt bh : Nat → Int32), LI n lt tg an la kn fb fh nb ∧ w1 = wX q cI cJ (nI n) mk lt tg pa an la kn fb fh nb te wt bh
def ttX (pp : Nat) (L : List Nat) : Int32 := if pp = 0 then -1 else nI (L.getD (pp - 1) 0)
theorem gD {L : List Nat} {k x : Nat} (h : L[k]? = some x) : L.getD k 0 = x := by rw [List.getD_eq_getElem?_getD, h]; rfl
theorem tt_eq {pp : Nat} {L : List Nat} {tt : Int32} (h : (pp = 0 ∧ tt = -1) ∨ (0 < pp ∧ ∃ x : Nat, L[pp - 1]? = some x ∧ tt = nI x)) : tt = ttX pp L := by
  unfold ttX
  rcases h with ⟨h1, h2⟩ | ⟨h1, x, hx, h2⟩
  · rw [if_pos h1, h2]
  · rw [if_neg (by omega), gD hx, h2]
theorem tx_bd {n : Nat} {lt tg : Nat → Int32} {an kn : Nat → Int64} {v : Int64} (h : Inv n lt tg an kn) (hv : vok n an v) : (tx n lt tg v).length + 1 < 2 ^ 31 := by
  have h1 := tx_len h hv
  have h2 := h.1
  omega
theorem bad_ge {k n : Nat} (h : n ≤ k) (hk : k < 2 ^ 31) : bad n (nI k) := Or.inr ((nI_leI (by omega) hk).mpr h)
def tc : Nat → Nat
  | 4 => 1
  | 5 => 1
  | 6 => 1
  | _ => 0
def tb : Nat → Nat
  | 2 => 1
  | _ => 0
def ofV (n : Nat) (mk lt tg : Nat → Int32) (pa an la : Nat → Int64) (v : Int64) (pp : Nat) : Nat → Int32
  | 0 => nI (tx n lt tg v).length
  | 1 => nI (cnX an la v n / 2)
  | 2 => nI (pc64 (v &&& (tpX an (cO an la v n) n ^^^ (-1))))
  | 3 => nI (rnX n mk lt tg pa v n)
  | 4 => if pp < (tx n lt tg v).length then lt ((tx n lt tg v).getD pp 0) else -8
  | 5 => if pp < (tx n lt tg v).length then lt ((tx n lt tg v).getD pp 0) else -8
  | _ => if pp < (tx n lt tg v).length then nI ((tx n lt tg v).getD pp 0) else -8
def setV (n : Nat) (mk lt tg : Nat → Int32) (pa an la : Nat → Int64) (v u : Int64) (b : Nat) : Nat → Int64
  | 0 => v
  | 1 => hdX pa v n
  | 2 => cO an la v n
  | 3 => hdX pa (v &&& u) n
  | _ => (nI (ct (fun j => decide (mk ((tx n lt tg v).getD j 0) = nI b)) (tx n lt tg v).length)).toInt64
def byV (n : Nat) (mk lt tg : Nat → Int32) (pa an : Nat → Int64) (e0 e1 : Nat) : Nat → Int64
  | 0 => pa e0
  | 1 => (nI (tx n lt tg (an e0 ||| ol e0)).length).toInt64
  | 2 => (if e1 < (tx n lt tg (an e0 ||| ol e0)).length then lt ((tx n lt tg (an e0 ||| ol e0)).getD e1 0) else -8).toInt64
  | 3 => if bi (an e0) e1 = true then 1 else 0
  | _ => (mk e0).toInt64
section EGO
variable (l : Launch) (D : va_G) (cI cJ : ClassId) (q : Nat → Nat) {n : Nat} (mk : Nat → Int32) {lt tg : Nat → Int32} (pa : Nat → Int64) {an la kn : Nat → Int64} {fb : Int32} {fh nb : Nat → Int32} (te wt bh : Nat → Int32)
set_option maxHeartbeats 1000000 in
theorem one_insert (hL : LI n lt tg an la kn fb fh nb) {a pp c9 : Nat} (ha : a < 4) (hp : pp ≤ (tx n lt tg (kn a)).length) (hc : c9 < 26) (hnr : n < 60) : eg_MLm D (tyL cI cJ) l yL_insert wsL_insert rmL [.ref (q 0), .int (nI a), .int (nI pp), .int (nI c9)] (wX q cI cJ (nI n) mk lt tg pa an la kn fb fh nb te wt bh) (PX cI cJ q (n + 1) (upd mk n (nI a)) (upd lt n (nI c9)) (upd tg n (ttX pp (tx n lt tg (kn a)))) (vp_updL pa n (hdX pa (kn a) n)) (vp_updL an n (kn a)) (mL la (kn a) n n) (vp_updL kn a (kn a ||| ol n)) (.int (nI n))) 1 (6) := by
  obtain ⟨hI, hIL, htr⟩ := id hL
  have hn := hI.1
  have hc1 : ¬ nI c9 < 0 := nI_pos (by omega)
  have hc2 : nI c9 < nI 26 := nI_lt hc (by decide)
  refine eg_monoM (wl_insert l D cI cJ q n mk lt tg pa an la kn fb fh nb te wt bh (nI a) (nI pp) (nI c9) (rm := { frames := 4, cells := 0, slots := 0, locals := 97 }) ⟨rfl, rfl, by decide, by decide⟩ (c_X0_insert l D cI cJ q n mk lt tg pa an la kn fb fh nb te wt bh a pp (nI c9) hI htr ha hp hc1 hc2 hnr) (fun v w1 h => by obtain ⟨_, _, _, _, _, _, _, _, h1, -⟩ := h; exact ⟨_, h1⟩)) (fun r w1 h => ?_)
  obtain ⟨x8, h0, tt, te', wt', fb', fh', nb', htt, hTr', e, rfl⟩ := h
  cases e
  have hte := tt_eq htt
  subst hte
  have h8 : ttX pp (tx n lt tg (kn a)) = -1 ∨ ∃ t, t < n ∧ ttX pp (tx n lt tg (kn a)) = nI t ∧ ins lt t = true ∧ bi (kn a) t = true := by
    rcases htt with ⟨-, h⟩ | ⟨-, x9, hx9, h⟩
    · exact Or.inl h
    · have h7 := tx_mem (List.mem_of_getElem? hx9)
      exact Or.inr ⟨x9, h7.1, h, h7.2.2, h7.2.1⟩
  exact ⟨h0, fb', fh', nb', te', wt', bh, ⟨Inv_add hI hnr ha (fun _ => h8) (fun h => absurd (ins_eq h) (by rw [pk_us]; intro q; exact hc1 (by rw [q]; decide))), InvL_add hI hIL hnr ha, hTr'⟩, rfl⟩
set_option maxHeartbeats 1000000 in
theorem one_insert_full (hfl : l.stackTraces = false) (hL : LI n lt tg an la kn fb fh nb) {a pp c9 : Nat} (ha : a < 4) (hp : pp ≤ (tx n lt tg (kn a)).length) (hc : c9 < 26) (hnr : 60 ≤ n) : eg_MLm D (tyL cI cJ) l yL_insert wsL_insert rmL [.ref (q 0), .int (nI a), .int (nI pp), .int (nI c9)] (wX q cI cJ (nI n) mk lt tg pa an la kn fb fh nb te wt bh) (PX cI cJ q n mk lt tg pa an la kn (.int (-8))) 1 (6) := by
  obtain ⟨hI, hIL, htr⟩ := id hL
  have hn := hI.1
  refine eg_ofG (wl_insert_s l D cI cJ q n mk lt tg pa an la kn fb fh nb te wt bh (nI a) (nI pp) (nI c9) (rm := { frames := 7, cells := 1, slots := 6, locals := 102 }) ⟨rfl, rfl, by decide, by decide⟩ (c_X0_insert_no4 l D cI cJ q n mk lt tg pa an la kn fb fh nb te wt bh a pp (nI c9) hI htr ha hp (nI_pos (by omega)) (nI_lt hc (by decide)) hnr hfl)) (fun r w1 h => ?_)
  obtain ⟨h0, te', wt', bh', rfl⟩ := h
  exact ⟨h0, fb, fh, nb, te', wt', bh', hL, rfl⟩
set_option maxHeartbeats 1000000 in
theorem one_delete (hL : LI n lt tg an la kn fb fh nb) {a pp : Nat} (ha : a < 4) (hp : pp < (tx n lt tg (kn a)).length) (hnr : n < 60) : eg_MLm D (tyL cI cJ) l yL_does wsL_does rmL [.ref (q 0), .int (nI 0), .int (nI a), .int (nI pp)] (wX q cI cJ (nI n) mk lt tg pa an la kn fb fh nb te wt bh) (PX cI cJ q (n + 1) (upd mk n (nI a)) (upd lt n (-1)) (upd tg n (nI ((tx n lt tg (kn a)).getD pp 0))) (vp_updL pa n (hdX pa (kn a) n)) (vp_updL an n (kn a)) (mL la (kn a) n n) (vp_updL kn a (kn a ||| ol n)) (.int (nI n))) 1 (6) := by
  obtain ⟨hI, hIL, htr⟩ := id hL
  have hn := hI.1
  refine eg_monoM (wl_does_delete l D cI cJ q n mk lt tg pa an la kn fb fh nb te wt bh (nI a) (nI pp) (rm := { frames := 4, cells := 0, slots := 0, locals := 97 }) ⟨rfl, rfl, by decide, by decide⟩ (c_X0_delete l D cI cJ q n mk lt tg pa an la kn fb fh nb te wt bh a pp hI htr ha hp hnr) (fun v w1 h => by obtain ⟨_, _, _, _, h1, -⟩ := h; exact ⟨_, h1⟩)) (fun r w1 h => ?_)
  obtain ⟨x8, h0, x9, te', wt', hx9, e, rfl⟩ := h
  cases e
  have hg := gD hx9
  subst hg
  have h7 := tx_mem (List.mem_of_getElem? hx9)
  exact ⟨h0, fb, fh, nb, te', wt', bh, ⟨Inv_add hI hnr ha (fun h => absurd pk_us (ins_ne h)) (fun _ => ⟨_, h7.1, rfl, h7.2.2, h7.2.1⟩), InvL_add hI hIL hnr ha, Tr_del htr⟩, rfl⟩
set_option maxHeartbeats 1000000 in
theorem one_delete_full (hfl : l.stackTraces = false) (hL : LI n lt tg an la kn fb fh nb) {a pp : Nat} (ha : a < 4) (hp : pp < (tx n lt tg (kn a)).length) (hnr : 60 ≤ n) : eg_MLm D (tyL cI cJ) l yL_does wsL_does rmL [.ref (q 0), .int (nI 0), .int (nI a), .int (nI pp)] (wX q cI cJ (nI n) mk lt tg pa an la kn fb fh nb te wt bh) (PX cI cJ q n mk lt tg pa an la kn (.int (-8))) 1 (6) := by
  obtain ⟨hI, hIL, htr⟩ := id hL
  have hn := hI.1
  refine eg_ofG (wl_does_delete_s l D cI cJ q n mk lt tg pa an la kn fb fh nb te wt bh (nI a) (nI pp) (rm := { frames := 7, cells := 1, slots := 6, locals := 102 }) ⟨rfl, rfl, by decide, by decide⟩ (c_X0_delete_no3 l D cI cJ q n mk lt tg pa an la kn fb fh nb te wt bh a pp hI htr ha hp hnr hfl)) (fun r w1 h => ?_)
  obtain ⟨h0, te', wt', bh', rfl⟩ := h
  exact ⟨h0, fb, fh, nb, te', wt', bh', hL, rfl⟩
set_option maxHeartbeats 1000000 in
theorem one_delete_bad (hfl : l.stackTraces = false) (hL : LI n lt tg an la kn fb fh nb) {a pp : Nat} (ha : a < 4) (hp : (tx n lt tg (kn a)).length ≤ pp) (hpb : pp < 2 ^ 31) : eg_MLm D (tyL cI cJ) l yL_does wsL_does rmL [.ref (q 0), .int (nI 0), .int (nI a), .int (nI pp)] (wX q cI cJ (nI n) mk lt tg pa an la kn fb fh nb te wt bh) (PX cI cJ q n mk lt tg pa an la kn (.int (-8))) 1 (6) := by
  obtain ⟨hI, hIL, htr⟩ := id hL
  have hn := hI.1
  refine eg_ofG (wl_does_delete_b l D cI cJ q n mk lt tg pa an la kn fb fh nb te wt bh (nI a) (nI pp) (rm := { frames := 7, cells := 1, slots := 6, locals := 104 }) ⟨rfl, rfl, by decide, by decide⟩ (c_X0_delete_no2 l D cI cJ q n mk lt tg pa an la kn fb fh nb te wt bh a (nI pp) hI htr ha (bad_ge hp hpb) hfl)) (fun r w1 h => ?_)
  obtain ⟨h0, te', wt', bh', rfl⟩ := h
  exact ⟨h0, fb, fh, nb, te', wt', bh', hL, rfl⟩
set_option maxHeartbeats 1000000 in
theorem one_learn (hL : LI n lt tg an la kn fb fh nb) {a b : Nat} (ha : a < 4) (hb4 : b < 4) : eg_MLm D (tyL cI cJ) l yL_does wsL_does rmL [.ref (q 0), .int (nI 1), .int (nI a), .int (nI b)] (wX q cI cJ (nI n) mk lt tg pa an la kn fb fh nb te wt bh) (PX cI cJ q n mk lt tg pa an la (vp_updL kn a (kn a ||| kn b)) (.int (nI (pc64 (kn b &&& (kn a ^^^ (-1))))))) 1 (6) := by
  obtain ⟨hI, hIL, htr⟩ := id hL
  have hn := hI.1
  refine eg_monoM (wl_does_learn l D cI cJ q n mk lt tg pa an la kn fb fh nb te wt bh (nI a) (nI b) (rm := { frames := 2, cells := 0, slots := 0, locals := 45 }) ⟨rfl, rfl, by decide, by decide⟩ (c_X0_learn l D cI cJ q n mk lt tg pa an la kn fb fh nb te wt bh a b ha hb4) (fun v w1 h => ⟨_, h.1⟩)) (fun r w1 h => ?_)
  obtain ⟨x8, h0, e, rfl⟩ := h
  cases e
  exact ⟨h0, fb, fh, nb, te, wt, bh, ⟨Inv_learn hI (hI.vk hb4), hIL, htr⟩, rfl⟩
set_option maxHeartbeats 1000000 in
theorem one_learnEvent (hL : LI n lt tg an la kn fb fh nb) {a e0 : Nat} (ha : a < 4) (he : e0 < n) : eg_MLm D (tyL cI cJ) l yL_does wsL_does rmL [.ref (q 0), .int (nI 2), .int (nI a), .int (nI e0)] (wX q cI cJ (nI n) mk lt tg pa an la kn fb fh nb te wt bh) (PX cI cJ q n mk lt tg pa an la (vp_updL kn a (kn a ||| (an e0 ||| ol e0))) (.int (nI (pc64 ((an e0 ||| ol e0) &&& (kn a ^^^ (-1))))))) 1 (6) := by
  obtain ⟨hI, hIL, htr⟩ := id hL
  have hn := hI.1
  refine eg_monoM (wl_does_learnEvent l D cI cJ q n mk lt tg pa an la kn fb fh nb te wt bh (nI a) (nI e0) (rm := { frames := 2, cells := 0, slots := 0, locals := 45 }) ⟨rfl, rfl, by decide, by decide⟩ (c_X0_learnEvent l D cI cJ q n mk lt tg pa an la kn fb fh nb te wt bh a e0 hI ha he) (fun v w1 h => ⟨_, h.1⟩)) (fun r w1 h => ?_)
  obtain ⟨x8, h0, e, rfl⟩ := h
  cases e
  exact ⟨h0, fb, fh, nb, te, wt, bh, ⟨Inv_learn hI (hI.ve he), hIL, htr⟩, rfl⟩
set_option maxHeartbeats 1000000 in
theorem one_learnEvent_bad (hfl : l.stackTraces = false) (hL : LI n lt tg an la kn fb fh nb) {a e0 : Nat} (ha : a < 4) (he : n ≤ e0) (heb : e0 < 2 ^ 31) : eg_MLm D (tyL cI cJ) l yL_does wsL_does rmL [.ref (q 0), .int (nI 2), .int (nI a), .int (nI e0)] (wX q cI cJ (nI n) mk lt tg pa an la kn fb fh nb te wt bh) (PX cI cJ q n mk lt tg pa an la kn (.int (-8))) 1 (6) := by
  obtain ⟨hI, hIL, htr⟩ := id hL
  have hn := hI.1
  refine eg_ofG (wl_does_learnEvent_b l D cI cJ q n mk lt tg pa an la kn fb fh nb te wt bh (nI a) (nI e0) (rm := { frames := 7, cells := 1, slots := 6, locals := 103 }) ⟨rfl, rfl, by decide, by decide⟩ (c_X0_learnEvent_no2 l D cI cJ q n mk lt tg pa an la kn fb fh nb te wt bh a (nI e0) hI ha (bad_ge he heb) hfl)) (fun r w1 h => ?_)
  obtain ⟨h0, te', wt', bh', rfl⟩ := h
  exact ⟨h0, fb, fh, nb, te', wt', bh', hL, rfl⟩
set_option maxHeartbeats 1000000 in
theorem one_of_0 (hL : LI n lt tg an la kn fb fh nb) {a : Nat} (pp : Nat) (x1 : Int32) (ha : a < 4) : eg_MLm D (tyL cI cJ) l yL_of wsL_of (rmT 0) [.ref (q 0), .int (nI 0), .int (nI a), .int x1] (wX q cI cJ (nI n) mk lt tg pa an la kn fb fh nb te wt bh) (PX cI cJ q n mk lt tg pa an la kn (.int (ofV n mk lt tg pa an la (kn a) pp 0))) 0 (6 * 0) := by
  obtain ⟨hI, hIL, htr⟩ := id hL
  have hn := hI.1
  refine eg_monoM (wz_of_length l D cI cJ q n mk lt tg pa an la kn fb fh nb te wt bh (nI a) x1 (rm := { frames := 4, cells := 0, slots := 0, locals := 97 }) ⟨rfl, rfl, by decide, by decide⟩ (c_X0_length l D cI cJ q n mk lt tg pa an la kn fb fh nb te wt bh a hI htr ha) (fun v w1 h => by obtain ⟨te', wt', h1, h2⟩ := h; exact ⟨_, h1⟩)) (fun r w1 h => ?_)
  obtain ⟨x8, h0, te', wt', e, rfl⟩ := h
  exact ⟨h0.trans e, fb, fh, nb, te', wt', bh, hL, rfl⟩
set_option maxHeartbeats 1000000 in
theorem one_of_1 (hL : LI n lt tg an la kn fb fh nb) {a : Nat} (pp : Nat) (x1 : Int32) (ha : a < 4) : eg_MLm D (tyL cI cJ) l yL_of wsL_of (rmT 0) [.ref (q 0), .int (nI 1), .int (nI a), .int x1] (wX q cI cJ (nI n) mk lt tg pa an la kn fb fh nb te wt bh) (PX cI cJ q n mk lt tg pa an la kn (.int (ofV n mk lt tg pa an la (kn a) pp 1))) 0 (6 * 0) := by
  obtain ⟨hI, hIL, htr⟩ := id hL
  have hn := hI.1
  refine eg_monoM (wz_of_concurrent l D cI cJ q n mk lt tg pa an la kn fb fh nb te wt bh (nI a) x1 (rm := { frames := 3, cells := 0, slots := 0, locals := 62 }) ⟨rfl, rfl, by decide, by decide⟩ (eg_toW (c_X0_concurrent l D cI cJ q n mk lt tg pa an la kn fb fh nb te wt bh a hI ha)) (fun v w1 h => ⟨_, h.1⟩)) (fun r w1 h => ?_)
  obtain ⟨x8, h0, e, rfl⟩ := h
  exact ⟨h0.trans e, fb, fh, nb, te, wt, bh, hL, rfl⟩
set_option maxHeartbeats 1000000 in
theorem one_of_2 (hL : LI n lt tg an la kn fb fh nb) {a : Nat} (pp : Nat) (x1 : Int32) (ha : a < 4) : eg_MLm D (tyL cI cJ) l yL_of wsL_of (rmT 0) [.ref (q 0), .int (nI 2), .int (nI a), .int x1] (wX q cI cJ (nI n) mk lt tg pa an la kn fb fh nb te wt bh) (PX cI cJ q n mk lt tg pa an la kn (.int (ofV n mk lt tg pa an la (kn a) pp 2))) 0 (6 * 0) := by
  obtain ⟨hI, hIL, htr⟩ := id hL
  have hn := hI.1
  refine eg_monoM (wz_of_toReplay l D cI cJ q n mk lt tg pa an la kn fb fh nb te wt bh (nI a) x1 (rm := { frames := 4, cells := 0, slots := 0, locals := 87 }) ⟨rfl, rfl, by decide, by decide⟩ (eg_toW (c_X0_toReplay l D cI cJ q n mk lt tg pa an la kn fb fh nb te wt bh a hI ha)) (fun v w1 h => ⟨_, h.1⟩)) (fun r w1 h => ?_)
  obtain ⟨x8, h0, e, rfl⟩ := h
  exact ⟨h0.trans e, fb, fh, nb, te, wt, bh, hL, rfl⟩
set_option maxHeartbeats 1000000 in
theorem one_of_3 (hL : LI n lt tg an la kn fb fh nb) {a : Nat} (pp : Nat) (x1 : Int32) (ha : a < 4) : eg_MLm D (tyL cI cJ) l yL_of wsL_of (rmT 0) [.ref (q 0), .int (nI 3), .int (nI a), .int x1] (wX q cI cJ (nI n) mk lt tg pa an la kn fb fh nb te wt bh) (PX cI cJ q n mk lt tg pa an la kn (.int (ofV n mk lt tg pa an la (kn a) pp 3))) 0 (6 * 0) := by
  obtain ⟨hI, hIL, htr⟩ := id hL
  have hn := hI.1
  refine eg_monoM (wz_of_runs l D cI cJ q n mk lt tg pa an la kn fb fh nb te wt bh (nI a) x1 (rm := { frames := 2, cells := 0, slots := 0, locals := 43 }) ⟨rfl, rfl, by decide, by decide⟩ (eg_toW (c_X0_runs l D cI cJ q n mk lt tg pa an la kn fb fh nb te wt bh a hI ha)) (fun v w1 h => ⟨_, h.1⟩)) (fun r w1 h => ?_)
  obtain ⟨x8, h0, e, rfl⟩ := h
  exact ⟨h0.trans e, fb, fh, nb, te, wt, bh, hL, rfl⟩
set_option maxHeartbeats 1000000 in
theorem one_of_4 (hfl : l.stackTraces = false) (hL : LI n lt tg an la kn fb fh nb) {a : Nat} (pp : Nat) (ha : a < 4) (hpb : pp < 2 ^ 31) : eg_MLm D (tyL cI cJ) l yL_of wsL_of (rmT 1) [.ref (q 0), .int (nI 4), .int (nI a), .int (nI pp)] (wX q cI cJ (nI n) mk lt tg pa an la kn fb fh nb te wt bh) (PX cI cJ q n mk lt tg pa an la kn (.int (ofV n mk lt tg pa an la (kn a) pp 4))) 1 (6 * 1) := by
  obtain ⟨hI, hIL, htr⟩ := id hL
  have hn := hI.1
  by_cases hp : pp < (tx n lt tg (kn a)).length
  · refine eg_monoM (wl_of_letterAt l D cI cJ q n mk lt tg pa an la kn fb fh nb te wt bh (nI a) (nI pp) (rm := { frames := 5, cells := 0, slots := 0, locals := 121 }) ⟨rfl, rfl, by decide, by decide⟩ (c_X0_letterAt l D cI cJ q n mk lt tg pa an la kn fb fh nb te wt bh a pp hI htr ha hp) (fun v w1 h => by obtain ⟨_, _, _, -, h1, -⟩ := h; exact ⟨_, h1⟩)) (fun r w1 h => ?_)
    obtain ⟨x8, h0, te', wt', x9, hx9, e, rfl⟩ := h
    have hg := gD hx9
    subst hg
    exact ⟨by rw [h0, e]; simp [ofV, hp], fb, fh, nb, te', wt', bh, hL, rfl⟩
  · refine eg_ofG (wl_of_letterAt_b l D cI cJ q n mk lt tg pa an la kn fb fh nb te wt bh (nI a) (nI pp) (rm := { frames := 8, cells := 1, slots := 6, locals := 128 }) ⟨rfl, rfl, by decide, by decide⟩ (c_X0_letterAt_no2 l D cI cJ q n mk lt tg pa an la kn fb fh nb te wt bh a (nI pp) hI htr ha (bad_ge (Nat.le_of_not_lt hp) hpb) hfl)) (fun r w1 h => ?_)
    obtain ⟨h0, te', wt', bh', rfl⟩ := h
    exact ⟨by rw [h0]; simp [ofV, hp], fb, fh, nb, te', wt', bh', hL, rfl⟩
set_option maxHeartbeats 1000000 in
theorem one_of_5 (hfl : l.stackTraces = false) (hL : LI n lt tg an la kn fb fh nb) {a : Nat} (pp : Nat) (ha : a < 4) (hpb : pp < 2 ^ 31) : eg_MLm D (tyL cI cJ) l yL_of wsL_of (rmT 1) [.ref (q 0), .int (nI 5), .int (nI a), .int (nI pp)] (wX q cI cJ (nI n) mk lt tg pa an la kn fb fh nb te wt bh) (PX cI cJ q n mk lt tg pa an la kn (.int (ofV n mk lt tg pa an la (kn a) pp 5))) 1 (6 * 1) := by
  obtain ⟨hI, hIL, htr⟩ := id hL
  have hn := hI.1
  by_cases hp : pp < (tx n lt tg (kn a)).length
  · refine eg_monoM (wl_of_letterByList l D cI cJ q n mk lt tg pa an la kn fb fh nb te wt bh (nI a) (nI pp) (rm := { frames := 4, cells := 0, slots := 0, locals := 96 }) ⟨rfl, rfl, by decide, by decide⟩ (c_X0_letterByList l D cI cJ q n mk lt tg pa an la kn fb fh nb te wt bh a pp hI ha hp) (fun v w1 h => by obtain ⟨_, _, _, -, h1, -⟩ := h; exact ⟨_, h1⟩)) (fun r w1 h => ?_)
    obtain ⟨x8, h0, te', bh', x9, hx9, e, rfl⟩ := h
    have hg := gD hx9
    subst hg
    exact ⟨by rw [h0, e]; simp [ofV, hp], fb, fh, nb, te', wt, bh', hL, rfl⟩
  · refine eg_ofG (wl_of_letterByList_b l D cI cJ q n mk lt tg pa an la kn fb fh nb te wt bh (nI a) (nI pp) (rm := { frames := 7, cells := 1, slots := 6, locals := 104 }) ⟨rfl, rfl, by decide, by decide⟩ (c_X0_letterByList_no2 l D cI cJ q n mk lt tg pa an la kn fb fh nb te wt bh a (nI pp) hI ha (bad_ge (Nat.le_of_not_lt hp) hpb) hfl)) (fun r w1 h => ?_)
    obtain ⟨h0, te', wt', bh', rfl⟩ := h
    exact ⟨by rw [h0]; simp [ofV, hp], fb, fh, nb, te', wt', bh', hL, rfl⟩
set_option maxHeartbeats 1000000 in
theorem one_of_6 (hfl : l.stackTraces = false) (hL : LI n lt tg an la kn fb fh nb) {a : Nat} (pp : Nat) (ha : a < 4) (hpb : pp < 2 ^ 31) : eg_MLm D (tyL cI cJ) l yL_of wsL_of (rmT 1) [.ref (q 0), .int (nI 6), .int (nI a), .int (nI pp)] (wX q cI cJ (nI n) mk lt tg pa an la kn fb fh nb te wt bh) (PX cI cJ q n mk lt tg pa an la kn (.int (ofV n mk lt tg pa an la (kn a) pp 6))) 1 (6 * 1) := by
  obtain ⟨hI, hIL, htr⟩ := id hL
  have hn := hI.1
  by_cases hp : pp < (tx n lt tg (kn a)).length
  · refine eg_monoM (wl_of_eventAt l D cI cJ q n mk lt tg pa an la kn fb fh nb te wt bh (nI a) (nI pp) (rm := { frames := 5, cells := 0, slots := 0, locals := 121 }) ⟨rfl, rfl, by decide, by decide⟩ (c_X0_eventAt l D cI cJ q n mk lt tg pa an la kn fb fh nb te wt bh a pp hI htr ha hp) (fun v w1 h => by obtain ⟨_, _, _, -, h1, -⟩ := h; exact ⟨_, h1⟩)) (fun r w1 h => ?_)
    obtain ⟨x8, h0, te', wt', x9, hx9, e, rfl⟩ := h
    have hg := gD hx9
    subst hg
    exact ⟨by rw [h0, e]; simp [ofV, hp], fb, fh, nb, te', wt', bh, hL, rfl⟩
  · refine eg_ofG (wl_of_eventAt_b l D cI cJ q n mk lt tg pa an la kn fb fh nb te wt bh (nI a) (nI pp) (rm := { frames := 8, cells := 1, slots := 6, locals := 128 }) ⟨rfl, rfl, by decide, by decide⟩ (c_X0_eventAt_no2 l D cI cJ q n mk lt tg pa an la kn fb fh nb te wt bh a (nI pp) hI htr ha (bad_ge (Nat.le_of_not_lt hp) hpb) hfl)) (fun r w1 h => ?_)
    obtain ⟨h0, te', wt', bh', rfl⟩ := h
    exact ⟨by rw [h0]; simp [ofV, hp], fb, fh, nb, te', wt', bh', hL, rfl⟩
theorem one_of (hfl : l.stackTraces = false) (hL : LI n lt tg an la kn fb fh nb) {a : Nat} (pp : Nat) (ha : a < 4) (hpb : pp < 2 ^ 31) : ∀ j, j < 7 → eg_MLm D (tyL cI cJ) l yL_of wsL_of (rmT (tc j)) [.ref (q 0), .int (nI j), .int (nI a), .int (nI pp)] (wX q cI cJ (nI n) mk lt tg pa an la kn fb fh nb te wt bh) (PX cI cJ q n mk lt tg pa an la kn (.int (ofV n mk lt tg pa an la (kn a) pp j))) (tc j) (6 * tc j)
  | 0, _ => one_of_0 l D cI cJ q mk pa te wt bh hL pp (nI pp) ha
  | 1, _ => one_of_1 l D cI cJ q mk pa te wt bh hL pp (nI pp) ha
  | 2, _ => one_of_2 l D cI cJ q mk pa te wt bh hL pp (nI pp) ha
  | 3, _ => one_of_3 l D cI cJ q mk pa te wt bh hL pp (nI pp) ha
  | 4, _ => one_of_4 l D cI cJ q mk pa te wt bh hfl hL pp ha hpb
  | 5, _ => one_of_5 l D cI cJ q mk pa te wt bh hfl hL pp ha hpb
  | 6, _ => one_of_6 l D cI cJ q mk pa te wt bh hfl hL pp ha hpb
  | j + 7, h => absurd h (by omega)
set_option maxHeartbeats 1000000 in
theorem one_set_0 (hL : LI n lt tg an la kn fb fh nb) {a b : Nat} (ha : a < 4) (hb4 : b < 4) : eg_MLm D (tyL cI cJ) l yL_set wsL_set (rmT 0) [.ref (q 0), .int (nI 0), .int (nI a), .int (nI b)] (wX q cI cJ (nI n) mk lt tg pa an la kn fb fh nb te wt bh) (PX cI cJ q n mk lt tg pa an la kn (.long (setV n mk lt tg pa an la (kn a) (kn b) b 0))) 0 (6 * 0) := by
  obtain ⟨hI, hIL, htr⟩ := id hL
  have hn := hI.1
  refine eg_monoM (wz_set_version l D cI cJ q n mk lt tg pa an la kn fb fh nb te wt bh (nI a) (nI b) (rm := { frames := 1, cells := 0, slots := 0, locals := 21 }) ⟨rfl, rfl, by decide, by decide⟩ (eg_toW (c_X0_version l D cI cJ q n mk lt tg pa an la kn fb fh nb te wt bh a ha)) (fun v w1 h => ⟨_, h.1⟩)) (fun r w1 h => ?_)
  obtain ⟨x8, h0, e, rfl⟩ := h
  exact ⟨h0.trans e, fb, fh, nb, te, wt, bh, hL, rfl⟩
set_option maxHeartbeats 1000000 in
theorem one_set_1 (hL : LI n lt tg an la kn fb fh nb) {a b : Nat} (ha : a < 4) (hb4 : b < 4) : eg_MLm D (tyL cI cJ) l yL_set wsL_set (rmT 0) [.ref (q 0), .int (nI 1), .int (nI a), .int (nI b)] (wX q cI cJ (nI n) mk lt tg pa an la kn fb fh nb te wt bh) (PX cI cJ q n mk lt tg pa an la kn (.long (setV n mk lt tg pa an la (kn a) (kn b) b 1))) 0 (6 * 0) := by
  obtain ⟨hI, hIL, htr⟩ := id hL
  have hn := hI.1
  refine eg_monoM (wz_set_heads l D cI cJ q n mk lt tg pa an la kn fb fh nb te wt bh (nI a) (nI b) (rm := { frames := 3, cells := 0, slots := 0, locals := 67 }) ⟨rfl, rfl, by decide, by decide⟩ (eg_toW (c_X0_heads l D cI cJ q n mk lt tg pa an la kn fb fh nb te wt bh a hI ha)) (fun v w1 h => ⟨_, h.1⟩)) (fun r w1 h => ?_)
  obtain ⟨x8, h0, e, rfl⟩ := h
  exact ⟨h0.trans e, fb, fh, nb, te, wt, bh, hL, rfl⟩
set_option maxHeartbeats 1000000 in
theorem one_set_2 (hL : LI n lt tg an la kn fb fh nb) {a b : Nat} (ha : a < 4) (hb4 : b < 4) : eg_MLm D (tyL cI cJ) l yL_set wsL_set (rmT 0) [.ref (q 0), .int (nI 2), .int (nI a), .int (nI b)] (wX q cI cJ (nI n) mk lt tg pa an la kn fb fh nb te wt bh) (PX cI cJ q n mk lt tg pa an la kn (.long (setV n mk lt tg pa an la (kn a) (kn b) b 2))) 0 (6 * 0) := by
  obtain ⟨hI, hIL, htr⟩ := id hL
  have hn := hI.1
  refine eg_monoM (wz_set_critical l D cI cJ q n mk lt tg pa an la kn fb fh nb te wt bh (nI a) (nI b) (rm := { frames := 4, cells := 0, slots := 0, locals := 87 }) ⟨rfl, rfl, by decide, by decide⟩ (eg_toW (c_X0_critical l D cI cJ q n mk lt tg pa an la kn fb fh nb te wt bh a hI ha)) (fun v w1 h => ⟨_, h.1⟩)) (fun r w1 h => ?_)
  obtain ⟨x8, h0, e, rfl⟩ := h
  exact ⟨h0.trans e, fb, fh, nb, te, wt, bh, hL, rfl⟩
set_option maxHeartbeats 1000000 in
theorem one_set_3 (hL : LI n lt tg an la kn fb fh nb) {a b : Nat} (ha : a < 4) (hb4 : b < 4) : eg_MLm D (tyL cI cJ) l yL_set wsL_set (rmT 0) [.ref (q 0), .int (nI 3), .int (nI a), .int (nI b)] (wX q cI cJ (nI n) mk lt tg pa an la kn fb fh nb te wt bh) (PX cI cJ q n mk lt tg pa an la kn (.long (setV n mk lt tg pa an la (kn a) (kn b) b 3))) 0 (6 * 0) := by
  obtain ⟨hI, hIL, htr⟩ := id hL
  have hn := hI.1
  refine eg_monoM (wz_set_commonHeads l D cI cJ q n mk lt tg pa an la kn fb fh nb te wt bh (nI a) (nI b) (rm := { frames := 3, cells := 0, slots := 0, locals := 67 }) ⟨rfl, rfl, by decide, by decide⟩ (eg_toW (c_X0_commonHeads l D cI cJ q n mk lt tg pa an la kn fb fh nb te wt bh a b hI ha hb4)) (fun v w1 h => ⟨_, h.1⟩)) (fun r w1 h => ?_)
  obtain ⟨x8, h0, e, rfl⟩ := h
  exact ⟨h0.trans e, fb, fh, nb, te, wt, bh, hL, rfl⟩
set_option maxHeartbeats 1000000 in
theorem one_set_4 (hL : LI n lt tg an la kn fb fh nb) {a b : Nat} (ha : a < 4) (hb4 : b < 4) : eg_MLm D (tyL cI cJ) l yL_set wsL_set (rmT 0) [.ref (q 0), .int (nI 4), .int (nI a), .int (nI b)] (wX q cI cJ (nI n) mk lt tg pa an la kn fb fh nb te wt bh) (PX cI cJ q n mk lt tg pa an la kn (.long (setV n mk lt tg pa an la (kn a) (kn b) b 4))) 0 (6 * 0) := by
  obtain ⟨hI, hIL, htr⟩ := id hL
  have hn := hI.1
  refine eg_monoM (wz_set_lettersBy l D cI cJ q n mk lt tg pa an la kn fb fh nb te wt bh (nI a) (nI b) (rm := { frames := 4, cells := 0, slots := 0, locals := 97 }) ⟨rfl, rfl, by decide, by decide⟩ (c_X0_lettersBy l D cI cJ q n mk lt tg pa an la kn fb fh nb te wt bh a b hI htr ha hb4) (fun v w1 h => by obtain ⟨_, _, h1, -⟩ := h; exact ⟨_, h1⟩)) (fun r w1 h => ?_)
  obtain ⟨x8, h0, te', wt', e, rfl⟩ := h
  cases e
  exact ⟨h0, fb, fh, nb, te', wt', bh, hL, rfl⟩
theorem one_set (hL : LI n lt tg an la kn fb fh nb) {a b : Nat} (ha : a < 4) (hb4 : b < 4) : ∀ j, j < 5 → eg_MLm D (tyL cI cJ) l yL_set wsL_set (rmT 0) [.ref (q 0), .int (nI j), .int (nI a), .int (nI b)] (wX q cI cJ (nI n) mk lt tg pa an la kn fb fh nb te wt bh) (PX cI cJ q n mk lt tg pa an la kn (.long (setV n mk lt tg pa an la (kn a) (kn b) b j))) 0 (6 * 0)
  | 0, _ => one_set_0 l D cI cJ q mk pa te wt bh hL ha hb4
  | 1, _ => one_set_1 l D cI cJ q mk pa te wt bh hL ha hb4
  | 2, _ => one_set_2 l D cI cJ q mk pa te wt bh hL ha hb4
  | 3, _ => one_set_3 l D cI cJ q mk pa te wt bh hL ha hb4
  | 4, _ => one_set_4 l D cI cJ q mk pa te wt bh hL ha hb4
  | j + 5, h => absurd h (by omega)
set_option maxHeartbeats 1000000 in
theorem one_by_0 (hL : LI n lt tg an la kn fb fh nb) {e0 e1 : Nat} (he : e0 < n) (he1 : e1 < n) : eg_MLm D (tyL cI cJ) l yL_by wsL_by (rmT 0) [.ref (q 0), .int (nI 0), .int (nI e0), .int (nI e1)] (wX q cI cJ (nI n) mk lt tg pa an la kn fb fh nb te wt bh) (PX cI cJ q n mk lt tg pa an la kn (.long (byV n mk lt tg pa an e0 e1 0))) 0 (6 * 0) := by
  obtain ⟨hI, hIL, htr⟩ := id hL
  have hn := hI.1
  refine eg_monoM (wz_by_parents l D cI cJ q n mk lt tg pa an la kn fb fh nb te wt bh (nI e0) (nI e1) (rm := { frames := 2, cells := 0, slots := 0, locals := 42 }) ⟨rfl, rfl, by decide, by decide⟩ (eg_toW (c_X0_parents l D cI cJ q n mk lt tg pa an la kn fb fh nb te wt bh e0 hI he)) (fun v w1 h => ⟨_, h.1⟩)) (fun r w1 h => ?_)
  obtain ⟨x8, h0, e, rfl⟩ := h
  exact ⟨h0.trans e, fb, fh, nb, te, wt, bh, hL, rfl⟩
set_option maxHeartbeats 1000000 in
theorem one_by_3 (hL : LI n lt tg an la kn fb fh nb) {e0 e1 : Nat} (he : e0 < n) (he1 : e1 < n) : eg_MLm D (tyL cI cJ) l yL_by wsL_by (rmT 0) [.ref (q 0), .int (nI 3), .int (nI e0), .int (nI e1)] (wX q cI cJ (nI n) mk lt tg pa an la kn fb fh nb te wt bh) (PX cI cJ q n mk lt tg pa an la kn (.long (byV n mk lt tg pa an e0 e1 3))) 0 (6 * 0) := by
  obtain ⟨hI, hIL, htr⟩ := id hL
  have hn := hI.1
  refine eg_monoM (wz_by_isLater l D cI cJ q n mk lt tg pa an la kn fb fh nb te wt bh (nI e0) (nI e1) (rm := { frames := 2, cells := 0, slots := 0, locals := 42 }) ⟨rfl, rfl, by decide, by decide⟩ (eg_toW (c_X0_isLater l D cI cJ q n mk lt tg pa an la kn fb fh nb te wt bh e0 e1 hI he he1)) (fun v w1 h => ⟨_, h.1⟩)) (fun r w1 h => ?_)
  obtain ⟨x8, h0, e, rfl⟩ := h
  have e9 : eb x8 = eb (bi (an e0) e1) := Value.int.inj (Option.some.inj e)
  have e8 : x8 = bi (an e0) e1 := by
    cases x8 <;> cases hq : bi (an e0) e1 <;> first | rfl | (rw [hq] at e9; exact absurd e9 (by decide))
  exact ⟨by rw [h0, e8]; rfl, fb, fh, nb, te, wt, bh, hL, rfl⟩
set_option maxHeartbeats 1000000 in
theorem one_by_4 (hL : LI n lt tg an la kn fb fh nb) {e0 e1 : Nat} (he : e0 < n) (he1 : e1 < n) : eg_MLm D (tyL cI cJ) l yL_by wsL_by (rmT 0) [.ref (q 0), .int (nI 4), .int (nI e0), .int (nI e1)] (wX q cI cJ (nI n) mk lt tg pa an la kn fb fh nb te wt bh) (PX cI cJ q n mk lt tg pa an la kn (.long (byV n mk lt tg pa an e0 e1 4))) 0 (6 * 0) := by
  obtain ⟨hI, hIL, htr⟩ := id hL
  have hn := hI.1
  refine eg_monoM (wz_by_authorOf l D cI cJ q n mk lt tg pa an la kn fb fh nb te wt bh (nI e0) (nI e1) (rm := { frames := 2, cells := 0, slots := 0, locals := 42 }) ⟨rfl, rfl, by decide, by decide⟩ (eg_toW (c_X0_authorOf l D cI cJ q n mk lt tg pa an la kn fb fh nb te wt bh e0 hI he)) (fun v w1 h => ⟨_, h.1⟩)) (fun r w1 h => ?_)
  obtain ⟨x8, h0, e, rfl⟩ := h
  have e9 : x8 = mk e0 := Value.int.inj (Option.some.inj e)
  exact ⟨by rw [h0, e9]; rfl, fb, fh, nb, te, wt, bh, hL, rfl⟩
set_option maxHeartbeats 1000000 in
theorem one_by_1 (hL : LI n lt tg an la kn fb fh nb) {e0 e1 : Nat} (he : e0 < n) (he1 : e1 < n) : eg_MLm D (tyL cI cJ) l yL_by wsL_by (rmT 0) [.ref (q 0), .int (nI 1), .int (nI e0), .int (nI e1)] (wX q cI cJ (nI n) mk lt tg pa an la kn fb fh nb te wt bh) (PX cI cJ q n mk lt tg pa an la kn (.long (byV n mk lt tg pa an e0 e1 1))) 0 (6 * 0) := by
  obtain ⟨hI, hIL, htr⟩ := id hL
  have hn := hI.1
  refine eg_monoM (wz_by_lengthOf l D cI cJ q n mk lt tg pa an la kn fb fh nb te wt bh (nI e0) (nI e1) (rm := { frames := 4, cells := 0, slots := 0, locals := 97 }) ⟨rfl, rfl, by decide, by decide⟩ (c_X0_lengthOf l D cI cJ q n mk lt tg pa an la kn fb fh nb te wt bh e0 hI htr he) (fun v w1 h => by obtain ⟨_, _, h1, -⟩ := h; exact ⟨_, h1⟩)) (fun r w1 h => ?_)
  obtain ⟨x8, h0, te', wt', e, rfl⟩ := h
  cases e
  exact ⟨h0, fb, fh, nb, te', wt', bh, hL, rfl⟩
set_option maxHeartbeats 1000000 in
theorem one_by_2 (hfl : l.stackTraces = false) (hL : LI n lt tg an la kn fb fh nb) {e0 e1 : Nat} (he : e0 < n) (he1 : e1 < n) : eg_MLm D (tyL cI cJ) l yL_by wsL_by (rmT 1) [.ref (q 0), .int (nI 2), .int (nI e0), .int (nI e1)] (wX q cI cJ (nI n) mk lt tg pa an la kn fb fh nb te wt bh) (PX cI cJ q n mk lt tg pa an la kn (.long (byV n mk lt tg pa an e0 e1 2))) 1 (6 * 1) := by
  obtain ⟨hI, hIL, htr⟩ := id hL
  have hn := hI.1
  by_cases hp : e1 < (tx n lt tg (an e0 ||| ol e0)).length
  · refine eg_monoM (wl_by_letterOf l D cI cJ q n mk lt tg pa an la kn fb fh nb te wt bh (nI e0) (nI e1) (rm := { frames := 5, cells := 0, slots := 0, locals := 121 }) ⟨rfl, rfl, by decide, by decide⟩ (c_X0_letterOf l D cI cJ q n mk lt tg pa an la kn fb fh nb te wt bh e0 e1 hI htr he hp) (fun v w1 h => by obtain ⟨_, _, _, -, h1, -⟩ := h; exact ⟨_, h1⟩)) (fun r w1 h => ?_)
    obtain ⟨x8, h0, te', wt', x9, hx9, e, rfl⟩ := h
    have hg := gD hx9
    subst hg
    cases e
    exact ⟨by rw [h0]; simp [byV, hp], fb, fh, nb, te', wt', bh, hL, rfl⟩
  · refine eg_ofG (wl_by_letterOf_b l D cI cJ q n mk lt tg pa an la kn fb fh nb te wt bh (nI e0) (nI e1) (rm := { frames := 8, cells := 1, slots := 6, locals := 128 }) ⟨rfl, rfl, by decide, by decide⟩ (c_X0_letterOf_no2 l D cI cJ q n mk lt tg pa an la kn fb fh nb te wt bh e0 (nI e1) hI htr he (bad_ge (Nat.le_of_not_lt hp) (by omega)) hfl)) (fun r w1 h => ?_)
    obtain ⟨h0, te', wt', bh', rfl⟩ := h
    exact ⟨by rw [h0]; simp only [byV, if_neg hp]; decide +kernel, fb, fh, nb, te', wt', bh', hL, rfl⟩
theorem one_by (hfl : l.stackTraces = false) (hL : LI n lt tg an la kn fb fh nb) {e0 e1 : Nat} (he : e0 < n) (he1 : e1 < n) : ∀ j, j < 5 → eg_MLm D (tyL cI cJ) l yL_by wsL_by (rmT (tb j)) [.ref (q 0), .int (nI j), .int (nI e0), .int (nI e1)] (wX q cI cJ (nI n) mk lt tg pa an la kn fb fh nb te wt bh) (PX cI cJ q n mk lt tg pa an la kn (.long (byV n mk lt tg pa an e0 e1 j))) (tb j) (6 * tb j)
  | 0, _ => one_by_0 l D cI cJ q mk pa te wt bh hL he he1
  | 1, _ => one_by_1 l D cI cJ q mk pa te wt bh hL he he1
  | 2, _ => one_by_2 l D cI cJ q mk pa te wt bh hfl hL he he1
  | 3, _ => one_by_3 l D cI cJ q mk pa te wt bh hL he he1
  | 4, _ => one_by_4 l D cI cJ q mk pa te wt bh hL he he1
  | j + 5, h => absurd h (by omega)
end EGO
