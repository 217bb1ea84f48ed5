-- THE SCRIPT OF FIFTY 13s (by spec13.py): both graphs stay empty; what each call of the law answers of an empty graph
abbrev z0 : Nat → Int32 := fun _ => 0
abbrev zl : Nat → Int64 := fun _ => 0
abbrev w0 (q : Nat → Nat) (cI cJ : ClassId) (te wt bh : Nat → Int32) : va_W := wX q cI cJ (nI 0) z0 z0 z0 zl zl zl zl (-1) z0 z0 te wt bh
def Rz (q : Nat → Nat) (cI cJ : ClassId) (v : Value) : Option Value → va_W → Prop := fun r w1 => r = some v ∧ ∃ te' wt' bh' : Nat → Int32, w1 = w0 q cI cJ te' wt' bh'
theorem inv0 : Inv 0 z0 z0 zl zl := by
  refine ⟨by omega, fun a _ i hi => ?_, fun e he => by omega, fun a _ e he => ?_, fun e he => by omega, fun e he => by omega, fun e he => by omega⟩
  · rw [bi_0] at hi; cases hi
  · rw [bi_0] at he; cases he
theorem tr0 : ∃ f, Tr 0 z0 z0 f (-1) (lay (ins z0) z0 0) := ⟨0, rfl, rfl⟩
def rO : Nat → Int32
  | 0 => nI 0
  | 1 => nI (cnX zl zl 0 0 / 2)
  | 2 => nI (pc64 (0 &&& (tpX zl (cO zl zl 0 0) 0 ^^^ (-1))))
  | 3 => nI (rnX 0 z0 z0 z0 zl 0 0)
  | _ => -8
def rS : Nat → Int64
  | 0 => 0
  | 1 => hdX zl 0 0
  | 2 => cO zl zl 0 0
  | 3 => hdX zl (0 &&& 0) 0
  | _ => (nI 0).toInt64
section EG0
variable (l : Launch) (D : va_G) (cI cJ : ClassId) (q : Nat → Nat) (te wt bh : Nat → Int32)
set_option maxHeartbeats 1000000 in
theorem of0_0 {a : Nat} (ha : a < 4) : eg_MLg D (tyL cI cJ) l yL_of wsL_of rmL [.ref (q 0), .int (nI 0), .int (nI a), .int (nI 0)] (w0 q cI cJ te wt bh) (Rz q cI cJ (.int (rO 0))) 0 :=
  eg_Lg (wl_of_length l D cI cJ q 0 z0 z0 z0 zl zl zl zl (-1) z0 z0 te wt bh (nI a) (nI 0) ⟨rfl, rfl, Nat.le_of_ble_eq_true rfl, Nat.le_of_ble_eq_true rfl⟩ (c_X0_length l D cI cJ q 0 z0 z0 z0 zl zl zl zl (-1) z0 z0 te wt bh a inv0 tr0 ha) (fun v w1 h => by obtain ⟨te', wt', h1, h2⟩ := h; exact ⟨_, h1⟩)) (fun v w1 h => by
    obtain ⟨x, h1, te', wt', h2, h3⟩ := h
    exact ⟨by rw [h1]; exact h2, te', wt', bh, h3⟩)
set_option maxHeartbeats 1000000 in
theorem of0_1 {a : Nat} (ha : a < 4) : eg_MLg D (tyL cI cJ) l yL_of wsL_of rmL [.ref (q 0), .int (nI 1), .int (nI a), .int (nI 0)] (w0 q cI cJ te wt bh) (Rz q cI cJ (.int (rO 1))) 0 :=
  eg_Lg (wl_of_concurrent l D cI cJ q 0 z0 z0 z0 zl zl zl zl (-1) z0 z0 te wt bh (nI a) (nI 0) ⟨rfl, rfl, Nat.le_of_ble_eq_true rfl, Nat.le_of_ble_eq_true rfl⟩ (eg_toW (c_X0_concurrent l D cI cJ q 0 z0 z0 z0 zl zl zl zl (-1) z0 z0 te wt bh a inv0 ha)) (fun v w1 h => ⟨_, h.1⟩)) (fun v w1 h => by
    obtain ⟨x, h1, h2, h3⟩ := h
    exact ⟨by rw [h1]; exact h2, te, wt, bh, h3⟩)
set_option maxHeartbeats 1000000 in
theorem of0_2 {a : Nat} (ha : a < 4) : eg_MLg D (tyL cI cJ) l yL_of wsL_of rmL [.ref (q 0), .int (nI 2), .int (nI a), .int (nI 0)] (w0 q cI cJ te wt bh) (Rz q cI cJ (.int (rO 2))) 0 :=
  eg_Lg (wl_of_toReplay l D cI cJ q 0 z0 z0 z0 zl zl zl zl (-1) z0 z0 te wt bh (nI a) (nI 0) ⟨rfl, rfl, Nat.le_of_ble_eq_true rfl, Nat.le_of_ble_eq_true rfl⟩ (eg_toW (c_X0_toReplay l D cI cJ q 0 z0 z0 z0 zl zl zl zl (-1) z0 z0 te wt bh a inv0 ha)) (fun v w1 h => ⟨_, h.1⟩)) (fun v w1 h => by
    obtain ⟨x, h1, h2, h3⟩ := h
    exact ⟨by rw [h1]; exact h2, te, wt, bh, h3⟩)
set_option maxHeartbeats 1000000 in
theorem of0_3 {a : Nat} (ha : a < 4) : eg_MLg D (tyL cI cJ) l yL_of wsL_of rmL [.ref (q 0), .int (nI 3), .int (nI a), .int (nI 0)] (w0 q cI cJ te wt bh) (Rz q cI cJ (.int (rO 3))) 0 :=
  eg_Lg (wl_of_runs l D cI cJ q 0 z0 z0 z0 zl zl zl zl (-1) z0 z0 te wt bh (nI a) (nI 0) ⟨rfl, rfl, Nat.le_of_ble_eq_true rfl, Nat.le_of_ble_eq_true rfl⟩ (eg_toW (c_X0_runs l D cI cJ q 0 z0 z0 z0 zl zl zl zl (-1) z0 z0 te wt bh a inv0 ha)) (fun v w1 h => ⟨_, h.1⟩)) (fun v w1 h => by
    obtain ⟨x, h1, h2, h3⟩ := h
    exact ⟨by rw [h1]; exact h2, te, wt, bh, h3⟩)
set_option maxHeartbeats 1000000 in
theorem of0_4 (hfl : l.stackTraces = false) {a : Nat} (ha : a < 4) : eg_MLg D (tyL cI cJ) l yL_of wsL_of rmL [.ref (q 0), .int (nI 4), .int (nI a), .int (nI 0)] (w0 q cI cJ te wt bh) (Rz q cI cJ (.int (rO 4))) 0 :=
  eg_monoG (wl_of_letterAt_b l D cI cJ q 0 z0 z0 z0 zl zl zl zl (-1) z0 z0 te wt bh (nI a) (nI 0) ⟨rfl, rfl, Nat.le_of_ble_eq_true rfl, Nat.le_of_ble_eq_true rfl⟩ (c_X0_letterAt_no2 l D cI cJ q 0 z0 z0 z0 zl zl zl zl (-1) z0 z0 te wt bh a (nI 0) inv0 tr0 ha (show bad 0 (nI 0) from Or.inr (by decide +kernel)) hfl)) (Nat.zero_le _) (fun v w1 h => h)
set_option maxHeartbeats 1000000 in
theorem of0_5 (hfl : l.stackTraces = false) {a : Nat} (ha : a < 4) : eg_MLg D (tyL cI cJ) l yL_of wsL_of rmL [.ref (q 0), .int (nI 5), .int (nI a), .int (nI 0)] (w0 q cI cJ te wt bh) (Rz q cI cJ (.int (rO 5))) 0 :=
  eg_monoG (wl_of_letterByList_b l D cI cJ q 0 z0 z0 z0 zl zl zl zl (-1) z0 z0 te wt bh (nI a) (nI 0) ⟨rfl, rfl, Nat.le_of_ble_eq_true rfl, Nat.le_of_ble_eq_true rfl⟩ (c_X0_letterByList_no2 l D cI cJ q 0 z0 z0 z0 zl zl zl zl (-1) z0 z0 te wt bh a (nI 0) inv0 ha (show bad 0 (nI 0) from Or.inr (by decide +kernel)) hfl)) (Nat.zero_le _) (fun v w1 h => h)
set_option maxHeartbeats 1000000 in
theorem of0_6 (hfl : l.stackTraces = false) {a : Nat} (ha : a < 4) : eg_MLg D (tyL cI cJ) l yL_of wsL_of rmL [.ref (q 0), .int (nI 6), .int (nI a), .int (nI 0)] (w0 q cI cJ te wt bh) (Rz q cI cJ (.int (rO 6))) 0 :=
  eg_monoG (wl_of_eventAt_b l D cI cJ q 0 z0 z0 z0 zl zl zl zl (-1) z0 z0 te wt bh (nI a) (nI 0) ⟨rfl, rfl, Nat.le_of_ble_eq_true rfl, Nat.le_of_ble_eq_true rfl⟩ (c_X0_eventAt_no2 l D cI cJ q 0 z0 z0 z0 zl zl zl zl (-1) z0 z0 te wt bh a (nI 0) inv0 tr0 ha (show bad 0 (nI 0) from Or.inr (by decide +kernel)) hfl)) (Nat.zero_le _) (fun v w1 h => h)
theorem of0 (hfl : l.stackTraces = false) {a : Nat} (ha : a < 4) : ∀ j, j < 7 → eg_MLg D (tyL cI cJ) l yL_of wsL_of rmL [.ref (q 0), .int (nI j), .int (nI a), .int (nI 0)] (w0 q cI cJ te wt bh) (Rz q cI cJ (.int (rO j))) 0
  | 0, _ => of0_0 l D cI cJ q te wt bh ha
  | 1, _ => of0_1 l D cI cJ q te wt bh ha
  | 2, _ => of0_2 l D cI cJ q te wt bh ha
  | 3, _ => of0_3 l D cI cJ q te wt bh ha
  | 4, _ => of0_4 l D cI cJ q te wt bh hfl ha
  | 5, _ => of0_5 l D cI cJ q te wt bh hfl ha
  | 6, _ => of0_6 l D cI cJ q te wt bh hfl ha
  | j + 7, h => absurd h (by omega)
set_option maxHeartbeats 1000000 in
theorem does0 (hfl : l.stackTraces = false) {a : Nat} (ha : a < 4) : eg_MLg D (tyL cI cJ) l yL_does wsL_does rmL [.ref (q 0), .int (nI 2), .int (nI a), .int (nI 0)] (w0 q cI cJ te wt bh) (Rz q cI cJ (.int (-8))) 1 :=
  wl_does_learnEvent_b l D cI cJ q 0 z0 z0 z0 zl zl zl zl (-1) z0 z0 te wt bh (nI a) (nI 0) ⟨rfl, rfl, Nat.le_of_ble_eq_true rfl, Nat.le_of_ble_eq_true rfl⟩ (c_X0_learnEvent_no2 l D cI cJ q 0 z0 z0 z0 zl zl zl zl (-1) z0 z0 te wt bh a (nI 0) inv0 ha (show bad 0 (nI 0) from Or.inr (by decide +kernel)) hfl)
set_option maxHeartbeats 1000000 in
theorem set0_0 {a b : Nat} (ha : a < 4) (hb4 : b < 4) : eg_MLg D (tyL cI cJ) l yL_set wsL_set rmL [.ref (q 0), .int (nI 0), .int (nI a), .int (nI b)] (w0 q cI cJ te wt bh) (Rz q cI cJ (.long (rS 0))) 0 :=
  eg_Lg (wl_set_version l D cI cJ q 0 z0 z0 z0 zl zl zl zl (-1) z0 z0 te wt bh (nI a) (nI b) ⟨rfl, rfl, Nat.le_of_ble_eq_true rfl, Nat.le_of_ble_eq_true rfl⟩ (eg_toW (c_X0_version l D cI cJ q 0 z0 z0 z0 zl zl zl zl (-1) z0 z0 te wt bh a ha)) (fun v w1 h => ⟨_, h.1⟩)) (fun v w1 h => by
    obtain ⟨x, h1, h2, h3⟩ := h
    exact ⟨by rw [h1]; exact h2, te, wt, bh, h3⟩)
set_option maxHeartbeats 1000000 in
theorem set0_1 {a b : Nat} (ha : a < 4) (hb4 : b < 4) : eg_MLg D (tyL cI cJ) l yL_set wsL_set rmL [.ref (q 0), .int (nI 1), .int (nI a), .int (nI b)] (w0 q cI cJ te wt bh) (Rz q cI cJ (.long (rS 1))) 0 :=
  eg_Lg (wl_set_heads l D cI cJ q 0 z0 z0 z0 zl zl zl zl (-1) z0 z0 te wt bh (nI a) (nI b) ⟨rfl, rfl, Nat.le_of_ble_eq_true rfl, Nat.le_of_ble_eq_true rfl⟩ (eg_toW (c_X0_heads l D cI cJ q 0 z0 z0 z0 zl zl zl zl (-1) z0 z0 te wt bh a inv0 ha)) (fun v w1 h => ⟨_, h.1⟩)) (fun v w1 h => by
    obtain ⟨x, h1, h2, h3⟩ := h
    exact ⟨by rw [h1]; exact h2, te, wt, bh, h3⟩)
set_option maxHeartbeats 1000000 in
theorem set0_2 {a b : Nat} (ha : a < 4) (hb4 : b < 4) : eg_MLg D (tyL cI cJ) l yL_set wsL_set rmL [.ref (q 0), .int (nI 2), .int (nI a), .int (nI b)] (w0 q cI cJ te wt bh) (Rz q cI cJ (.long (rS 2))) 0 :=
  eg_Lg (wl_set_critical l D cI cJ q 0 z0 z0 z0 zl zl zl zl (-1) z0 z0 te wt bh (nI a) (nI b) ⟨rfl, rfl, Nat.le_of_ble_eq_true rfl, Nat.le_of_ble_eq_true rfl⟩ (eg_toW (c_X0_critical l D cI cJ q 0 z0 z0 z0 zl zl zl zl (-1) z0 z0 te wt bh a inv0 ha)) (fun v w1 h => ⟨_, h.1⟩)) (fun v w1 h => by
    obtain ⟨x, h1, h2, h3⟩ := h
    exact ⟨by rw [h1]; exact h2, te, wt, bh, h3⟩)
set_option maxHeartbeats 1000000 in
theorem set0_3 {a b : Nat} (ha : a < 4) (hb4 : b < 4) : eg_MLg D (tyL cI cJ) l yL_set wsL_set rmL [.ref (q 0), .int (nI 3), .int (nI a), .int (nI b)] (w0 q cI cJ te wt bh) (Rz q cI cJ (.long (rS 3))) 0 :=
  eg_Lg (wl_set_commonHeads l D cI cJ q 0 z0 z0 z0 zl zl zl zl (-1) z0 z0 te wt bh (nI a) (nI b) ⟨rfl, rfl, Nat.le_of_ble_eq_true rfl, Nat.le_of_ble_eq_true rfl⟩ (eg_toW (c_X0_commonHeads l D cI cJ q 0 z0 z0 z0 zl zl zl zl (-1) z0 z0 te wt bh a b inv0 ha hb4)) (fun v w1 h => ⟨_, h.1⟩)) (fun v w1 h => by
    obtain ⟨x, h1, h2, h3⟩ := h
    exact ⟨by rw [h1]; exact h2, te, wt, bh, h3⟩)
set_option maxHeartbeats 1000000 in
theorem set0_4 {a b : Nat} (ha : a < 4) (hb4 : b < 4) : eg_MLg D (tyL cI cJ) l yL_set wsL_set rmL [.ref (q 0), .int (nI 4), .int (nI a), .int (nI b)] (w0 q cI cJ te wt bh) (Rz q cI cJ (.long (rS 4))) 0 :=
  eg_Lg (wl_set_lettersBy l D cI cJ q 0 z0 z0 z0 zl zl zl zl (-1) z0 z0 te wt bh (nI a) (nI b) ⟨rfl, rfl, Nat.le_of_ble_eq_true rfl, Nat.le_of_ble_eq_true rfl⟩ (c_X0_lettersBy l D cI cJ q 0 z0 z0 z0 zl zl zl zl (-1) z0 z0 te wt bh a b inv0 tr0 ha hb4) (fun v w1 h => by obtain ⟨te', wt', h1, h2⟩ := h; exact ⟨_, h1⟩)) (fun v w1 h => by
    obtain ⟨x, h1, te', wt', h2, h3⟩ := h
    have h4 : x = nI 0 := Value.int.inj (Option.some.inj h2)
    exact ⟨by rw [h1, h4]; rfl, te', wt', bh, h3⟩)
theorem set0 {a b : Nat} (ha : a < 4) (hb4 : b < 4) : ∀ j, j < 5 → eg_MLg D (tyL cI cJ) l yL_set wsL_set rmL [.ref (q 0), .int (nI j), .int (nI a), .int (nI b)] (w0 q cI cJ te wt bh) (Rz q cI cJ (.long (rS j))) 0
  | 0, _ => set0_0 l D cI cJ q te wt bh ha hb4
  | 1, _ => set0_1 l D cI cJ q te wt bh ha hb4
  | 2, _ => set0_2 l D cI cJ q te wt bh ha hb4
  | 3, _ => set0_3 l D cI cJ q te wt bh ha hb4
  | 4, _ => set0_4 l D cI cJ q te wt bh ha hb4
  | j + 5, h => absurd h (by omega)
end EG0
