-- the law's static calls of the class: they return the number of the exception (by specL.py)
set_option maxHeartbeats 4000000 in
set_option maxRecDepth 100000 in
theorem wl_insert (l : Launch) (D : va_G) (cI cJ : ClassId) (q : Nat → Nat) (n : Nat) (mk lt tg : Nat → Int32) (pa an la kn : Nat → Int64) (fb : Int32) (fh nb te wt bh : Nat → Int32) (o : Nat) (out : Nat → Int64) (x0 x1 x2 : Int32) {rm : Room} (hrm : rm.cells = 0 ∧ rm.slots = 0 ∧ rm.frames + 1 ≤ 9 ∧ 8 + (7 + 11) + rm.locals ≤ 150) {Rq : Option Value → va_W → Prop} (hM : eg_MW D (tyL cI cJ) l yX0_insert wsX0_insert rm 0 0 [.ref (q 0), .int x0, .int x1, .int x2] (wX q cI cJ (nI n) mk lt tg pa an la kn fb fh nb te wt bh) Rq) (hRq : ∀ v w1, Rq v w1 → ∃ x : Int32, v = some (.int x)) : eg_ML D (tyL cI cJ) l yL_insert wsL_insert rmL [.ref (q 0), .int x0, .int x1, .int x2, .ref o] (wO o cJ out ++ wX q cI cJ (nI n) mk lt tg pa an la kn fb fh nb te wt bh) (fun r w1 => r = some (.int (nI 0)) ∧ ∃ (x : Int32) (wx : va_W), Rq (some (.int x)) wx ∧ w1 = wO o cJ (vp_updL out 0 (x.toInt64)) ++ wx) := by
  refine eg_ofWH (cc := cL_insert) (maxL := 6) (ret := (some .int)) (hh := [(0, 12, 15, 13), (0, 12, 19, 15), (0, 12, 23, 17)]) (by decide) rfl ?_
  intro p e s m args below meth c s₁ B hml htb hv
  obtain ⟨rfl, hP, hK, hD0, hT⟩ := hv
  have hx := B.exec
  have hb := B.bytes
  have hr := B.returns
  have hts := atoms_spec (ws := wsL_insert) B.pre
  have hown : s.vm.findClass RL = some m.cls := findClass_of_methodNamed B.named
  have hlocks := B.notSynchronized
  have hD := eg_D_of hD0
  have hS : va_S (eg_A (wO o cJ out ++ wX q cI cJ (nI n) mk lt tg pa an la kn fb fh nb te wt bh)) s.heap s.heap [] := va_S.rf
  have hl := lv_entry ([.ref (q 0), .int x0, .int x1, .int x2, .ref o]) (n := 6) (Nat.le_of_ble_eq_true rfl)
  rw [lg_entry_eq]
  generalize (lg_sl ([.ref (q 0), .int x0, .int x1, .int x2, .ref o]) ++ List.replicate (6 - (lg_sl ([.ref (q 0), .int x0, .int x1, .int x2, .ref o])).length) Slot.unset).toArray = ls at hl ⊢
  have hl : lv_has ls 6 [(0, .ref (q 0)), (1, .int x0), (2, .int x1), (3, .int x2), (4, .ref o)] := hl
  generalize h0H : s.heap = H at hP ⊢
  have hS : va_S (eg_A (wO o cJ out ++ wX q cI cJ (nI n) mk lt tg pa an la kn fb fh nb te wt bh)) s.heap H [] := by rw [← h0H]; exact hS
  generalize ([] : List Loc) = locs at hS ⊢
  refine lv_aload hx hb dL_insert_0 (lv_at hl 4 rfl) ?_
  refine lv_iconst (v := nI 0) hx hb dL_insert_2 (by decide +kernel) ?_
  refine lv_aload_n hx hb dL_insert_3 rfl (lv_at hl 0 rfl) ?_
  refine lv_iload_n hx hb dL_insert_4 rfl (lv_at hl 1 rfl) ?_
  refine lv_iload_n hx hb dL_insert_5 rfl (lv_at hl 2 rfl) ?_
  refine lv_iload_n hx hb dL_insert_6 rfl (lv_at hl 3 rfl) ?_
  refine eg_callWVc (wr := wO o cJ out) (As := [.int x0, .int x1, .int x2]) (rest := [.int (nI 0), .ref o]) hx hb hml hown hts hK hP hD hS [1, 2, 3, 4, 5, 6, 7, 8, 9, 10, 11, 12, 13] [0] rfl rfl (by decide) hM (cwV 3 hts gL_insert_X0_insert rfl hrm.1 hrm.2.1 (by decide +kernel) ⟨hrm.2.2.1, hrm.2.2.2⟩) (va_recv hK hP (ci := 0) (q0 := 1) rfl rfl) rfl hl.1 rfl (Nat.le_of_ble_eq_true rfl) dL_insert_7 ⟨Nat.le_of_ble_eq_true rfl, Nat.le_of_ble_eq_true rfl⟩ (fun v9 w9 H locs hR9 hw9 hP hD hS => ?_)
  obtain ⟨x, rfl⟩ := hRq _ _ hR9
  refine lv_i2l (v := x.toInt64) hx hb dL_insert_10 rfl ?_
  refine eg_last hx hb hK hP hD rfl hS 0 1 rfl rfl (by decide) (by decide) dL_insert_11 (w' := wO o cJ (vp_updL out 0 (x.toInt64)) ++ w9) rfl (fun H locs hP hS => ?_)
  refine lv_goto (tgt := 27) hx hb dL_insert_12 (by decide) ?_
  refine lv_iconst (v := nI 0) hx hb dL_insert_27 (by decide +kernel) ?_
  refine W.widen (k := 1) (n := 6) (by omega) (by omega) ?_
  exact W.iret hx hb hr (fun t9 ht9 _ => ⟨some (.int (nI 0)), _, rfl, ⟨rfl, x, w9, hR9, rfl⟩, by rw [List.map_append, List.map_append, hw9]; rfl, by rw [ht9]; exact hP, hS.F ht9⟩) hS.2.2 dL_insert_28
set_option maxHeartbeats 4000000 in
set_option maxRecDepth 100000 in
theorem wl_insert_b (l : Launch) (D : va_G) (cI cJ : ClassId) (q : Nat → Nat) (n : Nat) (mk lt tg : Nat → Int32) (pa an la kn : Nat → Int64) (fb : Int32) (fh nb te wt bh : Nat → Int32) (o : Nat) (out : Nat → Int64) (x0 x1 x2 : Int32) {rm : Room} (hrm : rm.cells = 1 ∧ rm.slots = 6 ∧ rm.frames + 1 ≤ 9 ∧ 8 + (7 + 11) + rm.locals ≤ 150) {Rx : va_W → Prop} (hM : eg_MX D (tyL cI cJ) l yX0_insert wsX0_insert rm [.ref (q 0), .int x0, .int x1, .int x2] (wX q cI cJ (nI n) mk lt tg pa an la kn fb fh nb te wt bh) "java/lang/IndexOutOfBoundsException" Rx) : eg_ML D (tyL cI cJ) l yL_insert wsL_insert rmL [.ref (q 0), .int x0, .int x1, .int x2, .ref o] (wO o cJ out ++ wX q cI cJ (nI n) mk lt tg pa an la kn fb fh nb te wt bh) (fun r w1 => r = some (.int (nI 1)) ∧ ∃ wx : va_W, Rx wx ∧ w1 = wO o cJ out ++ wx) := by
  refine eg_ofWH (cc := cL_insert) (maxL := 6) (ret := (some .int)) (hh := [(0, 12, 15, 13), (0, 12, 19, 15), (0, 12, 23, 17)]) (by decide) rfl ?_
  intro p e s m args below meth c s₁ B hml htb hv
  obtain ⟨rfl, hP, hK, hD0, hT⟩ := hv
  have hx := B.exec
  have hb := B.bytes
  have hr := B.returns
  have hts := atoms_spec (ws := wsL_insert) B.pre
  have hown : s.vm.findClass RL = some m.cls := findClass_of_methodNamed B.named
  have hlocks := B.notSynchronized
  have hD := eg_D_of hD0
  have hS : va_S (eg_A (wO o cJ out ++ wX q cI cJ (nI n) mk lt tg pa an la kn fb fh nb te wt bh)) s.heap s.heap [] := va_S.rf
  have hl := lv_entry ([.ref (q 0), .int x0, .int x1, .int x2, .ref o]) (n := 6) (Nat.le_of_ble_eq_true rfl)
  rw [lg_entry_eq]
  generalize (lg_sl ([.ref (q 0), .int x0, .int x1, .int x2, .ref o]) ++ List.replicate (6 - (lg_sl ([.ref (q 0), .int x0, .int x1, .int x2, .ref o])).length) Slot.unset).toArray = ls at hl ⊢
  have hl : lv_has ls 6 [(0, .ref (q 0)), (1, .int x0), (2, .int x1), (3, .int x2), (4, .ref o)] := hl
  generalize h0H : s.heap = H at hP ⊢
  have hS : va_S (eg_A (wO o cJ out ++ wX q cI cJ (nI n) mk lt tg pa an la kn fb fh nb te wt bh)) s.heap H [] := by rw [← h0H]; exact hS
  generalize ([] : List Loc) = locs at hS ⊢
  refine lv_aload hx hb dL_insert_0 (lv_at hl 4 rfl) ?_
  refine lv_iconst (v := nI 0) hx hb dL_insert_2 (by decide +kernel) ?_
  refine lv_aload_n hx hb dL_insert_3 rfl (lv_at hl 0 rfl) ?_
  refine lv_iload_n hx hb dL_insert_4 rfl (lv_at hl 1 rfl) ?_
  refine lv_iload_n hx hb dL_insert_5 rfl (lv_at hl 2 rfl) ?_
  refine lv_iload_n hx hb dL_insert_6 rfl (lv_at hl 3 rfl) ?_
  refine eg_callX (wr := wO o cJ out) (As := [.int x0, .int x1, .int x2]) (rest := [.int (nI 0), .ref o]) hx hb hml hown hts hK hP hD hS hT [1, 2, 3, 4, 5, 6, 7, 8, 9, 10, 11, 12, 13] [0] rfl rfl (by decide) hM (cwV 3 hts gL_insert_X0_insert rfl hrm.1 hrm.2.1 (by decide +kernel) ⟨hrm.2.2.1, hrm.2.2.2⟩) (va_recv hK hP (ci := 0) (q0 := 1) rfl rfl) rfl hl.1 rfl (Nat.le_of_ble_eq_true rfl) dL_insert_7 ⟨Nat.le_of_ble_eq_true rfl, Nat.le_of_ble_eq_true rfl⟩ (fun w9 H locs q9 ce hR9 hw9 hP hD hS hc1 hc2 hc3 => ?_)
  refine vx_catch (own := RL) (name := "java/lang/IndexOutOfBoundsException") hown [] ⟨0, 12, 15, 13⟩ [⟨0, 12, 19, 15⟩, ⟨0, 12, 23, 17⟩] (htb.trans rfl) (fun z hz => absurd hz List.not_mem_nil) (by decide) (by decide) (hts (.classLink RL 13 "java/lang/IndexOutOfBoundsException") (by decide +kernel)) (va_Nw.use rfl hT.1.2.2.2.2.1) hc1 hc2 hc3 ?_
  refine lv_astore (lv' := [(5, .ref q9), (0, .ref (q 0)), (1, .int x0), (2, .int x1), (3, .int x2), (4, .ref o)]) hx hb dL_insert_15 hl (by decide) rfl (fun ls hl => ?_)
  refine lv_iconst (v := nI 1) hx hb dL_insert_17 (by decide +kernel) ?_
  exact W.iret hx hb hr (fun t9 ht9 _ => ⟨some (.int (nI 1)), _, rfl, ⟨rfl, w9, hR9, rfl⟩, by rw [List.map_append, List.map_append, hw9], by rw [ht9]; exact hP, hS.F ht9⟩) hS.2.2 dL_insert_18
set_option maxHeartbeats 4000000 in
set_option maxRecDepth 100000 in
theorem wl_insert_a (l : Launch) (D : va_G) (cI cJ : ClassId) (q : Nat → Nat) (n : Nat) (mk lt tg : Nat → Int32) (pa an la kn : Nat → Int64) (fb : Int32) (fh nb te wt bh : Nat → Int32) (o : Nat) (out : Nat → Int64) (x0 x1 x2 : Int32) {rm : Room} (hrm : rm.cells = 1 ∧ rm.slots = 6 ∧ rm.frames + 1 ≤ 9 ∧ 8 + (7 + 11) + rm.locals ≤ 150) {Rx : va_W → Prop} (hM : eg_MX D (tyL cI cJ) l yX0_insert wsX0_insert rm [.ref (q 0), .int x0, .int x1, .int x2] (wX q cI cJ (nI n) mk lt tg pa an la kn fb fh nb te wt bh) "java/lang/IllegalArgumentException" Rx) : eg_ML D (tyL cI cJ) l yL_insert wsL_insert rmL [.ref (q 0), .int x0, .int x1, .int x2, .ref o] (wO o cJ out ++ wX q cI cJ (nI n) mk lt tg pa an la kn fb fh nb te wt bh) (fun r w1 => r = some (.int (nI 2)) ∧ ∃ wx : va_W, Rx wx ∧ w1 = wO o cJ out ++ wx) := by
  refine eg_ofWH (cc := cL_insert) (maxL := 6) (ret := (some .int)) (hh := [(0, 12, 15, 13), (0, 12, 19, 15), (0, 12, 23, 17)]) (by decide) rfl ?_
  intro p e s m args below meth c s₁ B hml htb hv
  obtain ⟨rfl, hP, hK, hD0, hT⟩ := hv
  have hx := B.exec
  have hb := B.bytes
  have hr := B.returns
  have hts := atoms_spec (ws := wsL_insert) B.pre
  have hown : s.vm.findClass RL = some m.cls := findClass_of_methodNamed B.named
  have hlocks := B.notSynchronized
  have hD := eg_D_of hD0
  have hS : va_S (eg_A (wO o cJ out ++ wX q cI cJ (nI n) mk lt tg pa an la kn fb fh nb te wt bh)) s.heap s.heap [] := va_S.rf
  have hl := lv_entry ([.ref (q 0), .int x0, .int x1, .int x2, .ref o]) (n := 6) (Nat.le_of_ble_eq_true rfl)
  rw [lg_entry_eq]
  generalize (lg_sl ([.ref (q 0), .int x0, .int x1, .int x2, .ref o]) ++ List.replicate (6 - (lg_sl ([.ref (q 0), .int x0, .int x1, .int x2, .ref o])).length) Slot.unset).toArray = ls at hl ⊢
  have hl : lv_has ls 6 [(0, .ref (q 0)), (1, .int x0), (2, .int x1), (3, .int x2), (4, .ref o)] := hl
  generalize h0H : s.heap = H at hP ⊢
  have hS : va_S (eg_A (wO o cJ out ++ wX q cI cJ (nI n) mk lt tg pa an la kn fb fh nb te wt bh)) s.heap H [] := by rw [← h0H]; exact hS
  generalize ([] : List Loc) = locs at hS ⊢
  refine lv_aload hx hb dL_insert_0 (lv_at hl 4 rfl) ?_
  refine lv_iconst (v := nI 0) hx hb dL_insert_2 (by decide +kernel) ?_
  refine lv_aload_n hx hb dL_insert_3 rfl (lv_at hl 0 rfl) ?_
  refine lv_iload_n hx hb dL_insert_4 rfl (lv_at hl 1 rfl) ?_
  refine lv_iload_n hx hb dL_insert_5 rfl (lv_at hl 2 rfl) ?_
  refine lv_iload_n hx hb dL_insert_6 rfl (lv_at hl 3 rfl) ?_
  refine eg_callX (wr := wO o cJ out) (As := [.int x0, .int x1, .int x2]) (rest := [.int (nI 0), .ref o]) hx hb hml hown hts hK hP hD hS hT [1, 2, 3, 4, 5, 6, 7, 8, 9, 10, 11, 12, 13] [0] rfl rfl (by decide) hM (cwV 3 hts gL_insert_X0_insert rfl hrm.1 hrm.2.1 (by decide +kernel) ⟨hrm.2.2.1, hrm.2.2.2⟩) (va_recv hK hP (ci := 0) (q0 := 1) rfl rfl) rfl hl.1 rfl (Nat.le_of_ble_eq_true rfl) dL_insert_7 ⟨Nat.le_of_ble_eq_true rfl, Nat.le_of_ble_eq_true rfl⟩ (fun w9 H locs q9 ce hR9 hw9 hP hD hS hc1 hc2 hc3 => ?_)
  refine vx_catch (own := RL) (name := "java/lang/IllegalArgumentException") hown [⟨0, 12, 15, 13⟩] ⟨0, 12, 19, 15⟩ [⟨0, 12, 23, 17⟩] (htb.trans rfl) (List.forall_mem_cons.mpr ⟨Or.inr ⟨(by decide), "java/lang/IndexOutOfBoundsException", hts (.classLink RL 13 "java/lang/IndexOutOfBoundsException") (by decide +kernel), hT.1.2.2.2.2.2.2.2.1⟩, (fun z hz => absurd hz List.not_mem_nil)⟩) (by decide) (by decide) (hts (.classLink RL 15 "java/lang/IllegalArgumentException") (by decide +kernel)) (va_Nw.use rfl hT.1.2.2.2.2.2.1) hc1 hc2 hc3 ?_
  refine lv_astore (lv' := [(5, .ref q9), (0, .ref (q 0)), (1, .int x0), (2, .int x1), (3, .int x2), (4, .ref o)]) hx hb dL_insert_19 hl (by decide) rfl (fun ls hl => ?_)
  refine lv_iconst (v := nI 2) hx hb dL_insert_21 (by decide +kernel) ?_
  exact W.iret hx hb hr (fun t9 ht9 _ => ⟨some (.int (nI 2)), _, rfl, ⟨rfl, w9, hR9, rfl⟩, by rw [List.map_append, List.map_append, hw9], by rw [ht9]; exact hP, hS.F ht9⟩) hS.2.2 dL_insert_22
set_option maxHeartbeats 4000000 in
set_option maxRecDepth 100000 in
theorem wl_insert_s (l : Launch) (D : va_G) (cI cJ : ClassId) (q : Nat → Nat) (n : Nat) (mk lt tg : Nat → Int32) (pa an la kn : Nat → Int64) (fb : Int32) (fh nb te wt bh : Nat → Int32) (o : Nat) (out : Nat → Int64) (x0 x1 x2 : Int32) {rm : Room} (hrm : rm.cells = 1 ∧ rm.slots = 6 ∧ rm.frames + 1 ≤ 9 ∧ 8 + (7 + 11) + rm.locals ≤ 150) {Rx : va_W → Prop} (hM : eg_MX D (tyL cI cJ) l yX0_insert wsX0_insert rm [.ref (q 0), .int x0, .int x1, .int x2] (wX q cI cJ (nI n) mk lt tg pa an la kn fb fh nb te wt bh) "java/lang/IllegalStateException" Rx) : eg_ML D (tyL cI cJ) l yL_insert wsL_insert rmL [.ref (q 0), .int x0, .int x1, .int x2, .ref o] (wO o cJ out ++ wX q cI cJ (nI n) mk lt tg pa an la kn fb fh nb te wt bh) (fun r w1 => r = some (.int (nI 3)) ∧ ∃ wx : va_W, Rx wx ∧ w1 = wO o cJ out ++ wx) := by
  refine eg_ofWH (cc := cL_insert) (maxL := 6) (ret := (some .int)) (hh := [(0, 12, 15, 13), (0, 12, 19, 15), (0, 12, 23, 17)]) (by decide) rfl ?_
  intro p e s m args below meth c s₁ B hml htb hv
  obtain ⟨rfl, hP, hK, hD0, hT⟩ := hv
  have hx := B.exec
  have hb := B.bytes
  have hr := B.returns
  have hts := atoms_spec (ws := wsL_insert) B.pre
  have hown : s.vm.findClass RL = some m.cls := findClass_of_methodNamed B.named
  have hlocks := B.notSynchronized
  have hD := eg_D_of hD0
  have hS : va_S (eg_A (wO o cJ out ++ wX q cI cJ (nI n) mk lt tg pa an la kn fb fh nb te wt bh)) s.heap s.heap [] := va_S.rf
  have hl := lv_entry ([.ref (q 0), .int x0, .int x1, .int x2, .ref o]) (n := 6) (Nat.le_of_ble_eq_true rfl)
  rw [lg_entry_eq]
  generalize (lg_sl ([.ref (q 0), .int x0, .int x1, .int x2, .ref o]) ++ List.replicate (6 - (lg_sl ([.ref (q 0), .int x0, .int x1, .int x2, .ref o])).length) Slot.unset).toArray = ls at hl ⊢
  have hl : lv_has ls 6 [(0, .ref (q 0)), (1, .int x0), (2, .int x1), (3, .int x2), (4, .ref o)] := hl
  generalize h0H : s.heap = H at hP ⊢
  have hS : va_S (eg_A (wO o cJ out ++ wX q cI cJ (nI n) mk lt tg pa an la kn fb fh nb te wt bh)) s.heap H [] := by rw [← h0H]; exact hS
  generalize ([] : List Loc) = locs at hS ⊢
  refine lv_aload hx hb dL_insert_0 (lv_at hl 4 rfl) ?_
  refine lv_iconst (v := nI 0) hx hb dL_insert_2 (by decide +kernel) ?_
  refine lv_aload_n hx hb dL_insert_3 rfl (lv_at hl 0 rfl) ?_
  refine lv_iload_n hx hb dL_insert_4 rfl (lv_at hl 1 rfl) ?_
  refine lv_iload_n hx hb dL_insert_5 rfl (lv_at hl 2 rfl) ?_
  refine lv_iload_n hx hb dL_insert_6 rfl (lv_at hl 3 rfl) ?_
  refine eg_callX (wr := wO o cJ out) (As := [.int x0, .int x1, .int x2]) (rest := [.int (nI 0), .ref o]) hx hb hml hown hts hK hP hD hS hT [1, 2, 3, 4, 5, 6, 7, 8, 9, 10, 11, 12, 13] [0] rfl rfl (by decide) hM (cwV 3 hts gL_insert_X0_insert rfl hrm.1 hrm.2.1 (by decide +kernel) ⟨hrm.2.2.1, hrm.2.2.2⟩) (va_recv hK hP (ci := 0) (q0 := 1) rfl rfl) rfl hl.1 rfl (Nat.le_of_ble_eq_true rfl) dL_insert_7 ⟨Nat.le_of_ble_eq_true rfl, Nat.le_of_ble_eq_true rfl⟩ (fun w9 H locs q9 ce hR9 hw9 hP hD hS hc1 hc2 hc3 => ?_)
  refine vx_catch (own := RL) (name := "java/lang/IllegalStateException") hown [⟨0, 12, 15, 13⟩, ⟨0, 12, 19, 15⟩] ⟨0, 12, 23, 17⟩ [] (htb.trans rfl) (List.forall_mem_cons.mpr ⟨Or.inr ⟨(by decide), "java/lang/IndexOutOfBoundsException", hts (.classLink RL 13 "java/lang/IndexOutOfBoundsException") (by decide +kernel), hT.1.2.2.2.2.2.2.2.2.1⟩, (List.forall_mem_cons.mpr ⟨Or.inr ⟨(by decide), "java/lang/IllegalArgumentException", hts (.classLink RL 15 "java/lang/IllegalArgumentException") (by decide +kernel), hT.1.2.2.2.2.2.2.2.2.2⟩, (fun z hz => absurd hz List.not_mem_nil)⟩)⟩) (by decide) (by decide) (hts (.classLink RL 17 "java/lang/IllegalStateException") (by decide +kernel)) (va_Nw.use rfl hT.1.2.2.2.2.2.2.1) hc1 hc2 hc3 ?_
  refine lv_astore (lv' := [(5, .ref q9), (0, .ref (q 0)), (1, .int x0), (2, .int x1), (3, .int x2), (4, .ref o)]) hx hb dL_insert_23 hl (by decide) rfl (fun ls hl => ?_)
  refine lv_iconst (v := nI 3) hx hb dL_insert_25 (by decide +kernel) ?_
  exact W.iret hx hb hr (fun t9 ht9 _ => ⟨some (.int (nI 3)), _, rfl, ⟨rfl, w9, hR9, rfl⟩, by rw [List.map_append, List.map_append, hw9], by rw [ht9]; exact hP, hS.F ht9⟩) hS.2.2 dL_insert_26
set_option maxHeartbeats 4000000 in
set_option maxRecDepth 100000 in
theorem wl_delete (l : Launch) (D : va_G) (cI cJ : ClassId) (q : Nat → Nat) (n : Nat) (mk lt tg : Nat → Int32) (pa an la kn : Nat → Int64) (fb : Int32) (fh nb te wt bh : Nat → Int32) (o : Nat) (out : Nat → Int64) (x0 x1 : Int32) {rm : Room} (hrm : rm.cells = 0 ∧ rm.slots = 0 ∧ rm.frames + 1 ≤ 9 ∧ 8 + (4 + 11) + rm.locals ≤ 150) {Rq : Option Value → va_W → Prop} (hM : eg_MW D (tyL cI cJ) l yX0_delete wsX0_delete rm 0 0 [.ref (q 0), .int x0, .int x1] (wX q cI cJ (nI n) mk lt tg pa an la kn fb fh nb te wt bh) Rq) (hRq : ∀ v w1, Rq v w1 → ∃ x : Int32, v = some (.int x)) : eg_ML D (tyL cI cJ) l yL_delete wsL_delete rmL [.ref (q 0), .int x0, .int x1, .ref o] (wO o cJ out ++ wX q cI cJ (nI n) mk lt tg pa an la kn fb fh nb te wt bh) (fun r w1 => r = some (.int (nI 0)) ∧ ∃ (x : Int32) (wx : va_W), Rq (some (.int x)) wx ∧ w1 = wO o cJ (vp_updL out 0 (x.toInt64)) ++ wx) := by
  refine eg_ofWH (cc := cL_delete) (maxL := 5) (ret := (some .int)) (hh := [(0, 10, 13, 13), (0, 10, 17, 17)]) (by decide) rfl ?_
  intro p e s m args below meth c s₁ B hml htb hv
  obtain ⟨rfl, hP, hK, hD0, hT⟩ := hv
  have hx := B.exec
  have hb := B.bytes
  have hr := B.returns
  have hts := atoms_spec (ws := wsL_delete) B.pre
  have hown : s.vm.findClass RL = some m.cls := findClass_of_methodNamed B.named
  have hlocks := B.notSynchronized
  have hD := eg_D_of hD0
  have hS : va_S (eg_A (wO o cJ out ++ wX q cI cJ (nI n) mk lt tg pa an la kn fb fh nb te wt bh)) s.heap s.heap [] := va_S.rf
  have hl := lv_entry ([.ref (q 0), .int x0, .int x1, .ref o]) (n := 5) (Nat.le_of_ble_eq_true rfl)
  rw [lg_entry_eq]
  generalize (lg_sl ([.ref (q 0), .int x0, .int x1, .ref o]) ++ List.replicate (5 - (lg_sl ([.ref (q 0), .int x0, .int x1, .ref o])).length) Slot.unset).toArray = ls at hl ⊢
  have hl : lv_has ls 5 [(0, .ref (q 0)), (1, .int x0), (2, .int x1), (3, .ref o)] := hl
  generalize h0H : s.heap = H at hP ⊢
  have hS : va_S (eg_A (wO o cJ out ++ wX q cI cJ (nI n) mk lt tg pa an la kn fb fh nb te wt bh)) s.heap H [] := by rw [← h0H]; exact hS
  generalize ([] : List Loc) = locs at hS ⊢
  refine lv_aload_n hx hb dL_delete_0 rfl (lv_at hl 3 rfl) ?_
  refine lv_iconst (v := nI 0) hx hb dL_delete_1 (by decide +kernel) ?_
  refine lv_aload_n hx hb dL_delete_2 rfl (lv_at hl 0 rfl) ?_
  refine lv_iload_n hx hb dL_delete_3 rfl (lv_at hl 1 rfl) ?_
  refine lv_iload_n hx hb dL_delete_4 rfl (lv_at hl 2 rfl) ?_
  refine eg_callWVc (wr := wO o cJ out) (As := [.int x0, .int x1]) (rest := [.int (nI 0), .ref o]) hx hb hml hown hts hK hP hD hS [1, 2, 3, 4, 5, 6, 7, 8, 9, 10, 11, 12, 13] [0] rfl rfl (by decide) hM (cwV 2 hts gL_delete_X0_delete rfl hrm.1 hrm.2.1 (by decide +kernel) ⟨hrm.2.2.1, hrm.2.2.2⟩) (va_recv hK hP (ci := 0) (q0 := 1) rfl rfl) rfl hl.1 rfl (Nat.le_of_ble_eq_true rfl) dL_delete_5 ⟨Nat.le_of_ble_eq_true rfl, Nat.le_of_ble_eq_true rfl⟩ (fun v9 w9 H locs hR9 hw9 hP hD hS => ?_)
  obtain ⟨x, rfl⟩ := hRq _ _ hR9
  refine lv_i2l (v := x.toInt64) hx hb dL_delete_8 rfl ?_
  refine eg_last hx hb hK hP hD rfl hS 0 1 rfl rfl (by decide) (by decide) dL_delete_9 (w' := wO o cJ (vp_updL out 0 (x.toInt64)) ++ w9) rfl (fun H locs hP hS => ?_)
  refine lv_goto (tgt := 21) hx hb dL_delete_10 (by decide) ?_
  refine lv_iconst (v := nI 0) hx hb dL_delete_21 (by decide +kernel) ?_
  refine W.widen (k := 1) (n := 6) (by omega) (by omega) ?_
  exact W.iret hx hb hr (fun t9 ht9 _ => ⟨some (.int (nI 0)), _, rfl, ⟨rfl, x, w9, hR9, rfl⟩, by rw [List.map_append, List.map_append, hw9]; rfl, by rw [ht9]; exact hP, hS.F ht9⟩) hS.2.2 dL_delete_22
set_option maxHeartbeats 4000000 in
set_option maxRecDepth 100000 in
theorem wl_delete_b (l : Launch) (D : va_G) (cI cJ : ClassId) (q : Nat → Nat) (n : Nat) (mk lt tg : Nat → Int32) (pa an la kn : Nat → Int64) (fb : Int32) (fh nb te wt bh : Nat → Int32) (o : Nat) (out : Nat → Int64) (x0 x1 : Int32) {rm : Room} (hrm : rm.cells = 1 ∧ rm.slots = 6 ∧ rm.frames + 1 ≤ 9 ∧ 8 + (4 + 11) + rm.locals ≤ 150) {Rx : va_W → Prop} (hM : eg_MX D (tyL cI cJ) l yX0_delete wsX0_delete rm [.ref (q 0), .int x0, .int x1] (wX q cI cJ (nI n) mk lt tg pa an la kn fb fh nb te wt bh) "java/lang/IndexOutOfBoundsException" Rx) : eg_ML D (tyL cI cJ) l yL_delete wsL_delete rmL [.ref (q 0), .int x0, .int x1, .ref o] (wO o cJ out ++ wX q cI cJ (nI n) mk lt tg pa an la kn fb fh nb te wt bh) (fun r w1 => r = some (.int (nI 1)) ∧ ∃ wx : va_W, Rx wx ∧ w1 = wO o cJ out ++ wx) := by
  refine eg_ofWH (cc := cL_delete) (maxL := 5) (ret := (some .int)) (hh := [(0, 10, 13, 13), (0, 10, 17, 17)]) (by decide) rfl ?_
  intro p e s m args below meth c s₁ B hml htb hv
  obtain ⟨rfl, hP, hK, hD0, hT⟩ := hv
  have hx := B.exec
  have hb := B.bytes
  have hr := B.returns
  have hts := atoms_spec (ws := wsL_delete) B.pre
  have hown : s.vm.findClass RL = some m.cls := findClass_of_methodNamed B.named
  have hlocks := B.notSynchronized
  have hD := eg_D_of hD0
  have hS : va_S (eg_A (wO o cJ out ++ wX q cI cJ (nI n) mk lt tg pa an la kn fb fh nb te wt bh)) s.heap s.heap [] := va_S.rf
  have hl := lv_entry ([.ref (q 0), .int x0, .int x1, .ref o]) (n := 5) (Nat.le_of_ble_eq_true rfl)
  rw [lg_entry_eq]
  generalize (lg_sl ([.ref (q 0), .int x0, .int x1, .ref o]) ++ List.replicate (5 - (lg_sl ([.ref (q 0), .int x0, .int x1, .ref o])).length) Slot.unset).toArray = ls at hl ⊢
  have hl : lv_has ls 5 [(0, .ref (q 0)), (1, .int x0), (2, .int x1), (3, .ref o)] := hl
  generalize h0H : s.heap = H at hP ⊢
  have hS : va_S (eg_A (wO o cJ out ++ wX q cI cJ (nI n) mk lt tg pa an la kn fb fh nb te wt bh)) s.heap H [] := by rw [← h0H]; exact hS
  generalize ([] : List Loc) = locs at hS ⊢
  refine lv_aload_n hx hb dL_delete_0 rfl (lv_at hl 3 rfl) ?_
  refine lv_iconst (v := nI 0) hx hb dL_delete_1 (by decide +kernel) ?_
  refine lv_aload_n hx hb dL_delete_2 rfl (lv_at hl 0 rfl) ?_
  refine lv_iload_n hx hb dL_delete_3 rfl (lv_at hl 1 rfl) ?_
  refine lv_iload_n hx hb dL_delete_4 rfl (lv_at hl 2 rfl) ?_
  refine eg_callX (wr := wO o cJ out) (As := [.int x0, .int x1]) (rest := [.int (nI 0), .ref o]) hx hb hml hown hts hK hP hD hS hT [1, 2, 3, 4, 5, 6, 7, 8, 9, 10, 11, 12, 13] [0] rfl rfl (by decide) hM (cwV 2 hts gL_delete_X0_delete rfl hrm.1 hrm.2.1 (by decide +kernel) ⟨hrm.2.2.1, hrm.2.2.2⟩) (va_recv hK hP (ci := 0) (q0 := 1) rfl rfl) rfl hl.1 rfl (Nat.le_of_ble_eq_true rfl) dL_delete_5 ⟨Nat.le_of_ble_eq_true rfl, Nat.le_of_ble_eq_true rfl⟩ (fun w9 H locs q9 ce hR9 hw9 hP hD hS hc1 hc2 hc3 => ?_)
  refine vx_catch (own := RL) (name := "java/lang/IndexOutOfBoundsException") hown [] ⟨0, 10, 13, 13⟩ [⟨0, 10, 17, 17⟩] (htb.trans rfl) (fun z hz => absurd hz List.not_mem_nil) (by decide) (by decide) (hts (.classLink RL 13 "java/lang/IndexOutOfBoundsException") (by decide +kernel)) (va_Nw.use rfl hT.1.2.2.2.2.1) hc1 hc2 hc3 ?_
  refine lv_astore (lv' := [(4, .ref q9), (0, .ref (q 0)), (1, .int x0), (2, .int x1), (3, .ref o)]) hx hb dL_delete_13 hl (by decide) rfl (fun ls hl => ?_)
  refine lv_iconst (v := nI 1) hx hb dL_delete_15 (by decide +kernel) ?_
  exact W.iret hx hb hr (fun t9 ht9 _ => ⟨some (.int (nI 1)), _, rfl, ⟨rfl, w9, hR9, rfl⟩, by rw [List.map_append, List.map_append, hw9], by rw [ht9]; exact hP, hS.F ht9⟩) hS.2.2 dL_delete_16
set_option maxHeartbeats 4000000 in
set_option maxRecDepth 100000 in
theorem wl_delete_s (l : Launch) (D : va_G) (cI cJ : ClassId) (q : Nat → Nat) (n : Nat) (mk lt tg : Nat → Int32) (pa an la kn : Nat → Int64) (fb : Int32) (fh nb te wt bh : Nat → Int32) (o : Nat) (out : Nat → Int64) (x0 x1 : Int32) {rm : Room} (hrm : rm.cells = 1 ∧ rm.slots = 6 ∧ rm.frames + 1 ≤ 9 ∧ 8 + (4 + 11) + rm.locals ≤ 150) {Rx : va_W → Prop} (hM : eg_MX D (tyL cI cJ) l yX0_delete wsX0_delete rm [.ref (q 0), .int x0, .int x1] (wX q cI cJ (nI n) mk lt tg pa an la kn fb fh nb te wt bh) "java/lang/IllegalStateException" Rx) : eg_ML D (tyL cI cJ) l yL_delete wsL_delete rmL [.ref (q 0), .int x0, .int x1, .ref o] (wO o cJ out ++ wX q cI cJ (nI n) mk lt tg pa an la kn fb fh nb te wt bh) (fun r w1 => r = some (.int (nI 2)) ∧ ∃ wx : va_W, Rx wx ∧ w1 = wO o cJ out ++ wx) := by
  refine eg_ofWH (cc := cL_delete) (maxL := 5) (ret := (some .int)) (hh := [(0, 10, 13, 13), (0, 10, 17, 17)]) (by decide) rfl ?_
  intro p e s m args below meth c s₁ B hml htb hv
  obtain ⟨rfl, hP, hK, hD0, hT⟩ := hv
  have hx := B.exec
  have hb := B.bytes
  have hr := B.returns
  have hts := atoms_spec (ws := wsL_delete) B.pre
  have hown : s.vm.findClass RL = some m.cls := findClass_of_methodNamed B.named
  have hlocks := B.notSynchronized
  have hD := eg_D_of hD0
  have hS : va_S (eg_A (wO o cJ out ++ wX q cI cJ (nI n) mk lt tg pa an la kn fb fh nb te wt bh)) s.heap s.heap [] := va_S.rf
  have hl := lv_entry ([.ref (q 0), .int x0, .int x1, .ref o]) (n := 5) (Nat.le_of_ble_eq_true rfl)
  rw [lg_entry_eq]
  generalize (lg_sl ([.ref (q 0), .int x0, .int x1, .ref o]) ++ List.replicate (5 - (lg_sl ([.ref (q 0), .int x0, .int x1, .ref o])).length) Slot.unset).toArray = ls at hl ⊢
  have hl : lv_has ls 5 [(0, .ref (q 0)), (1, .int x0), (2, .int x1), (3, .ref o)] := hl
  generalize h0H : s.heap = H at hP ⊢
  have hS : va_S (eg_A (wO o cJ out ++ wX q cI cJ (nI n) mk lt tg pa an la kn fb fh nb te wt bh)) s.heap H [] := by rw [← h0H]; exact hS
  generalize ([] : List Loc) = locs at hS ⊢
  refine lv_aload_n hx hb dL_delete_0 rfl (lv_at hl 3 rfl) ?_
  refine lv_iconst (v := nI 0) hx hb dL_delete_1 (by decide +kernel) ?_
  refine lv_aload_n hx hb dL_delete_2 rfl (lv_at hl 0 rfl) ?_
  refine lv_iload_n hx hb dL_delete_3 rfl (lv_at hl 1 rfl) ?_
  refine lv_iload_n hx hb dL_delete_4 rfl (lv_at hl 2 rfl) ?_
  refine eg_callX (wr := wO o cJ out) (As := [.int x0, .int x1]) (rest := [.int (nI 0), .ref o]) hx hb hml hown hts hK hP hD hS hT [1, 2, 3, 4, 5, 6, 7, 8, 9, 10, 11, 12, 13] [0] rfl rfl (by decide) hM (cwV 2 hts gL_delete_X0_delete rfl hrm.1 hrm.2.1 (by decide +kernel) ⟨hrm.2.2.1, hrm.2.2.2⟩) (va_recv hK hP (ci := 0) (q0 := 1) rfl rfl) rfl hl.1 rfl (Nat.le_of_ble_eq_true rfl) dL_delete_5 ⟨Nat.le_of_ble_eq_true rfl, Nat.le_of_ble_eq_true rfl⟩ (fun w9 H locs q9 ce hR9 hw9 hP hD hS hc1 hc2 hc3 => ?_)
  refine vx_catch (own := RL) (name := "java/lang/IllegalStateException") hown [⟨0, 10, 13, 13⟩] ⟨0, 10, 17, 17⟩ [] (htb.trans rfl) (List.forall_mem_cons.mpr ⟨Or.inr ⟨(by decide), "java/lang/IndexOutOfBoundsException", hts (.classLink RL 13 "java/lang/IndexOutOfBoundsException") (by decide +kernel), hT.1.2.2.2.2.2.2.2.2.1⟩, (fun z hz => absurd hz List.not_mem_nil)⟩) (by decide) (by decide) (hts (.classLink RL 17 "java/lang/IllegalStateException") (by decide +kernel)) (va_Nw.use rfl hT.1.2.2.2.2.2.2.1) hc1 hc2 hc3 ?_
  refine lv_astore (lv' := [(4, .ref q9), (0, .ref (q 0)), (1, .int x0), (2, .int x1), (3, .ref o)]) hx hb dL_delete_17 hl (by decide) rfl (fun ls hl => ?_)
  refine lv_iconst (v := nI 2) hx hb dL_delete_19 (by decide +kernel) ?_
  exact W.iret hx hb hr (fun t9 ht9 _ => ⟨some (.int (nI 2)), _, rfl, ⟨rfl, w9, hR9, rfl⟩, by rw [List.map_append, List.map_append, hw9], by rw [ht9]; exact hP, hS.F ht9⟩) hS.2.2 dL_delete_20
set_option maxHeartbeats 4000000 in
set_option maxRecDepth 100000 in
theorem wl_learn (l : Launch) (D : va_G) (cI cJ : ClassId) (q : Nat → Nat) (n : Nat) (mk lt tg : Nat → Int32) (pa an la kn : Nat → Int64) (fb : Int32) (fh nb te wt bh : Nat → Int32) (o : Nat) (out : Nat → Int64) (x0 x1 : Int32) {rm : Room} (hrm : rm.cells = 0 ∧ rm.slots = 0 ∧ rm.frames + 1 ≤ 9 ∧ 8 + (3 + 11) + rm.locals ≤ 150) {Rq : Option Value → va_W → Prop} (hM : eg_MW D (tyL cI cJ) l yX0_learn wsX0_learn rm 0 0 [.ref (q 0), .int x0, .int x1] (wX q cI cJ (nI n) mk lt tg pa an la kn fb fh nb te wt bh) Rq) (hRq : ∀ v w1, Rq v w1 → ∃ x : Int32, v = some (.int x)) : eg_ML D (tyL cI cJ) l yL_learn wsL_learn rmL [.ref (q 0), .int x0, .int x1, .ref o] (wO o cJ out ++ wX q cI cJ (nI n) mk lt tg pa an la kn fb fh nb te wt bh) (fun r w1 => r = some (.int (nI 0)) ∧ ∃ (x : Int32) (wx : va_W), Rq (some (.int x)) wx ∧ w1 = wO o cJ (vp_updL out 0 (x.toInt64)) ++ wx) := by
  refine eg_ofWH (cc := cL_learn) (maxL := 5) (ret := (some .int)) (hh := [(0, 10, 13, 13)]) (by decide) rfl ?_
  intro p e s m args below meth c s₁ B hml htb hv
  obtain ⟨rfl, hP, hK, hD0, hT⟩ := hv
  have hx := B.exec
  have hb := B.bytes
  have hr := B.returns
  have hts := atoms_spec (ws := wsL_learn) B.pre
  have hown : s.vm.findClass RL = some m.cls := findClass_of_methodNamed B.named
  have hlocks := B.notSynchronized
  have hD := eg_D_of hD0
  have hS : va_S (eg_A (wO o cJ out ++ wX q cI cJ (nI n) mk lt tg pa an la kn fb fh nb te wt bh)) s.heap s.heap [] := va_S.rf
  have hl := lv_entry ([.ref (q 0), .int x0, .int x1, .ref o]) (n := 5) (Nat.le_of_ble_eq_true rfl)
  rw [lg_entry_eq]
  generalize (lg_sl ([.ref (q 0), .int x0, .int x1, .ref o]) ++ List.replicate (5 - (lg_sl ([.ref (q 0), .int x0, .int x1, .ref o])).length) Slot.unset).toArray = ls at hl ⊢
  have hl : lv_has ls 5 [(0, .ref (q 0)), (1, .int x0), (2, .int x1), (3, .ref o)] := hl
  generalize h0H : s.heap = H at hP ⊢
  have hS : va_S (eg_A (wO o cJ out ++ wX q cI cJ (nI n) mk lt tg pa an la kn fb fh nb te wt bh)) s.heap H [] := by rw [← h0H]; exact hS
  generalize ([] : List Loc) = locs at hS ⊢
  refine lv_aload_n hx hb dL_learn_0 rfl (lv_at hl 3 rfl) ?_
  refine lv_iconst (v := nI 0) hx hb dL_learn_1 (by decide +kernel) ?_
  refine lv_aload_n hx hb dL_learn_2 rfl (lv_at hl 0 rfl) ?_
  refine lv_iload_n hx hb dL_learn_3 rfl (lv_at hl 1 rfl) ?_
  refine lv_iload_n hx hb dL_learn_4 rfl (lv_at hl 2 rfl) ?_
  refine eg_callWVc (wr := wO o cJ out) (As := [.int x0, .int x1]) (rest := [.int (nI 0), .ref o]) hx hb hml hown hts hK hP hD hS [1, 2, 3, 4, 5, 6, 7, 8, 9, 10, 11, 12, 13] [0] rfl rfl (by decide) hM (cwV 2 hts gL_learn_X0_learn rfl hrm.1 hrm.2.1 (by decide +kernel) ⟨hrm.2.2.1, hrm.2.2.2⟩) (va_recv hK hP (ci := 0) (q0 := 1) rfl rfl) rfl hl.1 rfl (Nat.le_of_ble_eq_true rfl) dL_learn_5 ⟨Nat.le_of_ble_eq_true rfl, Nat.le_of_ble_eq_true rfl⟩ (fun v9 w9 H locs hR9 hw9 hP hD hS => ?_)
  obtain ⟨x, rfl⟩ := hRq _ _ hR9
  refine lv_i2l (v := x.toInt64) hx hb dL_learn_8 rfl ?_
  refine eg_last hx hb hK hP hD rfl hS 0 1 rfl rfl (by decide) (by decide) dL_learn_9 (w' := wO o cJ (vp_updL out 0 (x.toInt64)) ++ w9) rfl (fun H locs hP hS => ?_)
  refine lv_goto (tgt := 17) hx hb dL_learn_10 (by decide) ?_
  refine lv_iconst (v := nI 0) hx hb dL_learn_17 (by decide +kernel) ?_
  refine W.widen (k := 1) (n := 6) (by omega) (by omega) ?_
  exact W.iret hx hb hr (fun t9 ht9 _ => ⟨some (.int (nI 0)), _, rfl, ⟨rfl, x, w9, hR9, rfl⟩, by rw [List.map_append, List.map_append, hw9]; rfl, by rw [ht9]; exact hP, hS.F ht9⟩) hS.2.2 dL_learn_18
set_option maxHeartbeats 4000000 in
set_option maxRecDepth 100000 in
theorem wl_learn_b (l : Launch) (D : va_G) (cI cJ : ClassId) (q : Nat → Nat) (n : Nat) (mk lt tg : Nat → Int32) (pa an la kn : Nat → Int64) (fb : Int32) (fh nb te wt bh : Nat → Int32) (o : Nat) (out : Nat → Int64) (x0 x1 : Int32) {rm : Room} (hrm : rm.cells = 1 ∧ rm.slots = 6 ∧ rm.frames + 1 ≤ 9 ∧ 8 + (3 + 11) + rm.locals ≤ 150) {Rx : va_W → Prop} (hM : eg_MX D (tyL cI cJ) l yX0_learn wsX0_learn rm [.ref (q 0), .int x0, .int x1] (wX q cI cJ (nI n) mk lt tg pa an la kn fb fh nb te wt bh) "java/lang/IndexOutOfBoundsException" Rx) : eg_ML D (tyL cI cJ) l yL_learn wsL_learn rmL [.ref (q 0), .int x0, .int x1, .ref o] (wO o cJ out ++ wX q cI cJ (nI n) mk lt tg pa an la kn fb fh nb te wt bh) (fun r w1 => r = some (.int (nI 1)) ∧ ∃ wx : va_W, Rx wx ∧ w1 = wO o cJ out ++ wx) := by
  refine eg_ofWH (cc := cL_learn) (maxL := 5) (ret := (some .int)) (hh := [(0, 10, 13, 13)]) (by decide) rfl ?_
  intro p e s m args below meth c s₁ B hml htb hv
  obtain ⟨rfl, hP, hK, hD0, hT⟩ := hv
  have hx := B.exec
  have hb := B.bytes
  have hr := B.returns
  have hts := atoms_spec (ws := wsL_learn) B.pre
  have hown : s.vm.findClass RL = some m.cls := findClass_of_methodNamed B.named
  have hlocks := B.notSynchronized
  have hD := eg_D_of hD0
  have hS : va_S (eg_A (wO o cJ out ++ wX q cI cJ (nI n) mk lt tg pa an la kn fb fh nb te wt bh)) s.heap s.heap [] := va_S.rf
  have hl := lv_entry ([.ref (q 0), .int x0, .int x1, .ref o]) (n := 5) (Nat.le_of_ble_eq_true rfl)
  rw [lg_entry_eq]
  generalize (lg_sl ([.ref (q 0), .int x0, .int x1, .ref o]) ++ List.replicate (5 - (lg_sl ([.ref (q 0), .int x0, .int x1, .ref o])).length) Slot.unset).toArray = ls at hl ⊢
  have hl : lv_has ls 5 [(0, .ref (q 0)), (1, .int x0), (2, .int x1), (3, .ref o)] := hl
  generalize h0H : s.heap = H at hP ⊢
  have hS : va_S (eg_A (wO o cJ out ++ wX q cI cJ (nI n) mk lt tg pa an la kn fb fh nb te wt bh)) s.heap H [] := by rw [← h0H]; exact hS
  generalize ([] : List Loc) = locs at hS ⊢
  refine lv_aload_n hx hb dL_learn_0 rfl (lv_at hl 3 rfl) ?_
  refine lv_iconst (v := nI 0) hx hb dL_learn_1 (by decide +kernel) ?_
  refine lv_aload_n hx hb dL_learn_2 rfl (lv_at hl 0 rfl) ?_
  refine lv_iload_n hx hb dL_learn_3 rfl (lv_at hl 1 rfl) ?_
  refine lv_iload_n hx hb dL_learn_4 rfl (lv_at hl 2 rfl) ?_
  refine eg_callX (wr := wO o cJ out) (As := [.int x0, .int x1]) (rest := [.int (nI 0), .ref o]) hx hb hml hown hts hK hP hD hS hT [1, 2, 3, 4, 5, 6, 7, 8, 9, 10, 11, 12, 13] [0] rfl rfl (by decide) hM (cwV 2 hts gL_learn_X0_learn rfl hrm.1 hrm.2.1 (by decide +kernel) ⟨hrm.2.2.1, hrm.2.2.2⟩) (va_recv hK hP (ci := 0) (q0 := 1) rfl rfl) rfl hl.1 rfl (Nat.le_of_ble_eq_true rfl) dL_learn_5 ⟨Nat.le_of_ble_eq_true rfl, Nat.le_of_ble_eq_true rfl⟩ (fun w9 H locs q9 ce hR9 hw9 hP hD hS hc1 hc2 hc3 => ?_)
  refine vx_catch (own := RL) (name := "java/lang/IndexOutOfBoundsException") hown [] ⟨0, 10, 13, 13⟩ [] (htb.trans rfl) (fun z hz => absurd hz List.not_mem_nil) (by decide) (by decide) (hts (.classLink RL 13 "java/lang/IndexOutOfBoundsException") (by decide +kernel)) (va_Nw.use rfl hT.1.2.2.2.2.1) hc1 hc2 hc3 ?_
  refine lv_astore (lv' := [(4, .ref q9), (0, .ref (q 0)), (1, .int x0), (2, .int x1), (3, .ref o)]) hx hb dL_learn_13 hl (by decide) rfl (fun ls hl => ?_)
  refine lv_iconst (v := nI 1) hx hb dL_learn_15 (by decide +kernel) ?_
  exact W.iret hx hb hr (fun t9 ht9 _ => ⟨some (.int (nI 1)), _, rfl, ⟨rfl, w9, hR9, rfl⟩, by rw [List.map_append, List.map_append, hw9], by rw [ht9]; exact hP, hS.F ht9⟩) hS.2.2 dL_learn_16
set_option maxHeartbeats 4000000 in
set_option maxRecDepth 100000 in
theorem wl_learnEvent (l : Launch) (D : va_G) (cI cJ : ClassId) (q : Nat → Nat) (n : Nat) (mk lt tg : Nat → Int32) (pa an la kn : Nat → Int64) (fb : Int32) (fh nb te wt bh : Nat → Int32) (o : Nat) (out : Nat → Int64) (x0 x1 : Int32) {rm : Room} (hrm : rm.cells = 0 ∧ rm.slots = 0 ∧ rm.frames + 1 ≤ 9 ∧ 8 + (3 + 11) + rm.locals ≤ 150) {Rq : Option Value → va_W → Prop} (hM : eg_MW D (tyL cI cJ) l yX0_learnEvent wsX0_learnEvent rm 0 0 [.ref (q 0), .int x0, .int x1] (wX q cI cJ (nI n) mk lt tg pa an la kn fb fh nb te wt bh) Rq) (hRq : ∀ v w1, Rq v w1 → ∃ x : Int32, v = some (.int x)) : eg_ML D (tyL cI cJ) l yL_learnEvent wsL_learnEvent rmL [.ref (q 0), .int x0, .int x1, .ref o] (wO o cJ out ++ wX q cI cJ (nI n) mk lt tg pa an la kn fb fh nb te wt bh) (fun r w1 => r = some (.int (nI 0)) ∧ ∃ (x : Int32) (wx : va_W), Rq (some (.int x)) wx ∧ w1 = wO o cJ (vp_updL out 0 (x.toInt64)) ++ wx) := by
  refine eg_ofWH (cc := cL_learnEvent) (maxL := 5) (ret := (some .int)) (hh := [(0, 10, 13, 13)]) (by decide) rfl ?_
  intro p e s m args below meth c s₁ B hml htb hv
  obtain ⟨rfl, hP, hK, hD0, hT⟩ := hv
  have hx := B.exec
  have hb := B.bytes
  have hr := B.returns
  have hts := atoms_spec (ws := wsL_learnEvent) B.pre
  have hown : s.vm.findClass RL = some m.cls := findClass_of_methodNamed B.named
  have hlocks := B.notSynchronized
  have hD := eg_D_of hD0
  have hS : va_S (eg_A (wO o cJ out ++ wX q cI cJ (nI n) mk lt tg pa an la kn fb fh nb te wt bh)) s.heap s.heap [] := va_S.rf
  have hl := lv_entry ([.ref (q 0), .int x0, .int x1, .ref o]) (n := 5) (Nat.le_of_ble_eq_true rfl)
  rw [lg_entry_eq]
  generalize (lg_sl ([.ref (q 0), .int x0, .int x1, .ref o]) ++ List.replicate (5 - (lg_sl ([.ref (q 0), .int x0, .int x1, .ref o])).length) Slot.unset).toArray = ls at hl ⊢
  have hl : lv_has ls 5 [(0, .ref (q 0)), (1, .int x0), (2, .int x1), (3, .ref o)] := hl
  generalize h0H : s.heap = H at hP ⊢
  have hS : va_S (eg_A (wO o cJ out ++ wX q cI cJ (nI n) mk lt tg pa an la kn fb fh nb te wt bh)) s.heap H [] := by rw [← h0H]; exact hS
  generalize ([] : List Loc) = locs at hS ⊢
  refine lv_aload_n hx hb dL_learnEvent_0 rfl (lv_at hl 3 rfl) ?_
  refine lv_iconst (v := nI 0) hx hb dL_learnEvent_1 (by decide +kernel) ?_
  refine lv_aload_n hx hb dL_learnEvent_2 rfl (lv_at hl 0 rfl) ?_
  refine lv_iload_n hx hb dL_learnEvent_3 rfl (lv_at hl 1 rfl) ?_
  refine lv_iload_n hx hb dL_learnEvent_4 rfl (lv_at hl 2 rfl) ?_
  refine eg_callWVc (wr := wO o cJ out) (As := [.int x0, .int x1]) (rest := [.int (nI 0), .ref o]) hx hb hml hown hts hK hP hD hS [1, 2, 3, 4, 5, 6, 7, 8, 9, 10, 11, 12, 13] [0] rfl rfl (by decide) hM (cwV 2 hts gL_learnEvent_X0_learnEvent rfl hrm.1 hrm.2.1 (by decide +kernel) ⟨hrm.2.2.1, hrm.2.2.2⟩) (va_recv hK hP (ci := 0) (q0 := 1) rfl rfl) rfl hl.1 rfl (Nat.le_of_ble_eq_true rfl) dL_learnEvent_5 ⟨Nat.le_of_ble_eq_true rfl, Nat.le_of_ble_eq_true rfl⟩ (fun v9 w9 H locs hR9 hw9 hP hD hS => ?_)
  obtain ⟨x, rfl⟩ := hRq _ _ hR9
  refine lv_i2l (v := x.toInt64) hx hb dL_learnEvent_8 rfl ?_
  refine eg_last hx hb hK hP hD rfl hS 0 1 rfl rfl (by decide) (by decide) dL_learnEvent_9 (w' := wO o cJ (vp_updL out 0 (x.toInt64)) ++ w9) rfl (fun H locs hP hS => ?_)
  refine lv_goto (tgt := 17) hx hb dL_learnEvent_10 (by decide) ?_
  refine lv_iconst (v := nI 0) hx hb dL_learnEvent_17 (by decide +kernel) ?_
  refine W.widen (k := 1) (n := 6) (by omega) (by omega) ?_
  exact W.iret hx hb hr (fun t9 ht9 _ => ⟨some (.int (nI 0)), _, rfl, ⟨rfl, x, w9, hR9, rfl⟩, by rw [List.map_append, List.map_append, hw9]; rfl, by rw [ht9]; exact hP, hS.F ht9⟩) hS.2.2 dL_learnEvent_18
set_option maxHeartbeats 4000000 in
set_option maxRecDepth 100000 in
theorem wl_learnEvent_b (l : Launch) (D : va_G) (cI cJ : ClassId) (q : Nat → Nat) (n : Nat) (mk lt tg : Nat → Int32) (pa an la kn : Nat → Int64) (fb : Int32) (fh nb te wt bh : Nat → Int32) (o : Nat) (out : Nat → Int64) (x0 x1 : Int32) {rm : Room} (hrm : rm.cells = 1 ∧ rm.slots = 6 ∧ rm.frames + 1 ≤ 9 ∧ 8 + (3 + 11) + rm.locals ≤ 150) {Rx : va_W → Prop} (hM : eg_MX D (tyL cI cJ) l yX0_learnEvent wsX0_learnEvent rm [.ref (q 0), .int x0, .int x1] (wX q cI cJ (nI n) mk lt tg pa an la kn fb fh nb te wt bh) "java/lang/IndexOutOfBoundsException" Rx) : eg_ML D (tyL cI cJ) l yL_learnEvent wsL_learnEvent rmL [.ref (q 0), .int x0, .int x1, .ref o] (wO o cJ out ++ wX q cI cJ (nI n) mk lt tg pa an la kn fb fh nb te wt bh) (fun r w1 => r = some (.int (nI 1)) ∧ ∃ wx : va_W, Rx wx ∧ w1 = wO o cJ out ++ wx) := by
  refine eg_ofWH (cc := cL_learnEvent) (maxL := 5) (ret := (some .int)) (hh := [(0, 10, 13, 13)]) (by decide) rfl ?_
  intro p e s m args below meth c s₁ B hml htb hv
  obtain ⟨rfl, hP, hK, hD0, hT⟩ := hv
  have hx := B.exec
  have hb := B.bytes
  have hr := B.returns
  have hts := atoms_spec (ws := wsL_learnEvent) B.pre
  have hown : s.vm.findClass RL = some m.cls := findClass_of_methodNamed B.named
  have hlocks := B.notSynchronized
  have hD := eg_D_of hD0
  have hS : va_S (eg_A (wO o cJ out ++ wX q cI cJ (nI n) mk lt tg pa an la kn fb fh nb te wt bh)) s.heap s.heap [] := va_S.rf
  have hl := lv_entry ([.ref (q 0), .int x0, .int x1, .ref o]) (n := 5) (Nat.le_of_ble_eq_true rfl)
  rw [lg_entry_eq]
  generalize (lg_sl ([.ref (q 0), .int x0, .int x1, .ref o]) ++ List.replicate (5 - (lg_sl ([.ref (q 0), .int x0, .int x1, .ref o])).length) Slot.unset).toArray = ls at hl ⊢
  have hl : lv_has ls 5 [(0, .ref (q 0)), (1, .int x0), (2, .int x1), (3, .ref o)] := hl
  generalize h0H : s.heap = H at hP ⊢
  have hS : va_S (eg_A (wO o cJ out ++ wX q cI cJ (nI n) mk lt tg pa an la kn fb fh nb te wt bh)) s.heap H [] := by rw [← h0H]; exact hS
  generalize ([] : List Loc) = locs at hS ⊢
  refine lv_aload_n hx hb dL_learnEvent_0 rfl (lv_at hl 3 rfl) ?_
  refine lv_iconst (v := nI 0) hx hb dL_learnEvent_1 (by decide +kernel) ?_
  refine lv_aload_n hx hb dL_learnEvent_2 rfl (lv_at hl 0 rfl) ?_
  refine lv_iload_n hx hb dL_learnEvent_3 rfl (lv_at hl 1 rfl) ?_
  refine lv_iload_n hx hb dL_learnEvent_4 rfl (lv_at hl 2 rfl) ?_
  refine eg_callX (wr := wO o cJ out) (As := [.int x0, .int x1]) (rest := [.int (nI 0), .ref o]) hx hb hml hown hts hK hP hD hS hT [1, 2, 3, 4, 5, 6, 7, 8, 9, 10, 11, 12, 13] [0] rfl rfl (by decide) hM (cwV 2 hts gL_learnEvent_X0_learnEvent rfl hrm.1 hrm.2.1 (by decide +kernel) ⟨hrm.2.2.1, hrm.2.2.2⟩) (va_recv hK hP (ci := 0) (q0 := 1) rfl rfl) rfl hl.1 rfl (Nat.le_of_ble_eq_true rfl) dL_learnEvent_5 ⟨Nat.le_of_ble_eq_true rfl, Nat.le_of_ble_eq_true rfl⟩ (fun w9 H locs q9 ce hR9 hw9 hP hD hS hc1 hc2 hc3 => ?_)
  refine vx_catch (own := RL) (name := "java/lang/IndexOutOfBoundsException") hown [] ⟨0, 10, 13, 13⟩ [] (htb.trans rfl) (fun z hz => absurd hz List.not_mem_nil) (by decide) (by decide) (hts (.classLink RL 13 "java/lang/IndexOutOfBoundsException") (by decide +kernel)) (va_Nw.use rfl hT.1.2.2.2.2.1) hc1 hc2 hc3 ?_
  refine lv_astore (lv' := [(4, .ref q9), (0, .ref (q 0)), (1, .int x0), (2, .int x1), (3, .ref o)]) hx hb dL_learnEvent_13 hl (by decide) rfl (fun ls hl => ?_)
  refine lv_iconst (v := nI 1) hx hb dL_learnEvent_15 (by decide +kernel) ?_
  exact W.iret hx hb hr (fun t9 ht9 _ => ⟨some (.int (nI 1)), _, rfl, ⟨rfl, w9, hR9, rfl⟩, by rw [List.map_append, List.map_append, hw9], by rw [ht9]; exact hP, hS.F ht9⟩) hS.2.2 dL_learnEvent_16
set_option maxHeartbeats 4000000 in
set_option maxRecDepth 100000 in
theorem wl_length (l : Launch) (D : va_G) (cI cJ : ClassId) (q : Nat → Nat) (n : Nat) (mk lt tg : Nat → Int32) (pa an la kn : Nat → Int64) (fb : Int32) (fh nb te wt bh : Nat → Int32) (o : Nat) (out : Nat → Int64) (x0 : Int32) {rm : Room} (hrm : rm.cells = 0 ∧ rm.slots = 0 ∧ rm.frames + 1 ≤ 9 ∧ 8 + (2 + 11) + rm.locals ≤ 150) {Rq : Option Value → va_W → Prop} (hM : eg_MW D (tyL cI cJ) l yX0_length wsX0_length rm 0 0 [.ref (q 0), .int x0] (wX q cI cJ (nI n) mk lt tg pa an la kn fb fh nb te wt bh) Rq) (hRq : ∀ v w1, Rq v w1 → ∃ x : Int32, v = some (.int x)) : eg_ML D (tyL cI cJ) l yL_length wsL_length rmL [.ref (q 0), .int x0, .ref o] (wO o cJ out ++ wX q cI cJ (nI n) mk lt tg pa an la kn fb fh nb te wt bh) (fun r w1 => r = some (.int (nI 0)) ∧ ∃ (x : Int32) (wx : va_W), Rq (some (.int x)) wx ∧ w1 = wO o cJ (vp_updL out 0 (x.toInt64)) ++ wx) := by
  refine eg_ofWH (cc := cL_length) (maxL := 4) (ret := (some .int)) (hh := [(0, 9, 12, 13)]) (by decide) rfl ?_
  intro p e s m args below meth c s₁ B hml htb hv
  obtain ⟨rfl, hP, hK, hD0, hT⟩ := hv
  have hx := B.exec
  have hb := B.bytes
  have hr := B.returns
  have hts := atoms_spec (ws := wsL_length) B.pre
  have hown : s.vm.findClass RL = some m.cls := findClass_of_methodNamed B.named
  have hlocks := B.notSynchronized
  have hD := eg_D_of hD0
  have hS : va_S (eg_A (wO o cJ out ++ wX q cI cJ (nI n) mk lt tg pa an la kn fb fh nb te wt bh)) s.heap s.heap [] := va_S.rf
  have hl := lv_entry ([.ref (q 0), .int x0, .ref o]) (n := 4) (Nat.le_of_ble_eq_true rfl)
  rw [lg_entry_eq]
  generalize (lg_sl ([.ref (q 0), .int x0, .ref o]) ++ List.replicate (4 - (lg_sl ([.ref (q 0), .int x0, .ref o])).length) Slot.unset).toArray = ls at hl ⊢
  have hl : lv_has ls 4 [(0, .ref (q 0)), (1, .int x0), (2, .ref o)] := hl
  generalize h0H : s.heap = H at hP ⊢
  have hS : va_S (eg_A (wO o cJ out ++ wX q cI cJ (nI n) mk lt tg pa an la kn fb fh nb te wt bh)) s.heap H [] := by rw [← h0H]; exact hS
  generalize ([] : List Loc) = locs at hS ⊢
  refine lv_aload_n hx hb dL_length_0 rfl (lv_at hl 2 rfl) ?_
  refine lv_iconst (v := nI 0) hx hb dL_length_1 (by decide +kernel) ?_
  refine lv_aload_n hx hb dL_length_2 rfl (lv_at hl 0 rfl) ?_
  refine lv_iload_n hx hb dL_length_3 rfl (lv_at hl 1 rfl) ?_
  refine eg_callWVc (wr := wO o cJ out) (As := [.int x0]) (rest := [.int (nI 0), .ref o]) hx hb hml hown hts hK hP hD hS [1, 2, 3, 4, 5, 6, 7, 8, 9, 10, 11, 12, 13] [0] rfl rfl (by decide) hM (cwV 1 hts gL_length_X0_length rfl hrm.1 hrm.2.1 (by decide +kernel) ⟨hrm.2.2.1, hrm.2.2.2⟩) (va_recv hK hP (ci := 0) (q0 := 1) rfl rfl) rfl hl.1 rfl (Nat.le_of_ble_eq_true rfl) dL_length_4 ⟨Nat.le_of_ble_eq_true rfl, Nat.le_of_ble_eq_true rfl⟩ (fun v9 w9 H locs hR9 hw9 hP hD hS => ?_)
  obtain ⟨x, rfl⟩ := hRq _ _ hR9
  refine lv_i2l (v := x.toInt64) hx hb dL_length_7 rfl ?_
  refine eg_last hx hb hK hP hD rfl hS 0 1 rfl rfl (by decide) (by decide) dL_length_8 (w' := wO o cJ (vp_updL out 0 (x.toInt64)) ++ w9) rfl (fun H locs hP hS => ?_)
  refine lv_goto (tgt := 15) hx hb dL_length_9 (by decide) ?_
  refine lv_iconst (v := nI 0) hx hb dL_length_15 (by decide +kernel) ?_
  refine W.widen (k := 1) (n := 6) (by omega) (by omega) ?_
  exact W.iret hx hb hr (fun t9 ht9 _ => ⟨some (.int (nI 0)), _, rfl, ⟨rfl, x, w9, hR9, rfl⟩, by rw [List.map_append, List.map_append, hw9]; rfl, by rw [ht9]; exact hP, hS.F ht9⟩) hS.2.2 dL_length_16
set_option maxHeartbeats 4000000 in
set_option maxRecDepth 100000 in
theorem wl_length_b (l : Launch) (D : va_G) (cI cJ : ClassId) (q : Nat → Nat) (n : Nat) (mk lt tg : Nat → Int32) (pa an la kn : Nat → Int64) (fb : Int32) (fh nb te wt bh : Nat → Int32) (o : Nat) (out : Nat → Int64) (x0 : Int32) {rm : Room} (hrm : rm.cells = 1 ∧ rm.slots = 6 ∧ rm.frames + 1 ≤ 9 ∧ 8 + (2 + 11) + rm.locals ≤ 150) {Rx : va_W → Prop} (hM : eg_MX D (tyL cI cJ) l yX0_length wsX0_length rm [.ref (q 0), .int x0] (wX q cI cJ (nI n) mk lt tg pa an la kn fb fh nb te wt bh) "java/lang/IndexOutOfBoundsException" Rx) : eg_ML D (tyL cI cJ) l yL_length wsL_length rmL [.ref (q 0), .int x0, .ref o] (wO o cJ out ++ wX q cI cJ (nI n) mk lt tg pa an la kn fb fh nb te wt bh) (fun r w1 => r = some (.int (nI 1)) ∧ ∃ wx : va_W, Rx wx ∧ w1 = wO o cJ out ++ wx) := by
  refine eg_ofWH (cc := cL_length) (maxL := 4) (ret := (some .int)) (hh := [(0, 9, 12, 13)]) (by decide) rfl ?_
  intro p e s m args below meth c s₁ B hml htb hv
  obtain ⟨rfl, hP, hK, hD0, hT⟩ := hv
  have hx := B.exec
  have hb := B.bytes
  have hr := B.returns
  have hts := atoms_spec (ws := wsL_length) B.pre
  have hown : s.vm.findClass RL = some m.cls := findClass_of_methodNamed B.named
  have hlocks := B.notSynchronized
  have hD := eg_D_of hD0
  have hS : va_S (eg_A (wO o cJ out ++ wX q cI cJ (nI n) mk lt tg pa an la kn fb fh nb te wt bh)) s.heap s.heap [] := va_S.rf
  have hl := lv_entry ([.ref (q 0), .int x0, .ref o]) (n := 4) (Nat.le_of_ble_eq_true rfl)
  rw [lg_entry_eq]
  generalize (lg_sl ([.ref (q 0), .int x0, .ref o]) ++ List.replicate (4 - (lg_sl ([.ref (q 0), .int x0, .ref o])).length) Slot.unset).toArray = ls at hl ⊢
  have hl : lv_has ls 4 [(0, .ref (q 0)), (1, .int x0), (2, .ref o)] := hl
  generalize h0H : s.heap = H at hP ⊢
  have hS : va_S (eg_A (wO o cJ out ++ wX q cI cJ (nI n) mk lt tg pa an la kn fb fh nb te wt bh)) s.heap H [] := by rw [← h0H]; exact hS
  generalize ([] : List Loc) = locs at hS ⊢
  refine lv_aload_n hx hb dL_length_0 rfl (lv_at hl 2 rfl) ?_
  refine lv_iconst (v := nI 0) hx hb dL_length_1 (by decide +kernel) ?_
  refine lv_aload_n hx hb dL_length_2 rfl (lv_at hl 0 rfl) ?_
  refine lv_iload_n hx hb dL_length_3 rfl (lv_at hl 1 rfl) ?_
  refine eg_callX (wr := wO o cJ out) (As := [.int x0]) (rest := [.int (nI 0), .ref o]) hx hb hml hown hts hK hP hD hS hT [1, 2, 3, 4, 5, 6, 7, 8, 9, 10, 11, 12, 13] [0] rfl rfl (by decide) hM (cwV 1 hts gL_length_X0_length rfl hrm.1 hrm.2.1 (by decide +kernel) ⟨hrm.2.2.1, hrm.2.2.2⟩) (va_recv hK hP (ci := 0) (q0 := 1) rfl rfl) rfl hl.1 rfl (Nat.le_of_ble_eq_true rfl) dL_length_4 ⟨Nat.le_of_ble_eq_true rfl, Nat.le_of_ble_eq_true rfl⟩ (fun w9 H locs q9 ce hR9 hw9 hP hD hS hc1 hc2 hc3 => ?_)
  refine vx_catch (own := RL) (name := "java/lang/IndexOutOfBoundsException") hown [] ⟨0, 9, 12, 13⟩ [] (htb.trans rfl) (fun z hz => absurd hz List.not_mem_nil) (by decide) (by decide) (hts (.classLink RL 13 "java/lang/IndexOutOfBoundsException") (by decide +kernel)) (va_Nw.use rfl hT.1.2.2.2.2.1) hc1 hc2 hc3 ?_
  refine lv_astore_n (lv' := [(3, .ref q9), (0, .ref (q 0)), (1, .int x0), (2, .ref o)]) hx hb dL_length_12 rfl hl (by decide) rfl (fun ls hl => ?_)
  refine lv_iconst (v := nI 1) hx hb dL_length_13 (by decide +kernel) ?_
  exact W.iret hx hb hr (fun t9 ht9 _ => ⟨some (.int (nI 1)), _, rfl, ⟨rfl, w9, hR9, rfl⟩, by rw [List.map_append, List.map_append, hw9], by rw [ht9]; exact hP, hS.F ht9⟩) hS.2.2 dL_length_14
set_option maxHeartbeats 4000000 in
set_option maxRecDepth 100000 in
theorem wl_letterAt (l : Launch) (D : va_G) (cI cJ : ClassId) (q : Nat → Nat) (n : Nat) (mk lt tg : Nat → Int32) (pa an la kn : Nat → Int64) (fb : Int32) (fh nb te wt bh : Nat → Int32) (o : Nat) (out : Nat → Int64) (x0 x1 : Int32) {rm : Room} (hrm : rm.cells = 0 ∧ rm.slots = 0 ∧ rm.frames + 1 ≤ 9 ∧ 8 + (3 + 11) + rm.locals ≤ 150) {Rq : Option Value → va_W → Prop} (hM : eg_MW D (tyL cI cJ) l yX0_letterAt wsX0_letterAt rm 0 0 [.ref (q 0), .int x0, .int x1] (wX q cI cJ (nI n) mk lt tg pa an la kn fb fh nb te wt bh) Rq) (hRq : ∀ v w1, Rq v w1 → ∃ x : Int32, v = some (.int x)) : eg_ML D (tyL cI cJ) l yL_letterAt wsL_letterAt rmL [.ref (q 0), .int x0, .int x1, .ref o] (wO o cJ out ++ wX q cI cJ (nI n) mk lt tg pa an la kn fb fh nb te wt bh) (fun r w1 => r = some (.int (nI 0)) ∧ ∃ (x : Int32) (wx : va_W), Rq (some (.int x)) wx ∧ w1 = wO o cJ (vp_updL out 0 (x.toInt64)) ++ wx) := by
  refine eg_ofWH (cc := cL_letterAt) (maxL := 5) (ret := (some .int)) (hh := [(0, 10, 13, 13)]) (by decide) rfl ?_
  intro p e s m args below meth c s₁ B hml htb hv
  obtain ⟨rfl, hP, hK, hD0, hT⟩ := hv
  have hx := B.exec
  have hb := B.bytes
  have hr := B.returns
  have hts := atoms_spec (ws := wsL_letterAt) B.pre
  have hown : s.vm.findClass RL = some m.cls := findClass_of_methodNamed B.named
  have hlocks := B.notSynchronized
  have hD := eg_D_of hD0
  have hS : va_S (eg_A (wO o cJ out ++ wX q cI cJ (nI n) mk lt tg pa an la kn fb fh nb te wt bh)) s.heap s.heap [] := va_S.rf
  have hl := lv_entry ([.ref (q 0), .int x0, .int x1, .ref o]) (n := 5) (Nat.le_of_ble_eq_true rfl)
  rw [lg_entry_eq]
  generalize (lg_sl ([.ref (q 0), .int x0, .int x1, .ref o]) ++ List.replicate (5 - (lg_sl ([.ref (q 0), .int x0, .int x1, .ref o])).length) Slot.unset).toArray = ls at hl ⊢
  have hl : lv_has ls 5 [(0, .ref (q 0)), (1, .int x0), (2, .int x1), (3, .ref o)] := hl
  generalize h0H : s.heap = H at hP ⊢
  have hS : va_S (eg_A (wO o cJ out ++ wX q cI cJ (nI n) mk lt tg pa an la kn fb fh nb te wt bh)) s.heap H [] := by rw [← h0H]; exact hS
  generalize ([] : List Loc) = locs at hS ⊢
  refine lv_aload_n hx hb dL_letterAt_0 rfl (lv_at hl 3 rfl) ?_
  refine lv_iconst (v := nI 0) hx hb dL_letterAt_1 (by decide +kernel) ?_
  refine lv_aload_n hx hb dL_letterAt_2 rfl (lv_at hl 0 rfl) ?_
  refine lv_iload_n hx hb dL_letterAt_3 rfl (lv_at hl 1 rfl) ?_
  refine lv_iload_n hx hb dL_letterAt_4 rfl (lv_at hl 2 rfl) ?_
  refine eg_callWVc (wr := wO o cJ out) (As := [.int x0, .int x1]) (rest := [.int (nI 0), .ref o]) hx hb hml hown hts hK hP hD hS [1, 2, 3, 4, 5, 6, 7, 8, 9, 10, 11, 12, 13] [0] rfl rfl (by decide) hM (cwV 2 hts gL_letterAt_X0_letterAt rfl hrm.1 hrm.2.1 (by decide +kernel) ⟨hrm.2.2.1, hrm.2.2.2⟩) (va_recv hK hP (ci := 0) (q0 := 1) rfl rfl) rfl hl.1 rfl (Nat.le_of_ble_eq_true rfl) dL_letterAt_5 ⟨Nat.le_of_ble_eq_true rfl, Nat.le_of_ble_eq_true rfl⟩ (fun v9 w9 H locs hR9 hw9 hP hD hS => ?_)
  obtain ⟨x, rfl⟩ := hRq _ _ hR9
  refine lv_i2l (v := x.toInt64) hx hb dL_letterAt_8 rfl ?_
  refine eg_last hx hb hK hP hD rfl hS 0 1 rfl rfl (by decide) (by decide) dL_letterAt_9 (w' := wO o cJ (vp_updL out 0 (x.toInt64)) ++ w9) rfl (fun H locs hP hS => ?_)
  refine lv_goto (tgt := 17) hx hb dL_letterAt_10 (by decide) ?_
  refine lv_iconst (v := nI 0) hx hb dL_letterAt_17 (by decide +kernel) ?_
  refine W.widen (k := 1) (n := 6) (by omega) (by omega) ?_
  exact W.iret hx hb hr (fun t9 ht9 _ => ⟨some (.int (nI 0)), _, rfl, ⟨rfl, x, w9, hR9, rfl⟩, by rw [List.map_append, List.map_append, hw9]; rfl, by rw [ht9]; exact hP, hS.F ht9⟩) hS.2.2 dL_letterAt_18
set_option maxHeartbeats 4000000 in
set_option maxRecDepth 100000 in
theorem wl_letterAt_b (l : Launch) (D : va_G) (cI cJ : ClassId) (q : Nat → Nat) (n : Nat) (mk lt tg : Nat → Int32) (pa an la kn : Nat → Int64) (fb : Int32) (fh nb te wt bh : Nat → Int32) (o : Nat) (out : Nat → Int64) (x0 x1 : Int32) {rm : Room} (hrm : rm.cells = 1 ∧ rm.slots = 6 ∧ rm.frames + 1 ≤ 9 ∧ 8 + (3 + 11) + rm.locals ≤ 150) {Rx : va_W → Prop} (hM : eg_MX D (tyL cI cJ) l yX0_letterAt wsX0_letterAt rm [.ref (q 0), .int x0, .int x1] (wX q cI cJ (nI n) mk lt tg pa an la kn fb fh nb te wt bh) "java/lang/IndexOutOfBoundsException" Rx) : eg_ML D (tyL cI cJ) l yL_letterAt wsL_letterAt rmL [.ref (q 0), .int x0, .int x1, .ref o] (wO o cJ out ++ wX q cI cJ (nI n) mk lt tg pa an la kn fb fh nb te wt bh) (fun r w1 => r = some (.int (nI 1)) ∧ ∃ wx : va_W, Rx wx ∧ w1 = wO o cJ out ++ wx) := by
  refine eg_ofWH (cc := cL_letterAt) (maxL := 5) (ret := (some .int)) (hh := [(0, 10, 13, 13)]) (by decide) rfl ?_
  intro p e s m args below meth c s₁ B hml htb hv
  obtain ⟨rfl, hP, hK, hD0, hT⟩ := hv
  have hx := B.exec
  have hb := B.bytes
  have hr := B.returns
  have hts := atoms_spec (ws := wsL_letterAt) B.pre
  have hown : s.vm.findClass RL = some m.cls := findClass_of_methodNamed B.named
  have hlocks := B.notSynchronized
  have hD := eg_D_of hD0
  have hS : va_S (eg_A (wO o cJ out ++ wX q cI cJ (nI n) mk lt tg pa an la kn fb fh nb te wt bh)) s.heap s.heap [] := va_S.rf
  have hl := lv_entry ([.ref (q 0), .int x0, .int x1, .ref o]) (n := 5) (Nat.le_of_ble_eq_true rfl)
  rw [lg_entry_eq]
  generalize (lg_sl ([.ref (q 0), .int x0, .int x1, .ref o]) ++ List.replicate (5 - (lg_sl ([.ref (q 0), .int x0, .int x1, .ref o])).length) Slot.unset).toArray = ls at hl ⊢
  have hl : lv_has ls 5 [(0, .ref (q 0)), (1, .int x0), (2, .int x1), (3, .ref o)] := hl
  generalize h0H : s.heap = H at hP ⊢
  have hS : va_S (eg_A (wO o cJ out ++ wX q cI cJ (nI n) mk lt tg pa an la kn fb fh nb te wt bh)) s.heap H [] := by rw [← h0H]; exact hS
  generalize ([] : List Loc) = locs at hS ⊢
  refine lv_aload_n hx hb dL_letterAt_0 rfl (lv_at hl 3 rfl) ?_
  refine lv_iconst (v := nI 0) hx hb dL_letterAt_1 (by decide +kernel) ?_
  refine lv_aload_n hx hb dL_letterAt_2 rfl (lv_at hl 0 rfl) ?_
  refine lv_iload_n hx hb dL_letterAt_3 rfl (lv_at hl 1 rfl) ?_
  refine lv_iload_n hx hb dL_letterAt_4 rfl (lv_at hl 2 rfl) ?_
  refine eg_callX (wr := wO o cJ out) (As := [.int x0, .int x1]) (rest := [.int (nI 0), .ref o]) hx hb hml hown hts hK hP hD hS hT [1, 2, 3, 4, 5, 6, 7, 8, 9, 10, 11, 12, 13] [0] rfl rfl (by decide) hM (cwV 2 hts gL_letterAt_X0_letterAt rfl hrm.1 hrm.2.1 (by decide +kernel) ⟨hrm.2.2.1, hrm.2.2.2⟩) (va_recv hK hP (ci := 0) (q0 := 1) rfl rfl) rfl hl.1 rfl (Nat.le_of_ble_eq_true rfl) dL_letterAt_5 ⟨Nat.le_of_ble_eq_true rfl, Nat.le_of_ble_eq_true rfl⟩ (fun w9 H locs q9 ce hR9 hw9 hP hD hS hc1 hc2 hc3 => ?_)
  refine vx_catch (own := RL) (name := "java/lang/IndexOutOfBoundsException") hown [] ⟨0, 10, 13, 13⟩ [] (htb.trans rfl) (fun z hz => absurd hz List.not_mem_nil) (by decide) (by decide) (hts (.classLink RL 13 "java/lang/IndexOutOfBoundsException") (by decide +kernel)) (va_Nw.use rfl hT.1.2.2.2.2.1) hc1 hc2 hc3 ?_
  refine lv_astore (lv' := [(4, .ref q9), (0, .ref (q 0)), (1, .int x0), (2, .int x1), (3, .ref o)]) hx hb dL_letterAt_13 hl (by decide) rfl (fun ls hl => ?_)
  refine lv_iconst (v := nI 1) hx hb dL_letterAt_15 (by decide +kernel) ?_
  exact W.iret hx hb hr (fun t9 ht9 _ => ⟨some (.int (nI 1)), _, rfl, ⟨rfl, w9, hR9, rfl⟩, by rw [List.map_append, List.map_append, hw9], by rw [ht9]; exact hP, hS.F ht9⟩) hS.2.2 dL_letterAt_16
set_option maxHeartbeats 4000000 in
set_option maxRecDepth 100000 in
theorem wl_letterByList (l : Launch) (D : va_G) (cI cJ : ClassId) (q : Nat → Nat) (n : Nat) (mk lt tg : Nat → Int32) (pa an la kn : Nat → Int64) (fb : Int32) (fh nb te wt bh : Nat → Int32) (o : Nat) (out : Nat → Int64) (x0 x1 : Int32) {rm : Room} (hrm : rm.cells = 0 ∧ rm.slots = 0 ∧ rm.frames + 1 ≤ 9 ∧ 8 + (4 + 11) + rm.locals ≤ 150) {Rq : Option Value → va_W → Prop} (hM : eg_MW D (tyL cI cJ) l yX0_letterByList wsX0_letterByList rm 0 0 [.ref (q 0), .int x0, .int x1] (wX q cI cJ (nI n) mk lt tg pa an la kn fb fh nb te wt bh) Rq) (hRq : ∀ v w1, Rq v w1 → ∃ x : Int32, v = some (.int x)) : eg_ML D (tyL cI cJ) l yL_letterByList wsL_letterByList rmL [.ref (q 0), .int x0, .int x1, .ref o] (wO o cJ out ++ wX q cI cJ (nI n) mk lt tg pa an la kn fb fh nb te wt bh) (fun r w1 => r = some (.int (nI 0)) ∧ ∃ (x : Int32) (wx : va_W), Rq (some (.int x)) wx ∧ w1 = wO o cJ (vp_updL out 0 (x.toInt64)) ++ wx) := by
  refine eg_ofWH (cc := cL_letterByList) (maxL := 5) (ret := (some .int)) (hh := [(0, 10, 13, 13)]) (by decide) rfl ?_
  intro p e s m args below meth c s₁ B hml htb hv
  obtain ⟨rfl, hP, hK, hD0, hT⟩ := hv
  have hx := B.exec
  have hb := B.bytes
  have hr := B.returns
  have hts := atoms_spec (ws := wsL_letterByList) B.pre
  have hown : s.vm.findClass RL = some m.cls := findClass_of_methodNamed B.named
  have hlocks := B.notSynchronized
  have hD := eg_D_of hD0
  have hS : va_S (eg_A (wO o cJ out ++ wX q cI cJ (nI n) mk lt tg pa an la kn fb fh nb te wt bh)) s.heap s.heap [] := va_S.rf
  have hl := lv_entry ([.ref (q 0), .int x0, .int x1, .ref o]) (n := 5) (Nat.le_of_ble_eq_true rfl)
  rw [lg_entry_eq]
  generalize (lg_sl ([.ref (q 0), .int x0, .int x1, .ref o]) ++ List.replicate (5 - (lg_sl ([.ref (q 0), .int x0, .int x1, .ref o])).length) Slot.unset).toArray = ls at hl ⊢
  have hl : lv_has ls 5 [(0, .ref (q 0)), (1, .int x0), (2, .int x1), (3, .ref o)] := hl
  generalize h0H : s.heap = H at hP ⊢
  have hS : va_S (eg_A (wO o cJ out ++ wX q cI cJ (nI n) mk lt tg pa an la kn fb fh nb te wt bh)) s.heap H [] := by rw [← h0H]; exact hS
  generalize ([] : List Loc) = locs at hS ⊢
  refine lv_aload_n hx hb dL_letterByList_0 rfl (lv_at hl 3 rfl) ?_
  refine lv_iconst (v := nI 0) hx hb dL_letterByList_1 (by decide +kernel) ?_
  refine lv_aload_n hx hb dL_letterByList_2 rfl (lv_at hl 0 rfl) ?_
  refine lv_iload_n hx hb dL_letterByList_3 rfl (lv_at hl 1 rfl) ?_
  refine lv_iload_n hx hb dL_letterByList_4 rfl (lv_at hl 2 rfl) ?_
  refine eg_callWVc (wr := wO o cJ out) (As := [.int x0, .int x1]) (rest := [.int (nI 0), .ref o]) hx hb hml hown hts hK hP hD hS [1, 2, 3, 4, 5, 6, 7, 8, 9, 10, 11, 12, 13] [0] rfl rfl (by decide) hM (cwV 2 hts gL_letterByList_X0_letterByList rfl hrm.1 hrm.2.1 (by decide +kernel) ⟨hrm.2.2.1, hrm.2.2.2⟩) (va_recv hK hP (ci := 0) (q0 := 1) rfl rfl) rfl hl.1 rfl (Nat.le_of_ble_eq_true rfl) dL_letterByList_5 ⟨Nat.le_of_ble_eq_true rfl, Nat.le_of_ble_eq_true rfl⟩ (fun v9 w9 H locs hR9 hw9 hP hD hS => ?_)
  obtain ⟨x, rfl⟩ := hRq _ _ hR9
  refine lv_i2l (v := x.toInt64) hx hb dL_letterByList_8 rfl ?_
  refine eg_last hx hb hK hP hD rfl hS 0 1 rfl rfl (by decide) (by decide) dL_letterByList_9 (w' := wO o cJ (vp_updL out 0 (x.toInt64)) ++ w9) rfl (fun H locs hP hS => ?_)
  refine lv_goto (tgt := 17) hx hb dL_letterByList_10 (by decide) ?_
  refine lv_iconst (v := nI 0) hx hb dL_letterByList_17 (by decide +kernel) ?_
  refine W.widen (k := 1) (n := 6) (by omega) (by omega) ?_
  exact W.iret hx hb hr (fun t9 ht9 _ => ⟨some (.int (nI 0)), _, rfl, ⟨rfl, x, w9, hR9, rfl⟩, by rw [List.map_append, List.map_append, hw9]; rfl, by rw [ht9]; exact hP, hS.F ht9⟩) hS.2.2 dL_letterByList_18
set_option maxHeartbeats 4000000 in
set_option maxRecDepth 100000 in
theorem wl_letterByList_b (l : Launch) (D : va_G) (cI cJ : ClassId) (q : Nat → Nat) (n : Nat) (mk lt tg : Nat → Int32) (pa an la kn : Nat → Int64) (fb : Int32) (fh nb te wt bh : Nat → Int32) (o : Nat) (out : Nat → Int64) (x0 x1 : Int32) {rm : Room} (hrm : rm.cells = 1 ∧ rm.slots = 6 ∧ rm.frames + 1 ≤ 9 ∧ 8 + (4 + 11) + rm.locals ≤ 150) {Rx : va_W → Prop} (hM : eg_MX D (tyL cI cJ) l yX0_letterByList wsX0_letterByList rm [.ref (q 0), .int x0, .int x1] (wX q cI cJ (nI n) mk lt tg pa an la kn fb fh nb te wt bh) "java/lang/IndexOutOfBoundsException" Rx) : eg_ML D (tyL cI cJ) l yL_letterByList wsL_letterByList rmL [.ref (q 0), .int x0, .int x1, .ref o] (wO o cJ out ++ wX q cI cJ (nI n) mk lt tg pa an la kn fb fh nb te wt bh) (fun r w1 => r = some (.int (nI 1)) ∧ ∃ wx : va_W, Rx wx ∧ w1 = wO o cJ out ++ wx) := by
  refine eg_ofWH (cc := cL_letterByList) (maxL := 5) (ret := (some .int)) (hh := [(0, 10, 13, 13)]) (by decide) rfl ?_
  intro p e s m args below meth c s₁ B hml htb hv
  obtain ⟨rfl, hP, hK, hD0, hT⟩ := hv
  have hx := B.exec
  have hb := B.bytes
  have hr := B.returns
  have hts := atoms_spec (ws := wsL_letterByList) B.pre
  have hown : s.vm.findClass RL = some m.cls := findClass_of_methodNamed B.named
  have hlocks := B.notSynchronized
  have hD := eg_D_of hD0
  have hS : va_S (eg_A (wO o cJ out ++ wX q cI cJ (nI n) mk lt tg pa an la kn fb fh nb te wt bh)) s.heap s.heap [] := va_S.rf
  have hl := lv_entry ([.ref (q 0), .int x0, .int x1, .ref o]) (n := 5) (Nat.le_of_ble_eq_true rfl)
  rw [lg_entry_eq]
  generalize (lg_sl ([.ref (q 0), .int x0, .int x1, .ref o]) ++ List.replicate (5 - (lg_sl ([.ref (q 0), .int x0, .int x1, .ref o])).length) Slot.unset).toArray = ls at hl ⊢
  have hl : lv_has ls 5 [(0, .ref (q 0)), (1, .int x0), (2, .int x1), (3, .ref o)] := hl
  generalize h0H : s.heap = H at hP ⊢
  have hS : va_S (eg_A (wO o cJ out ++ wX q cI cJ (nI n) mk lt tg pa an la kn fb fh nb te wt bh)) s.heap H [] := by rw [← h0H]; exact hS
  generalize ([] : List Loc) = locs at hS ⊢
  refine lv_aload_n hx hb dL_letterByList_0 rfl (lv_at hl 3 rfl) ?_
  refine lv_iconst (v := nI 0) hx hb dL_letterByList_1 (by decide +kernel) ?_
  refine lv_aload_n hx hb dL_letterByList_2 rfl (lv_at hl 0 rfl) ?_
  refine lv_iload_n hx hb dL_letterByList_3 rfl (lv_at hl 1 rfl) ?_
  refine lv_iload_n hx hb dL_letterByList_4 rfl (lv_at hl 2 rfl) ?_
  refine eg_callX (wr := wO o cJ out) (As := [.int x0, .int x1]) (rest := [.int (nI 0), .ref o]) hx hb hml hown hts hK hP hD hS hT [1, 2, 3, 4, 5, 6, 7, 8, 9, 10, 11, 12, 13] [0] rfl rfl (by decide) hM (cwV 2 hts gL_letterByList_X0_letterByList rfl hrm.1 hrm.2.1 (by decide +kernel) ⟨hrm.2.2.1, hrm.2.2.2⟩) (va_recv hK hP (ci := 0) (q0 := 1) rfl rfl) rfl hl.1 rfl (Nat.le_of_ble_eq_true rfl) dL_letterByList_5 ⟨Nat.le_of_ble_eq_true rfl, Nat.le_of_ble_eq_true rfl⟩ (fun w9 H locs q9 ce hR9 hw9 hP hD hS hc1 hc2 hc3 => ?_)
  refine vx_catch (own := RL) (name := "java/lang/IndexOutOfBoundsException") hown [] ⟨0, 10, 13, 13⟩ [] (htb.trans rfl) (fun z hz => absurd hz List.not_mem_nil) (by decide) (by decide) (hts (.classLink RL 13 "java/lang/IndexOutOfBoundsException") (by decide +kernel)) (va_Nw.use rfl hT.1.2.2.2.2.1) hc1 hc2 hc3 ?_
  refine lv_astore (lv' := [(4, .ref q9), (0, .ref (q 0)), (1, .int x0), (2, .int x1), (3, .ref o)]) hx hb dL_letterByList_13 hl (by decide) rfl (fun ls hl => ?_)
  refine lv_iconst (v := nI 1) hx hb dL_letterByList_15 (by decide +kernel) ?_
  exact W.iret hx hb hr (fun t9 ht9 _ => ⟨some (.int (nI 1)), _, rfl, ⟨rfl, w9, hR9, rfl⟩, by rw [List.map_append, List.map_append, hw9], by rw [ht9]; exact hP, hS.F ht9⟩) hS.2.2 dL_letterByList_16
set_option maxHeartbeats 4000000 in
set_option maxRecDepth 100000 in
theorem wl_eventAt (l : Launch) (D : va_G) (cI cJ : ClassId) (q : Nat → Nat) (n : Nat) (mk lt tg : Nat → Int32) (pa an la kn : Nat → Int64) (fb : Int32) (fh nb te wt bh : Nat → Int32) (o : Nat) (out : Nat → Int64) (x0 x1 : Int32) {rm : Room} (hrm : rm.cells = 0 ∧ rm.slots = 0 ∧ rm.frames + 1 ≤ 9 ∧ 8 + (3 + 11) + rm.locals ≤ 150) {Rq : Option Value → va_W → Prop} (hM : eg_MW D (tyL cI cJ) l yX0_eventAt wsX0_eventAt rm 0 0 [.ref (q 0), .int x0, .int x1] (wX q cI cJ (nI n) mk lt tg pa an la kn fb fh nb te wt bh) Rq) (hRq : ∀ v w1, Rq v w1 → ∃ x : Int32, v = some (.int x)) : eg_ML D (tyL cI cJ) l yL_eventAt wsL_eventAt rmL [.ref (q 0), .int x0, .int x1, .ref o] (wO o cJ out ++ wX q cI cJ (nI n) mk lt tg pa an la kn fb fh nb te wt bh) (fun r w1 => r = some (.int (nI 0)) ∧ ∃ (x : Int32) (wx : va_W), Rq (some (.int x)) wx ∧ w1 = wO o cJ (vp_updL out 0 (x.toInt64)) ++ wx) := by
  refine eg_ofWH (cc := cL_eventAt) (maxL := 5) (ret := (some .int)) (hh := [(0, 10, 13, 13)]) (by decide) rfl ?_
  intro p e s m args below meth c s₁ B hml htb hv
  obtain ⟨rfl, hP, hK, hD0, hT⟩ := hv
  have hx := B.exec
  have hb := B.bytes
  have hr := B.returns
  have hts := atoms_spec (ws := wsL_eventAt) B.pre
  have hown : s.vm.findClass RL = some m.cls := findClass_of_methodNamed B.named
  have hlocks := B.notSynchronized
  have hD := eg_D_of hD0
  have hS : va_S (eg_A (wO o cJ out ++ wX q cI cJ (nI n) mk lt tg pa an la kn fb fh nb te wt bh)) s.heap s.heap [] := va_S.rf
  have hl := lv_entry ([.ref (q 0), .int x0, .int x1, .ref o]) (n := 5) (Nat.le_of_ble_eq_true rfl)
  rw [lg_entry_eq]
  generalize (lg_sl ([.ref (q 0), .int x0, .int x1, .ref o]) ++ List.replicate (5 - (lg_sl ([.ref (q 0), .int x0, .int x1, .ref o])).length) Slot.unset).toArray = ls at hl ⊢
  have hl : lv_has ls 5 [(0, .ref (q 0)), (1, .int x0), (2, .int x1), (3, .ref o)] := hl
  generalize h0H : s.heap = H at hP ⊢
  have hS : va_S (eg_A (wO o cJ out ++ wX q cI cJ (nI n) mk lt tg pa an la kn fb fh nb te wt bh)) s.heap H [] := by rw [← h0H]; exact hS
  generalize ([] : List Loc) = locs at hS ⊢
  refine lv_aload_n hx hb dL_eventAt_0 rfl (lv_at hl 3 rfl) ?_
  refine lv_iconst (v := nI 0) hx hb dL_eventAt_1 (by decide +kernel) ?_
  refine lv_aload_n hx hb dL_eventAt_2 rfl (lv_at hl 0 rfl) ?_
  refine lv_iload_n hx hb dL_eventAt_3 rfl (lv_at hl 1 rfl) ?_
  refine lv_iload_n hx hb dL_eventAt_4 rfl (lv_at hl 2 rfl) ?_
  refine eg_callWVc (wr := wO o cJ out) (As := [.int x0, .int x1]) (rest := [.int (nI 0), .ref o]) hx hb hml hown hts hK hP hD hS [1, 2, 3, 4, 5, 6, 7, 8, 9, 10, 11, 12, 13] [0] rfl rfl (by decide) hM (cwV 2 hts gL_eventAt_X0_eventAt rfl hrm.1 hrm.2.1 (by decide +kernel) ⟨hrm.2.2.1, hrm.2.2.2⟩) (va_recv hK hP (ci := 0) (q0 := 1) rfl rfl) rfl hl.1 rfl (Nat.le_of_ble_eq_true rfl) dL_eventAt_5 ⟨Nat.le_of_ble_eq_true rfl, Nat.le_of_ble_eq_true rfl⟩ (fun v9 w9 H locs hR9 hw9 hP hD hS => ?_)
  obtain ⟨x, rfl⟩ := hRq _ _ hR9
  refine lv_i2l (v := x.toInt64) hx hb dL_eventAt_8 rfl ?_
  refine eg_last hx hb hK hP hD rfl hS 0 1 rfl rfl (by decide) (by decide) dL_eventAt_9 (w' := wO o cJ (vp_updL out 0 (x.toInt64)) ++ w9) rfl (fun H locs hP hS => ?_)
  refine lv_goto (tgt := 17) hx hb dL_eventAt_10 (by decide) ?_
  refine lv_iconst (v := nI 0) hx hb dL_eventAt_17 (by decide +kernel) ?_
  refine W.widen (k := 1) (n := 6) (by omega) (by omega) ?_
  exact W.iret hx hb hr (fun t9 ht9 _ => ⟨some (.int (nI 0)), _, rfl, ⟨rfl, x, w9, hR9, rfl⟩, by rw [List.map_append, List.map_append, hw9]; rfl, by rw [ht9]; exact hP, hS.F ht9⟩) hS.2.2 dL_eventAt_18
set_option maxHeartbeats 4000000 in
set_option maxRecDepth 100000 in
theorem wl_eventAt_b (l : Launch) (D : va_G) (cI cJ : ClassId) (q : Nat → Nat) (n : Nat) (mk lt tg : Nat → Int32) (pa an la kn : Nat → Int64) (fb : Int32) (fh nb te wt bh : Nat → Int32) (o : Nat) (out : Nat → Int64) (x0 x1 : Int32) {rm : Room} (hrm : rm.cells = 1 ∧ rm.slots = 6 ∧ rm.frames + 1 ≤ 9 ∧ 8 + (3 + 11) + rm.locals ≤ 150) {Rx : va_W → Prop} (hM : eg_MX D (tyL cI cJ) l yX0_eventAt wsX0_eventAt rm [.ref (q 0), .int x0, .int x1] (wX q cI cJ (nI n) mk lt tg pa an la kn fb fh nb te wt bh) "java/lang/IndexOutOfBoundsException" Rx) : eg_ML D (tyL cI cJ) l yL_eventAt wsL_eventAt rmL [.ref (q 0), .int x0, .int x1, .ref o] (wO o cJ out ++ wX q cI cJ (nI n) mk lt tg pa an la kn fb fh nb te wt bh) (fun r w1 => r = some (.int (nI 1)) ∧ ∃ wx : va_W, Rx wx ∧ w1 = wO o cJ out ++ wx) := by
  refine eg_ofWH (cc := cL_eventAt) (maxL := 5) (ret := (some .int)) (hh := [(0, 10, 13, 13)]) (by decide) rfl ?_
  intro p e s m args below meth c s₁ B hml htb hv
  obtain ⟨rfl, hP, hK, hD0, hT⟩ := hv
  have hx := B.exec
  have hb := B.bytes
  have hr := B.returns
  have hts := atoms_spec (ws := wsL_eventAt) B.pre
  have hown : s.vm.findClass RL = some m.cls := findClass_of_methodNamed B.named
  have hlocks := B.notSynchronized
  have hD := eg_D_of hD0
  have hS : va_S (eg_A (wO o cJ out ++ wX q cI cJ (nI n) mk lt tg pa an la kn fb fh nb te wt bh)) s.heap s.heap [] := va_S.rf
  have hl := lv_entry ([.ref (q 0), .int x0, .int x1, .ref o]) (n := 5) (Nat.le_of_ble_eq_true rfl)
  rw [lg_entry_eq]
  generalize (lg_sl ([.ref (q 0), .int x0, .int x1, .ref o]) ++ List.replicate (5 - (lg_sl ([.ref (q 0), .int x0, .int x1, .ref o])).length) Slot.unset).toArray = ls at hl ⊢
  have hl : lv_has ls 5 [(0, .ref (q 0)), (1, .int x0), (2, .int x1), (3, .ref o)] := hl
  generalize h0H : s.heap = H at hP ⊢
  have hS : va_S (eg_A (wO o cJ out ++ wX q cI cJ (nI n) mk lt tg pa an la kn fb fh nb te wt bh)) s.heap H [] := by rw [← h0H]; exact hS
  generalize ([] : List Loc) = locs at hS ⊢
  refine lv_aload_n hx hb dL_eventAt_0 rfl (lv_at hl 3 rfl) ?_
  refine lv_iconst (v := nI 0) hx hb dL_eventAt_1 (by decide +kernel) ?_
  refine lv_aload_n hx hb dL_eventAt_2 rfl (lv_at hl 0 rfl) ?_
  refine lv_iload_n hx hb dL_eventAt_3 rfl (lv_at hl 1 rfl) ?_
  refine lv_iload_n hx hb dL_eventAt_4 rfl (lv_at hl 2 rfl) ?_
  refine eg_callX (wr := wO o cJ out) (As := [.int x0, .int x1]) (rest := [.int (nI 0), .ref o]) hx hb hml hown hts hK hP hD hS hT [1, 2, 3, 4, 5, 6, 7, 8, 9, 10, 11, 12, 13] [0] rfl rfl (by decide) hM (cwV 2 hts gL_eventAt_X0_eventAt rfl hrm.1 hrm.2.1 (by decide +kernel) ⟨hrm.2.2.1, hrm.2.2.2⟩) (va_recv hK hP (ci := 0) (q0 := 1) rfl rfl) rfl hl.1 rfl (Nat.le_of_ble_eq_true rfl) dL_eventAt_5 ⟨Nat.le_of_ble_eq_true rfl, Nat.le_of_ble_eq_true rfl⟩ (fun w9 H locs q9 ce hR9 hw9 hP hD hS hc1 hc2 hc3 => ?_)
  refine vx_catch (own := RL) (name := "java/lang/IndexOutOfBoundsException") hown [] ⟨0, 10, 13, 13⟩ [] (htb.trans rfl) (fun z hz => absurd hz List.not_mem_nil) (by decide) (by decide) (hts (.classLink RL 13 "java/lang/IndexOutOfBoundsException") (by decide +kernel)) (va_Nw.use rfl hT.1.2.2.2.2.1) hc1 hc2 hc3 ?_
  refine lv_astore (lv' := [(4, .ref q9), (0, .ref (q 0)), (1, .int x0), (2, .int x1), (3, .ref o)]) hx hb dL_eventAt_13 hl (by decide) rfl (fun ls hl => ?_)
  refine lv_iconst (v := nI 1) hx hb dL_eventAt_15 (by decide +kernel) ?_
  exact W.iret hx hb hr (fun t9 ht9 _ => ⟨some (.int (nI 1)), _, rfl, ⟨rfl, w9, hR9, rfl⟩, by rw [List.map_append, List.map_append, hw9], by rw [ht9]; exact hP, hS.F ht9⟩) hS.2.2 dL_eventAt_16
set_option maxHeartbeats 4000000 in
set_option maxRecDepth 100000 in
theorem wl_lengthOf (l : Launch) (D : va_G) (cI cJ : ClassId) (q : Nat → Nat) (n : Nat) (mk lt tg : Nat → Int32) (pa an la kn : Nat → Int64) (fb : Int32) (fh nb te wt bh : Nat → Int32) (o : Nat) (out : Nat → Int64) (x0 : Int32) {rm : Room} (hrm : rm.cells = 0 ∧ rm.slots = 0 ∧ rm.frames + 1 ≤ 9 ∧ 8 + (2 + 11) + rm.locals ≤ 150) {Rq : Option Value → va_W → Prop} (hM : eg_MW D (tyL cI cJ) l yX0_lengthOf wsX0_lengthOf rm 0 0 [.ref (q 0), .int x0] (wX q cI cJ (nI n) mk lt tg pa an la kn fb fh nb te wt bh) Rq) (hRq : ∀ v w1, Rq v w1 → ∃ x : Int32, v = some (.int x)) : eg_ML D (tyL cI cJ) l yL_lengthOf wsL_lengthOf rmL [.ref (q 0), .int x0, .ref o] (wO o cJ out ++ wX q cI cJ (nI n) mk lt tg pa an la kn fb fh nb te wt bh) (fun r w1 => r = some (.int (nI 0)) ∧ ∃ (x : Int32) (wx : va_W), Rq (some (.int x)) wx ∧ w1 = wO o cJ (vp_updL out 0 (x.toInt64)) ++ wx) := by
  refine eg_ofWH (cc := cL_lengthOf) (maxL := 4) (ret := (some .int)) (hh := [(0, 9, 12, 13)]) (by decide) rfl ?_
  intro p e s m args below meth c s₁ B hml htb hv
  obtain ⟨rfl, hP, hK, hD0, hT⟩ := hv
  have hx := B.exec
  have hb := B.bytes
  have hr := B.returns
  have hts := atoms_spec (ws := wsL_lengthOf) B.pre
  have hown : s.vm.findClass RL = some m.cls := findClass_of_methodNamed B.named
  have hlocks := B.notSynchronized
  have hD := eg_D_of hD0
  have hS : va_S (eg_A (wO o cJ out ++ wX q cI cJ (nI n) mk lt tg pa an la kn fb fh nb te wt bh)) s.heap s.heap [] := va_S.rf
  have hl := lv_entry ([.ref (q 0), .int x0, .ref o]) (n := 4) (Nat.le_of_ble_eq_true rfl)
  rw [lg_entry_eq]
  generalize (lg_sl ([.ref (q 0), .int x0, .ref o]) ++ List.replicate (4 - (lg_sl ([.ref (q 0), .int x0, .ref o])).length) Slot.unset).toArray = ls at hl ⊢
  have hl : lv_has ls 4 [(0, .ref (q 0)), (1, .int x0), (2, .ref o)] := hl
  generalize h0H : s.heap = H at hP ⊢
  have hS : va_S (eg_A (wO o cJ out ++ wX q cI cJ (nI n) mk lt tg pa an la kn fb fh nb te wt bh)) s.heap H [] := by rw [← h0H]; exact hS
  generalize ([] : List Loc) = locs at hS ⊢
  refine lv_aload_n hx hb dL_lengthOf_0 rfl (lv_at hl 2 rfl) ?_
  refine lv_iconst (v := nI 0) hx hb dL_lengthOf_1 (by decide +kernel) ?_
  refine lv_aload_n hx hb dL_lengthOf_2 rfl (lv_at hl 0 rfl) ?_
  refine lv_iload_n hx hb dL_lengthOf_3 rfl (lv_at hl 1 rfl) ?_
  refine eg_callWVc (wr := wO o cJ out) (As := [.int x0]) (rest := [.int (nI 0), .ref o]) hx hb hml hown hts hK hP hD hS [1, 2, 3, 4, 5, 6, 7, 8, 9, 10, 11, 12, 13] [0] rfl rfl (by decide) hM (cwV 1 hts gL_lengthOf_X0_lengthOf rfl hrm.1 hrm.2.1 (by decide +kernel) ⟨hrm.2.2.1, hrm.2.2.2⟩) (va_recv hK hP (ci := 0) (q0 := 1) rfl rfl) rfl hl.1 rfl (Nat.le_of_ble_eq_true rfl) dL_lengthOf_4 ⟨Nat.le_of_ble_eq_true rfl, Nat.le_of_ble_eq_true rfl⟩ (fun v9 w9 H locs hR9 hw9 hP hD hS => ?_)
  obtain ⟨x, rfl⟩ := hRq _ _ hR9
  refine lv_i2l (v := x.toInt64) hx hb dL_lengthOf_7 rfl ?_
  refine eg_last hx hb hK hP hD rfl hS 0 1 rfl rfl (by decide) (by decide) dL_lengthOf_8 (w' := wO o cJ (vp_updL out 0 (x.toInt64)) ++ w9) rfl (fun H locs hP hS => ?_)
  refine lv_goto (tgt := 15) hx hb dL_lengthOf_9 (by decide) ?_
  refine lv_iconst (v := nI 0) hx hb dL_lengthOf_15 (by decide +kernel) ?_
  refine W.widen (k := 1) (n := 6) (by omega) (by omega) ?_
  exact W.iret hx hb hr (fun t9 ht9 _ => ⟨some (.int (nI 0)), _, rfl, ⟨rfl, x, w9, hR9, rfl⟩, by rw [List.map_append, List.map_append, hw9]; rfl, by rw [ht9]; exact hP, hS.F ht9⟩) hS.2.2 dL_lengthOf_16
set_option maxHeartbeats 4000000 in
set_option maxRecDepth 100000 in
theorem wl_lengthOf_b (l : Launch) (D : va_G) (cI cJ : ClassId) (q : Nat → Nat) (n : Nat) (mk lt tg : Nat → Int32) (pa an la kn : Nat → Int64) (fb : Int32) (fh nb te wt bh : Nat → Int32) (o : Nat) (out : Nat → Int64) (x0 : Int32) {rm : Room} (hrm : rm.cells = 1 ∧ rm.slots = 6 ∧ rm.frames + 1 ≤ 9 ∧ 8 + (2 + 11) + rm.locals ≤ 150) {Rx : va_W → Prop} (hM : eg_MX D (tyL cI cJ) l yX0_lengthOf wsX0_lengthOf rm [.ref (q 0), .int x0] (wX q cI cJ (nI n) mk lt tg pa an la kn fb fh nb te wt bh) "java/lang/IndexOutOfBoundsException" Rx) : eg_ML D (tyL cI cJ) l yL_lengthOf wsL_lengthOf rmL [.ref (q 0), .int x0, .ref o] (wO o cJ out ++ wX q cI cJ (nI n) mk lt tg pa an la kn fb fh nb te wt bh) (fun r w1 => r = some (.int (nI 1)) ∧ ∃ wx : va_W, Rx wx ∧ w1 = wO o cJ out ++ wx) := by
  refine eg_ofWH (cc := cL_lengthOf) (maxL := 4) (ret := (some .int)) (hh := [(0, 9, 12, 13)]) (by decide) rfl ?_
  intro p e s m args below meth c s₁ B hml htb hv
  obtain ⟨rfl, hP, hK, hD0, hT⟩ := hv
  have hx := B.exec
  have hb := B.bytes
  have hr := B.returns
  have hts := atoms_spec (ws := wsL_lengthOf) B.pre
  have hown : s.vm.findClass RL = some m.cls := findClass_of_methodNamed B.named
  have hlocks := B.notSynchronized
  have hD := eg_D_of hD0
  have hS : va_S (eg_A (wO o cJ out ++ wX q cI cJ (nI n) mk lt tg pa an la kn fb fh nb te wt bh)) s.heap s.heap [] := va_S.rf
  have hl := lv_entry ([.ref (q 0), .int x0, .ref o]) (n := 4) (Nat.le_of_ble_eq_true rfl)
  rw [lg_entry_eq]
  generalize (lg_sl ([.ref (q 0), .int x0, .ref o]) ++ List.replicate (4 - (lg_sl ([.ref (q 0), .int x0, .ref o])).length) Slot.unset).toArray = ls at hl ⊢
  have hl : lv_has ls 4 [(0, .ref (q 0)), (1, .int x0), (2, .ref o)] := hl
  generalize h0H : s.heap = H at hP ⊢
  have hS : va_S (eg_A (wO o cJ out ++ wX q cI cJ (nI n) mk lt tg pa an la kn fb fh nb te wt bh)) s.heap H [] := by rw [← h0H]; exact hS
  generalize ([] : List Loc) = locs at hS ⊢
  refine lv_aload_n hx hb dL_lengthOf_0 rfl (lv_at hl 2 rfl) ?_
  refine lv_iconst (v := nI 0) hx hb dL_lengthOf_1 (by decide +kernel) ?_
  refine lv_aload_n hx hb dL_lengthOf_2 rfl (lv_at hl 0 rfl) ?_
  refine lv_iload_n hx hb dL_lengthOf_3 rfl (lv_at hl 1 rfl) ?_
  refine eg_callX (wr := wO o cJ out) (As := [.int x0]) (rest := [.int (nI 0), .ref o]) hx hb hml hown hts hK hP hD hS hT [1, 2, 3, 4, 5, 6, 7, 8, 9, 10, 11, 12, 13] [0] rfl rfl (by decide) hM (cwV 1 hts gL_lengthOf_X0_lengthOf rfl hrm.1 hrm.2.1 (by decide +kernel) ⟨hrm.2.2.1, hrm.2.2.2⟩) (va_recv hK hP (ci := 0) (q0 := 1) rfl rfl) rfl hl.1 rfl (Nat.le_of_ble_eq_true rfl) dL_lengthOf_4 ⟨Nat.le_of_ble_eq_true rfl, Nat.le_of_ble_eq_true rfl⟩ (fun w9 H locs q9 ce hR9 hw9 hP hD hS hc1 hc2 hc3 => ?_)
  refine vx_catch (own := RL) (name := "java/lang/IndexOutOfBoundsException") hown [] ⟨0, 9, 12, 13⟩ [] (htb.trans rfl) (fun z hz => absurd hz List.not_mem_nil) (by decide) (by decide) (hts (.classLink RL 13 "java/lang/IndexOutOfBoundsException") (by decide +kernel)) (va_Nw.use rfl hT.1.2.2.2.2.1) hc1 hc2 hc3 ?_
  refine lv_astore_n (lv' := [(3, .ref q9), (0, .ref (q 0)), (1, .int x0), (2, .ref o)]) hx hb dL_lengthOf_12 rfl hl (by decide) rfl (fun ls hl => ?_)
  refine lv_iconst (v := nI 1) hx hb dL_lengthOf_13 (by decide +kernel) ?_
  exact W.iret hx hb hr (fun t9 ht9 _ => ⟨some (.int (nI 1)), _, rfl, ⟨rfl, w9, hR9, rfl⟩, by rw [List.map_append, List.map_append, hw9], by rw [ht9]; exact hP, hS.F ht9⟩) hS.2.2 dL_lengthOf_14
set_option maxHeartbeats 4000000 in
set_option maxRecDepth 100000 in
theorem wl_letterOf (l : Launch) (D : va_G) (cI cJ : ClassId) (q : Nat → Nat) (n : Nat) (mk lt tg : Nat → Int32) (pa an la kn : Nat → Int64) (fb : Int32) (fh nb te wt bh : Nat → Int32) (o : Nat) (out : Nat → Int64) (x0 x1 : Int32) {rm : Room} (hrm : rm.cells = 0 ∧ rm.slots = 0 ∧ rm.frames + 1 ≤ 9 ∧ 8 + (3 + 11) + rm.locals ≤ 150) {Rq : Option Value → va_W → Prop} (hM : eg_MW D (tyL cI cJ) l yX0_letterOf wsX0_letterOf rm 0 0 [.ref (q 0), .int x0, .int x1] (wX q cI cJ (nI n) mk lt tg pa an la kn fb fh nb te wt bh) Rq) (hRq : ∀ v w1, Rq v w1 → ∃ x : Int32, v = some (.int x)) : eg_ML D (tyL cI cJ) l yL_letterOf wsL_letterOf rmL [.ref (q 0), .int x0, .int x1, .ref o] (wO o cJ out ++ wX q cI cJ (nI n) mk lt tg pa an la kn fb fh nb te wt bh) (fun r w1 => r = some (.int (nI 0)) ∧ ∃ (x : Int32) (wx : va_W), Rq (some (.int x)) wx ∧ w1 = wO o cJ (vp_updL out 0 (x.toInt64)) ++ wx) := by
  refine eg_ofWH (cc := cL_letterOf) (maxL := 5) (ret := (some .int)) (hh := [(0, 10, 13, 13)]) (by decide) rfl ?_
  intro p e s m args below meth c s₁ B hml htb hv
  obtain ⟨rfl, hP, hK, hD0, hT⟩ := hv
  have hx := B.exec
  have hb := B.bytes
  have hr := B.returns
  have hts := atoms_spec (ws := wsL_letterOf) B.pre
  have hown : s.vm.findClass RL = some m.cls := findClass_of_methodNamed B.named
  have hlocks := B.notSynchronized
  have hD := eg_D_of hD0
  have hS : va_S (eg_A (wO o cJ out ++ wX q cI cJ (nI n) mk lt tg pa an la kn fb fh nb te wt bh)) s.heap s.heap [] := va_S.rf
  have hl := lv_entry ([.ref (q 0), .int x0, .int x1, .ref o]) (n := 5) (Nat.le_of_ble_eq_true rfl)
  rw [lg_entry_eq]
  generalize (lg_sl ([.ref (q 0), .int x0, .int x1, .ref o]) ++ List.replicate (5 - (lg_sl ([.ref (q 0), .int x0, .int x1, .ref o])).length) Slot.unset).toArray = ls at hl ⊢
  have hl : lv_has ls 5 [(0, .ref (q 0)), (1, .int x0), (2, .int x1), (3, .ref o)] := hl
  generalize h0H : s.heap = H at hP ⊢
  have hS : va_S (eg_A (wO o cJ out ++ wX q cI cJ (nI n) mk lt tg pa an la kn fb fh nb te wt bh)) s.heap H [] := by rw [← h0H]; exact hS
  generalize ([] : List Loc) = locs at hS ⊢
  refine lv_aload_n hx hb dL_letterOf_0 rfl (lv_at hl 3 rfl) ?_
  refine lv_iconst (v := nI 0) hx hb dL_letterOf_1 (by decide +kernel) ?_
  refine lv_aload_n hx hb dL_letterOf_2 rfl (lv_at hl 0 rfl) ?_
  refine lv_iload_n hx hb dL_letterOf_3 rfl (lv_at hl 1 rfl) ?_
  refine lv_iload_n hx hb dL_letterOf_4 rfl (lv_at hl 2 rfl) ?_
  refine eg_callWVc (wr := wO o cJ out) (As := [.int x0, .int x1]) (rest := [.int (nI 0), .ref o]) hx hb hml hown hts hK hP hD hS [1, 2, 3, 4, 5, 6, 7, 8, 9, 10, 11, 12, 13] [0] rfl rfl (by decide) hM (cwV 2 hts gL_letterOf_X0_letterOf rfl hrm.1 hrm.2.1 (by decide +kernel) ⟨hrm.2.2.1, hrm.2.2.2⟩) (va_recv hK hP (ci := 0) (q0 := 1) rfl rfl) rfl hl.1 rfl (Nat.le_of_ble_eq_true rfl) dL_letterOf_5 ⟨Nat.le_of_ble_eq_true rfl, Nat.le_of_ble_eq_true rfl⟩ (fun v9 w9 H locs hR9 hw9 hP hD hS => ?_)
  obtain ⟨x, rfl⟩ := hRq _ _ hR9
  refine lv_i2l (v := x.toInt64) hx hb dL_letterOf_8 rfl ?_
  refine eg_last hx hb hK hP hD rfl hS 0 1 rfl rfl (by decide) (by decide) dL_letterOf_9 (w' := wO o cJ (vp_updL out 0 (x.toInt64)) ++ w9) rfl (fun H locs hP hS => ?_)
  refine lv_goto (tgt := 17) hx hb dL_letterOf_10 (by decide) ?_
  refine lv_iconst (v := nI 0) hx hb dL_letterOf_17 (by decide +kernel) ?_
  refine W.widen (k := 1) (n := 6) (by omega) (by omega) ?_
  exact W.iret hx hb hr (fun t9 ht9 _ => ⟨some (.int (nI 0)), _, rfl, ⟨rfl, x, w9, hR9, rfl⟩, by rw [List.map_append, List.map_append, hw9]; rfl, by rw [ht9]; exact hP, hS.F ht9⟩) hS.2.2 dL_letterOf_18
set_option maxHeartbeats 4000000 in
set_option maxRecDepth 100000 in
theorem wl_letterOf_b (l : Launch) (D : va_G) (cI cJ : ClassId) (q : Nat → Nat) (n : Nat) (mk lt tg : Nat → Int32) (pa an la kn : Nat → Int64) (fb : Int32) (fh nb te wt bh : Nat → Int32) (o : Nat) (out : Nat → Int64) (x0 x1 : Int32) {rm : Room} (hrm : rm.cells = 1 ∧ rm.slots = 6 ∧ rm.frames + 1 ≤ 9 ∧ 8 + (3 + 11) + rm.locals ≤ 150) {Rx : va_W → Prop} (hM : eg_MX D (tyL cI cJ) l yX0_letterOf wsX0_letterOf rm [.ref (q 0), .int x0, .int x1] (wX q cI cJ (nI n) mk lt tg pa an la kn fb fh nb te wt bh) "java/lang/IndexOutOfBoundsException" Rx) : eg_ML D (tyL cI cJ) l yL_letterOf wsL_letterOf rmL [.ref (q 0), .int x0, .int x1, .ref o] (wO o cJ out ++ wX q cI cJ (nI n) mk lt tg pa an la kn fb fh nb te wt bh) (fun r w1 => r = some (.int (nI 1)) ∧ ∃ wx : va_W, Rx wx ∧ w1 = wO o cJ out ++ wx) := by
  refine eg_ofWH (cc := cL_letterOf) (maxL := 5) (ret := (some .int)) (hh := [(0, 10, 13, 13)]) (by decide) rfl ?_
  intro p e s m args below meth c s₁ B hml htb hv
  obtain ⟨rfl, hP, hK, hD0, hT⟩ := hv
  have hx := B.exec
  have hb := B.bytes
  have hr := B.returns
  have hts := atoms_spec (ws := wsL_letterOf) B.pre
  have hown : s.vm.findClass RL = some m.cls := findClass_of_methodNamed B.named
  have hlocks := B.notSynchronized
  have hD := eg_D_of hD0
  have hS : va_S (eg_A (wO o cJ out ++ wX q cI cJ (nI n) mk lt tg pa an la kn fb fh nb te wt bh)) s.heap s.heap [] := va_S.rf
  have hl := lv_entry ([.ref (q 0), .int x0, .int x1, .ref o]) (n := 5) (Nat.le_of_ble_eq_true rfl)
  rw [lg_entry_eq]
  generalize (lg_sl ([.ref (q 0), .int x0, .int x1, .ref o]) ++ List.replicate (5 - (lg_sl ([.ref (q 0), .int x0, .int x1, .ref o])).length) Slot.unset).toArray = ls at hl ⊢
  have hl : lv_has ls 5 [(0, .ref (q 0)), (1, .int x0), (2, .int x1), (3, .ref o)] := hl
  generalize h0H : s.heap = H at hP ⊢
  have hS : va_S (eg_A (wO o cJ out ++ wX q cI cJ (nI n) mk lt tg pa an la kn fb fh nb te wt bh)) s.heap H [] := by rw [← h0H]; exact hS
  generalize ([] : List Loc) = locs at hS ⊢
  refine lv_aload_n hx hb dL_letterOf_0 rfl (lv_at hl 3 rfl) ?_
  refine lv_iconst (v := nI 0) hx hb dL_letterOf_1 (by decide +kernel) ?_
  refine lv_aload_n hx hb dL_letterOf_2 rfl (lv_at hl 0 rfl) ?_
  refine lv_iload_n hx hb dL_letterOf_3 rfl (lv_at hl 1 rfl) ?_
  refine lv_iload_n hx hb dL_letterOf_4 rfl (lv_at hl 2 rfl) ?_
  refine eg_callX (wr := wO o cJ out) (As := [.int x0, .int x1]) (rest := [.int (nI 0), .ref o]) hx hb hml hown hts hK hP hD hS hT [1, 2, 3, 4, 5, 6, 7, 8, 9, 10, 11, 12, 13] [0] rfl rfl (by decide) hM (cwV 2 hts gL_letterOf_X0_letterOf rfl hrm.1 hrm.2.1 (by decide +kernel) ⟨hrm.2.2.1, hrm.2.2.2⟩) (va_recv hK hP (ci := 0) (q0 := 1) rfl rfl) rfl hl.1 rfl (Nat.le_of_ble_eq_true rfl) dL_letterOf_5 ⟨Nat.le_of_ble_eq_true rfl, Nat.le_of_ble_eq_true rfl⟩ (fun w9 H locs q9 ce hR9 hw9 hP hD hS hc1 hc2 hc3 => ?_)
  refine vx_catch (own := RL) (name := "java/lang/IndexOutOfBoundsException") hown [] ⟨0, 10, 13, 13⟩ [] (htb.trans rfl) (fun z hz => absurd hz List.not_mem_nil) (by decide) (by decide) (hts (.classLink RL 13 "java/lang/IndexOutOfBoundsException") (by decide +kernel)) (va_Nw.use rfl hT.1.2.2.2.2.1) hc1 hc2 hc3 ?_
  refine lv_astore (lv' := [(4, .ref q9), (0, .ref (q 0)), (1, .int x0), (2, .int x1), (3, .ref o)]) hx hb dL_letterOf_13 hl (by decide) rfl (fun ls hl => ?_)
  refine lv_iconst (v := nI 1) hx hb dL_letterOf_15 (by decide +kernel) ?_
  exact W.iret hx hb hr (fun t9 ht9 _ => ⟨some (.int (nI 1)), _, rfl, ⟨rfl, w9, hR9, rfl⟩, by rw [List.map_append, List.map_append, hw9], by rw [ht9]; exact hP, hS.F ht9⟩) hS.2.2 dL_letterOf_16
set_option maxHeartbeats 4000000 in
set_option maxRecDepth 100000 in
theorem wl_lettersBy (l : Launch) (D : va_G) (cI cJ : ClassId) (q : Nat → Nat) (n : Nat) (mk lt tg : Nat → Int32) (pa an la kn : Nat → Int64) (fb : Int32) (fh nb te wt bh : Nat → Int32) (o : Nat) (out : Nat → Int64) (x0 x1 : Int32) {rm : Room} (hrm : rm.cells = 0 ∧ rm.slots = 0 ∧ rm.frames + 1 ≤ 9 ∧ 8 + (6 + 11) + rm.locals ≤ 150) {Rq : Option Value → va_W → Prop} (hM : eg_MW D (tyL cI cJ) l yX0_lettersBy wsX0_lettersBy rm 0 0 [.ref (q 0), .int x0, .int x1] (wX q cI cJ (nI n) mk lt tg pa an la kn fb fh nb te wt bh) Rq) (hRq : ∀ v w1, Rq v w1 → ∃ x : Int32, v = some (.int x)) : eg_ML D (tyL cI cJ) l yL_lettersBy wsL_lettersBy rmL [.ref (q 0), .int x0, .int x1, .ref o] (wO o cJ out ++ wX q cI cJ (nI n) mk lt tg pa an la kn fb fh nb te wt bh) (fun r w1 => r = some (.int (nI 0)) ∧ ∃ (x : Int32) (wx : va_W), Rq (some (.int x)) wx ∧ w1 = wO o cJ (vp_updL out 0 (x.toInt64)) ++ wx) := by
  refine eg_ofWH (cc := cL_lettersBy) (maxL := 5) (ret := (some .int)) (hh := [(0, 10, 13, 13)]) (by decide) rfl ?_
  intro p e s m args below meth c s₁ B hml htb hv
  obtain ⟨rfl, hP, hK, hD0, hT⟩ := hv
  have hx := B.exec
  have hb := B.bytes
  have hr := B.returns
  have hts := atoms_spec (ws := wsL_lettersBy) B.pre
  have hown : s.vm.findClass RL = some m.cls := findClass_of_methodNamed B.named
  have hlocks := B.notSynchronized
  have hD := eg_D_of hD0
  have hS : va_S (eg_A (wO o cJ out ++ wX q cI cJ (nI n) mk lt tg pa an la kn fb fh nb te wt bh)) s.heap s.heap [] := va_S.rf
  have hl := lv_entry ([.ref (q 0), .int x0, .int x1, .ref o]) (n := 5) (Nat.le_of_ble_eq_true rfl)
  rw [lg_entry_eq]
  generalize (lg_sl ([.ref (q 0), .int x0, .int x1, .ref o]) ++ List.replicate (5 - (lg_sl ([.ref (q 0), .int x0, .int x1, .ref o])).length) Slot.unset).toArray = ls at hl ⊢
  have hl : lv_has ls 5 [(0, .ref (q 0)), (1, .int x0), (2, .int x1), (3, .ref o)] := hl
  generalize h0H : s.heap = H at hP ⊢
  have hS : va_S (eg_A (wO o cJ out ++ wX q cI cJ (nI n) mk lt tg pa an la kn fb fh nb te wt bh)) s.heap H [] := by rw [← h0H]; exact hS
  generalize ([] : List Loc) = locs at hS ⊢
  refine lv_aload_n hx hb dL_lettersBy_0 rfl (lv_at hl 3 rfl) ?_
  refine lv_iconst (v := nI 0) hx hb dL_lettersBy_1 (by decide +kernel) ?_
  refine lv_aload_n hx hb dL_lettersBy_2 rfl (lv_at hl 0 rfl) ?_
  refine lv_iload_n hx hb dL_lettersBy_3 rfl (lv_at hl 1 rfl) ?_
  refine lv_iload_n hx hb dL_lettersBy_4 rfl (lv_at hl 2 rfl) ?_
  refine eg_callWVc (wr := wO o cJ out) (As := [.int x0, .int x1]) (rest := [.int (nI 0), .ref o]) hx hb hml hown hts hK hP hD hS [1, 2, 3, 4, 5, 6, 7, 8, 9, 10, 11, 12, 13] [0] rfl rfl (by decide) hM (cwV 2 hts gL_lettersBy_X0_lettersBy rfl hrm.1 hrm.2.1 (by decide +kernel) ⟨hrm.2.2.1, hrm.2.2.2⟩) (va_recv hK hP (ci := 0) (q0 := 1) rfl rfl) rfl hl.1 rfl (Nat.le_of_ble_eq_true rfl) dL_lettersBy_5 ⟨Nat.le_of_ble_eq_true rfl, Nat.le_of_ble_eq_true rfl⟩ (fun v9 w9 H locs hR9 hw9 hP hD hS => ?_)
  obtain ⟨x, rfl⟩ := hRq _ _ hR9
  refine lv_i2l (v := x.toInt64) hx hb dL_lettersBy_8 rfl ?_
  refine eg_last hx hb hK hP hD rfl hS 0 1 rfl rfl (by decide) (by decide) dL_lettersBy_9 (w' := wO o cJ (vp_updL out 0 (x.toInt64)) ++ w9) rfl (fun H locs hP hS => ?_)
  refine lv_goto (tgt := 17) hx hb dL_lettersBy_10 (by decide) ?_
  refine lv_iconst (v := nI 0) hx hb dL_lettersBy_17 (by decide +kernel) ?_
  refine W.widen (k := 1) (n := 6) (by omega) (by omega) ?_
  exact W.iret hx hb hr (fun t9 ht9 _ => ⟨some (.int (nI 0)), _, rfl, ⟨rfl, x, w9, hR9, rfl⟩, by rw [List.map_append, List.map_append, hw9]; rfl, by rw [ht9]; exact hP, hS.F ht9⟩) hS.2.2 dL_lettersBy_18
set_option maxHeartbeats 4000000 in
set_option maxRecDepth 100000 in
theorem wl_lettersBy_b (l : Launch) (D : va_G) (cI cJ : ClassId) (q : Nat → Nat) (n : Nat) (mk lt tg : Nat → Int32) (pa an la kn : Nat → Int64) (fb : Int32) (fh nb te wt bh : Nat → Int32) (o : Nat) (out : Nat → Int64) (x0 x1 : Int32) {rm : Room} (hrm : rm.cells = 1 ∧ rm.slots = 6 ∧ rm.frames + 1 ≤ 9 ∧ 8 + (6 + 11) + rm.locals ≤ 150) {Rx : va_W → Prop} (hM : eg_MX D (tyL cI cJ) l yX0_lettersBy wsX0_lettersBy rm [.ref (q 0), .int x0, .int x1] (wX q cI cJ (nI n) mk lt tg pa an la kn fb fh nb te wt bh) "java/lang/IndexOutOfBoundsException" Rx) : eg_ML D (tyL cI cJ) l yL_lettersBy wsL_lettersBy rmL [.ref (q 0), .int x0, .int x1, .ref o] (wO o cJ out ++ wX q cI cJ (nI n) mk lt tg pa an la kn fb fh nb te wt bh) (fun r w1 => r = some (.int (nI 1)) ∧ ∃ wx : va_W, Rx wx ∧ w1 = wO o cJ out ++ wx) := by
  refine eg_ofWH (cc := cL_lettersBy) (maxL := 5) (ret := (some .int)) (hh := [(0, 10, 13, 13)]) (by decide) rfl ?_
  intro p e s m args below meth c s₁ B hml htb hv
  obtain ⟨rfl, hP, hK, hD0, hT⟩ := hv
  have hx := B.exec
  have hb := B.bytes
  have hr := B.returns
  have hts := atoms_spec (ws := wsL_lettersBy) B.pre
  have hown : s.vm.findClass RL = some m.cls := findClass_of_methodNamed B.named
  have hlocks := B.notSynchronized
  have hD := eg_D_of hD0
  have hS : va_S (eg_A (wO o cJ out ++ wX q cI cJ (nI n) mk lt tg pa an la kn fb fh nb te wt bh)) s.heap s.heap [] := va_S.rf
  have hl := lv_entry ([.ref (q 0), .int x0, .int x1, .ref o]) (n := 5) (Nat.le_of_ble_eq_true rfl)
  rw [lg_entry_eq]
  generalize (lg_sl ([.ref (q 0), .int x0, .int x1, .ref o]) ++ List.replicate (5 - (lg_sl ([.ref (q 0), .int x0, .int x1, .ref o])).length) Slot.unset).toArray = ls at hl ⊢
  have hl : lv_has ls 5 [(0, .ref (q 0)), (1, .int x0), (2, .int x1), (3, .ref o)] := hl
  generalize h0H : s.heap = H at hP ⊢
  have hS : va_S (eg_A (wO o cJ out ++ wX q cI cJ (nI n) mk lt tg pa an la kn fb fh nb te wt bh)) s.heap H [] := by rw [← h0H]; exact hS
  generalize ([] : List Loc) = locs at hS ⊢
  refine lv_aload_n hx hb dL_lettersBy_0 rfl (lv_at hl 3 rfl) ?_
  refine lv_iconst (v := nI 0) hx hb dL_lettersBy_1 (by decide +kernel) ?_
  refine lv_aload_n hx hb dL_lettersBy_2 rfl (lv_at hl 0 rfl) ?_
  refine lv_iload_n hx hb dL_lettersBy_3 rfl (lv_at hl 1 rfl) ?_
  refine lv_iload_n hx hb dL_lettersBy_4 rfl (lv_at hl 2 rfl) ?_
  refine eg_callX (wr := wO o cJ out) (As := [.int x0, .int x1]) (rest := [.int (nI 0), .ref o]) hx hb hml hown hts hK hP hD hS hT [1, 2, 3, 4, 5, 6, 7, 8, 9, 10, 11, 12, 13] [0] rfl rfl (by decide) hM (cwV 2 hts gL_lettersBy_X0_lettersBy rfl hrm.1 hrm.2.1 (by decide +kernel) ⟨hrm.2.2.1, hrm.2.2.2⟩) (va_recv hK hP (ci := 0) (q0 := 1) rfl rfl) rfl hl.1 rfl (Nat.le_of_ble_eq_true rfl) dL_lettersBy_5 ⟨Nat.le_of_ble_eq_true rfl, Nat.le_of_ble_eq_true rfl⟩ (fun w9 H locs q9 ce hR9 hw9 hP hD hS hc1 hc2 hc3 => ?_)
  refine vx_catch (own := RL) (name := "java/lang/IndexOutOfBoundsException") hown [] ⟨0, 10, 13, 13⟩ [] (htb.trans rfl) (fun z hz => absurd hz List.not_mem_nil) (by decide) (by decide) (hts (.classLink RL 13 "java/lang/IndexOutOfBoundsException") (by decide +kernel)) (va_Nw.use rfl hT.1.2.2.2.2.1) hc1 hc2 hc3 ?_
  refine lv_astore (lv' := [(4, .ref q9), (0, .ref (q 0)), (1, .int x0), (2, .int x1), (3, .ref o)]) hx hb dL_lettersBy_13 hl (by decide) rfl (fun ls hl => ?_)
  refine lv_iconst (v := nI 1) hx hb dL_lettersBy_15 (by decide +kernel) ?_
  exact W.iret hx hb hr (fun t9 ht9 _ => ⟨some (.int (nI 1)), _, rfl, ⟨rfl, w9, hR9, rfl⟩, by rw [List.map_append, List.map_append, hw9], by rw [ht9]; exact hP, hS.F ht9⟩) hS.2.2 dL_lettersBy_16
set_option maxHeartbeats 4000000 in
set_option maxRecDepth 100000 in
theorem wl_authorOf (l : Launch) (D : va_G) (cI cJ : ClassId) (q : Nat → Nat) (n : Nat) (mk lt tg : Nat → Int32) (pa an la kn : Nat → Int64) (fb : Int32) (fh nb te wt bh : Nat → Int32) (o : Nat) (out : Nat → Int64) (x0 : Int32) {rm : Room} (hrm : rm.cells = 0 ∧ rm.slots = 0 ∧ rm.frames + 1 ≤ 9 ∧ 8 + (2 + 11) + rm.locals ≤ 150) {Rq : Option Value → va_W → Prop} (hM : eg_MW D (tyL cI cJ) l yX0_authorOf wsX0_authorOf rm 0 0 [.ref (q 0), .int x0] (wX q cI cJ (nI n) mk lt tg pa an la kn fb fh nb te wt bh) Rq) (hRq : ∀ v w1, Rq v w1 → ∃ x : Int32, v = some (.int x)) : eg_ML D (tyL cI cJ) l yL_authorOf wsL_authorOf rmL [.ref (q 0), .int x0, .ref o] (wO o cJ out ++ wX q cI cJ (nI n) mk lt tg pa an la kn fb fh nb te wt bh) (fun r w1 => r = some (.int (nI 0)) ∧ ∃ (x : Int32) (wx : va_W), Rq (some (.int x)) wx ∧ w1 = wO o cJ (vp_updL out 0 (x.toInt64)) ++ wx) := by
  refine eg_ofWH (cc := cL_authorOf) (maxL := 4) (ret := (some .int)) (hh := [(0, 9, 12, 13)]) (by decide) rfl ?_
  intro p e s m args below meth c s₁ B hml htb hv
  obtain ⟨rfl, hP, hK, hD0, hT⟩ := hv
  have hx := B.exec
  have hb := B.bytes
  have hr := B.returns
  have hts := atoms_spec (ws := wsL_authorOf) B.pre
  have hown : s.vm.findClass RL = some m.cls := findClass_of_methodNamed B.named
  have hlocks := B.notSynchronized
  have hD := eg_D_of hD0
  have hS : va_S (eg_A (wO o cJ out ++ wX q cI cJ (nI n) mk lt tg pa an la kn fb fh nb te wt bh)) s.heap s.heap [] := va_S.rf
  have hl := lv_entry ([.ref (q 0), .int x0, .ref o]) (n := 4) (Nat.le_of_ble_eq_true rfl)
  rw [lg_entry_eq]
  generalize (lg_sl ([.ref (q 0), .int x0, .ref o]) ++ List.replicate (4 - (lg_sl ([.ref (q 0), .int x0, .ref o])).length) Slot.unset).toArray = ls at hl ⊢
  have hl : lv_has ls 4 [(0, .ref (q 0)), (1, .int x0), (2, .ref o)] := hl
  generalize h0H : s.heap = H at hP ⊢
  have hS : va_S (eg_A (wO o cJ out ++ wX q cI cJ (nI n) mk lt tg pa an la kn fb fh nb te wt bh)) s.heap H [] := by rw [← h0H]; exact hS
  generalize ([] : List Loc) = locs at hS ⊢
  refine lv_aload_n hx hb dL_authorOf_0 rfl (lv_at hl 2 rfl) ?_
  refine lv_iconst (v := nI 0) hx hb dL_authorOf_1 (by decide +kernel) ?_
  refine lv_aload_n hx hb dL_authorOf_2 rfl (lv_at hl 0 rfl) ?_
  refine lv_iload_n hx hb dL_authorOf_3 rfl (lv_at hl 1 rfl) ?_
  refine eg_callWVc (wr := wO o cJ out) (As := [.int x0]) (rest := [.int (nI 0), .ref o]) hx hb hml hown hts hK hP hD hS [1, 2, 3, 4, 5, 6, 7, 8, 9, 10, 11, 12, 13] [0] rfl rfl (by decide) hM (cwV 1 hts gL_authorOf_X0_authorOf rfl hrm.1 hrm.2.1 (by decide +kernel) ⟨hrm.2.2.1, hrm.2.2.2⟩) (va_recv hK hP (ci := 0) (q0 := 1) rfl rfl) rfl hl.1 rfl (Nat.le_of_ble_eq_true rfl) dL_authorOf_4 ⟨Nat.le_of_ble_eq_true rfl, Nat.le_of_ble_eq_true rfl⟩ (fun v9 w9 H locs hR9 hw9 hP hD hS => ?_)
  obtain ⟨x, rfl⟩ := hRq _ _ hR9
  refine lv_i2l (v := x.toInt64) hx hb dL_authorOf_7 rfl ?_
  refine eg_last hx hb hK hP hD rfl hS 0 1 rfl rfl (by decide) (by decide) dL_authorOf_8 (w' := wO o cJ (vp_updL out 0 (x.toInt64)) ++ w9) rfl (fun H locs hP hS => ?_)
  refine lv_goto (tgt := 15) hx hb dL_authorOf_9 (by decide) ?_
  refine lv_iconst (v := nI 0) hx hb dL_authorOf_15 (by decide +kernel) ?_
  refine W.widen (k := 1) (n := 6) (by omega) (by omega) ?_
  exact W.iret hx hb hr (fun t9 ht9 _ => ⟨some (.int (nI 0)), _, rfl, ⟨rfl, x, w9, hR9, rfl⟩, by rw [List.map_append, List.map_append, hw9]; rfl, by rw [ht9]; exact hP, hS.F ht9⟩) hS.2.2 dL_authorOf_16
set_option maxHeartbeats 4000000 in
set_option maxRecDepth 100000 in
theorem wl_authorOf_b (l : Launch) (D : va_G) (cI cJ : ClassId) (q : Nat → Nat) (n : Nat) (mk lt tg : Nat → Int32) (pa an la kn : Nat → Int64) (fb : Int32) (fh nb te wt bh : Nat → Int32) (o : Nat) (out : Nat → Int64) (x0 : Int32) {rm : Room} (hrm : rm.cells = 1 ∧ rm.slots = 6 ∧ rm.frames + 1 ≤ 9 ∧ 8 + (2 + 11) + rm.locals ≤ 150) {Rx : va_W → Prop} (hM : eg_MX D (tyL cI cJ) l yX0_authorOf wsX0_authorOf rm [.ref (q 0), .int x0] (wX q cI cJ (nI n) mk lt tg pa an la kn fb fh nb te wt bh) "java/lang/IndexOutOfBoundsException" Rx) : eg_ML D (tyL cI cJ) l yL_authorOf wsL_authorOf rmL [.ref (q 0), .int x0, .ref o] (wO o cJ out ++ wX q cI cJ (nI n) mk lt tg pa an la kn fb fh nb te wt bh) (fun r w1 => r = some (.int (nI 1)) ∧ ∃ wx : va_W, Rx wx ∧ w1 = wO o cJ out ++ wx) := by
  refine eg_ofWH (cc := cL_authorOf) (maxL := 4) (ret := (some .int)) (hh := [(0, 9, 12, 13)]) (by decide) rfl ?_
  intro p e s m args below meth c s₁ B hml htb hv
  obtain ⟨rfl, hP, hK, hD0, hT⟩ := hv
  have hx := B.exec
  have hb := B.bytes
  have hr := B.returns
  have hts := atoms_spec (ws := wsL_authorOf) B.pre
  have hown : s.vm.findClass RL = some m.cls := findClass_of_methodNamed B.named
  have hlocks := B.notSynchronized
  have hD := eg_D_of hD0
  have hS : va_S (eg_A (wO o cJ out ++ wX q cI cJ (nI n) mk lt tg pa an la kn fb fh nb te wt bh)) s.heap s.heap [] := va_S.rf
  have hl := lv_entry ([.ref (q 0), .int x0, .ref o]) (n := 4) (Nat.le_of_ble_eq_true rfl)
  rw [lg_entry_eq]
  generalize (lg_sl ([.ref (q 0), .int x0, .ref o]) ++ List.replicate (4 - (lg_sl ([.ref (q 0), .int x0, .ref o])).length) Slot.unset).toArray = ls at hl ⊢
  have hl : lv_has ls 4 [(0, .ref (q 0)), (1, .int x0), (2, .ref o)] := hl
  generalize h0H : s.heap = H at hP ⊢
  have hS : va_S (eg_A (wO o cJ out ++ wX q cI cJ (nI n) mk lt tg pa an la kn fb fh nb te wt bh)) s.heap H [] := by rw [← h0H]; exact hS
  generalize ([] : List Loc) = locs at hS ⊢
  refine lv_aload_n hx hb dL_authorOf_0 rfl (lv_at hl 2 rfl) ?_
  refine lv_iconst (v := nI 0) hx hb dL_authorOf_1 (by decide +kernel) ?_
  refine lv_aload_n hx hb dL_authorOf_2 rfl (lv_at hl 0 rfl) ?_
  refine lv_iload_n hx hb dL_authorOf_3 rfl (lv_at hl 1 rfl) ?_
  refine eg_callX (wr := wO o cJ out) (As := [.int x0]) (rest := [.int (nI 0), .ref o]) hx hb hml hown hts hK hP hD hS hT [1, 2, 3, 4, 5, 6, 7, 8, 9, 10, 11, 12, 13] [0] rfl rfl (by decide) hM (cwV 1 hts gL_authorOf_X0_authorOf rfl hrm.1 hrm.2.1 (by decide +kernel) ⟨hrm.2.2.1, hrm.2.2.2⟩) (va_recv hK hP (ci := 0) (q0 := 1) rfl rfl) rfl hl.1 rfl (Nat.le_of_ble_eq_true rfl) dL_authorOf_4 ⟨Nat.le_of_ble_eq_true rfl, Nat.le_of_ble_eq_true rfl⟩ (fun w9 H locs q9 ce hR9 hw9 hP hD hS hc1 hc2 hc3 => ?_)
  refine vx_catch (own := RL) (name := "java/lang/IndexOutOfBoundsException") hown [] ⟨0, 9, 12, 13⟩ [] (htb.trans rfl) (fun z hz => absurd hz List.not_mem_nil) (by decide) (by decide) (hts (.classLink RL 13 "java/lang/IndexOutOfBoundsException") (by decide +kernel)) (va_Nw.use rfl hT.1.2.2.2.2.1) hc1 hc2 hc3 ?_
  refine lv_astore_n (lv' := [(3, .ref q9), (0, .ref (q 0)), (1, .int x0), (2, .ref o)]) hx hb dL_authorOf_12 rfl hl (by decide) rfl (fun ls hl => ?_)
  refine lv_iconst (v := nI 1) hx hb dL_authorOf_13 (by decide +kernel) ?_
  exact W.iret hx hb hr (fun t9 ht9 _ => ⟨some (.int (nI 1)), _, rfl, ⟨rfl, w9, hR9, rfl⟩, by rw [List.map_append, List.map_append, hw9], by rw [ht9]; exact hP, hS.F ht9⟩) hS.2.2 dL_authorOf_14
set_option maxHeartbeats 4000000 in
set_option maxRecDepth 100000 in
theorem wl_parents (l : Launch) (D : va_G) (cI cJ : ClassId) (q : Nat → Nat) (n : Nat) (mk lt tg : Nat → Int32) (pa an la kn : Nat → Int64) (fb : Int32) (fh nb te wt bh : Nat → Int32) (o : Nat) (out : Nat → Int64) (x0 : Int32) {rm : Room} (hrm : rm.cells = 0 ∧ rm.slots = 0 ∧ rm.frames + 1 ≤ 9 ∧ 8 + (2 + 11) + rm.locals ≤ 150) {Rq : Option Value → va_W → Prop} (hM : eg_MW D (tyL cI cJ) l yX0_parents wsX0_parents rm 0 0 [.ref (q 0), .int x0] (wX q cI cJ (nI n) mk lt tg pa an la kn fb fh nb te wt bh) Rq) (hRq : ∀ v w1, Rq v w1 → ∃ x : Int64, v = some (.long x)) : eg_ML D (tyL cI cJ) l yL_parents wsL_parents rmL [.ref (q 0), .int x0, .ref o] (wO o cJ out ++ wX q cI cJ (nI n) mk lt tg pa an la kn fb fh nb te wt bh) (fun r w1 => r = some (.int (nI 0)) ∧ ∃ (x : Int64) (wx : va_W), Rq (some (.long x)) wx ∧ w1 = wO o cJ (vp_updL out 0 (x)) ++ wx) := by
  refine eg_ofWH (cc := cL_parents) (maxL := 4) (ret := (some .int)) (hh := [(0, 8, 11, 13)]) (by decide) rfl ?_
  intro p e s m args below meth c s₁ B hml htb hv
  obtain ⟨rfl, hP, hK, hD0, hT⟩ := hv
  have hx := B.exec
  have hb := B.bytes
  have hr := B.returns
  have hts := atoms_spec (ws := wsL_parents) B.pre
  have hown : s.vm.findClass RL = some m.cls := findClass_of_methodNamed B.named
  have hlocks := B.notSynchronized
  have hD := eg_D_of hD0
  have hS : va_S (eg_A (wO o cJ out ++ wX q cI cJ (nI n) mk lt tg pa an la kn fb fh nb te wt bh)) s.heap s.heap [] := va_S.rf
  have hl := lv_entry ([.ref (q 0), .int x0, .ref o]) (n := 4) (Nat.le_of_ble_eq_true rfl)
  rw [lg_entry_eq]
  generalize (lg_sl ([.ref (q 0), .int x0, .ref o]) ++ List.replicate (4 - (lg_sl ([.ref (q 0), .int x0, .ref o])).length) Slot.unset).toArray = ls at hl ⊢
  have hl : lv_has ls 4 [(0, .ref (q 0)), (1, .int x0), (2, .ref o)] := hl
  generalize h0H : s.heap = H at hP ⊢
  have hS : va_S (eg_A (wO o cJ out ++ wX q cI cJ (nI n) mk lt tg pa an la kn fb fh nb te wt bh)) s.heap H [] := by rw [← h0H]; exact hS
  generalize ([] : List Loc) = locs at hS ⊢
  refine lv_aload_n hx hb dL_parents_0 rfl (lv_at hl 2 rfl) ?_
  refine lv_iconst (v := nI 0) hx hb dL_parents_1 (by decide +kernel) ?_
  refine lv_aload_n hx hb dL_parents_2 rfl (lv_at hl 0 rfl) ?_
  refine lv_iload_n hx hb dL_parents_3 rfl (lv_at hl 1 rfl) ?_
  refine eg_callWVc (wr := wO o cJ out) (As := [.int x0]) (rest := [.int (nI 0), .ref o]) hx hb hml hown hts hK hP hD hS [1, 2, 3, 4, 5, 6, 7, 8, 9, 10, 11, 12, 13] [0] rfl rfl (by decide) hM (cwV 1 hts gL_parents_X0_parents rfl hrm.1 hrm.2.1 (by decide +kernel) ⟨hrm.2.2.1, hrm.2.2.2⟩) (va_recv hK hP (ci := 0) (q0 := 1) rfl rfl) rfl hl.1 rfl (Nat.le_of_ble_eq_true rfl) dL_parents_4 ⟨Nat.le_of_ble_eq_true rfl, Nat.le_of_ble_eq_true rfl⟩ (fun v9 w9 H locs hR9 hw9 hP hD hS => ?_)
  obtain ⟨x, rfl⟩ := hRq _ _ hR9
  refine eg_last hx hb hK hP hD rfl hS 0 1 rfl rfl (by decide) (by decide) dL_parents_7 (w' := wO o cJ (vp_updL out 0 (x)) ++ w9) rfl (fun H locs hP hS => ?_)
  refine lv_goto (tgt := 14) hx hb dL_parents_8 (by decide) ?_
  refine lv_iconst (v := nI 0) hx hb dL_parents_14 (by decide +kernel) ?_
  refine W.widen (k := 1) (n := 6) (by omega) (by omega) ?_
  exact W.iret hx hb hr (fun t9 ht9 _ => ⟨some (.int (nI 0)), _, rfl, ⟨rfl, x, w9, hR9, rfl⟩, by rw [List.map_append, List.map_append, hw9]; rfl, by rw [ht9]; exact hP, hS.F ht9⟩) hS.2.2 dL_parents_15
set_option maxHeartbeats 4000000 in
set_option maxRecDepth 100000 in
theorem wl_parents_b (l : Launch) (D : va_G) (cI cJ : ClassId) (q : Nat → Nat) (n : Nat) (mk lt tg : Nat → Int32) (pa an la kn : Nat → Int64) (fb : Int32) (fh nb te wt bh : Nat → Int32) (o : Nat) (out : Nat → Int64) (x0 : Int32) {rm : Room} (hrm : rm.cells = 1 ∧ rm.slots = 6 ∧ rm.frames + 1 ≤ 9 ∧ 8 + (2 + 11) + rm.locals ≤ 150) {Rx : va_W → Prop} (hM : eg_MX D (tyL cI cJ) l yX0_parents wsX0_parents rm [.ref (q 0), .int x0] (wX q cI cJ (nI n) mk lt tg pa an la kn fb fh nb te wt bh) "java/lang/IndexOutOfBoundsException" Rx) : eg_ML D (tyL cI cJ) l yL_parents wsL_parents rmL [.ref (q 0), .int x0, .ref o] (wO o cJ out ++ wX q cI cJ (nI n) mk lt tg pa an la kn fb fh nb te wt bh) (fun r w1 => r = some (.int (nI 1)) ∧ ∃ wx : va_W, Rx wx ∧ w1 = wO o cJ out ++ wx) := by
  refine eg_ofWH (cc := cL_parents) (maxL := 4) (ret := (some .int)) (hh := [(0, 8, 11, 13)]) (by decide) rfl ?_
  intro p e s m args below meth c s₁ B hml htb hv
  obtain ⟨rfl, hP, hK, hD0, hT⟩ := hv
  have hx := B.exec
  have hb := B.bytes
  have hr := B.returns
  have hts := atoms_spec (ws := wsL_parents) B.pre
  have hown : s.vm.findClass RL = some m.cls := findClass_of_methodNamed B.named
  have hlocks := B.notSynchronized
  have hD := eg_D_of hD0
  have hS : va_S (eg_A (wO o cJ out ++ wX q cI cJ (nI n) mk lt tg pa an la kn fb fh nb te wt bh)) s.heap s.heap [] := va_S.rf
  have hl := lv_entry ([.ref (q 0), .int x0, .ref o]) (n := 4) (Nat.le_of_ble_eq_true rfl)
  rw [lg_entry_eq]
  generalize (lg_sl ([.ref (q 0), .int x0, .ref o]) ++ List.replicate (4 - (lg_sl ([.ref (q 0), .int x0, .ref o])).length) Slot.unset).toArray = ls at hl ⊢
  have hl : lv_has ls 4 [(0, .ref (q 0)), (1, .int x0), (2, .ref o)] := hl
  generalize h0H : s.heap = H at hP ⊢
  have hS : va_S (eg_A (wO o cJ out ++ wX q cI cJ (nI n) mk lt tg pa an la kn fb fh nb te wt bh)) s.heap H [] := by rw [← h0H]; exact hS
  generalize ([] : List Loc) = locs at hS ⊢
  refine lv_aload_n hx hb dL_parents_0 rfl (lv_at hl 2 rfl) ?_
  refine lv_iconst (v := nI 0) hx hb dL_parents_1 (by decide +kernel) ?_
  refine lv_aload_n hx hb dL_parents_2 rfl (lv_at hl 0 rfl) ?_
  refine lv_iload_n hx hb dL_parents_3 rfl (lv_at hl 1 rfl) ?_
  refine eg_callX (wr := wO o cJ out) (As := [.int x0]) (rest := [.int (nI 0), .ref o]) hx hb hml hown hts hK hP hD hS hT [1, 2, 3, 4, 5, 6, 7, 8, 9, 10, 11, 12, 13] [0] rfl rfl (by decide) hM (cwV 1 hts gL_parents_X0_parents rfl hrm.1 hrm.2.1 (by decide +kernel) ⟨hrm.2.2.1, hrm.2.2.2⟩) (va_recv hK hP (ci := 0) (q0 := 1) rfl rfl) rfl hl.1 rfl (Nat.le_of_ble_eq_true rfl) dL_parents_4 ⟨Nat.le_of_ble_eq_true rfl, Nat.le_of_ble_eq_true rfl⟩ (fun w9 H locs q9 ce hR9 hw9 hP hD hS hc1 hc2 hc3 => ?_)
  refine vx_catch (own := RL) (name := "java/lang/IndexOutOfBoundsException") hown [] ⟨0, 8, 11, 13⟩ [] (htb.trans rfl) (fun z hz => absurd hz List.not_mem_nil) (by decide) (by decide) (hts (.classLink RL 13 "java/lang/IndexOutOfBoundsException") (by decide +kernel)) (va_Nw.use rfl hT.1.2.2.2.2.1) hc1 hc2 hc3 ?_
  refine lv_astore_n (lv' := [(3, .ref q9), (0, .ref (q 0)), (1, .int x0), (2, .ref o)]) hx hb dL_parents_11 rfl hl (by decide) rfl (fun ls hl => ?_)
  refine lv_iconst (v := nI 1) hx hb dL_parents_12 (by decide +kernel) ?_
  exact W.iret hx hb hr (fun t9 ht9 _ => ⟨some (.int (nI 1)), _, rfl, ⟨rfl, w9, hR9, rfl⟩, by rw [List.map_append, List.map_append, hw9], by rw [ht9]; exact hP, hS.F ht9⟩) hS.2.2 dL_parents_13
set_option maxHeartbeats 4000000 in
set_option maxRecDepth 100000 in
theorem wl_isLater (l : Launch) (D : va_G) (cI cJ : ClassId) (q : Nat → Nat) (n : Nat) (mk lt tg : Nat → Int32) (pa an la kn : Nat → Int64) (fb : Int32) (fh nb te wt bh : Nat → Int32) (o : Nat) (out : Nat → Int64) (x0 x1 : Int32) {rm : Room} (hrm : rm.cells = 0 ∧ rm.slots = 0 ∧ rm.frames + 1 ≤ 9 ∧ 8 + (3 + 11) + rm.locals ≤ 150) {Rq : Option Value → va_W → Prop} (hM : eg_MW D (tyL cI cJ) l yX0_isLater wsX0_isLater rm 0 0 [.ref (q 0), .int x0, .int x1] (wX q cI cJ (nI n) mk lt tg pa an la kn fb fh nb te wt bh) Rq) (hRq : ∀ v w1, Rq v w1 → ∃ x : Bool, v = some (.int (eb x))) : eg_ML D (tyL cI cJ) l yL_isLater wsL_isLater rmL [.ref (q 0), .int x0, .int x1, .ref o] (wO o cJ out ++ wX q cI cJ (nI n) mk lt tg pa an la kn fb fh nb te wt bh) (fun r w1 => r = some (.int (nI 0)) ∧ ∃ (x : Bool) (wx : va_W), Rq (some (.int (eb x))) wx ∧ w1 = wO o cJ (vp_updL out 0 ((eb x).toInt64)) ++ wx) := by
  refine eg_ofWH (cc := cL_isLater) (maxL := 5) (ret := (some .int)) (hh := [(0, 17, 20, 13)]) (by decide) rfl ?_
  intro p e s m args below meth c s₁ B hml htb hv
  obtain ⟨rfl, hP, hK, hD0, hT⟩ := hv
  have hx := B.exec
  have hb := B.bytes
  have hr := B.returns
  have hts := atoms_spec (ws := wsL_isLater) B.pre
  have hown : s.vm.findClass RL = some m.cls := findClass_of_methodNamed B.named
  have hlocks := B.notSynchronized
  have hD := eg_D_of hD0
  have hS : va_S (eg_A (wO o cJ out ++ wX q cI cJ (nI n) mk lt tg pa an la kn fb fh nb te wt bh)) s.heap s.heap [] := va_S.rf
  have hl := lv_entry ([.ref (q 0), .int x0, .int x1, .ref o]) (n := 5) (Nat.le_of_ble_eq_true rfl)
  rw [lg_entry_eq]
  generalize (lg_sl ([.ref (q 0), .int x0, .int x1, .ref o]) ++ List.replicate (5 - (lg_sl ([.ref (q 0), .int x0, .int x1, .ref o])).length) Slot.unset).toArray = ls at hl ⊢
  have hl : lv_has ls 5 [(0, .ref (q 0)), (1, .int x0), (2, .int x1), (3, .ref o)] := hl
  generalize h0H : s.heap = H at hP ⊢
  have hS : va_S (eg_A (wO o cJ out ++ wX q cI cJ (nI n) mk lt tg pa an la kn fb fh nb te wt bh)) s.heap H [] := by rw [← h0H]; exact hS
  generalize ([] : List Loc) = locs at hS ⊢
  refine lv_aload_n hx hb dL_isLater_0 rfl (lv_at hl 3 rfl) ?_
  refine lv_iconst (v := nI 0) hx hb dL_isLater_1 (by decide +kernel) ?_
  refine lv_aload_n hx hb dL_isLater_2 rfl (lv_at hl 0 rfl) ?_
  refine lv_iload_n hx hb dL_isLater_3 rfl (lv_at hl 1 rfl) ?_
  refine lv_iload_n hx hb dL_isLater_4 rfl (lv_at hl 2 rfl) ?_
  refine eg_callWVc (wr := wO o cJ out) (As := [.int x0, .int x1]) (rest := [.int (nI 0), .ref o]) hx hb hml hown hts hK hP hD hS [1, 2, 3, 4, 5, 6, 7, 8, 9, 10, 11, 12, 13] [0] rfl rfl (by decide) hM (cwV 2 hts gL_isLater_X0_isLater rfl hrm.1 hrm.2.1 (by decide +kernel) ⟨hrm.2.2.1, hrm.2.2.2⟩) (va_recv hK hP (ci := 0) (q0 := 1) rfl rfl) rfl hl.1 rfl (Nat.le_of_ble_eq_true rfl) dL_isLater_5 ⟨Nat.le_of_ble_eq_true rfl, Nat.le_of_ble_eq_true rfl⟩ (fun v9 w9 H locs hR9 hw9 hP hD hS => ?_)
  obtain ⟨x, rfl⟩ := hRq _ _ hR9
  refine eg_ifeq_b (tgt := 15) hx hb dL_isLater_8 (by decide) (fun c9 => ?_) (fun c9 => ?_)
  · refine lv_lconst (v := 0) hx hb dL_isLater_15 (by decide) ?_
    refine eg_last hx hb hK hP hD rfl hS 0 1 rfl rfl (by decide) (by decide) dL_isLater_16 (w' := wO o cJ (vp_updL out 0 (0)) ++ w9) rfl (fun H locs hP hS => ?_)
    refine lv_goto (tgt := 24) hx hb dL_isLater_17 (by decide) ?_
    refine lv_iconst (v := nI 0) hx hb dL_isLater_24 (by decide +kernel) ?_
    refine W.widen (k := 1) (n := 6) (by omega) (by omega) ?_
    exact W.iret hx hb hr (fun t9 ht9 _ => ⟨some (.int (nI 0)), _, rfl, ⟨rfl, x, w9, hR9, by rw [c9]; try rfl⟩, by rw [List.map_append, List.map_append, hw9]; rfl, by rw [ht9]; exact hP, hS.F ht9⟩) hS.2.2 dL_isLater_25
  · refine lv_lconst (v := 1) hx hb dL_isLater_11 (by decide) ?_
    refine lv_goto (tgt := 16) hx hb dL_isLater_12 (by decide) ?_
    refine eg_last hx hb hK hP hD rfl hS 0 1 rfl rfl (by decide) (by decide) dL_isLater_16 (w' := wO o cJ (vp_updL out 0 (1)) ++ w9) rfl (fun H locs hP hS => ?_)
    refine lv_goto (tgt := 24) hx hb dL_isLater_17 (by decide) ?_
    refine lv_iconst (v := nI 0) hx hb dL_isLater_24 (by decide +kernel) ?_
    refine W.widen (k := 1) (n := 6) (by omega) (by omega) ?_
    exact W.iret hx hb hr (fun t9 ht9 _ => ⟨some (.int (nI 0)), _, rfl, ⟨rfl, x, w9, hR9, by rw [c9]; try rfl⟩, by rw [List.map_append, List.map_append, hw9]; rfl, by rw [ht9]; exact hP, hS.F ht9⟩) hS.2.2 dL_isLater_25
set_option maxHeartbeats 4000000 in
set_option maxRecDepth 100000 in
theorem wl_isLater_b (l : Launch) (D : va_G) (cI cJ : ClassId) (q : Nat → Nat) (n : Nat) (mk lt tg : Nat → Int32) (pa an la kn : Nat → Int64) (fb : Int32) (fh nb te wt bh : Nat → Int32) (o : Nat) (out : Nat → Int64) (x0 x1 : Int32) {rm : Room} (hrm : rm.cells = 1 ∧ rm.slots = 6 ∧ rm.frames + 1 ≤ 9 ∧ 8 + (3 + 11) + rm.locals ≤ 150) {Rx : va_W → Prop} (hM : eg_MX D (tyL cI cJ) l yX0_isLater wsX0_isLater rm [.ref (q 0), .int x0, .int x1] (wX q cI cJ (nI n) mk lt tg pa an la kn fb fh nb te wt bh) "java/lang/IndexOutOfBoundsException" Rx) : eg_ML D (tyL cI cJ) l yL_isLater wsL_isLater rmL [.ref (q 0), .int x0, .int x1, .ref o] (wO o cJ out ++ wX q cI cJ (nI n) mk lt tg pa an la kn fb fh nb te wt bh) (fun r w1 => r = some (.int (nI 1)) ∧ ∃ wx : va_W, Rx wx ∧ w1 = wO o cJ out ++ wx) := by
  refine eg_ofWH (cc := cL_isLater) (maxL := 5) (ret := (some .int)) (hh := [(0, 17, 20, 13)]) (by decide) rfl ?_
  intro p e s m args below meth c s₁ B hml htb hv
  obtain ⟨rfl, hP, hK, hD0, hT⟩ := hv
  have hx := B.exec
  have hb := B.bytes
  have hr := B.returns
  have hts := atoms_spec (ws := wsL_isLater) B.pre
  have hown : s.vm.findClass RL = some m.cls := findClass_of_methodNamed B.named
  have hlocks := B.notSynchronized
  have hD := eg_D_of hD0
  have hS : va_S (eg_A (wO o cJ out ++ wX q cI cJ (nI n) mk lt tg pa an la kn fb fh nb te wt bh)) s.heap s.heap [] := va_S.rf
  have hl := lv_entry ([.ref (q 0), .int x0, .int x1, .ref o]) (n := 5) (Nat.le_of_ble_eq_true rfl)
  rw [lg_entry_eq]
  generalize (lg_sl ([.ref (q 0), .int x0, .int x1, .ref o]) ++ List.replicate (5 - (lg_sl ([.ref (q 0), .int x0, .int x1, .ref o])).length) Slot.unset).toArray = ls at hl ⊢
  have hl : lv_has ls 5 [(0, .ref (q 0)), (1, .int x0), (2, .int x1), (3, .ref o)] := hl
  generalize h0H : s.heap = H at hP ⊢
  have hS : va_S (eg_A (wO o cJ out ++ wX q cI cJ (nI n) mk lt tg pa an la kn fb fh nb te wt bh)) s.heap H [] := by rw [← h0H]; exact hS
  generalize ([] : List Loc) = locs at hS ⊢
  refine lv_aload_n hx hb dL_isLater_0 rfl (lv_at hl 3 rfl) ?_
  refine lv_iconst (v := nI 0) hx hb dL_isLater_1 (by decide +kernel) ?_
  refine lv_aload_n hx hb dL_isLater_2 rfl (lv_at hl 0 rfl) ?_
  refine lv_iload_n hx hb dL_isLater_3 rfl (lv_at hl 1 rfl) ?_
  refine lv_iload_n hx hb dL_isLater_4 rfl (lv_at hl 2 rfl) ?_
  refine eg_callX (wr := wO o cJ out) (As := [.int x0, .int x1]) (rest := [.int (nI 0), .ref o]) hx hb hml hown hts hK hP hD hS hT [1, 2, 3, 4, 5, 6, 7, 8, 9, 10, 11, 12, 13] [0] rfl rfl (by decide) hM (cwV 2 hts gL_isLater_X0_isLater rfl hrm.1 hrm.2.1 (by decide +kernel) ⟨hrm.2.2.1, hrm.2.2.2⟩) (va_recv hK hP (ci := 0) (q0 := 1) rfl rfl) rfl hl.1 rfl (Nat.le_of_ble_eq_true rfl) dL_isLater_5 ⟨Nat.le_of_ble_eq_true rfl, Nat.le_of_ble_eq_true rfl⟩ (fun w9 H locs q9 ce hR9 hw9 hP hD hS hc1 hc2 hc3 => ?_)
  refine vx_catch (own := RL) (name := "java/lang/IndexOutOfBoundsException") hown [] ⟨0, 17, 20, 13⟩ [] (htb.trans rfl) (fun z hz => absurd hz List.not_mem_nil) (by decide) (by decide) (hts (.classLink RL 13 "java/lang/IndexOutOfBoundsException") (by decide +kernel)) (va_Nw.use rfl hT.1.2.2.2.2.1) hc1 hc2 hc3 ?_
  refine lv_astore (lv' := [(4, .ref q9), (0, .ref (q 0)), (1, .int x0), (2, .int x1), (3, .ref o)]) hx hb dL_isLater_20 hl (by decide) rfl (fun ls hl => ?_)
  refine lv_iconst (v := nI 1) hx hb dL_isLater_22 (by decide +kernel) ?_
  exact W.iret hx hb hr (fun t9 ht9 _ => ⟨some (.int (nI 1)), _, rfl, ⟨rfl, w9, hR9, rfl⟩, by rw [List.map_append, List.map_append, hw9], by rw [ht9]; exact hP, hS.F ht9⟩) hS.2.2 dL_isLater_23
set_option maxHeartbeats 4000000 in
set_option maxRecDepth 100000 in
theorem wl_version (l : Launch) (D : va_G) (cI cJ : ClassId) (q : Nat → Nat) (n : Nat) (mk lt tg : Nat → Int32) (pa an la kn : Nat → Int64) (fb : Int32) (fh nb te wt bh : Nat → Int32) (o : Nat) (out : Nat → Int64) (x0 : Int32) {rm : Room} (hrm : rm.cells = 0 ∧ rm.slots = 0 ∧ rm.frames + 1 ≤ 9 ∧ 8 + (2 + 11) + rm.locals ≤ 150) {Rq : Option Value → va_W → Prop} (hM : eg_MW D (tyL cI cJ) l yX0_version wsX0_version rm 0 0 [.ref (q 0), .int x0] (wX q cI cJ (nI n) mk lt tg pa an la kn fb fh nb te wt bh) Rq) (hRq : ∀ v w1, Rq v w1 → ∃ x : Int64, v = some (.long x)) : eg_ML D (tyL cI cJ) l yL_version wsL_version rmL [.ref (q 0), .int x0, .ref o] (wO o cJ out ++ wX q cI cJ (nI n) mk lt tg pa an la kn fb fh nb te wt bh) (fun r w1 => r = some (.int (nI 0)) ∧ ∃ (x : Int64) (wx : va_W), Rq (some (.long x)) wx ∧ w1 = wO o cJ (vp_updL out 0 (x)) ++ wx) := by
  refine eg_ofWH (cc := cL_version) (maxL := 4) (ret := (some .int)) (hh := [(0, 8, 11, 13)]) (by decide) rfl ?_
  intro p e s m args below meth c s₁ B hml htb hv
  obtain ⟨rfl, hP, hK, hD0, hT⟩ := hv
  have hx := B.exec
  have hb := B.bytes
  have hr := B.returns
  have hts := atoms_spec (ws := wsL_version) B.pre
  have hown : s.vm.findClass RL = some m.cls := findClass_of_methodNamed B.named
  have hlocks := B.notSynchronized
  have hD := eg_D_of hD0
  have hS : va_S (eg_A (wO o cJ out ++ wX q cI cJ (nI n) mk lt tg pa an la kn fb fh nb te wt bh)) s.heap s.heap [] := va_S.rf
  have hl := lv_entry ([.ref (q 0), .int x0, .ref o]) (n := 4) (Nat.le_of_ble_eq_true rfl)
  rw [lg_entry_eq]
  generalize (lg_sl ([.ref (q 0), .int x0, .ref o]) ++ List.replicate (4 - (lg_sl ([.ref (q 0), .int x0, .ref o])).length) Slot.unset).toArray = ls at hl ⊢
  have hl : lv_has ls 4 [(0, .ref (q 0)), (1, .int x0), (2, .ref o)] := hl
  generalize h0H : s.heap = H at hP ⊢
  have hS : va_S (eg_A (wO o cJ out ++ wX q cI cJ (nI n) mk lt tg pa an la kn fb fh nb te wt bh)) s.heap H [] := by rw [← h0H]; exact hS
  generalize ([] : List Loc) = locs at hS ⊢
  refine lv_aload_n hx hb dL_version_0 rfl (lv_at hl 2 rfl) ?_
  refine lv_iconst (v := nI 0) hx hb dL_version_1 (by decide +kernel) ?_
  refine lv_aload_n hx hb dL_version_2 rfl (lv_at hl 0 rfl) ?_
  refine lv_iload_n hx hb dL_version_3 rfl (lv_at hl 1 rfl) ?_
  refine eg_callWVc (wr := wO o cJ out) (As := [.int x0]) (rest := [.int (nI 0), .ref o]) hx hb hml hown hts hK hP hD hS [1, 2, 3, 4, 5, 6, 7, 8, 9, 10, 11, 12, 13] [0] rfl rfl (by decide) hM (cwV 1 hts gL_version_X0_version rfl hrm.1 hrm.2.1 (by decide +kernel) ⟨hrm.2.2.1, hrm.2.2.2⟩) (va_recv hK hP (ci := 0) (q0 := 1) rfl rfl) rfl hl.1 rfl (Nat.le_of_ble_eq_true rfl) dL_version_4 ⟨Nat.le_of_ble_eq_true rfl, Nat.le_of_ble_eq_true rfl⟩ (fun v9 w9 H locs hR9 hw9 hP hD hS => ?_)
  obtain ⟨x, rfl⟩ := hRq _ _ hR9
  refine eg_last hx hb hK hP hD rfl hS 0 1 rfl rfl (by decide) (by decide) dL_version_7 (w' := wO o cJ (vp_updL out 0 (x)) ++ w9) rfl (fun H locs hP hS => ?_)
  refine lv_goto (tgt := 14) hx hb dL_version_8 (by decide) ?_
  refine lv_iconst (v := nI 0) hx hb dL_version_14 (by decide +kernel) ?_
  refine W.widen (k := 1) (n := 6) (by omega) (by omega) ?_
  exact W.iret hx hb hr (fun t9 ht9 _ => ⟨some (.int (nI 0)), _, rfl, ⟨rfl, x, w9, hR9, rfl⟩, by rw [List.map_append, List.map_append, hw9]; rfl, by rw [ht9]; exact hP, hS.F ht9⟩) hS.2.2 dL_version_15
set_option maxHeartbeats 4000000 in
set_option maxRecDepth 100000 in
theorem wl_version_b (l : Launch) (D : va_G) (cI cJ : ClassId) (q : Nat → Nat) (n : Nat) (mk lt tg : Nat → Int32) (pa an la kn : Nat → Int64) (fb : Int32) (fh nb te wt bh : Nat → Int32) (o : Nat) (out : Nat → Int64) (x0 : Int32) {rm : Room} (hrm : rm.cells = 1 ∧ rm.slots = 6 ∧ rm.frames + 1 ≤ 9 ∧ 8 + (2 + 11) + rm.locals ≤ 150) {Rx : va_W → Prop} (hM : eg_MX D (tyL cI cJ) l yX0_version wsX0_version rm [.ref (q 0), .int x0] (wX q cI cJ (nI n) mk lt tg pa an la kn fb fh nb te wt bh) "java/lang/IndexOutOfBoundsException" Rx) : eg_ML D (tyL cI cJ) l yL_version wsL_version rmL [.ref (q 0), .int x0, .ref o] (wO o cJ out ++ wX q cI cJ (nI n) mk lt tg pa an la kn fb fh nb te wt bh) (fun r w1 => r = some (.int (nI 1)) ∧ ∃ wx : va_W, Rx wx ∧ w1 = wO o cJ out ++ wx) := by
  refine eg_ofWH (cc := cL_version) (maxL := 4) (ret := (some .int)) (hh := [(0, 8, 11, 13)]) (by decide) rfl ?_
  intro p e s m args below meth c s₁ B hml htb hv
  obtain ⟨rfl, hP, hK, hD0, hT⟩ := hv
  have hx := B.exec
  have hb := B.bytes
  have hr := B.returns
  have hts := atoms_spec (ws := wsL_version) B.pre
  have hown : s.vm.findClass RL = some m.cls := findClass_of_methodNamed B.named
  have hlocks := B.notSynchronized
  have hD := eg_D_of hD0
  have hS : va_S (eg_A (wO o cJ out ++ wX q cI cJ (nI n) mk lt tg pa an la kn fb fh nb te wt bh)) s.heap s.heap [] := va_S.rf
  have hl := lv_entry ([.ref (q 0), .int x0, .ref o]) (n := 4) (Nat.le_of_ble_eq_true rfl)
  rw [lg_entry_eq]
  generalize (lg_sl ([.ref (q 0), .int x0, .ref o]) ++ List.replicate (4 - (lg_sl ([.ref (q 0), .int x0, .ref o])).length) Slot.unset).toArray = ls at hl ⊢
  have hl : lv_has ls 4 [(0, .ref (q 0)), (1, .int x0), (2, .ref o)] := hl
  generalize h0H : s.heap = H at hP ⊢
  have hS : va_S (eg_A (wO o cJ out ++ wX q cI cJ (nI n) mk lt tg pa an la kn fb fh nb te wt bh)) s.heap H [] := by rw [← h0H]; exact hS
  generalize ([] : List Loc) = locs at hS ⊢
  refine lv_aload_n hx hb dL_version_0 rfl (lv_at hl 2 rfl) ?_
  refine lv_iconst (v := nI 0) hx hb dL_version_1 (by decide +kernel) ?_
  refine lv_aload_n hx hb dL_version_2 rfl (lv_at hl 0 rfl) ?_
  refine lv_iload_n hx hb dL_version_3 rfl (lv_at hl 1 rfl) ?_
  refine eg_callX (wr := wO o cJ out) (As := [.int x0]) (rest := [.int (nI 0), .ref o]) hx hb hml hown hts hK hP hD hS hT [1, 2, 3, 4, 5, 6, 7, 8, 9, 10, 11, 12, 13] [0] rfl rfl (by decide) hM (cwV 1 hts gL_version_X0_version rfl hrm.1 hrm.2.1 (by decide +kernel) ⟨hrm.2.2.1, hrm.2.2.2⟩) (va_recv hK hP (ci := 0) (q0 := 1) rfl rfl) rfl hl.1 rfl (Nat.le_of_ble_eq_true rfl) dL_version_4 ⟨Nat.le_of_ble_eq_true rfl, Nat.le_of_ble_eq_true rfl⟩ (fun w9 H locs q9 ce hR9 hw9 hP hD hS hc1 hc2 hc3 => ?_)
  refine vx_catch (own := RL) (name := "java/lang/IndexOutOfBoundsException") hown [] ⟨0, 8, 11, 13⟩ [] (htb.trans rfl) (fun z hz => absurd hz List.not_mem_nil) (by decide) (by decide) (hts (.classLink RL 13 "java/lang/IndexOutOfBoundsException") (by decide +kernel)) (va_Nw.use rfl hT.1.2.2.2.2.1) hc1 hc2 hc3 ?_
  refine lv_astore_n (lv' := [(3, .ref q9), (0, .ref (q 0)), (1, .int x0), (2, .ref o)]) hx hb dL_version_11 rfl hl (by decide) rfl (fun ls hl => ?_)
  refine lv_iconst (v := nI 1) hx hb dL_version_12 (by decide +kernel) ?_
  exact W.iret hx hb hr (fun t9 ht9 _ => ⟨some (.int (nI 1)), _, rfl, ⟨rfl, w9, hR9, rfl⟩, by rw [List.map_append, List.map_append, hw9], by rw [ht9]; exact hP, hS.F ht9⟩) hS.2.2 dL_version_13
set_option maxHeartbeats 4000000 in
set_option maxRecDepth 100000 in
theorem wl_heads (l : Launch) (D : va_G) (cI cJ : ClassId) (q : Nat → Nat) (n : Nat) (mk lt tg : Nat → Int32) (pa an la kn : Nat → Int64) (fb : Int32) (fh nb te wt bh : Nat → Int32) (o : Nat) (out : Nat → Int64) (x0 : Int32) {rm : Room} (hrm : rm.cells = 0 ∧ rm.slots = 0 ∧ rm.frames + 1 ≤ 9 ∧ 8 + (2 + 11) + rm.locals ≤ 150) {Rq : Option Value → va_W → Prop} (hM : eg_MW D (tyL cI cJ) l yX0_heads wsX0_heads rm 0 0 [.ref (q 0), .int x0] (wX q cI cJ (nI n) mk lt tg pa an la kn fb fh nb te wt bh) Rq) (hRq : ∀ v w1, Rq v w1 → ∃ x : Int64, v = some (.long x)) : eg_ML D (tyL cI cJ) l yL_heads wsL_heads rmL [.ref (q 0), .int x0, .ref o] (wO o cJ out ++ wX q cI cJ (nI n) mk lt tg pa an la kn fb fh nb te wt bh) (fun r w1 => r = some (.int (nI 0)) ∧ ∃ (x : Int64) (wx : va_W), Rq (some (.long x)) wx ∧ w1 = wO o cJ (vp_updL out 0 (x)) ++ wx) := by
  refine eg_ofWH (cc := cL_heads) (maxL := 4) (ret := (some .int)) (hh := [(0, 8, 11, 13)]) (by decide) rfl ?_
  intro p e s m args below meth c s₁ B hml htb hv
  obtain ⟨rfl, hP, hK, hD0, hT⟩ := hv
  have hx := B.exec
  have hb := B.bytes
  have hr := B.returns
  have hts := atoms_spec (ws := wsL_heads) B.pre
  have hown : s.vm.findClass RL = some m.cls := findClass_of_methodNamed B.named
  have hlocks := B.notSynchronized
  have hD := eg_D_of hD0
  have hS : va_S (eg_A (wO o cJ out ++ wX q cI cJ (nI n) mk lt tg pa an la kn fb fh nb te wt bh)) s.heap s.heap [] := va_S.rf
  have hl := lv_entry ([.ref (q 0), .int x0, .ref o]) (n := 4) (Nat.le_of_ble_eq_true rfl)
  rw [lg_entry_eq]
  generalize (lg_sl ([.ref (q 0), .int x0, .ref o]) ++ List.replicate (4 - (lg_sl ([.ref (q 0), .int x0, .ref o])).length) Slot.unset).toArray = ls at hl ⊢
  have hl : lv_has ls 4 [(0, .ref (q 0)), (1, .int x0), (2, .ref o)] := hl
  generalize h0H : s.heap = H at hP ⊢
  have hS : va_S (eg_A (wO o cJ out ++ wX q cI cJ (nI n) mk lt tg pa an la kn fb fh nb te wt bh)) s.heap H [] := by rw [← h0H]; exact hS
  generalize ([] : List Loc) = locs at hS ⊢
  refine lv_aload_n hx hb dL_heads_0 rfl (lv_at hl 2 rfl) ?_
  refine lv_iconst (v := nI 0) hx hb dL_heads_1 (by decide +kernel) ?_
  refine lv_aload_n hx hb dL_heads_2 rfl (lv_at hl 0 rfl) ?_
  refine lv_iload_n hx hb dL_heads_3 rfl (lv_at hl 1 rfl) ?_
  refine eg_callWVc (wr := wO o cJ out) (As := [.int x0]) (rest := [.int (nI 0), .ref o]) hx hb hml hown hts hK hP hD hS [1, 2, 3, 4, 5, 6, 7, 8, 9, 10, 11, 12, 13] [0] rfl rfl (by decide) hM (cwV 1 hts gL_heads_X0_heads rfl hrm.1 hrm.2.1 (by decide +kernel) ⟨hrm.2.2.1, hrm.2.2.2⟩) (va_recv hK hP (ci := 0) (q0 := 1) rfl rfl) rfl hl.1 rfl (Nat.le_of_ble_eq_true rfl) dL_heads_4 ⟨Nat.le_of_ble_eq_true rfl, Nat.le_of_ble_eq_true rfl⟩ (fun v9 w9 H locs hR9 hw9 hP hD hS => ?_)
  obtain ⟨x, rfl⟩ := hRq _ _ hR9
  refine eg_last hx hb hK hP hD rfl hS 0 1 rfl rfl (by decide) (by decide) dL_heads_7 (w' := wO o cJ (vp_updL out 0 (x)) ++ w9) rfl (fun H locs hP hS => ?_)
  refine lv_goto (tgt := 14) hx hb dL_heads_8 (by decide) ?_
  refine lv_iconst (v := nI 0) hx hb dL_heads_14 (by decide +kernel) ?_
  refine W.widen (k := 1) (n := 6) (by omega) (by omega) ?_
  exact W.iret hx hb hr (fun t9 ht9 _ => ⟨some (.int (nI 0)), _, rfl, ⟨rfl, x, w9, hR9, rfl⟩, by rw [List.map_append, List.map_append, hw9]; rfl, by rw [ht9]; exact hP, hS.F ht9⟩) hS.2.2 dL_heads_15
set_option maxHeartbeats 4000000 in
set_option maxRecDepth 100000 in
theorem wl_heads_b (l : Launch) (D : va_G) (cI cJ : ClassId) (q : Nat → Nat) (n : Nat) (mk lt tg : Nat → Int32) (pa an la kn : Nat → Int64) (fb : Int32) (fh nb te wt bh : Nat → Int32) (o : Nat) (out : Nat → Int64) (x0 : Int32) {rm : Room} (hrm : rm.cells = 1 ∧ rm.slots = 6 ∧ rm.frames + 1 ≤ 9 ∧ 8 + (2 + 11) + rm.locals ≤ 150) {Rx : va_W → Prop} (hM : eg_MX D (tyL cI cJ) l yX0_heads wsX0_heads rm [.ref (q 0), .int x0] (wX q cI cJ (nI n) mk lt tg pa an la kn fb fh nb te wt bh) "java/lang/IndexOutOfBoundsException" Rx) : eg_ML D (tyL cI cJ) l yL_heads wsL_heads rmL [.ref (q 0), .int x0, .ref o] (wO o cJ out ++ wX q cI cJ (nI n) mk lt tg pa an la kn fb fh nb te wt bh) (fun r w1 => r = some (.int (nI 1)) ∧ ∃ wx : va_W, Rx wx ∧ w1 = wO o cJ out ++ wx) := by
  refine eg_ofWH (cc := cL_heads) (maxL := 4) (ret := (some .int)) (hh := [(0, 8, 11, 13)]) (by decide) rfl ?_
  intro p e s m args below meth c s₁ B hml htb hv
  obtain ⟨rfl, hP, hK, hD0, hT⟩ := hv
  have hx := B.exec
  have hb := B.bytes
  have hr := B.returns
  have hts := atoms_spec (ws := wsL_heads) B.pre
  have hown : s.vm.findClass RL = some m.cls := findClass_of_methodNamed B.named
  have hlocks := B.notSynchronized
  have hD := eg_D_of hD0
  have hS : va_S (eg_A (wO o cJ out ++ wX q cI cJ (nI n) mk lt tg pa an la kn fb fh nb te wt bh)) s.heap s.heap [] := va_S.rf
  have hl := lv_entry ([.ref (q 0), .int x0, .ref o]) (n := 4) (Nat.le_of_ble_eq_true rfl)
  rw [lg_entry_eq]
  generalize (lg_sl ([.ref (q 0), .int x0, .ref o]) ++ List.replicate (4 - (lg_sl ([.ref (q 0), .int x0, .ref o])).length) Slot.unset).toArray = ls at hl ⊢
  have hl : lv_has ls 4 [(0, .ref (q 0)), (1, .int x0), (2, .ref o)] := hl
  generalize h0H : s.heap = H at hP ⊢
  have hS : va_S (eg_A (wO o cJ out ++ wX q cI cJ (nI n) mk lt tg pa an la kn fb fh nb te wt bh)) s.heap H [] := by rw [← h0H]; exact hS
  generalize ([] : List Loc) = locs at hS ⊢
  refine lv_aload_n hx hb dL_heads_0 rfl (lv_at hl 2 rfl) ?_
  refine lv_iconst (v := nI 0) hx hb dL_heads_1 (by decide +kernel) ?_
  refine lv_aload_n hx hb dL_heads_2 rfl (lv_at hl 0 rfl) ?_
  refine lv_iload_n hx hb dL_heads_3 rfl (lv_at hl 1 rfl) ?_
  refine eg_callX (wr := wO o cJ out) (As := [.int x0]) (rest := [.int (nI 0), .ref o]) hx hb hml hown hts hK hP hD hS hT [1, 2, 3, 4, 5, 6, 7, 8, 9, 10, 11, 12, 13] [0] rfl rfl (by decide) hM (cwV 1 hts gL_heads_X0_heads rfl hrm.1 hrm.2.1 (by decide +kernel) ⟨hrm.2.2.1, hrm.2.2.2⟩) (va_recv hK hP (ci := 0) (q0 := 1) rfl rfl) rfl hl.1 rfl (Nat.le_of_ble_eq_true rfl) dL_heads_4 ⟨Nat.le_of_ble_eq_true rfl, Nat.le_of_ble_eq_true rfl⟩ (fun w9 H locs q9 ce hR9 hw9 hP hD hS hc1 hc2 hc3 => ?_)
  refine vx_catch (own := RL) (name := "java/lang/IndexOutOfBoundsException") hown [] ⟨0, 8, 11, 13⟩ [] (htb.trans rfl) (fun z hz => absurd hz List.not_mem_nil) (by decide) (by decide) (hts (.classLink RL 13 "java/lang/IndexOutOfBoundsException") (by decide +kernel)) (va_Nw.use rfl hT.1.2.2.2.2.1) hc1 hc2 hc3 ?_
  refine lv_astore_n (lv' := [(3, .ref q9), (0, .ref (q 0)), (1, .int x0), (2, .ref o)]) hx hb dL_heads_11 rfl hl (by decide) rfl (fun ls hl => ?_)
  refine lv_iconst (v := nI 1) hx hb dL_heads_12 (by decide +kernel) ?_
  exact W.iret hx hb hr (fun t9 ht9 _ => ⟨some (.int (nI 1)), _, rfl, ⟨rfl, w9, hR9, rfl⟩, by rw [List.map_append, List.map_append, hw9], by rw [ht9]; exact hP, hS.F ht9⟩) hS.2.2 dL_heads_13
set_option maxHeartbeats 4000000 in
set_option maxRecDepth 100000 in
theorem wl_commonHeads (l : Launch) (D : va_G) (cI cJ : ClassId) (q : Nat → Nat) (n : Nat) (mk lt tg : Nat → Int32) (pa an la kn : Nat → Int64) (fb : Int32) (fh nb te wt bh : Nat → Int32) (o : Nat) (out : Nat → Int64) (x0 x1 : Int32) {rm : Room} (hrm : rm.cells = 0 ∧ rm.slots = 0 ∧ rm.frames + 1 ≤ 9 ∧ 8 + (3 + 11) + rm.locals ≤ 150) {Rq : Option Value → va_W → Prop} (hM : eg_MW D (tyL cI cJ) l yX0_commonHeads wsX0_commonHeads rm 0 0 [.ref (q 0), .int x0, .int x1] (wX q cI cJ (nI n) mk lt tg pa an la kn fb fh nb te wt bh) Rq) (hRq : ∀ v w1, Rq v w1 → ∃ x : Int64, v = some (.long x)) : eg_ML D (tyL cI cJ) l yL_commonHeads wsL_commonHeads rmL [.ref (q 0), .int x0, .int x1, .ref o] (wO o cJ out ++ wX q cI cJ (nI n) mk lt tg pa an la kn fb fh nb te wt bh) (fun r w1 => r = some (.int (nI 0)) ∧ ∃ (x : Int64) (wx : va_W), Rq (some (.long x)) wx ∧ w1 = wO o cJ (vp_updL out 0 (x)) ++ wx) := by
  refine eg_ofWH (cc := cL_commonHeads) (maxL := 5) (ret := (some .int)) (hh := [(0, 9, 12, 13)]) (by decide) rfl ?_
  intro p e s m args below meth c s₁ B hml htb hv
  obtain ⟨rfl, hP, hK, hD0, hT⟩ := hv
  have hx := B.exec
  have hb := B.bytes
  have hr := B.returns
  have hts := atoms_spec (ws := wsL_commonHeads) B.pre
  have hown : s.vm.findClass RL = some m.cls := findClass_of_methodNamed B.named
  have hlocks := B.notSynchronized
  have hD := eg_D_of hD0
  have hS : va_S (eg_A (wO o cJ out ++ wX q cI cJ (nI n) mk lt tg pa an la kn fb fh nb te wt bh)) s.heap s.heap [] := va_S.rf
  have hl := lv_entry ([.ref (q 0), .int x0, .int x1, .ref o]) (n := 5) (Nat.le_of_ble_eq_true rfl)
  rw [lg_entry_eq]
  generalize (lg_sl ([.ref (q 0), .int x0, .int x1, .ref o]) ++ List.replicate (5 - (lg_sl ([.ref (q 0), .int x0, .int x1, .ref o])).length) Slot.unset).toArray = ls at hl ⊢
  have hl : lv_has ls 5 [(0, .ref (q 0)), (1, .int x0), (2, .int x1), (3, .ref o)] := hl
  generalize h0H : s.heap = H at hP ⊢
  have hS : va_S (eg_A (wO o cJ out ++ wX q cI cJ (nI n) mk lt tg pa an la kn fb fh nb te wt bh)) s.heap H [] := by rw [← h0H]; exact hS
  generalize ([] : List Loc) = locs at hS ⊢
  refine lv_aload_n hx hb dL_commonHeads_0 rfl (lv_at hl 3 rfl) ?_
  refine lv_iconst (v := nI 0) hx hb dL_commonHeads_1 (by decide +kernel) ?_
  refine lv_aload_n hx hb dL_commonHeads_2 rfl (lv_at hl 0 rfl) ?_
  refine lv_iload_n hx hb dL_commonHeads_3 rfl (lv_at hl 1 rfl) ?_
  refine lv_iload_n hx hb dL_commonHeads_4 rfl (lv_at hl 2 rfl) ?_
  refine eg_callWVc (wr := wO o cJ out) (As := [.int x0, .int x1]) (rest := [.int (nI 0), .ref o]) hx hb hml hown hts hK hP hD hS [1, 2, 3, 4, 5, 6, 7, 8, 9, 10, 11, 12, 13] [0] rfl rfl (by decide) hM (cwV 2 hts gL_commonHeads_X0_commonHeads rfl hrm.1 hrm.2.1 (by decide +kernel) ⟨hrm.2.2.1, hrm.2.2.2⟩) (va_recv hK hP (ci := 0) (q0 := 1) rfl rfl) rfl hl.1 rfl (Nat.le_of_ble_eq_true rfl) dL_commonHeads_5 ⟨Nat.le_of_ble_eq_true rfl, Nat.le_of_ble_eq_true rfl⟩ (fun v9 w9 H locs hR9 hw9 hP hD hS => ?_)
  obtain ⟨x, rfl⟩ := hRq _ _ hR9
  refine eg_last hx hb hK hP hD rfl hS 0 1 rfl rfl (by decide) (by decide) dL_commonHeads_8 (w' := wO o cJ (vp_updL out 0 (x)) ++ w9) rfl (fun H locs hP hS => ?_)
  refine lv_goto (tgt := 16) hx hb dL_commonHeads_9 (by decide) ?_
  refine lv_iconst (v := nI 0) hx hb dL_commonHeads_16 (by decide +kernel) ?_
  refine W.widen (k := 1) (n := 6) (by omega) (by omega) ?_
  exact W.iret hx hb hr (fun t9 ht9 _ => ⟨some (.int (nI 0)), _, rfl, ⟨rfl, x, w9, hR9, rfl⟩, by rw [List.map_append, List.map_append, hw9]; rfl, by rw [ht9]; exact hP, hS.F ht9⟩) hS.2.2 dL_commonHeads_17
set_option maxHeartbeats 4000000 in
set_option maxRecDepth 100000 in
theorem wl_commonHeads_b (l : Launch) (D : va_G) (cI cJ : ClassId) (q : Nat → Nat) (n : Nat) (mk lt tg : Nat → Int32) (pa an la kn : Nat → Int64) (fb : Int32) (fh nb te wt bh : Nat → Int32) (o : Nat) (out : Nat → Int64) (x0 x1 : Int32) {rm : Room} (hrm : rm.cells = 1 ∧ rm.slots = 6 ∧ rm.frames + 1 ≤ 9 ∧ 8 + (3 + 11) + rm.locals ≤ 150) {Rx : va_W → Prop} (hM : eg_MX D (tyL cI cJ) l yX0_commonHeads wsX0_commonHeads rm [.ref (q 0), .int x0, .int x1] (wX q cI cJ (nI n) mk lt tg pa an la kn fb fh nb te wt bh) "java/lang/IndexOutOfBoundsException" Rx) : eg_ML D (tyL cI cJ) l yL_commonHeads wsL_commonHeads rmL [.ref (q 0), .int x0, .int x1, .ref o] (wO o cJ out ++ wX q cI cJ (nI n) mk lt tg pa an la kn fb fh nb te wt bh) (fun r w1 => r = some (.int (nI 1)) ∧ ∃ wx : va_W, Rx wx ∧ w1 = wO o cJ out ++ wx) := by
  refine eg_ofWH (cc := cL_commonHeads) (maxL := 5) (ret := (some .int)) (hh := [(0, 9, 12, 13)]) (by decide) rfl ?_
  intro p e s m args below meth c s₁ B hml htb hv
  obtain ⟨rfl, hP, hK, hD0, hT⟩ := hv
  have hx := B.exec
  have hb := B.bytes
  have hr := B.returns
  have hts := atoms_spec (ws := wsL_commonHeads) B.pre
  have hown : s.vm.findClass RL = some m.cls := findClass_of_methodNamed B.named
  have hlocks := B.notSynchronized
  have hD := eg_D_of hD0
  have hS : va_S (eg_A (wO o cJ out ++ wX q cI cJ (nI n) mk lt tg pa an la kn fb fh nb te wt bh)) s.heap s.heap [] := va_S.rf
  have hl := lv_entry ([.ref (q 0), .int x0, .int x1, .ref o]) (n := 5) (Nat.le_of_ble_eq_true rfl)
  rw [lg_entry_eq]
  generalize (lg_sl ([.ref (q 0), .int x0, .int x1, .ref o]) ++ List.replicate (5 - (lg_sl ([.ref (q 0), .int x0, .int x1, .ref o])).length) Slot.unset).toArray = ls at hl ⊢
  have hl : lv_has ls 5 [(0, .ref (q 0)), (1, .int x0), (2, .int x1), (3, .ref o)] := hl
  generalize h0H : s.heap = H at hP ⊢
  have hS : va_S (eg_A (wO o cJ out ++ wX q cI cJ (nI n) mk lt tg pa an la kn fb fh nb te wt bh)) s.heap H [] := by rw [← h0H]; exact hS
  generalize ([] : List Loc) = locs at hS ⊢
  refine lv_aload_n hx hb dL_commonHeads_0 rfl (lv_at hl 3 rfl) ?_
  refine lv_iconst (v := nI 0) hx hb dL_commonHeads_1 (by decide +kernel) ?_
  refine lv_aload_n hx hb dL_commonHeads_2 rfl (lv_at hl 0 rfl) ?_
  refine lv_iload_n hx hb dL_commonHeads_3 rfl (lv_at hl 1 rfl) ?_
  refine lv_iload_n hx hb dL_commonHeads_4 rfl (lv_at hl 2 rfl) ?_
  refine eg_callX (wr := wO o cJ out) (As := [.int x0, .int x1]) (rest := [.int (nI 0), .ref o]) hx hb hml hown hts hK hP hD hS hT [1, 2, 3, 4, 5, 6, 7, 8, 9, 10, 11, 12, 13] [0] rfl rfl (by decide) hM (cwV 2 hts gL_commonHeads_X0_commonHeads rfl hrm.1 hrm.2.1 (by decide +kernel) ⟨hrm.2.2.1, hrm.2.2.2⟩) (va_recv hK hP (ci := 0) (q0 := 1) rfl rfl) rfl hl.1 rfl (Nat.le_of_ble_eq_true rfl) dL_commonHeads_5 ⟨Nat.le_of_ble_eq_true rfl, Nat.le_of_ble_eq_true rfl⟩ (fun w9 H locs q9 ce hR9 hw9 hP hD hS hc1 hc2 hc3 => ?_)
  refine vx_catch (own := RL) (name := "java/lang/IndexOutOfBoundsException") hown [] ⟨0, 9, 12, 13⟩ [] (htb.trans rfl) (fun z hz => absurd hz List.not_mem_nil) (by decide) (by decide) (hts (.classLink RL 13 "java/lang/IndexOutOfBoundsException") (by decide +kernel)) (va_Nw.use rfl hT.1.2.2.2.2.1) hc1 hc2 hc3 ?_
  refine lv_astore (lv' := [(4, .ref q9), (0, .ref (q 0)), (1, .int x0), (2, .int x1), (3, .ref o)]) hx hb dL_commonHeads_12 hl (by decide) rfl (fun ls hl => ?_)
  refine lv_iconst (v := nI 1) hx hb dL_commonHeads_14 (by decide +kernel) ?_
  exact W.iret hx hb hr (fun t9 ht9 _ => ⟨some (.int (nI 1)), _, rfl, ⟨rfl, w9, hR9, rfl⟩, by rw [List.map_append, List.map_append, hw9], by rw [ht9]; exact hP, hS.F ht9⟩) hS.2.2 dL_commonHeads_15
set_option maxHeartbeats 4000000 in
set_option maxRecDepth 100000 in
theorem wl_concurrent (l : Launch) (D : va_G) (cI cJ : ClassId) (q : Nat → Nat) (n : Nat) (mk lt tg : Nat → Int32) (pa an la kn : Nat → Int64) (fb : Int32) (fh nb te wt bh : Nat → Int32) (o : Nat) (out : Nat → Int64) (x0 : Int32) {rm : Room} (hrm : rm.cells = 0 ∧ rm.slots = 0 ∧ rm.frames + 1 ≤ 9 ∧ 8 + (6 + 11) + rm.locals ≤ 150) {Rq : Option Value → va_W → Prop} (hM : eg_MW D (tyL cI cJ) l yX0_concurrent wsX0_concurrent rm 0 0 [.ref (q 0), .int x0] (wX q cI cJ (nI n) mk lt tg pa an la kn fb fh nb te wt bh) Rq) (hRq : ∀ v w1, Rq v w1 → ∃ x : Int32, v = some (.int x)) : eg_ML D (tyL cI cJ) l yL_concurrent wsL_concurrent rmL [.ref (q 0), .int x0, .ref o] (wO o cJ out ++ wX q cI cJ (nI n) mk lt tg pa an la kn fb fh nb te wt bh) (fun r w1 => r = some (.int (nI 0)) ∧ ∃ (x : Int32) (wx : va_W), Rq (some (.int x)) wx ∧ w1 = wO o cJ (vp_updL out 0 (x.toInt64)) ++ wx) := by
  refine eg_ofWH (cc := cL_concurrent) (maxL := 4) (ret := (some .int)) (hh := [(0, 9, 12, 13)]) (by decide) rfl ?_
  intro p e s m args below meth c s₁ B hml htb hv
  obtain ⟨rfl, hP, hK, hD0, hT⟩ := hv
  have hx := B.exec
  have hb := B.bytes
  have hr := B.returns
  have hts := atoms_spec (ws := wsL_concurrent) B.pre
  have hown : s.vm.findClass RL = some m.cls := findClass_of_methodNamed B.named
  have hlocks := B.notSynchronized
  have hD := eg_D_of hD0
  have hS : va_S (eg_A (wO o cJ out ++ wX q cI cJ (nI n) mk lt tg pa an la kn fb fh nb te wt bh)) s.heap s.heap [] := va_S.rf
  have hl := lv_entry ([.ref (q 0), .int x0, .ref o]) (n := 4) (Nat.le_of_ble_eq_true rfl)
  rw [lg_entry_eq]
  generalize (lg_sl ([.ref (q 0), .int x0, .ref o]) ++ List.replicate (4 - (lg_sl ([.ref (q 0), .int x0, .ref o])).length) Slot.unset).toArray = ls at hl ⊢
  have hl : lv_has ls 4 [(0, .ref (q 0)), (1, .int x0), (2, .ref o)] := hl
  generalize h0H : s.heap = H at hP ⊢
  have hS : va_S (eg_A (wO o cJ out ++ wX q cI cJ (nI n) mk lt tg pa an la kn fb fh nb te wt bh)) s.heap H [] := by rw [← h0H]; exact hS
  generalize ([] : List Loc) = locs at hS ⊢
  refine lv_aload_n hx hb dL_concurrent_0 rfl (lv_at hl 2 rfl) ?_
  refine lv_iconst (v := nI 0) hx hb dL_concurrent_1 (by decide +kernel) ?_
  refine lv_aload_n hx hb dL_concurrent_2 rfl (lv_at hl 0 rfl) ?_
  refine lv_iload_n hx hb dL_concurrent_3 rfl (lv_at hl 1 rfl) ?_
  refine eg_callWVc (wr := wO o cJ out) (As := [.int x0]) (rest := [.int (nI 0), .ref o]) hx hb hml hown hts hK hP hD hS [1, 2, 3, 4, 5, 6, 7, 8, 9, 10, 11, 12, 13] [0] rfl rfl (by decide) hM (cwV 1 hts gL_concurrent_X0_concurrent rfl hrm.1 hrm.2.1 (by decide +kernel) ⟨hrm.2.2.1, hrm.2.2.2⟩) (va_recv hK hP (ci := 0) (q0 := 1) rfl rfl) rfl hl.1 rfl (Nat.le_of_ble_eq_true rfl) dL_concurrent_4 ⟨Nat.le_of_ble_eq_true rfl, Nat.le_of_ble_eq_true rfl⟩ (fun v9 w9 H locs hR9 hw9 hP hD hS => ?_)
  obtain ⟨x, rfl⟩ := hRq _ _ hR9
  refine lv_i2l (v := x.toInt64) hx hb dL_concurrent_7 rfl ?_
  refine eg_last hx hb hK hP hD rfl hS 0 1 rfl rfl (by decide) (by decide) dL_concurrent_8 (w' := wO o cJ (vp_updL out 0 (x.toInt64)) ++ w9) rfl (fun H locs hP hS => ?_)
  refine lv_goto (tgt := 15) hx hb dL_concurrent_9 (by decide) ?_
  refine lv_iconst (v := nI 0) hx hb dL_concurrent_15 (by decide +kernel) ?_
  refine W.widen (k := 1) (n := 6) (by omega) (by omega) ?_
  exact W.iret hx hb hr (fun t9 ht9 _ => ⟨some (.int (nI 0)), _, rfl, ⟨rfl, x, w9, hR9, rfl⟩, by rw [List.map_append, List.map_append, hw9]; rfl, by rw [ht9]; exact hP, hS.F ht9⟩) hS.2.2 dL_concurrent_16
set_option maxHeartbeats 4000000 in
set_option maxRecDepth 100000 in
theorem wl_concurrent_b (l : Launch) (D : va_G) (cI cJ : ClassId) (q : Nat → Nat) (n : Nat) (mk lt tg : Nat → Int32) (pa an la kn : Nat → Int64) (fb : Int32) (fh nb te wt bh : Nat → Int32) (o : Nat) (out : Nat → Int64) (x0 : Int32) {rm : Room} (hrm : rm.cells = 1 ∧ rm.slots = 6 ∧ rm.frames + 1 ≤ 9 ∧ 8 + (6 + 11) + rm.locals ≤ 150) {Rx : va_W → Prop} (hM : eg_MX D (tyL cI cJ) l yX0_concurrent wsX0_concurrent rm [.ref (q 0), .int x0] (wX q cI cJ (nI n) mk lt tg pa an la kn fb fh nb te wt bh) "java/lang/IndexOutOfBoundsException" Rx) : eg_ML D (tyL cI cJ) l yL_concurrent wsL_concurrent rmL [.ref (q 0), .int x0, .ref o] (wO o cJ out ++ wX q cI cJ (nI n) mk lt tg pa an la kn fb fh nb te wt bh) (fun r w1 => r = some (.int (nI 1)) ∧ ∃ wx : va_W, Rx wx ∧ w1 = wO o cJ out ++ wx) := by
  refine eg_ofWH (cc := cL_concurrent) (maxL := 4) (ret := (some .int)) (hh := [(0, 9, 12, 13)]) (by decide) rfl ?_
  intro p e s m args below meth c s₁ B hml htb hv
  obtain ⟨rfl, hP, hK, hD0, hT⟩ := hv
  have hx := B.exec
  have hb := B.bytes
  have hr := B.returns
  have hts := atoms_spec (ws := wsL_concurrent) B.pre
  have hown : s.vm.findClass RL = some m.cls := findClass_of_methodNamed B.named
  have hlocks := B.notSynchronized
  have hD := eg_D_of hD0
  have hS : va_S (eg_A (wO o cJ out ++ wX q cI cJ (nI n) mk lt tg pa an la kn fb fh nb te wt bh)) s.heap s.heap [] := va_S.rf
  have hl := lv_entry ([.ref (q 0), .int x0, .ref o]) (n := 4) (Nat.le_of_ble_eq_true rfl)
  rw [lg_entry_eq]
  generalize (lg_sl ([.ref (q 0), .int x0, .ref o]) ++ List.replicate (4 - (lg_sl ([.ref (q 0), .int x0, .ref o])).length) Slot.unset).toArray = ls at hl ⊢
  have hl : lv_has ls 4 [(0, .ref (q 0)), (1, .int x0), (2, .ref o)] := hl
  generalize h0H : s.heap = H at hP ⊢
  have hS : va_S (eg_A (wO o cJ out ++ wX q cI cJ (nI n) mk lt tg pa an la kn fb fh nb te wt bh)) s.heap H [] := by rw [← h0H]; exact hS
  generalize ([] : List Loc) = locs at hS ⊢
  refine lv_aload_n hx hb dL_concurrent_0 rfl (lv_at hl 2 rfl) ?_
  refine lv_iconst (v := nI 0) hx hb dL_concurrent_1 (by decide +kernel) ?_
  refine lv_aload_n hx hb dL_concurrent_2 rfl (lv_at hl 0 rfl) ?_
  refine lv_iload_n hx hb dL_concurrent_3 rfl (lv_at hl 1 rfl) ?_
  refine eg_callX (wr := wO o cJ out) (As := [.int x0]) (rest := [.int (nI 0), .ref o]) hx hb hml hown hts hK hP hD hS hT [1, 2, 3, 4, 5, 6, 7, 8, 9, 10, 11, 12, 13] [0] rfl rfl (by decide) hM (cwV 1 hts gL_concurrent_X0_concurrent rfl hrm.1 hrm.2.1 (by decide +kernel) ⟨hrm.2.2.1, hrm.2.2.2⟩) (va_recv hK hP (ci := 0) (q0 := 1) rfl rfl) rfl hl.1 rfl (Nat.le_of_ble_eq_true rfl) dL_concurrent_4 ⟨Nat.le_of_ble_eq_true rfl, Nat.le_of_ble_eq_true rfl⟩ (fun w9 H locs q9 ce hR9 hw9 hP hD hS hc1 hc2 hc3 => ?_)
  refine vx_catch (own := RL) (name := "java/lang/IndexOutOfBoundsException") hown [] ⟨0, 9, 12, 13⟩ [] (htb.trans rfl) (fun z hz => absurd hz List.not_mem_nil) (by decide) (by decide) (hts (.classLink RL 13 "java/lang/IndexOutOfBoundsException") (by decide +kernel)) (va_Nw.use rfl hT.1.2.2.2.2.1) hc1 hc2 hc3 ?_
  refine lv_astore_n (lv' := [(3, .ref q9), (0, .ref (q 0)), (1, .int x0), (2, .ref o)]) hx hb dL_concurrent_12 rfl hl (by decide) rfl (fun ls hl => ?_)
  refine lv_iconst (v := nI 1) hx hb dL_concurrent_13 (by decide +kernel) ?_
  exact W.iret hx hb hr (fun t9 ht9 _ => ⟨some (.int (nI 1)), _, rfl, ⟨rfl, w9, hR9, rfl⟩, by rw [List.map_append, List.map_append, hw9], by rw [ht9]; exact hP, hS.F ht9⟩) hS.2.2 dL_concurrent_14
set_option maxHeartbeats 4000000 in
set_option maxRecDepth 100000 in
theorem wl_critical (l : Launch) (D : va_G) (cI cJ : ClassId) (q : Nat → Nat) (n : Nat) (mk lt tg : Nat → Int32) (pa an la kn : Nat → Int64) (fb : Int32) (fh nb te wt bh : Nat → Int32) (o : Nat) (out : Nat → Int64) (x0 : Int32) {rm : Room} (hrm : rm.cells = 0 ∧ rm.slots = 0 ∧ rm.frames + 1 ≤ 9 ∧ 8 + (2 + 11) + rm.locals ≤ 150) {Rq : Option Value → va_W → Prop} (hM : eg_MW D (tyL cI cJ) l yX0_critical wsX0_critical rm 0 0 [.ref (q 0), .int x0] (wX q cI cJ (nI n) mk lt tg pa an la kn fb fh nb te wt bh) Rq) (hRq : ∀ v w1, Rq v w1 → ∃ x : Int64, v = some (.long x)) : eg_ML D (tyL cI cJ) l yL_critical wsL_critical rmL [.ref (q 0), .int x0, .ref o] (wO o cJ out ++ wX q cI cJ (nI n) mk lt tg pa an la kn fb fh nb te wt bh) (fun r w1 => r = some (.int (nI 0)) ∧ ∃ (x : Int64) (wx : va_W), Rq (some (.long x)) wx ∧ w1 = wO o cJ (vp_updL out 0 (x)) ++ wx) := by
  refine eg_ofWH (cc := cL_critical) (maxL := 4) (ret := (some .int)) (hh := [(0, 8, 11, 13)]) (by decide) rfl ?_
  intro p e s m args below meth c s₁ B hml htb hv
  obtain ⟨rfl, hP, hK, hD0, hT⟩ := hv
  have hx := B.exec
  have hb := B.bytes
  have hr := B.returns
  have hts := atoms_spec (ws := wsL_critical) B.pre
  have hown : s.vm.findClass RL = some m.cls := findClass_of_methodNamed B.named
  have hlocks := B.notSynchronized
  have hD := eg_D_of hD0
  have hS : va_S (eg_A (wO o cJ out ++ wX q cI cJ (nI n) mk lt tg pa an la kn fb fh nb te wt bh)) s.heap s.heap [] := va_S.rf
  have hl := lv_entry ([.ref (q 0), .int x0, .ref o]) (n := 4) (Nat.le_of_ble_eq_true rfl)
  rw [lg_entry_eq]
  generalize (lg_sl ([.ref (q 0), .int x0, .ref o]) ++ List.replicate (4 - (lg_sl ([.ref (q 0), .int x0, .ref o])).length) Slot.unset).toArray = ls at hl ⊢
  have hl : lv_has ls 4 [(0, .ref (q 0)), (1, .int x0), (2, .ref o)] := hl
  generalize h0H : s.heap = H at hP ⊢
  have hS : va_S (eg_A (wO o cJ out ++ wX q cI cJ (nI n) mk lt tg pa an la kn fb fh nb te wt bh)) s.heap H [] := by rw [← h0H]; exact hS
  generalize ([] : List Loc) = locs at hS ⊢
  refine lv_aload_n hx hb dL_critical_0 rfl (lv_at hl 2 rfl) ?_
  refine lv_iconst (v := nI 0) hx hb dL_critical_1 (by decide +kernel) ?_
  refine lv_aload_n hx hb dL_critical_2 rfl (lv_at hl 0 rfl) ?_
  refine lv_iload_n hx hb dL_critical_3 rfl (lv_at hl 1 rfl) ?_
  refine eg_callWVc (wr := wO o cJ out) (As := [.int x0]) (rest := [.int (nI 0), .ref o]) hx hb hml hown hts hK hP hD hS [1, 2, 3, 4, 5, 6, 7, 8, 9, 10, 11, 12, 13] [0] rfl rfl (by decide) hM (cwV 1 hts gL_critical_X0_critical rfl hrm.1 hrm.2.1 (by decide +kernel) ⟨hrm.2.2.1, hrm.2.2.2⟩) (va_recv hK hP (ci := 0) (q0 := 1) rfl rfl) rfl hl.1 rfl (Nat.le_of_ble_eq_true rfl) dL_critical_4 ⟨Nat.le_of_ble_eq_true rfl, Nat.le_of_ble_eq_true rfl⟩ (fun v9 w9 H locs hR9 hw9 hP hD hS => ?_)
  obtain ⟨x, rfl⟩ := hRq _ _ hR9
  refine eg_last hx hb hK hP hD rfl hS 0 1 rfl rfl (by decide) (by decide) dL_critical_7 (w' := wO o cJ (vp_updL out 0 (x)) ++ w9) rfl (fun H locs hP hS => ?_)
  refine lv_goto (tgt := 14) hx hb dL_critical_8 (by decide) ?_
  refine lv_iconst (v := nI 0) hx hb dL_critical_14 (by decide +kernel) ?_
  refine W.widen (k := 1) (n := 6) (by omega) (by omega) ?_
  exact W.iret hx hb hr (fun t9 ht9 _ => ⟨some (.int (nI 0)), _, rfl, ⟨rfl, x, w9, hR9, rfl⟩, by rw [List.map_append, List.map_append, hw9]; rfl, by rw [ht9]; exact hP, hS.F ht9⟩) hS.2.2 dL_critical_15
set_option maxHeartbeats 4000000 in
set_option maxRecDepth 100000 in
theorem wl_critical_b (l : Launch) (D : va_G) (cI cJ : ClassId) (q : Nat → Nat) (n : Nat) (mk lt tg : Nat → Int32) (pa an la kn : Nat → Int64) (fb : Int32) (fh nb te wt bh : Nat → Int32) (o : Nat) (out : Nat → Int64) (x0 : Int32) {rm : Room} (hrm : rm.cells = 1 ∧ rm.slots = 6 ∧ rm.frames + 1 ≤ 9 ∧ 8 + (2 + 11) + rm.locals ≤ 150) {Rx : va_W → Prop} (hM : eg_MX D (tyL cI cJ) l yX0_critical wsX0_critical rm [.ref (q 0), .int x0] (wX q cI cJ (nI n) mk lt tg pa an la kn fb fh nb te wt bh) "java/lang/IndexOutOfBoundsException" Rx) : eg_ML D (tyL cI cJ) l yL_critical wsL_critical rmL [.ref (q 0), .int x0, .ref o] (wO o cJ out ++ wX q cI cJ (nI n) mk lt tg pa an la kn fb fh nb te wt bh) (fun r w1 => r = some (.int (nI 1)) ∧ ∃ wx : va_W, Rx wx ∧ w1 = wO o cJ out ++ wx) := by
  refine eg_ofWH (cc := cL_critical) (maxL := 4) (ret := (some .int)) (hh := [(0, 8, 11, 13)]) (by decide) rfl ?_
  intro p e s m args below meth c s₁ B hml htb hv
  obtain ⟨rfl, hP, hK, hD0, hT⟩ := hv
  have hx := B.exec
  have hb := B.bytes
  have hr := B.returns
  have hts := atoms_spec (ws := wsL_critical) B.pre
  have hown : s.vm.findClass RL = some m.cls := findClass_of_methodNamed B.named
  have hlocks := B.notSynchronized
  have hD := eg_D_of hD0
  have hS : va_S (eg_A (wO o cJ out ++ wX q cI cJ (nI n) mk lt tg pa an la kn fb fh nb te wt bh)) s.heap s.heap [] := va_S.rf
  have hl := lv_entry ([.ref (q 0), .int x0, .ref o]) (n := 4) (Nat.le_of_ble_eq_true rfl)
  rw [lg_entry_eq]
  generalize (lg_sl ([.ref (q 0), .int x0, .ref o]) ++ List.replicate (4 - (lg_sl ([.ref (q 0), .int x0, .ref o])).length) Slot.unset).toArray = ls at hl ⊢
  have hl : lv_has ls 4 [(0, .ref (q 0)), (1, .int x0), (2, .ref o)] := hl
  generalize h0H : s.heap = H at hP ⊢
  have hS : va_S (eg_A (wO o cJ out ++ wX q cI cJ (nI n) mk lt tg pa an la kn fb fh nb te wt bh)) s.heap H [] := by rw [← h0H]; exact hS
  generalize ([] : List Loc) = locs at hS ⊢
  refine lv_aload_n hx hb dL_critical_0 rfl (lv_at hl 2 rfl) ?_
  refine lv_iconst (v := nI 0) hx hb dL_critical_1 (by decide +kernel) ?_
  refine lv_aload_n hx hb dL_critical_2 rfl (lv_at hl 0 rfl) ?_
  refine lv_iload_n hx hb dL_critical_3 rfl (lv_at hl 1 rfl) ?_
  refine eg_callX (wr := wO o cJ out) (As := [.int x0]) (rest := [.int (nI 0), .ref o]) hx hb hml hown hts hK hP hD hS hT [1, 2, 3, 4, 5, 6, 7, 8, 9, 10, 11, 12, 13] [0] rfl rfl (by decide) hM (cwV 1 hts gL_critical_X0_critical rfl hrm.1 hrm.2.1 (by decide +kernel) ⟨hrm.2.2.1, hrm.2.2.2⟩) (va_recv hK hP (ci := 0) (q0 := 1) rfl rfl) rfl hl.1 rfl (Nat.le_of_ble_eq_true rfl) dL_critical_4 ⟨Nat.le_of_ble_eq_true rfl, Nat.le_of_ble_eq_true rfl⟩ (fun w9 H locs q9 ce hR9 hw9 hP hD hS hc1 hc2 hc3 => ?_)
  refine vx_catch (own := RL) (name := "java/lang/IndexOutOfBoundsException") hown [] ⟨0, 8, 11, 13⟩ [] (htb.trans rfl) (fun z hz => absurd hz List.not_mem_nil) (by decide) (by decide) (hts (.classLink RL 13 "java/lang/IndexOutOfBoundsException") (by decide +kernel)) (va_Nw.use rfl hT.1.2.2.2.2.1) hc1 hc2 hc3 ?_
  refine lv_astore_n (lv' := [(3, .ref q9), (0, .ref (q 0)), (1, .int x0), (2, .ref o)]) hx hb dL_critical_11 rfl hl (by decide) rfl (fun ls hl => ?_)
  refine lv_iconst (v := nI 1) hx hb dL_critical_12 (by decide +kernel) ?_
  exact W.iret hx hb hr (fun t9 ht9 _ => ⟨some (.int (nI 1)), _, rfl, ⟨rfl, w9, hR9, rfl⟩, by rw [List.map_append, List.map_append, hw9], by rw [ht9]; exact hP, hS.F ht9⟩) hS.2.2 dL_critical_13
set_option maxHeartbeats 4000000 in
set_option maxRecDepth 100000 in
theorem wl_toReplay (l : Launch) (D : va_G) (cI cJ : ClassId) (q : Nat → Nat) (n : Nat) (mk lt tg : Nat → Int32) (pa an la kn : Nat → Int64) (fb : Int32) (fh nb te wt bh : Nat → Int32) (o : Nat) (out : Nat → Int64) (x0 : Int32) {rm : Room} (hrm : rm.cells = 0 ∧ rm.slots = 0 ∧ rm.frames + 1 ≤ 9 ∧ 8 + (9 + 11) + rm.locals ≤ 150) {Rq : Option Value → va_W → Prop} (hM : eg_MW D (tyL cI cJ) l yX0_toReplay wsX0_toReplay rm 0 0 [.ref (q 0), .int x0] (wX q cI cJ (nI n) mk lt tg pa an la kn fb fh nb te wt bh) Rq) (hRq : ∀ v w1, Rq v w1 → ∃ x : Int32, v = some (.int x)) : eg_ML D (tyL cI cJ) l yL_toReplay wsL_toReplay rmL [.ref (q 0), .int x0, .ref o] (wO o cJ out ++ wX q cI cJ (nI n) mk lt tg pa an la kn fb fh nb te wt bh) (fun r w1 => r = some (.int (nI 0)) ∧ ∃ (x : Int32) (wx : va_W), Rq (some (.int x)) wx ∧ w1 = wO o cJ (vp_updL out 0 (x.toInt64)) ++ wx) := by
  refine eg_ofWH (cc := cL_toReplay) (maxL := 4) (ret := (some .int)) (hh := [(0, 9, 12, 13)]) (by decide) rfl ?_
  intro p e s m args below meth c s₁ B hml htb hv
  obtain ⟨rfl, hP, hK, hD0, hT⟩ := hv
  have hx := B.exec
  have hb := B.bytes
  have hr := B.returns
  have hts := atoms_spec (ws := wsL_toReplay) B.pre
  have hown : s.vm.findClass RL = some m.cls := findClass_of_methodNamed B.named
  have hlocks := B.notSynchronized
  have hD := eg_D_of hD0
  have hS : va_S (eg_A (wO o cJ out ++ wX q cI cJ (nI n) mk lt tg pa an la kn fb fh nb te wt bh)) s.heap s.heap [] := va_S.rf
  have hl := lv_entry ([.ref (q 0), .int x0, .ref o]) (n := 4) (Nat.le_of_ble_eq_true rfl)
  rw [lg_entry_eq]
  generalize (lg_sl ([.ref (q 0), .int x0, .ref o]) ++ List.replicate (4 - (lg_sl ([.ref (q 0), .int x0, .ref o])).length) Slot.unset).toArray = ls at hl ⊢
  have hl : lv_has ls 4 [(0, .ref (q 0)), (1, .int x0), (2, .ref o)] := hl
  generalize h0H : s.heap = H at hP ⊢
  have hS : va_S (eg_A (wO o cJ out ++ wX q cI cJ (nI n) mk lt tg pa an la kn fb fh nb te wt bh)) s.heap H [] := by rw [← h0H]; exact hS
  generalize ([] : List Loc) = locs at hS ⊢
  refine lv_aload_n hx hb dL_toReplay_0 rfl (lv_at hl 2 rfl) ?_
  refine lv_iconst (v := nI 0) hx hb dL_toReplay_1 (by decide +kernel) ?_
  refine lv_aload_n hx hb dL_toReplay_2 rfl (lv_at hl 0 rfl) ?_
  refine lv_iload_n hx hb dL_toReplay_3 rfl (lv_at hl 1 rfl) ?_
  refine eg_callWVc (wr := wO o cJ out) (As := [.int x0]) (rest := [.int (nI 0), .ref o]) hx hb hml hown hts hK hP hD hS [1, 2, 3, 4, 5, 6, 7, 8, 9, 10, 11, 12, 13] [0] rfl rfl (by decide) hM (cwV 1 hts gL_toReplay_X0_toReplay rfl hrm.1 hrm.2.1 (by decide +kernel) ⟨hrm.2.2.1, hrm.2.2.2⟩) (va_recv hK hP (ci := 0) (q0 := 1) rfl rfl) rfl hl.1 rfl (Nat.le_of_ble_eq_true rfl) dL_toReplay_4 ⟨Nat.le_of_ble_eq_true rfl, Nat.le_of_ble_eq_true rfl⟩ (fun v9 w9 H locs hR9 hw9 hP hD hS => ?_)
  obtain ⟨x, rfl⟩ := hRq _ _ hR9
  refine lv_i2l (v := x.toInt64) hx hb dL_toReplay_7 rfl ?_
  refine eg_last hx hb hK hP hD rfl hS 0 1 rfl rfl (by decide) (by decide) dL_toReplay_8 (w' := wO o cJ (vp_updL out 0 (x.toInt64)) ++ w9) rfl (fun H locs hP hS => ?_)
  refine lv_goto (tgt := 15) hx hb dL_toReplay_9 (by decide) ?_
  refine lv_iconst (v := nI 0) hx hb dL_toReplay_15 (by decide +kernel) ?_
  refine W.widen (k := 1) (n := 6) (by omega) (by omega) ?_
  exact W.iret hx hb hr (fun t9 ht9 _ => ⟨some (.int (nI 0)), _, rfl, ⟨rfl, x, w9, hR9, rfl⟩, by rw [List.map_append, List.map_append, hw9]; rfl, by rw [ht9]; exact hP, hS.F ht9⟩) hS.2.2 dL_toReplay_16
set_option maxHeartbeats 4000000 in
set_option maxRecDepth 100000 in
theorem wl_toReplay_b (l : Launch) (D : va_G) (cI cJ : ClassId) (q : Nat → Nat) (n : Nat) (mk lt tg : Nat → Int32) (pa an la kn : Nat → Int64) (fb : Int32) (fh nb te wt bh : Nat → Int32) (o : Nat) (out : Nat → Int64) (x0 : Int32) {rm : Room} (hrm : rm.cells = 1 ∧ rm.slots = 6 ∧ rm.frames + 1 ≤ 9 ∧ 8 + (9 + 11) + rm.locals ≤ 150) {Rx : va_W → Prop} (hM : eg_MX D (tyL cI cJ) l yX0_toReplay wsX0_toReplay rm [.ref (q 0), .int x0] (wX q cI cJ (nI n) mk lt tg pa an la kn fb fh nb te wt bh) "java/lang/IndexOutOfBoundsException" Rx) : eg_ML D (tyL cI cJ) l yL_toReplay wsL_toReplay rmL [.ref (q 0), .int x0, .ref o] (wO o cJ out ++ wX q cI cJ (nI n) mk lt tg pa an la kn fb fh nb te wt bh) (fun r w1 => r = some (.int (nI 1)) ∧ ∃ wx : va_W, Rx wx ∧ w1 = wO o cJ out ++ wx) := by
  refine eg_ofWH (cc := cL_toReplay) (maxL := 4) (ret := (some .int)) (hh := [(0, 9, 12, 13)]) (by decide) rfl ?_
  intro p e s m args below meth c s₁ B hml htb hv
  obtain ⟨rfl, hP, hK, hD0, hT⟩ := hv
  have hx := B.exec
  have hb := B.bytes
  have hr := B.returns
  have hts := atoms_spec (ws := wsL_toReplay) B.pre
  have hown : s.vm.findClass RL = some m.cls := findClass_of_methodNamed B.named
  have hlocks := B.notSynchronized
  have hD := eg_D_of hD0
  have hS : va_S (eg_A (wO o cJ out ++ wX q cI cJ (nI n) mk lt tg pa an la kn fb fh nb te wt bh)) s.heap s.heap [] := va_S.rf
  have hl := lv_entry ([.ref (q 0), .int x0, .ref o]) (n := 4) (Nat.le_of_ble_eq_true rfl)
  rw [lg_entry_eq]
  generalize (lg_sl ([.ref (q 0), .int x0, .ref o]) ++ List.replicate (4 - (lg_sl ([.ref (q 0), .int x0, .ref o])).length) Slot.unset).toArray = ls at hl ⊢
  have hl : lv_has ls 4 [(0, .ref (q 0)), (1, .int x0), (2, .ref o)] := hl
  generalize h0H : s.heap = H at hP ⊢
  have hS : va_S (eg_A (wO o cJ out ++ wX q cI cJ (nI n) mk lt tg pa an la kn fb fh nb te wt bh)) s.heap H [] := by rw [← h0H]; exact hS
  generalize ([] : List Loc) = locs at hS ⊢
  refine lv_aload_n hx hb dL_toReplay_0 rfl (lv_at hl 2 rfl) ?_
  refine lv_iconst (v := nI 0) hx hb dL_toReplay_1 (by decide +kernel) ?_
  refine lv_aload_n hx hb dL_toReplay_2 rfl (lv_at hl 0 rfl) ?_
  refine lv_iload_n hx hb dL_toReplay_3 rfl (lv_at hl 1 rfl) ?_
  refine eg_callX (wr := wO o cJ out) (As := [.int x0]) (rest := [.int (nI 0), .ref o]) hx hb hml hown hts hK hP hD hS hT [1, 2, 3, 4, 5, 6, 7, 8, 9, 10, 11, 12, 13] [0] rfl rfl (by decide) hM (cwV 1 hts gL_toReplay_X0_toReplay rfl hrm.1 hrm.2.1 (by decide +kernel) ⟨hrm.2.2.1, hrm.2.2.2⟩) (va_recv hK hP (ci := 0) (q0 := 1) rfl rfl) rfl hl.1 rfl (Nat.le_of_ble_eq_true rfl) dL_toReplay_4 ⟨Nat.le_of_ble_eq_true rfl, Nat.le_of_ble_eq_true rfl⟩ (fun w9 H locs q9 ce hR9 hw9 hP hD hS hc1 hc2 hc3 => ?_)
  refine vx_catch (own := RL) (name := "java/lang/IndexOutOfBoundsException") hown [] ⟨0, 9, 12, 13⟩ [] (htb.trans rfl) (fun z hz => absurd hz List.not_mem_nil) (by decide) (by decide) (hts (.classLink RL 13 "java/lang/IndexOutOfBoundsException") (by decide +kernel)) (va_Nw.use rfl hT.1.2.2.2.2.1) hc1 hc2 hc3 ?_
  refine lv_astore_n (lv' := [(3, .ref q9), (0, .ref (q 0)), (1, .int x0), (2, .ref o)]) hx hb dL_toReplay_12 rfl hl (by decide) rfl (fun ls hl => ?_)
  refine lv_iconst (v := nI 1) hx hb dL_toReplay_13 (by decide +kernel) ?_
  exact W.iret hx hb hr (fun t9 ht9 _ => ⟨some (.int (nI 1)), _, rfl, ⟨rfl, w9, hR9, rfl⟩, by rw [List.map_append, List.map_append, hw9], by rw [ht9]; exact hP, hS.F ht9⟩) hS.2.2 dL_toReplay_14
set_option maxHeartbeats 4000000 in
set_option maxRecDepth 100000 in
theorem wl_runs (l : Launch) (D : va_G) (cI cJ : ClassId) (q : Nat → Nat) (n : Nat) (mk lt tg : Nat → Int32) (pa an la kn : Nat → Int64) (fb : Int32) (fh nb te wt bh : Nat → Int32) (o : Nat) (out : Nat → Int64) (x0 : Int32) {rm : Room} (hrm : rm.cells = 0 ∧ rm.slots = 0 ∧ rm.frames + 1 ≤ 9 ∧ 8 + (6 + 11) + rm.locals ≤ 150) {Rq : Option Value → va_W → Prop} (hM : eg_MW D (tyL cI cJ) l yX0_runs wsX0_runs rm 0 0 [.ref (q 0), .int x0] (wX q cI cJ (nI n) mk lt tg pa an la kn fb fh nb te wt bh) Rq) (hRq : ∀ v w1, Rq v w1 → ∃ x : Int32, v = some (.int x)) : eg_ML D (tyL cI cJ) l yL_runs wsL_runs rmL [.ref (q 0), .int x0, .ref o] (wO o cJ out ++ wX q cI cJ (nI n) mk lt tg pa an la kn fb fh nb te wt bh) (fun r w1 => r = some (.int (nI 0)) ∧ ∃ (x : Int32) (wx : va_W), Rq (some (.int x)) wx ∧ w1 = wO o cJ (vp_updL out 0 (x.toInt64)) ++ wx) := by
  refine eg_ofWH (cc := cL_runs) (maxL := 4) (ret := (some .int)) (hh := [(0, 9, 12, 13)]) (by decide) rfl ?_
  intro p e s m args below meth c s₁ B hml htb hv
  obtain ⟨rfl, hP, hK, hD0, hT⟩ := hv
  have hx := B.exec
  have hb := B.bytes
  have hr := B.returns
  have hts := atoms_spec (ws := wsL_runs) B.pre
  have hown : s.vm.findClass RL = some m.cls := findClass_of_methodNamed B.named
  have hlocks := B.notSynchronized
  have hD := eg_D_of hD0
  have hS : va_S (eg_A (wO o cJ out ++ wX q cI cJ (nI n) mk lt tg pa an la kn fb fh nb te wt bh)) s.heap s.heap [] := va_S.rf
  have hl := lv_entry ([.ref (q 0), .int x0, .ref o]) (n := 4) (Nat.le_of_ble_eq_true rfl)
  rw [lg_entry_eq]
  generalize (lg_sl ([.ref (q 0), .int x0, .ref o]) ++ List.replicate (4 - (lg_sl ([.ref (q 0), .int x0, .ref o])).length) Slot.unset).toArray = ls at hl ⊢
  have hl : lv_has ls 4 [(0, .ref (q 0)), (1, .int x0), (2, .ref o)] := hl
  generalize h0H : s.heap = H at hP ⊢
  have hS : va_S (eg_A (wO o cJ out ++ wX q cI cJ (nI n) mk lt tg pa an la kn fb fh nb te wt bh)) s.heap H [] := by rw [← h0H]; exact hS
  generalize ([] : List Loc) = locs at hS ⊢
  refine lv_aload_n hx hb dL_runs_0 rfl (lv_at hl 2 rfl) ?_
  refine lv_iconst (v := nI 0) hx hb dL_runs_1 (by decide +kernel) ?_
  refine lv_aload_n hx hb dL_runs_2 rfl (lv_at hl 0 rfl) ?_
  refine lv_iload_n hx hb dL_runs_3 rfl (lv_at hl 1 rfl) ?_
  refine eg_callWVc (wr := wO o cJ out) (As := [.int x0]) (rest := [.int (nI 0), .ref o]) hx hb hml hown hts hK hP hD hS [1, 2, 3, 4, 5, 6, 7, 8, 9, 10, 11, 12, 13] [0] rfl rfl (by decide) hM (cwV 1 hts gL_runs_X0_runs rfl hrm.1 hrm.2.1 (by decide +kernel) ⟨hrm.2.2.1, hrm.2.2.2⟩) (va_recv hK hP (ci := 0) (q0 := 1) rfl rfl) rfl hl.1 rfl (Nat.le_of_ble_eq_true rfl) dL_runs_4 ⟨Nat.le_of_ble_eq_true rfl, Nat.le_of_ble_eq_true rfl⟩ (fun v9 w9 H locs hR9 hw9 hP hD hS => ?_)
  obtain ⟨x, rfl⟩ := hRq _ _ hR9
  refine lv_i2l (v := x.toInt64) hx hb dL_runs_7 rfl ?_
  refine eg_last hx hb hK hP hD rfl hS 0 1 rfl rfl (by decide) (by decide) dL_runs_8 (w' := wO o cJ (vp_updL out 0 (x.toInt64)) ++ w9) rfl (fun H locs hP hS => ?_)
  refine lv_goto (tgt := 15) hx hb dL_runs_9 (by decide) ?_
  refine lv_iconst (v := nI 0) hx hb dL_runs_15 (by decide +kernel) ?_
  refine W.widen (k := 1) (n := 6) (by omega) (by omega) ?_
  exact W.iret hx hb hr (fun t9 ht9 _ => ⟨some (.int (nI 0)), _, rfl, ⟨rfl, x, w9, hR9, rfl⟩, by rw [List.map_append, List.map_append, hw9]; rfl, by rw [ht9]; exact hP, hS.F ht9⟩) hS.2.2 dL_runs_16
set_option maxHeartbeats 4000000 in
set_option maxRecDepth 100000 in
theorem wl_runs_b (l : Launch) (D : va_G) (cI cJ : ClassId) (q : Nat → Nat) (n : Nat) (mk lt tg : Nat → Int32) (pa an la kn : Nat → Int64) (fb : Int32) (fh nb te wt bh : Nat → Int32) (o : Nat) (out : Nat → Int64) (x0 : Int32) {rm : Room} (hrm : rm.cells = 1 ∧ rm.slots = 6 ∧ rm.frames + 1 ≤ 9 ∧ 8 + (6 + 11) + rm.locals ≤ 150) {Rx : va_W → Prop} (hM : eg_MX D (tyL cI cJ) l yX0_runs wsX0_runs rm [.ref (q 0), .int x0] (wX q cI cJ (nI n) mk lt tg pa an la kn fb fh nb te wt bh) "java/lang/IndexOutOfBoundsException" Rx) : eg_ML D (tyL cI cJ) l yL_runs wsL_runs rmL [.ref (q 0), .int x0, .ref o] (wO o cJ out ++ wX q cI cJ (nI n) mk lt tg pa an la kn fb fh nb te wt bh) (fun r w1 => r = some (.int (nI 1)) ∧ ∃ wx : va_W, Rx wx ∧ w1 = wO o cJ out ++ wx) := by
  refine eg_ofWH (cc := cL_runs) (maxL := 4) (ret := (some .int)) (hh := [(0, 9, 12, 13)]) (by decide) rfl ?_
  intro p e s m args below meth c s₁ B hml htb hv
  obtain ⟨rfl, hP, hK, hD0, hT⟩ := hv
  have hx := B.exec
  have hb := B.bytes
  have hr := B.returns
  have hts := atoms_spec (ws := wsL_runs) B.pre
  have hown : s.vm.findClass RL = some m.cls := findClass_of_methodNamed B.named
  have hlocks := B.notSynchronized
  have hD := eg_D_of hD0
  have hS : va_S (eg_A (wO o cJ out ++ wX q cI cJ (nI n) mk lt tg pa an la kn fb fh nb te wt bh)) s.heap s.heap [] := va_S.rf
  have hl := lv_entry ([.ref (q 0), .int x0, .ref o]) (n := 4) (Nat.le_of_ble_eq_true rfl)
  rw [lg_entry_eq]
  generalize (lg_sl ([.ref (q 0), .int x0, .ref o]) ++ List.replicate (4 - (lg_sl ([.ref (q 0), .int x0, .ref o])).length) Slot.unset).toArray = ls at hl ⊢
  have hl : lv_has ls 4 [(0, .ref (q 0)), (1, .int x0), (2, .ref o)] := hl
  generalize h0H : s.heap = H at hP ⊢
  have hS : va_S (eg_A (wO o cJ out ++ wX q cI cJ (nI n) mk lt tg pa an la kn fb fh nb te wt bh)) s.heap H [] := by rw [← h0H]; exact hS
  generalize ([] : List Loc) = locs at hS ⊢
  refine lv_aload_n hx hb dL_runs_0 rfl (lv_at hl 2 rfl) ?_
  refine lv_iconst (v := nI 0) hx hb dL_runs_1 (by decide +kernel) ?_
  refine lv_aload_n hx hb dL_runs_2 rfl (lv_at hl 0 rfl) ?_
  refine lv_iload_n hx hb dL_runs_3 rfl (lv_at hl 1 rfl) ?_
  refine eg_callX (wr := wO o cJ out) (As := [.int x0]) (rest := [.int (nI 0), .ref o]) hx hb hml hown hts hK hP hD hS hT [1, 2, 3, 4, 5, 6, 7, 8, 9, 10, 11, 12, 13] [0] rfl rfl (by decide) hM (cwV 1 hts gL_runs_X0_runs rfl hrm.1 hrm.2.1 (by decide +kernel) ⟨hrm.2.2.1, hrm.2.2.2⟩) (va_recv hK hP (ci := 0) (q0 := 1) rfl rfl) rfl hl.1 rfl (Nat.le_of_ble_eq_true rfl) dL_runs_4 ⟨Nat.le_of_ble_eq_true rfl, Nat.le_of_ble_eq_true rfl⟩ (fun w9 H locs q9 ce hR9 hw9 hP hD hS hc1 hc2 hc3 => ?_)
  refine vx_catch (own := RL) (name := "java/lang/IndexOutOfBoundsException") hown [] ⟨0, 9, 12, 13⟩ [] (htb.trans rfl) (fun z hz => absurd hz List.not_mem_nil) (by decide) (by decide) (hts (.classLink RL 13 "java/lang/IndexOutOfBoundsException") (by decide +kernel)) (va_Nw.use rfl hT.1.2.2.2.2.1) hc1 hc2 hc3 ?_
  refine lv_astore_n (lv' := [(3, .ref q9), (0, .ref (q 0)), (1, .int x0), (2, .ref o)]) hx hb dL_runs_12 rfl hl (by decide) rfl (fun ls hl => ?_)
  refine lv_iconst (v := nI 1) hx hb dL_runs_13 (by decide +kernel) ?_
  exact W.iret hx hb hr (fun t9 ht9 _ => ⟨some (.int (nI 1)), _, rfl, ⟨rfl, w9, hR9, rfl⟩, by rw [List.map_append, List.map_append, hw9], by rw [ht9]; exact hP, hS.F ht9⟩) hS.2.2 dL_runs_14
