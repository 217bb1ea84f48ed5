-- the class's public calls that throw (by gen.py, specE.py)
set_option maxHeartbeats 4000000 in
set_option maxRecDepth 100000 in
theorem c_X0_insert_no1 (l : Launch) (D : va_G) (cI cJ : ClassId) (q : Nat → Nat) (n : Nat) (mk lt tg : Nat → Int32) (pa an la kn : Nat → Int64) (fb : Int32) (fh nb te wt bh : Nat → Int32) (x : Int32) (y : Int32) (c9 : Int32) (hbad : bad 4 x) (hfl : l.stackTraces = false) : eg_MX D (tyL cI cJ) l yX0_insert wsX0_insert ({ frames := 7, cells := 1, slots := 6, locals := 103 }) [.ref (q 0), .int x, .int y, .int c9] (wX q cI cJ (nI n) mk lt tg pa an la kn fb fh nb te wt bh) "java/lang/IndexOutOfBoundsException" (fun w1 => ∃ (te' wt' bh' : Nat → Int32), w1 = wX q cI cJ (nI n) mk lt tg pa an la kn fb fh nb te' wt' bh') := by
  refine vx_ofW (cc := cX0_insert) (maxL := 7) (ret := (some .int)) (by decide) rfl ?_
  intro p e s m args below meth c s₁ B hml htb hv
  obtain ⟨rfl, hP, hK, hD0, hT⟩ := hv
  have hx := B.exec
  have hb := B.bytes
  have hr := B.returns
  have hts := atoms_spec (ws := wsX0_insert) B.pre
  have hown : s.vm.findClass RX0 = some m.cls := findClass_of_methodNamed B.named
  have hlocks := B.notSynchronized
  have hD := eg_D_of hD0
  have hS : va_S (eg_A (wX q cI cJ (nI n) mk lt tg pa an la kn fb fh nb te wt bh)) s.heap s.heap [] := va_S.rf
  have hin : ∀ w ∈ u_ws RX0 TX0 14, w ∈ wsX0_insert := by decide +kernel
  have hl := lv_entry ([.ref (q 0), .int x, .int y, .int c9]) (n := 7) (Nat.le_of_ble_eq_true rfl)
  rw [lg_entry_eq]
  generalize (lg_sl ([.ref (q 0), .int x, .int y, .int c9]) ++ List.replicate (7 - (lg_sl ([.ref (q 0), .int x, .int y, .int c9])).length) Slot.unset).toArray = ls at hl ⊢
  have hl : lv_has ls 7 [(0, .ref (q 0)), (1, .int x), (2, .int y), (3, .int c9)] := hl
  generalize h0H : s.heap = H at hP ⊢
  have hS : va_S (eg_A (wX q cI cJ (nI n) mk lt tg pa an la kn fb fh nb te wt bh)) s.heap H [] := by rw [← h0H]; exact hS
  generalize ([] : List Loc) = locs at hS ⊢
  refine lv_aload_n hx hb dX0_insert_0 rfl (lv_at hl 0 rfl) ?_
  refine lv_iload_n hx hb dX0_insert_1 rfl (lv_at hl 1 rfl) ?_
  exact eg_callXout (As := [.int x]) (rest := []) hx hb hml hown hts hK hP hD rfl hS hT [0, 1, 2, 3, 4, 5, 6, 7, 8, 9, 10, 11, 12] rfl (by decide) (c_X0_checkAuthor_no l D cI cJ q n mk lt tg pa an la kn fb fh nb te wt bh x hbad hfl) (cwV 1 hts gX0_insert_X0_checkAuthor rfl rfl rfl (by decide +kernel) ⟨Nat.le_of_ble_eq_true rfl, Nat.le_of_ble_eq_true rfl⟩) (va_recv hK hP (ci := 0) (q0 := 0) rfl rfl) rfl hl.1 rfl (Nat.le_of_ble_eq_true rfl) dX0_insert_2 ⟨Nat.le_of_ble_eq_true rfl, Nat.le_of_ble_eq_true rfl⟩ htb hlocks (fun w1 h => ⟨_, _, _, h⟩)
set_option maxHeartbeats 4000000 in
set_option maxRecDepth 100000 in
theorem c_X0_delete_no1 (l : Launch) (D : va_G) (cI cJ : ClassId) (q : Nat → Nat) (n : Nat) (mk lt tg : Nat → Int32) (pa an la kn : Nat → Int64) (fb : Int32) (fh nb te wt bh : Nat → Int32) (x : Int32) (y : Int32) (hbad : bad 4 x) (hfl : l.stackTraces = false) : eg_MX D (tyL cI cJ) l yX0_delete wsX0_delete ({ frames := 7, cells := 1, slots := 6, locals := 103 }) [.ref (q 0), .int x, .int y] (wX q cI cJ (nI n) mk lt tg pa an la kn fb fh nb te wt bh) "java/lang/IndexOutOfBoundsException" (fun w1 => ∃ (te' wt' bh' : Nat → Int32), w1 = wX q cI cJ (nI n) mk lt tg pa an la kn fb fh nb te' wt' bh') := by
  refine vx_ofW (cc := cX0_delete) (maxL := 4) (ret := (some .int)) (by decide) rfl ?_
  intro p e s m args below meth c s₁ B hml htb hv
  obtain ⟨rfl, hP, hK, hD0, hT⟩ := hv
  have hx := B.exec
  have hb := B.bytes
  have hr := B.returns
  have hts := atoms_spec (ws := wsX0_delete) B.pre
  have hown : s.vm.findClass RX0 = some m.cls := findClass_of_methodNamed B.named
  have hlocks := B.notSynchronized
  have hD := eg_D_of hD0
  have hS : va_S (eg_A (wX q cI cJ (nI n) mk lt tg pa an la kn fb fh nb te wt bh)) s.heap s.heap [] := va_S.rf
  have hin : ∀ w ∈ u_ws RX0 TX0 14, w ∈ wsX0_delete := by decide +kernel
  have hl := lv_entry ([.ref (q 0), .int x, .int y]) (n := 4) (Nat.le_of_ble_eq_true rfl)
  rw [lg_entry_eq]
  generalize (lg_sl ([.ref (q 0), .int x, .int y]) ++ List.replicate (4 - (lg_sl ([.ref (q 0), .int x, .int y])).length) Slot.unset).toArray = ls at hl ⊢
  have hl : lv_has ls 4 [(0, .ref (q 0)), (1, .int x), (2, .int y)] := hl
  generalize h0H : s.heap = H at hP ⊢
  have hS : va_S (eg_A (wX q cI cJ (nI n) mk lt tg pa an la kn fb fh nb te wt bh)) s.heap H [] := by rw [← h0H]; exact hS
  generalize ([] : List Loc) = locs at hS ⊢
  refine lv_aload_n hx hb dX0_delete_0 rfl (lv_at hl 0 rfl) ?_
  refine lv_iload_n hx hb dX0_delete_1 rfl (lv_at hl 1 rfl) ?_
  exact eg_callXout (As := [.int x]) (rest := []) hx hb hml hown hts hK hP hD rfl hS hT [0, 1, 2, 3, 4, 5, 6, 7, 8, 9, 10, 11, 12] rfl (by decide) (c_X0_checkAuthor_no l D cI cJ q n mk lt tg pa an la kn fb fh nb te wt bh x hbad hfl) (cwV 1 hts gX0_delete_X0_checkAuthor rfl rfl rfl (by decide +kernel) ⟨Nat.le_of_ble_eq_true rfl, Nat.le_of_ble_eq_true rfl⟩) (va_recv hK hP (ci := 0) (q0 := 0) rfl rfl) rfl hl.1 rfl (Nat.le_of_ble_eq_true rfl) dX0_delete_2 ⟨Nat.le_of_ble_eq_true rfl, Nat.le_of_ble_eq_true rfl⟩ htb hlocks (fun w1 h => ⟨_, _, _, h⟩)
set_option maxHeartbeats 4000000 in
set_option maxRecDepth 100000 in
theorem c_X0_learn_no1 (l : Launch) (D : va_G) (cI cJ : ClassId) (q : Nat → Nat) (n : Nat) (mk lt tg : Nat → Int32) (pa an la kn : Nat → Int64) (fb : Int32) (fh nb te wt bh : Nat → Int32) (x : Int32) (y : Int32) (hbad : bad 4 x) (hfl : l.stackTraces = false) : eg_MX D (tyL cI cJ) l yX0_learn wsX0_learn ({ frames := 7, cells := 1, slots := 6, locals := 103 }) [.ref (q 0), .int x, .int y] (wX q cI cJ (nI n) mk lt tg pa an la kn fb fh nb te wt bh) "java/lang/IndexOutOfBoundsException" (fun w1 => ∃ (te' wt' bh' : Nat → Int32), w1 = wX q cI cJ (nI n) mk lt tg pa an la kn fb fh nb te' wt' bh') := by
  refine vx_ofW (cc := cX0_learn) (maxL := 3) (ret := (some .int)) (by decide) rfl ?_
  intro p e s m args below meth c s₁ B hml htb hv
  obtain ⟨rfl, hP, hK, hD0, hT⟩ := hv
  have hx := B.exec
  have hb := B.bytes
  have hr := B.returns
  have hts := atoms_spec (ws := wsX0_learn) B.pre
  have hown : s.vm.findClass RX0 = some m.cls := findClass_of_methodNamed B.named
  have hlocks := B.notSynchronized
  have hD := eg_D_of hD0
  have hS : va_S (eg_A (wX q cI cJ (nI n) mk lt tg pa an la kn fb fh nb te wt bh)) s.heap s.heap [] := va_S.rf
  have hin : ∀ w ∈ u_ws RX0 TX0 14, w ∈ wsX0_learn := by decide +kernel
  have hl := lv_entry ([.ref (q 0), .int x, .int y]) (n := 3) (Nat.le_of_ble_eq_true rfl)
  rw [lg_entry_eq]
  generalize (lg_sl ([.ref (q 0), .int x, .int y]) ++ List.replicate (3 - (lg_sl ([.ref (q 0), .int x, .int y])).length) Slot.unset).toArray = ls at hl ⊢
  have hl : lv_has ls 3 [(0, .ref (q 0)), (1, .int x), (2, .int y)] := hl
  generalize h0H : s.heap = H at hP ⊢
  have hS : va_S (eg_A (wX q cI cJ (nI n) mk lt tg pa an la kn fb fh nb te wt bh)) s.heap H [] := by rw [← h0H]; exact hS
  generalize ([] : List Loc) = locs at hS ⊢
  refine lv_aload_n hx hb dX0_learn_0 rfl (lv_at hl 0 rfl) ?_
  refine lv_iload_n hx hb dX0_learn_1 rfl (lv_at hl 1 rfl) ?_
  exact eg_callXout (As := [.int x]) (rest := []) hx hb hml hown hts hK hP hD rfl hS hT [0, 1, 2, 3, 4, 5, 6, 7, 8, 9, 10, 11, 12] rfl (by decide) (c_X0_checkAuthor_no l D cI cJ q n mk lt tg pa an la kn fb fh nb te wt bh x hbad hfl) (cwV 1 hts gX0_learn_X0_checkAuthor rfl rfl rfl (by decide +kernel) ⟨Nat.le_of_ble_eq_true rfl, Nat.le_of_ble_eq_true rfl⟩) (va_recv hK hP (ci := 0) (q0 := 0) rfl rfl) rfl hl.1 rfl (Nat.le_of_ble_eq_true rfl) dX0_learn_2 ⟨Nat.le_of_ble_eq_true rfl, Nat.le_of_ble_eq_true rfl⟩ htb hlocks (fun w1 h => ⟨_, _, _, h⟩)
set_option maxHeartbeats 4000000 in
set_option maxRecDepth 100000 in
theorem c_X0_learnEvent_no1 (l : Launch) (D : va_G) (cI cJ : ClassId) (q : Nat → Nat) (n : Nat) (mk lt tg : Nat → Int32) (pa an la kn : Nat → Int64) (fb : Int32) (fh nb te wt bh : Nat → Int32) (x : Int32) (y : Int32) (hbad : bad 4 x) (hfl : l.stackTraces = false) : eg_MX D (tyL cI cJ) l yX0_learnEvent wsX0_learnEvent ({ frames := 7, cells := 1, slots := 6, locals := 103 }) [.ref (q 0), .int x, .int y] (wX q cI cJ (nI n) mk lt tg pa an la kn fb fh nb te wt bh) "java/lang/IndexOutOfBoundsException" (fun w1 => ∃ (te' wt' bh' : Nat → Int32), w1 = wX q cI cJ (nI n) mk lt tg pa an la kn fb fh nb te' wt' bh') := by
  refine vx_ofW (cc := cX0_learnEvent) (maxL := 3) (ret := (some .int)) (by decide) rfl ?_
  intro p e s m args below meth c s₁ B hml htb hv
  obtain ⟨rfl, hP, hK, hD0, hT⟩ := hv
  have hx := B.exec
  have hb := B.bytes
  have hr := B.returns
  have hts := atoms_spec (ws := wsX0_learnEvent) B.pre
  have hown : s.vm.findClass RX0 = some m.cls := findClass_of_methodNamed B.named
  have hlocks := B.notSynchronized
  have hD := eg_D_of hD0
  have hS : va_S (eg_A (wX q cI cJ (nI n) mk lt tg pa an la kn fb fh nb te wt bh)) s.heap s.heap [] := va_S.rf
  have hl := lv_entry ([.ref (q 0), .int x, .int y]) (n := 3) (Nat.le_of_ble_eq_true rfl)
  rw [lg_entry_eq]
  generalize (lg_sl ([.ref (q 0), .int x, .int y]) ++ List.replicate (3 - (lg_sl ([.ref (q 0), .int x, .int y])).length) Slot.unset).toArray = ls at hl ⊢
  have hl : lv_has ls 3 [(0, .ref (q 0)), (1, .int x), (2, .int y)] := hl
  generalize h0H : s.heap = H at hP ⊢
  have hS : va_S (eg_A (wX q cI cJ (nI n) mk lt tg pa an la kn fb fh nb te wt bh)) s.heap H [] := by rw [← h0H]; exact hS
  generalize ([] : List Loc) = locs at hS ⊢
  refine lv_aload_n hx hb dX0_learnEvent_0 rfl (lv_at hl 0 rfl) ?_
  refine lv_iload_n hx hb dX0_learnEvent_1 rfl (lv_at hl 1 rfl) ?_
  exact eg_callXout (As := [.int x]) (rest := []) hx hb hml hown hts hK hP hD rfl hS hT [0, 1, 2, 3, 4, 5, 6, 7, 8, 9, 10, 11, 12] rfl (by decide) (c_X0_checkAuthor_no l D cI cJ q n mk lt tg pa an la kn fb fh nb te wt bh x hbad hfl) (cwV 1 hts gX0_learnEvent_X0_checkAuthor rfl rfl rfl (by decide +kernel) ⟨Nat.le_of_ble_eq_true rfl, Nat.le_of_ble_eq_true rfl⟩) (va_recv hK hP (ci := 0) (q0 := 0) rfl rfl) rfl hl.1 rfl (Nat.le_of_ble_eq_true rfl) dX0_learnEvent_2 ⟨Nat.le_of_ble_eq_true rfl, Nat.le_of_ble_eq_true rfl⟩ htb hlocks (fun w1 h => ⟨_, _, _, h⟩)
set_option maxHeartbeats 4000000 in
set_option maxRecDepth 100000 in
theorem c_X0_length_no1 (l : Launch) (D : va_G) (cI cJ : ClassId) (q : Nat → Nat) (n : Nat) (mk lt tg : Nat → Int32) (pa an la kn : Nat → Int64) (fb : Int32) (fh nb te wt bh : Nat → Int32) (x : Int32) (hbad : bad 4 x) (hfl : l.stackTraces = false) : eg_MX D (tyL cI cJ) l yX0_length wsX0_length ({ frames := 7, cells := 1, slots := 6, locals := 103 }) [.ref (q 0), .int x] (wX q cI cJ (nI n) mk lt tg pa an la kn fb fh nb te wt bh) "java/lang/IndexOutOfBoundsException" (fun w1 => ∃ (te' wt' bh' : Nat → Int32), w1 = wX q cI cJ (nI n) mk lt tg pa an la kn fb fh nb te' wt' bh') := by
  refine vx_ofW (cc := cX0_length) (maxL := 2) (ret := (some .int)) (by decide) rfl ?_
  intro p e s m args below meth c s₁ B hml htb hv
  obtain ⟨rfl, hP, hK, hD0, hT⟩ := hv
  have hx := B.exec
  have hb := B.bytes
  have hr := B.returns
  have hts := atoms_spec (ws := wsX0_length) B.pre
  have hown : s.vm.findClass RX0 = some m.cls := findClass_of_methodNamed B.named
  have hlocks := B.notSynchronized
  have hD := eg_D_of hD0
  have hS : va_S (eg_A (wX q cI cJ (nI n) mk lt tg pa an la kn fb fh nb te wt bh)) s.heap s.heap [] := va_S.rf
  have hin : ∀ w ∈ u_ws RX0 TX0 14, w ∈ wsX0_length := by decide +kernel
  have hl := lv_entry ([.ref (q 0), .int x]) (n := 2) (Nat.le_of_ble_eq_true rfl)
  rw [lg_entry_eq]
  generalize (lg_sl ([.ref (q 0), .int x]) ++ List.replicate (2 - (lg_sl ([.ref (q 0), .int x])).length) Slot.unset).toArray = ls at hl ⊢
  have hl : lv_has ls 2 [(0, .ref (q 0)), (1, .int x)] := hl
  generalize h0H : s.heap = H at hP ⊢
  have hS : va_S (eg_A (wX q cI cJ (nI n) mk lt tg pa an la kn fb fh nb te wt bh)) s.heap H [] := by rw [← h0H]; exact hS
  generalize ([] : List Loc) = locs at hS ⊢
  refine lv_aload_n hx hb dX0_length_0 rfl (lv_at hl 0 rfl) ?_
  refine lv_iload_n hx hb dX0_length_1 rfl (lv_at hl 1 rfl) ?_
  exact eg_callXout (As := [.int x]) (rest := []) hx hb hml hown hts hK hP hD rfl hS hT [0, 1, 2, 3, 4, 5, 6, 7, 8, 9, 10, 11, 12] rfl (by decide) (c_X0_checkAuthor_no l D cI cJ q n mk lt tg pa an la kn fb fh nb te wt bh x hbad hfl) (cwV 1 hts gX0_length_X0_checkAuthor rfl rfl rfl (by decide +kernel) ⟨Nat.le_of_ble_eq_true rfl, Nat.le_of_ble_eq_true rfl⟩) (va_recv hK hP (ci := 0) (q0 := 0) rfl rfl) rfl hl.1 rfl (Nat.le_of_ble_eq_true rfl) dX0_length_2 ⟨Nat.le_of_ble_eq_true rfl, Nat.le_of_ble_eq_true rfl⟩ htb hlocks (fun w1 h => ⟨_, _, _, h⟩)
set_option maxHeartbeats 4000000 in
set_option maxRecDepth 100000 in
theorem c_X0_letterAt_no1 (l : Launch) (D : va_G) (cI cJ : ClassId) (q : Nat → Nat) (n : Nat) (mk lt tg : Nat → Int32) (pa an la kn : Nat → Int64) (fb : Int32) (fh nb te wt bh : Nat → Int32) (x : Int32) (y : Int32) (hbad : bad 4 x) (hfl : l.stackTraces = false) : eg_MX D (tyL cI cJ) l yX0_letterAt wsX0_letterAt ({ frames := 7, cells := 1, slots := 6, locals := 103 }) [.ref (q 0), .int x, .int y] (wX q cI cJ (nI n) mk lt tg pa an la kn fb fh nb te wt bh) "java/lang/IndexOutOfBoundsException" (fun w1 => ∃ (te' wt' bh' : Nat → Int32), w1 = wX q cI cJ (nI n) mk lt tg pa an la kn fb fh nb te' wt' bh') := by
  refine vx_ofW (cc := cX0_letterAt) (maxL := 3) (ret := (some .int)) (by decide) rfl ?_
  intro p e s m args below meth c s₁ B hml htb hv
  obtain ⟨rfl, hP, hK, hD0, hT⟩ := hv
  have hx := B.exec
  have hb := B.bytes
  have hr := B.returns
  have hts := atoms_spec (ws := wsX0_letterAt) B.pre
  have hown : s.vm.findClass RX0 = some m.cls := findClass_of_methodNamed B.named
  have hlocks := B.notSynchronized
  have hD := eg_D_of hD0
  have hS : va_S (eg_A (wX q cI cJ (nI n) mk lt tg pa an la kn fb fh nb te wt bh)) s.heap s.heap [] := va_S.rf
  have hin : ∀ w ∈ u_ws RX0 TX0 14, w ∈ wsX0_letterAt := by decide +kernel
  have hl := lv_entry ([.ref (q 0), .int x, .int y]) (n := 3) (Nat.le_of_ble_eq_true rfl)
  rw [lg_entry_eq]
  generalize (lg_sl ([.ref (q 0), .int x, .int y]) ++ List.replicate (3 - (lg_sl ([.ref (q 0), .int x, .int y])).length) Slot.unset).toArray = ls at hl ⊢
  have hl : lv_has ls 3 [(0, .ref (q 0)), (1, .int x), (2, .int y)] := hl
  generalize h0H : s.heap = H at hP ⊢
  have hS : va_S (eg_A (wX q cI cJ (nI n) mk lt tg pa an la kn fb fh nb te wt bh)) s.heap H [] := by rw [← h0H]; exact hS
  generalize ([] : List Loc) = locs at hS ⊢
  refine lv_aload_n hx hb dX0_letterAt_0 rfl (lv_at hl 0 rfl) ?_
  refine lv_iload_n hx hb dX0_letterAt_1 rfl (lv_at hl 1 rfl) ?_
  exact eg_callXout (As := [.int x]) (rest := []) hx hb hml hown hts hK hP hD rfl hS hT [0, 1, 2, 3, 4, 5, 6, 7, 8, 9, 10, 11, 12] rfl (by decide) (c_X0_checkAuthor_no l D cI cJ q n mk lt tg pa an la kn fb fh nb te wt bh x hbad hfl) (cwV 1 hts gX0_letterAt_X0_checkAuthor rfl rfl rfl (by decide +kernel) ⟨Nat.le_of_ble_eq_true rfl, Nat.le_of_ble_eq_true rfl⟩) (va_recv hK hP (ci := 0) (q0 := 0) rfl rfl) rfl hl.1 rfl (Nat.le_of_ble_eq_true rfl) dX0_letterAt_2 ⟨Nat.le_of_ble_eq_true rfl, Nat.le_of_ble_eq_true rfl⟩ htb hlocks (fun w1 h => ⟨_, _, _, h⟩)
set_option maxHeartbeats 4000000 in
set_option maxRecDepth 100000 in
theorem c_X0_letterByList_no1 (l : Launch) (D : va_G) (cI cJ : ClassId) (q : Nat → Nat) (n : Nat) (mk lt tg : Nat → Int32) (pa an la kn : Nat → Int64) (fb : Int32) (fh nb te wt bh : Nat → Int32) (x : Int32) (y : Int32) (hbad : bad 4 x) (hfl : l.stackTraces = false) : eg_MX D (tyL cI cJ) l yX0_letterByList wsX0_letterByList ({ frames := 7, cells := 1, slots := 6, locals := 103 }) [.ref (q 0), .int x, .int y] (wX q cI cJ (nI n) mk lt tg pa an la kn fb fh nb te wt bh) "java/lang/IndexOutOfBoundsException" (fun w1 => ∃ (te' wt' bh' : Nat → Int32), w1 = wX q cI cJ (nI n) mk lt tg pa an la kn fb fh nb te' wt' bh') := by
  refine vx_ofW (cc := cX0_letterByList) (maxL := 4) (ret := (some .int)) (by decide) rfl ?_
  intro p e s m args below meth c s₁ B hml htb hv
  obtain ⟨rfl, hP, hK, hD0, hT⟩ := hv
  have hx := B.exec
  have hb := B.bytes
  have hr := B.returns
  have hts := atoms_spec (ws := wsX0_letterByList) B.pre
  have hown : s.vm.findClass RX0 = some m.cls := findClass_of_methodNamed B.named
  have hlocks := B.notSynchronized
  have hD := eg_D_of hD0
  have hS : va_S (eg_A (wX q cI cJ (nI n) mk lt tg pa an la kn fb fh nb te wt bh)) s.heap s.heap [] := va_S.rf
  have hin : ∀ w ∈ u_ws RX0 TX0 14, w ∈ wsX0_letterByList := by decide +kernel
  have hl := lv_entry ([.ref (q 0), .int x, .int y]) (n := 4) (Nat.le_of_ble_eq_true rfl)
  rw [lg_entry_eq]
  generalize (lg_sl ([.ref (q 0), .int x, .int y]) ++ List.replicate (4 - (lg_sl ([.ref (q 0), .int x, .int y])).length) Slot.unset).toArray = ls at hl ⊢
  have hl : lv_has ls 4 [(0, .ref (q 0)), (1, .int x), (2, .int y)] := hl
  generalize h0H : s.heap = H at hP ⊢
  have hS : va_S (eg_A (wX q cI cJ (nI n) mk lt tg pa an la kn fb fh nb te wt bh)) s.heap H [] := by rw [← h0H]; exact hS
  generalize ([] : List Loc) = locs at hS ⊢
  refine lv_aload_n hx hb dX0_letterByList_0 rfl (lv_at hl 0 rfl) ?_
  refine lv_iload_n hx hb dX0_letterByList_1 rfl (lv_at hl 1 rfl) ?_
  exact eg_callXout (As := [.int x]) (rest := []) hx hb hml hown hts hK hP hD rfl hS hT [0, 1, 2, 3, 4, 5, 6, 7, 8, 9, 10, 11, 12] rfl (by decide) (c_X0_checkAuthor_no l D cI cJ q n mk lt tg pa an la kn fb fh nb te wt bh x hbad hfl) (cwV 1 hts gX0_letterByList_X0_checkAuthor rfl rfl rfl (by decide +kernel) ⟨Nat.le_of_ble_eq_true rfl, Nat.le_of_ble_eq_true rfl⟩) (va_recv hK hP (ci := 0) (q0 := 0) rfl rfl) rfl hl.1 rfl (Nat.le_of_ble_eq_true rfl) dX0_letterByList_2 ⟨Nat.le_of_ble_eq_true rfl, Nat.le_of_ble_eq_true rfl⟩ htb hlocks (fun w1 h => ⟨_, _, _, h⟩)
set_option maxHeartbeats 4000000 in
set_option maxRecDepth 100000 in
theorem c_X0_eventAt_no1 (l : Launch) (D : va_G) (cI cJ : ClassId) (q : Nat → Nat) (n : Nat) (mk lt tg : Nat → Int32) (pa an la kn : Nat → Int64) (fb : Int32) (fh nb te wt bh : Nat → Int32) (x : Int32) (y : Int32) (hbad : bad 4 x) (hfl : l.stackTraces = false) : eg_MX D (tyL cI cJ) l yX0_eventAt wsX0_eventAt ({ frames := 7, cells := 1, slots := 6, locals := 103 }) [.ref (q 0), .int x, .int y] (wX q cI cJ (nI n) mk lt tg pa an la kn fb fh nb te wt bh) "java/lang/IndexOutOfBoundsException" (fun w1 => ∃ (te' wt' bh' : Nat → Int32), w1 = wX q cI cJ (nI n) mk lt tg pa an la kn fb fh nb te' wt' bh') := by
  refine vx_ofW (cc := cX0_eventAt) (maxL := 3) (ret := (some .int)) (by decide) rfl ?_
  intro p e s m args below meth c s₁ B hml htb hv
  obtain ⟨rfl, hP, hK, hD0, hT⟩ := hv
  have hx := B.exec
  have hb := B.bytes
  have hr := B.returns
  have hts := atoms_spec (ws := wsX0_eventAt) B.pre
  have hown : s.vm.findClass RX0 = some m.cls := findClass_of_methodNamed B.named
  have hlocks := B.notSynchronized
  have hD := eg_D_of hD0
  have hS : va_S (eg_A (wX q cI cJ (nI n) mk lt tg pa an la kn fb fh nb te wt bh)) s.heap s.heap [] := va_S.rf
  have hin : ∀ w ∈ u_ws RX0 TX0 14, w ∈ wsX0_eventAt := by decide +kernel
  have hl := lv_entry ([.ref (q 0), .int x, .int y]) (n := 3) (Nat.le_of_ble_eq_true rfl)
  rw [lg_entry_eq]
  generalize (lg_sl ([.ref (q 0), .int x, .int y]) ++ List.replicate (3 - (lg_sl ([.ref (q 0), .int x, .int y])).length) Slot.unset).toArray = ls at hl ⊢
  have hl : lv_has ls 3 [(0, .ref (q 0)), (1, .int x), (2, .int y)] := hl
  generalize h0H : s.heap = H at hP ⊢
  have hS : va_S (eg_A (wX q cI cJ (nI n) mk lt tg pa an la kn fb fh nb te wt bh)) s.heap H [] := by rw [← h0H]; exact hS
  generalize ([] : List Loc) = locs at hS ⊢
  refine lv_aload_n hx hb dX0_eventAt_0 rfl (lv_at hl 0 rfl) ?_
  refine lv_iload_n hx hb dX0_eventAt_1 rfl (lv_at hl 1 rfl) ?_
  exact eg_callXout (As := [.int x]) (rest := []) hx hb hml hown hts hK hP hD rfl hS hT [0, 1, 2, 3, 4, 5, 6, 7, 8, 9, 10, 11, 12] rfl (by decide) (c_X0_checkAuthor_no l D cI cJ q n mk lt tg pa an la kn fb fh nb te wt bh x hbad hfl) (cwV 1 hts gX0_eventAt_X0_checkAuthor rfl rfl rfl (by decide +kernel) ⟨Nat.le_of_ble_eq_true rfl, Nat.le_of_ble_eq_true rfl⟩) (va_recv hK hP (ci := 0) (q0 := 0) rfl rfl) rfl hl.1 rfl (Nat.le_of_ble_eq_true rfl) dX0_eventAt_2 ⟨Nat.le_of_ble_eq_true rfl, Nat.le_of_ble_eq_true rfl⟩ htb hlocks (fun w1 h => ⟨_, _, _, h⟩)
set_option maxHeartbeats 4000000 in
set_option maxRecDepth 100000 in
theorem c_X0_lettersBy_no1 (l : Launch) (D : va_G) (cI cJ : ClassId) (q : Nat → Nat) (n : Nat) (mk lt tg : Nat → Int32) (pa an la kn : Nat → Int64) (fb : Int32) (fh nb te wt bh : Nat → Int32) (x : Int32) (y : Int32) (hbad : bad 4 x) (hfl : l.stackTraces = false) : eg_MX D (tyL cI cJ) l yX0_lettersBy wsX0_lettersBy ({ frames := 7, cells := 1, slots := 6, locals := 103 }) [.ref (q 0), .int x, .int y] (wX q cI cJ (nI n) mk lt tg pa an la kn fb fh nb te wt bh) "java/lang/IndexOutOfBoundsException" (fun w1 => ∃ (te' wt' bh' : Nat → Int32), w1 = wX q cI cJ (nI n) mk lt tg pa an la kn fb fh nb te' wt' bh') := by
  refine vx_ofW (cc := cX0_lettersBy) (maxL := 6) (ret := (some .int)) (by decide) rfl ?_
  intro p e s m args below meth c s₁ B hml htb hv
  obtain ⟨rfl, hP, hK, hD0, hT⟩ := hv
  have hx := B.exec
  have hb := B.bytes
  have hr := B.returns
  have hts := atoms_spec (ws := wsX0_lettersBy) B.pre
  have hown : s.vm.findClass RX0 = some m.cls := findClass_of_methodNamed B.named
  have hlocks := B.notSynchronized
  have hD := eg_D_of hD0
  have hS : va_S (eg_A (wX q cI cJ (nI n) mk lt tg pa an la kn fb fh nb te wt bh)) s.heap s.heap [] := va_S.rf
  have hin : ∀ w ∈ u_ws RX0 TX0 14, w ∈ wsX0_lettersBy := by decide +kernel
  have hl := lv_entry ([.ref (q 0), .int x, .int y]) (n := 6) (Nat.le_of_ble_eq_true rfl)
  rw [lg_entry_eq]
  generalize (lg_sl ([.ref (q 0), .int x, .int y]) ++ List.replicate (6 - (lg_sl ([.ref (q 0), .int x, .int y])).length) Slot.unset).toArray = ls at hl ⊢
  have hl : lv_has ls 6 [(0, .ref (q 0)), (1, .int x), (2, .int y)] := hl
  generalize h0H : s.heap = H at hP ⊢
  have hS : va_S (eg_A (wX q cI cJ (nI n) mk lt tg pa an la kn fb fh nb te wt bh)) s.heap H [] := by rw [← h0H]; exact hS
  generalize ([] : List Loc) = locs at hS ⊢
  refine lv_aload_n hx hb dX0_lettersBy_0 rfl (lv_at hl 0 rfl) ?_
  refine lv_iload_n hx hb dX0_lettersBy_1 rfl (lv_at hl 1 rfl) ?_
  exact eg_callXout (As := [.int x]) (rest := []) hx hb hml hown hts hK hP hD rfl hS hT [0, 1, 2, 3, 4, 5, 6, 7, 8, 9, 10, 11, 12] rfl (by decide) (c_X0_checkAuthor_no l D cI cJ q n mk lt tg pa an la kn fb fh nb te wt bh x hbad hfl) (cwV 1 hts gX0_lettersBy_X0_checkAuthor rfl rfl rfl (by decide +kernel) ⟨Nat.le_of_ble_eq_true rfl, Nat.le_of_ble_eq_true rfl⟩) (va_recv hK hP (ci := 0) (q0 := 0) rfl rfl) rfl hl.1 rfl (Nat.le_of_ble_eq_true rfl) dX0_lettersBy_2 ⟨Nat.le_of_ble_eq_true rfl, Nat.le_of_ble_eq_true rfl⟩ htb hlocks (fun w1 h => ⟨_, _, _, h⟩)
set_option maxHeartbeats 4000000 in
set_option maxRecDepth 100000 in
theorem c_X0_version_no1 (l : Launch) (D : va_G) (cI cJ : ClassId) (q : Nat → Nat) (n : Nat) (mk lt tg : Nat → Int32) (pa an la kn : Nat → Int64) (fb : Int32) (fh nb te wt bh : Nat → Int32) (x : Int32) (hbad : bad 4 x) (hfl : l.stackTraces = false) : eg_MX D (tyL cI cJ) l yX0_version wsX0_version ({ frames := 7, cells := 1, slots := 6, locals := 103 }) [.ref (q 0), .int x] (wX q cI cJ (nI n) mk lt tg pa an la kn fb fh nb te wt bh) "java/lang/IndexOutOfBoundsException" (fun w1 => ∃ (te' wt' bh' : Nat → Int32), w1 = wX q cI cJ (nI n) mk lt tg pa an la kn fb fh nb te' wt' bh') := by
  refine vx_ofW (cc := cX0_version) (maxL := 2) (ret := (some .long)) (by decide) rfl ?_
  intro p e s m args below meth c s₁ B hml htb hv
  obtain ⟨rfl, hP, hK, hD0, hT⟩ := hv
  have hx := B.exec
  have hb := B.bytes
  have hr := B.returns
  have hts := atoms_spec (ws := wsX0_version) B.pre
  have hown : s.vm.findClass RX0 = some m.cls := findClass_of_methodNamed B.named
  have hlocks := B.notSynchronized
  have hD := eg_D_of hD0
  have hS : va_S (eg_A (wX q cI cJ (nI n) mk lt tg pa an la kn fb fh nb te wt bh)) s.heap s.heap [] := va_S.rf
  have hin : ∀ w ∈ u_ws RX0 TX0 14, w ∈ wsX0_version := by decide +kernel
  have hl := lv_entry ([.ref (q 0), .int x]) (n := 2) (Nat.le_of_ble_eq_true rfl)
  rw [lg_entry_eq]
  generalize (lg_sl ([.ref (q 0), .int x]) ++ List.replicate (2 - (lg_sl ([.ref (q 0), .int x])).length) Slot.unset).toArray = ls at hl ⊢
  have hl : lv_has ls 2 [(0, .ref (q 0)), (1, .int x)] := hl
  generalize h0H : s.heap = H at hP ⊢
  have hS : va_S (eg_A (wX q cI cJ (nI n) mk lt tg pa an la kn fb fh nb te wt bh)) s.heap H [] := by rw [← h0H]; exact hS
  generalize ([] : List Loc) = locs at hS ⊢
  refine lv_aload_n hx hb dX0_version_0 rfl (lv_at hl 0 rfl) ?_
  refine lv_iload_n hx hb dX0_version_1 rfl (lv_at hl 1 rfl) ?_
  exact eg_callXout (As := [.int x]) (rest := []) hx hb hml hown hts hK hP hD rfl hS hT [0, 1, 2, 3, 4, 5, 6, 7, 8, 9, 10, 11, 12] rfl (by decide) (c_X0_checkAuthor_no l D cI cJ q n mk lt tg pa an la kn fb fh nb te wt bh x hbad hfl) (cwV 1 hts gX0_version_X0_checkAuthor rfl rfl rfl (by decide +kernel) ⟨Nat.le_of_ble_eq_true rfl, Nat.le_of_ble_eq_true rfl⟩) (va_recv hK hP (ci := 0) (q0 := 0) rfl rfl) rfl hl.1 rfl (Nat.le_of_ble_eq_true rfl) dX0_version_2 ⟨Nat.le_of_ble_eq_true rfl, Nat.le_of_ble_eq_true rfl⟩ htb hlocks (fun w1 h => ⟨_, _, _, h⟩)
set_option maxHeartbeats 4000000 in
set_option maxRecDepth 100000 in
theorem c_X0_heads_no1 (l : Launch) (D : va_G) (cI cJ : ClassId) (q : Nat → Nat) (n : Nat) (mk lt tg : Nat → Int32) (pa an la kn : Nat → Int64) (fb : Int32) (fh nb te wt bh : Nat → Int32) (x : Int32) (hbad : bad 4 x) (hfl : l.stackTraces = false) : eg_MX D (tyL cI cJ) l yX0_heads wsX0_heads ({ frames := 7, cells := 1, slots := 6, locals := 103 }) [.ref (q 0), .int x] (wX q cI cJ (nI n) mk lt tg pa an la kn fb fh nb te wt bh) "java/lang/IndexOutOfBoundsException" (fun w1 => ∃ (te' wt' bh' : Nat → Int32), w1 = wX q cI cJ (nI n) mk lt tg pa an la kn fb fh nb te' wt' bh') := by
  refine vx_ofW (cc := cX0_heads) (maxL := 2) (ret := (some .long)) (by decide) rfl ?_
  intro p e s m args below meth c s₁ B hml htb hv
  obtain ⟨rfl, hP, hK, hD0, hT⟩ := hv
  have hx := B.exec
  have hb := B.bytes
  have hr := B.returns
  have hts := atoms_spec (ws := wsX0_heads) B.pre
  have hown : s.vm.findClass RX0 = some m.cls := findClass_of_methodNamed B.named
  have hlocks := B.notSynchronized
  have hD := eg_D_of hD0
  have hS : va_S (eg_A (wX q cI cJ (nI n) mk lt tg pa an la kn fb fh nb te wt bh)) s.heap s.heap [] := va_S.rf
  have hin : ∀ w ∈ u_ws RX0 TX0 14, w ∈ wsX0_heads := by decide +kernel
  have hl := lv_entry ([.ref (q 0), .int x]) (n := 2) (Nat.le_of_ble_eq_true rfl)
  rw [lg_entry_eq]
  generalize (lg_sl ([.ref (q 0), .int x]) ++ List.replicate (2 - (lg_sl ([.ref (q 0), .int x])).length) Slot.unset).toArray = ls at hl ⊢
  have hl : lv_has ls 2 [(0, .ref (q 0)), (1, .int x)] := hl
  generalize h0H : s.heap = H at hP ⊢
  have hS : va_S (eg_A (wX q cI cJ (nI n) mk lt tg pa an la kn fb fh nb te wt bh)) s.heap H [] := by rw [← h0H]; exact hS
  generalize ([] : List Loc) = locs at hS ⊢
  refine lv_aload_n hx hb dX0_heads_0 rfl (lv_at hl 0 rfl) ?_
  refine lv_iload_n hx hb dX0_heads_1 rfl (lv_at hl 1 rfl) ?_
  exact eg_callXout (As := [.int x]) (rest := []) hx hb hml hown hts hK hP hD rfl hS hT [0, 1, 2, 3, 4, 5, 6, 7, 8, 9, 10, 11, 12] rfl (by decide) (c_X0_checkAuthor_no l D cI cJ q n mk lt tg pa an la kn fb fh nb te wt bh x hbad hfl) (cwV 1 hts gX0_heads_X0_checkAuthor rfl rfl rfl (by decide +kernel) ⟨Nat.le_of_ble_eq_true rfl, Nat.le_of_ble_eq_true rfl⟩) (va_recv hK hP (ci := 0) (q0 := 0) rfl rfl) rfl hl.1 rfl (Nat.le_of_ble_eq_true rfl) dX0_heads_2 ⟨Nat.le_of_ble_eq_true rfl, Nat.le_of_ble_eq_true rfl⟩ htb hlocks (fun w1 h => ⟨_, _, _, h⟩)
set_option maxHeartbeats 4000000 in
set_option maxRecDepth 100000 in
theorem c_X0_commonHeads_no1 (l : Launch) (D : va_G) (cI cJ : ClassId) (q : Nat → Nat) (n : Nat) (mk lt tg : Nat → Int32) (pa an la kn : Nat → Int64) (fb : Int32) (fh nb te wt bh : Nat → Int32) (x : Int32) (y : Int32) (hbad : bad 4 x) (hfl : l.stackTraces = false) : eg_MX D (tyL cI cJ) l yX0_commonHeads wsX0_commonHeads ({ frames := 7, cells := 1, slots := 6, locals := 103 }) [.ref (q 0), .int x, .int y] (wX q cI cJ (nI n) mk lt tg pa an la kn fb fh nb te wt bh) "java/lang/IndexOutOfBoundsException" (fun w1 => ∃ (te' wt' bh' : Nat → Int32), w1 = wX q cI cJ (nI n) mk lt tg pa an la kn fb fh nb te' wt' bh') := by
  refine vx_ofW (cc := cX0_commonHeads) (maxL := 3) (ret := (some .long)) (by decide) rfl ?_
  intro p e s m args below meth c s₁ B hml htb hv
  obtain ⟨rfl, hP, hK, hD0, hT⟩ := hv
  have hx := B.exec
  have hb := B.bytes
  have hr := B.returns
  have hts := atoms_spec (ws := wsX0_commonHeads) B.pre
  have hown : s.vm.findClass RX0 = some m.cls := findClass_of_methodNamed B.named
  have hlocks := B.notSynchronized
  have hD := eg_D_of hD0
  have hS : va_S (eg_A (wX q cI cJ (nI n) mk lt tg pa an la kn fb fh nb te wt bh)) s.heap s.heap [] := va_S.rf
  have hin : ∀ w ∈ u_ws RX0 TX0 14, w ∈ wsX0_commonHeads := by decide +kernel
  have hl := lv_entry ([.ref (q 0), .int x, .int y]) (n := 3) (Nat.le_of_ble_eq_true rfl)
  rw [lg_entry_eq]
  generalize (lg_sl ([.ref (q 0), .int x, .int y]) ++ List.replicate (3 - (lg_sl ([.ref (q 0), .int x, .int y])).length) Slot.unset).toArray = ls at hl ⊢
  have hl : lv_has ls 3 [(0, .ref (q 0)), (1, .int x), (2, .int y)] := hl
  generalize h0H : s.heap = H at hP ⊢
  have hS : va_S (eg_A (wX q cI cJ (nI n) mk lt tg pa an la kn fb fh nb te wt bh)) s.heap H [] := by rw [← h0H]; exact hS
  generalize ([] : List Loc) = locs at hS ⊢
  refine lv_aload_n hx hb dX0_commonHeads_0 rfl (lv_at hl 0 rfl) ?_
  refine lv_iload_n hx hb dX0_commonHeads_1 rfl (lv_at hl 1 rfl) ?_
  exact eg_callXout (As := [.int x]) (rest := []) hx hb hml hown hts hK hP hD rfl hS hT [0, 1, 2, 3, 4, 5, 6, 7, 8, 9, 10, 11, 12] rfl (by decide) (c_X0_checkAuthor_no l D cI cJ q n mk lt tg pa an la kn fb fh nb te wt bh x hbad hfl) (cwV 1 hts gX0_commonHeads_X0_checkAuthor rfl rfl rfl (by decide +kernel) ⟨Nat.le_of_ble_eq_true rfl, Nat.le_of_ble_eq_true rfl⟩) (va_recv hK hP (ci := 0) (q0 := 0) rfl rfl) rfl hl.1 rfl (Nat.le_of_ble_eq_true rfl) dX0_commonHeads_2 ⟨Nat.le_of_ble_eq_true rfl, Nat.le_of_ble_eq_true rfl⟩ htb hlocks (fun w1 h => ⟨_, _, _, h⟩)
set_option maxHeartbeats 4000000 in
set_option maxRecDepth 100000 in
theorem c_X0_concurrent_no1 (l : Launch) (D : va_G) (cI cJ : ClassId) (q : Nat → Nat) (n : Nat) (mk lt tg : Nat → Int32) (pa an la kn : Nat → Int64) (fb : Int32) (fh nb te wt bh : Nat → Int32) (x : Int32) (hbad : bad 4 x) (hfl : l.stackTraces = false) : eg_MX D (tyL cI cJ) l yX0_concurrent wsX0_concurrent ({ frames := 7, cells := 1, slots := 6, locals := 103 }) [.ref (q 0), .int x] (wX q cI cJ (nI n) mk lt tg pa an la kn fb fh nb te wt bh) "java/lang/IndexOutOfBoundsException" (fun w1 => ∃ (te' wt' bh' : Nat → Int32), w1 = wX q cI cJ (nI n) mk lt tg pa an la kn fb fh nb te' wt' bh') := by
  refine vx_ofW (cc := cX0_concurrent) (maxL := 6) (ret := (some .int)) (by decide) rfl ?_
  intro p e s m args below meth c s₁ B hml htb hv
  obtain ⟨rfl, hP, hK, hD0, hT⟩ := hv
  have hx := B.exec
  have hb := B.bytes
  have hr := B.returns
  have hts := atoms_spec (ws := wsX0_concurrent) B.pre
  have hown : s.vm.findClass RX0 = some m.cls := findClass_of_methodNamed B.named
  have hlocks := B.notSynchronized
  have hD := eg_D_of hD0
  have hS : va_S (eg_A (wX q cI cJ (nI n) mk lt tg pa an la kn fb fh nb te wt bh)) s.heap s.heap [] := va_S.rf
  have hin : ∀ w ∈ u_ws RX0 TX0 14, w ∈ wsX0_concurrent := by decide +kernel
  have hl := lv_entry ([.ref (q 0), .int x]) (n := 6) (Nat.le_of_ble_eq_true rfl)
  rw [lg_entry_eq]
  generalize (lg_sl ([.ref (q 0), .int x]) ++ List.replicate (6 - (lg_sl ([.ref (q 0), .int x])).length) Slot.unset).toArray = ls at hl ⊢
  have hl : lv_has ls 6 [(0, .ref (q 0)), (1, .int x)] := hl
  generalize h0H : s.heap = H at hP ⊢
  have hS : va_S (eg_A (wX q cI cJ (nI n) mk lt tg pa an la kn fb fh nb te wt bh)) s.heap H [] := by rw [← h0H]; exact hS
  generalize ([] : List Loc) = locs at hS ⊢
  refine lv_aload_n hx hb dX0_concurrent_0 rfl (lv_at hl 0 rfl) ?_
  refine lv_iload_n hx hb dX0_concurrent_1 rfl (lv_at hl 1 rfl) ?_
  exact eg_callXout (As := [.int x]) (rest := []) hx hb hml hown hts hK hP hD rfl hS hT [0, 1, 2, 3, 4, 5, 6, 7, 8, 9, 10, 11, 12] rfl (by decide) (c_X0_checkAuthor_no l D cI cJ q n mk lt tg pa an la kn fb fh nb te wt bh x hbad hfl) (cwV 1 hts gX0_concurrent_X0_checkAuthor rfl rfl rfl (by decide +kernel) ⟨Nat.le_of_ble_eq_true rfl, Nat.le_of_ble_eq_true rfl⟩) (va_recv hK hP (ci := 0) (q0 := 0) rfl rfl) rfl hl.1 rfl (Nat.le_of_ble_eq_true rfl) dX0_concurrent_2 ⟨Nat.le_of_ble_eq_true rfl, Nat.le_of_ble_eq_true rfl⟩ htb hlocks (fun w1 h => ⟨_, _, _, h⟩)
set_option maxHeartbeats 4000000 in
set_option maxRecDepth 100000 in
theorem c_X0_critical_no1 (l : Launch) (D : va_G) (cI cJ : ClassId) (q : Nat → Nat) (n : Nat) (mk lt tg : Nat → Int32) (pa an la kn : Nat → Int64) (fb : Int32) (fh nb te wt bh : Nat → Int32) (x : Int32) (hbad : bad 4 x) (hfl : l.stackTraces = false) : eg_MX D (tyL cI cJ) l yX0_critical wsX0_critical ({ frames := 7, cells := 1, slots := 6, locals := 103 }) [.ref (q 0), .int x] (wX q cI cJ (nI n) mk lt tg pa an la kn fb fh nb te wt bh) "java/lang/IndexOutOfBoundsException" (fun w1 => ∃ (te' wt' bh' : Nat → Int32), w1 = wX q cI cJ (nI n) mk lt tg pa an la kn fb fh nb te' wt' bh') := by
  refine vx_ofW (cc := cX0_critical) (maxL := 2) (ret := (some .long)) (by decide) rfl ?_
  intro p e s m args below meth c s₁ B hml htb hv
  obtain ⟨rfl, hP, hK, hD0, hT⟩ := hv
  have hx := B.exec
  have hb := B.bytes
  have hr := B.returns
  have hts := atoms_spec (ws := wsX0_critical) B.pre
  have hown : s.vm.findClass RX0 = some m.cls := findClass_of_methodNamed B.named
  have hlocks := B.notSynchronized
  have hD := eg_D_of hD0
  have hS : va_S (eg_A (wX q cI cJ (nI n) mk lt tg pa an la kn fb fh nb te wt bh)) s.heap s.heap [] := va_S.rf
  have hin : ∀ w ∈ u_ws RX0 TX0 14, w ∈ wsX0_critical := by decide +kernel
  have hl := lv_entry ([.ref (q 0), .int x]) (n := 2) (Nat.le_of_ble_eq_true rfl)
  rw [lg_entry_eq]
  generalize (lg_sl ([.ref (q 0), .int x]) ++ List.replicate (2 - (lg_sl ([.ref (q 0), .int x])).length) Slot.unset).toArray = ls at hl ⊢
  have hl : lv_has ls 2 [(0, .ref (q 0)), (1, .int x)] := hl
  generalize h0H : s.heap = H at hP ⊢
  have hS : va_S (eg_A (wX q cI cJ (nI n) mk lt tg pa an la kn fb fh nb te wt bh)) s.heap H [] := by rw [← h0H]; exact hS
  generalize ([] : List Loc) = locs at hS ⊢
  refine lv_aload_n hx hb dX0_critical_0 rfl (lv_at hl 0 rfl) ?_
  refine lv_iload_n hx hb dX0_critical_1 rfl (lv_at hl 1 rfl) ?_
  exact eg_callXout (As := [.int x]) (rest := []) hx hb hml hown hts hK hP hD rfl hS hT [0, 1, 2, 3, 4, 5, 6, 7, 8, 9, 10, 11, 12] rfl (by decide) (c_X0_checkAuthor_no l D cI cJ q n mk lt tg pa an la kn fb fh nb te wt bh x hbad hfl) (cwV 1 hts gX0_critical_X0_checkAuthor rfl rfl rfl (by decide +kernel) ⟨Nat.le_of_ble_eq_true rfl, Nat.le_of_ble_eq_true rfl⟩) (va_recv hK hP (ci := 0) (q0 := 0) rfl rfl) rfl hl.1 rfl (Nat.le_of_ble_eq_true rfl) dX0_critical_2 ⟨Nat.le_of_ble_eq_true rfl, Nat.le_of_ble_eq_true rfl⟩ htb hlocks (fun w1 h => ⟨_, _, _, h⟩)
set_option maxHeartbeats 4000000 in
set_option maxRecDepth 100000 in
theorem c_X0_toReplay_no1 (l : Launch) (D : va_G) (cI cJ : ClassId) (q : Nat → Nat) (n : Nat) (mk lt tg : Nat → Int32) (pa an la kn : Nat → Int64) (fb : Int32) (fh nb te wt bh : Nat → Int32) (x : Int32) (hbad : bad 4 x) (hfl : l.stackTraces = false) : eg_MX D (tyL cI cJ) l yX0_toReplay wsX0_toReplay ({ frames := 7, cells := 1, slots := 6, locals := 103 }) [.ref (q 0), .int x] (wX q cI cJ (nI n) mk lt tg pa an la kn fb fh nb te wt bh) "java/lang/IndexOutOfBoundsException" (fun w1 => ∃ (te' wt' bh' : Nat → Int32), w1 = wX q cI cJ (nI n) mk lt tg pa an la kn fb fh nb te' wt' bh') := by
  refine vx_ofW (cc := cX0_toReplay) (maxL := 9) (ret := (some .int)) (by decide) rfl ?_
  intro p e s m args below meth c s₁ B hml htb hv
  obtain ⟨rfl, hP, hK, hD0, hT⟩ := hv
  have hx := B.exec
  have hb := B.bytes
  have hr := B.returns
  have hts := atoms_spec (ws := wsX0_toReplay) B.pre
  have hown : s.vm.findClass RX0 = some m.cls := findClass_of_methodNamed B.named
  have hlocks := B.notSynchronized
  have hD := eg_D_of hD0
  have hS : va_S (eg_A (wX q cI cJ (nI n) mk lt tg pa an la kn fb fh nb te wt bh)) s.heap s.heap [] := va_S.rf
  have hin : ∀ w ∈ u_ws RX0 TX0 14, w ∈ wsX0_toReplay := by decide +kernel
  have hl := lv_entry ([.ref (q 0), .int x]) (n := 9) (Nat.le_of_ble_eq_true rfl)
  rw [lg_entry_eq]
  generalize (lg_sl ([.ref (q 0), .int x]) ++ List.replicate (9 - (lg_sl ([.ref (q 0), .int x])).length) Slot.unset).toArray = ls at hl ⊢
  have hl : lv_has ls 9 [(0, .ref (q 0)), (1, .int x)] := hl
  generalize h0H : s.heap = H at hP ⊢
  have hS : va_S (eg_A (wX q cI cJ (nI n) mk lt tg pa an la kn fb fh nb te wt bh)) s.heap H [] := by rw [← h0H]; exact hS
  generalize ([] : List Loc) = locs at hS ⊢
  refine lv_aload_n hx hb dX0_toReplay_0 rfl (lv_at hl 0 rfl) ?_
  refine lv_iload_n hx hb dX0_toReplay_1 rfl (lv_at hl 1 rfl) ?_
  exact eg_callXout (As := [.int x]) (rest := []) hx hb hml hown hts hK hP hD rfl hS hT [0, 1, 2, 3, 4, 5, 6, 7, 8, 9, 10, 11, 12] rfl (by decide) (c_X0_checkAuthor_no l D cI cJ q n mk lt tg pa an la kn fb fh nb te wt bh x hbad hfl) (cwV 1 hts gX0_toReplay_X0_checkAuthor rfl rfl rfl (by decide +kernel) ⟨Nat.le_of_ble_eq_true rfl, Nat.le_of_ble_eq_true rfl⟩) (va_recv hK hP (ci := 0) (q0 := 0) rfl rfl) rfl hl.1 rfl (Nat.le_of_ble_eq_true rfl) dX0_toReplay_2 ⟨Nat.le_of_ble_eq_true rfl, Nat.le_of_ble_eq_true rfl⟩ htb hlocks (fun w1 h => ⟨_, _, _, h⟩)
set_option maxHeartbeats 4000000 in
set_option maxRecDepth 100000 in
theorem c_X0_runs_no1 (l : Launch) (D : va_G) (cI cJ : ClassId) (q : Nat → Nat) (n : Nat) (mk lt tg : Nat → Int32) (pa an la kn : Nat → Int64) (fb : Int32) (fh nb te wt bh : Nat → Int32) (x : Int32) (hbad : bad 4 x) (hfl : l.stackTraces = false) : eg_MX D (tyL cI cJ) l yX0_runs wsX0_runs ({ frames := 7, cells := 1, slots := 6, locals := 103 }) [.ref (q 0), .int x] (wX q cI cJ (nI n) mk lt tg pa an la kn fb fh nb te wt bh) "java/lang/IndexOutOfBoundsException" (fun w1 => ∃ (te' wt' bh' : Nat → Int32), w1 = wX q cI cJ (nI n) mk lt tg pa an la kn fb fh nb te' wt' bh') := by
  refine vx_ofW (cc := cX0_runs) (maxL := 6) (ret := (some .int)) (by decide) rfl ?_
  intro p e s m args below meth c s₁ B hml htb hv
  obtain ⟨rfl, hP, hK, hD0, hT⟩ := hv
  have hx := B.exec
  have hb := B.bytes
  have hr := B.returns
  have hts := atoms_spec (ws := wsX0_runs) B.pre
  have hown : s.vm.findClass RX0 = some m.cls := findClass_of_methodNamed B.named
  have hlocks := B.notSynchronized
  have hD := eg_D_of hD0
  have hS : va_S (eg_A (wX q cI cJ (nI n) mk lt tg pa an la kn fb fh nb te wt bh)) s.heap s.heap [] := va_S.rf
  have hin : ∀ w ∈ u_ws RX0 TX0 14, w ∈ wsX0_runs := by decide +kernel
  have hl := lv_entry ([.ref (q 0), .int x]) (n := 6) (Nat.le_of_ble_eq_true rfl)
  rw [lg_entry_eq]
  generalize (lg_sl ([.ref (q 0), .int x]) ++ List.replicate (6 - (lg_sl ([.ref (q 0), .int x])).length) Slot.unset).toArray = ls at hl ⊢
  have hl : lv_has ls 6 [(0, .ref (q 0)), (1, .int x)] := hl
  generalize h0H : s.heap = H at hP ⊢
  have hS : va_S (eg_A (wX q cI cJ (nI n) mk lt tg pa an la kn fb fh nb te wt bh)) s.heap H [] := by rw [← h0H]; exact hS
  generalize ([] : List Loc) = locs at hS ⊢
  refine lv_aload_n hx hb dX0_runs_0 rfl (lv_at hl 0 rfl) ?_
  refine lv_iload_n hx hb dX0_runs_1 rfl (lv_at hl 1 rfl) ?_
  exact eg_callXout (As := [.int x]) (rest := []) hx hb hml hown hts hK hP hD rfl hS hT [0, 1, 2, 3, 4, 5, 6, 7, 8, 9, 10, 11, 12] rfl (by decide) (c_X0_checkAuthor_no l D cI cJ q n mk lt tg pa an la kn fb fh nb te wt bh x hbad hfl) (cwV 1 hts gX0_runs_X0_checkAuthor rfl rfl rfl (by decide +kernel) ⟨Nat.le_of_ble_eq_true rfl, Nat.le_of_ble_eq_true rfl⟩) (va_recv hK hP (ci := 0) (q0 := 0) rfl rfl) rfl hl.1 rfl (Nat.le_of_ble_eq_true rfl) dX0_runs_2 ⟨Nat.le_of_ble_eq_true rfl, Nat.le_of_ble_eq_true rfl⟩ htb hlocks (fun w1 h => ⟨_, _, _, h⟩)
set_option maxHeartbeats 4000000 in
set_option maxRecDepth 100000 in
theorem c_X0_lengthOf_no1 (l : Launch) (D : va_G) (cI cJ : ClassId) (q : Nat → Nat) (n : Nat) (mk lt tg : Nat → Int32) (pa an la kn : Nat → Int64) (fb : Int32) (fh nb te wt bh : Nat → Int32) (x : Int32) (hbad : bad n x) (hfl : l.stackTraces = false) : eg_MX D (tyL cI cJ) l yX0_lengthOf wsX0_lengthOf ({ frames := 7, cells := 1, slots := 6, locals := 103 }) [.ref (q 0), .int x] (wX q cI cJ (nI n) mk lt tg pa an la kn fb fh nb te wt bh) "java/lang/IndexOutOfBoundsException" (fun w1 => ∃ (te' wt' bh' : Nat → Int32), w1 = wX q cI cJ (nI n) mk lt tg pa an la kn fb fh nb te' wt' bh') := by
  refine vx_ofW (cc := cX0_lengthOf) (maxL := 2) (ret := (some .int)) (by decide) rfl ?_
  intro p e s m args below meth c s₁ B hml htb hv
  obtain ⟨rfl, hP, hK, hD0, hT⟩ := hv
  have hx := B.exec
  have hb := B.bytes
  have hr := B.returns
  have hts := atoms_spec (ws := wsX0_lengthOf) B.pre
  have hown : s.vm.findClass RX0 = some m.cls := findClass_of_methodNamed B.named
  have hlocks := B.notSynchronized
  have hD := eg_D_of hD0
  have hS : va_S (eg_A (wX q cI cJ (nI n) mk lt tg pa an la kn fb fh nb te wt bh)) s.heap s.heap [] := va_S.rf
  have hl := lv_entry ([.ref (q 0), .int x]) (n := 2) (Nat.le_of_ble_eq_true rfl)
  rw [lg_entry_eq]
  generalize (lg_sl ([.ref (q 0), .int x]) ++ List.replicate (2 - (lg_sl ([.ref (q 0), .int x])).length) Slot.unset).toArray = ls at hl ⊢
  have hl : lv_has ls 2 [(0, .ref (q 0)), (1, .int x)] := hl
  generalize h0H : s.heap = H at hP ⊢
  have hS : va_S (eg_A (wX q cI cJ (nI n) mk lt tg pa an la kn fb fh nb te wt bh)) s.heap H [] := by rw [← h0H]; exact hS
  generalize ([] : List Loc) = locs at hS ⊢
  refine lv_aload_n hx hb dX0_lengthOf_0 rfl (lv_at hl 0 rfl) ?_
  refine lv_iload_n hx hb dX0_lengthOf_1 rfl (lv_at hl 1 rfl) ?_
  exact eg_callXout (As := [.int x]) (rest := []) hx hb hml hown hts hK hP hD rfl hS hT [0, 1, 2, 3, 4, 5, 6, 7, 8, 9, 10, 11, 12] rfl (by decide) (c_X0_checkEvent_no l D cI cJ q n mk lt tg pa an la kn fb fh nb te wt bh x hbad hfl) (cwV 1 hts gX0_lengthOf_X0_checkEvent rfl rfl rfl (by decide +kernel) ⟨Nat.le_of_ble_eq_true rfl, Nat.le_of_ble_eq_true rfl⟩) (va_recv hK hP (ci := 0) (q0 := 0) rfl rfl) rfl hl.1 rfl (Nat.le_of_ble_eq_true rfl) dX0_lengthOf_2 ⟨Nat.le_of_ble_eq_true rfl, Nat.le_of_ble_eq_true rfl⟩ htb hlocks (fun w1 h => ⟨_, _, _, h⟩)
set_option maxHeartbeats 4000000 in
set_option maxRecDepth 100000 in
theorem c_X0_letterOf_no1 (l : Launch) (D : va_G) (cI cJ : ClassId) (q : Nat → Nat) (n : Nat) (mk lt tg : Nat → Int32) (pa an la kn : Nat → Int64) (fb : Int32) (fh nb te wt bh : Nat → Int32) (x : Int32) (y : Int32) (hbad : bad n x) (hfl : l.stackTraces = false) : eg_MX D (tyL cI cJ) l yX0_letterOf wsX0_letterOf ({ frames := 7, cells := 1, slots := 6, locals := 103 }) [.ref (q 0), .int x, .int y] (wX q cI cJ (nI n) mk lt tg pa an la kn fb fh nb te wt bh) "java/lang/IndexOutOfBoundsException" (fun w1 => ∃ (te' wt' bh' : Nat → Int32), w1 = wX q cI cJ (nI n) mk lt tg pa an la kn fb fh nb te' wt' bh') := by
  refine vx_ofW (cc := cX0_letterOf) (maxL := 3) (ret := (some .int)) (by decide) rfl ?_
  intro p e s m args below meth c s₁ B hml htb hv
  obtain ⟨rfl, hP, hK, hD0, hT⟩ := hv
  have hx := B.exec
  have hb := B.bytes
  have hr := B.returns
  have hts := atoms_spec (ws := wsX0_letterOf) B.pre
  have hown : s.vm.findClass RX0 = some m.cls := findClass_of_methodNamed B.named
  have hlocks := B.notSynchronized
  have hD := eg_D_of hD0
  have hS : va_S (eg_A (wX q cI cJ (nI n) mk lt tg pa an la kn fb fh nb te wt bh)) s.heap s.heap [] := va_S.rf
  have hin : ∀ w ∈ u_ws RX0 TX0 14, w ∈ wsX0_letterOf := by decide +kernel
  have hl := lv_entry ([.ref (q 0), .int x, .int y]) (n := 3) (Nat.le_of_ble_eq_true rfl)
  rw [lg_entry_eq]
  generalize (lg_sl ([.ref (q 0), .int x, .int y]) ++ List.replicate (3 - (lg_sl ([.ref (q 0), .int x, .int y])).length) Slot.unset).toArray = ls at hl ⊢
  have hl : lv_has ls 3 [(0, .ref (q 0)), (1, .int x), (2, .int y)] := hl
  generalize h0H : s.heap = H at hP ⊢
  have hS : va_S (eg_A (wX q cI cJ (nI n) mk lt tg pa an la kn fb fh nb te wt bh)) s.heap H [] := by rw [← h0H]; exact hS
  generalize ([] : List Loc) = locs at hS ⊢
  refine lv_aload_n hx hb dX0_letterOf_0 rfl (lv_at hl 0 rfl) ?_
  refine lv_iload_n hx hb dX0_letterOf_1 rfl (lv_at hl 1 rfl) ?_
  exact eg_callXout (As := [.int x]) (rest := []) hx hb hml hown hts hK hP hD rfl hS hT [0, 1, 2, 3, 4, 5, 6, 7, 8, 9, 10, 11, 12] rfl (by decide) (c_X0_checkEvent_no l D cI cJ q n mk lt tg pa an la kn fb fh nb te wt bh x hbad hfl) (cwV 1 hts gX0_letterOf_X0_checkEvent rfl rfl rfl (by decide +kernel) ⟨Nat.le_of_ble_eq_true rfl, Nat.le_of_ble_eq_true rfl⟩) (va_recv hK hP (ci := 0) (q0 := 0) rfl rfl) rfl hl.1 rfl (Nat.le_of_ble_eq_true rfl) dX0_letterOf_2 ⟨Nat.le_of_ble_eq_true rfl, Nat.le_of_ble_eq_true rfl⟩ htb hlocks (fun w1 h => ⟨_, _, _, h⟩)
set_option maxHeartbeats 4000000 in
set_option maxRecDepth 100000 in
theorem c_X0_authorOf_no1 (l : Launch) (D : va_G) (cI cJ : ClassId) (q : Nat → Nat) (n : Nat) (mk lt tg : Nat → Int32) (pa an la kn : Nat → Int64) (fb : Int32) (fh nb te wt bh : Nat → Int32) (x : Int32) (hbad : bad n x) (hfl : l.stackTraces = false) : eg_MX D (tyL cI cJ) l yX0_authorOf wsX0_authorOf ({ frames := 7, cells := 1, slots := 6, locals := 103 }) [.ref (q 0), .int x] (wX q cI cJ (nI n) mk lt tg pa an la kn fb fh nb te wt bh) "java/lang/IndexOutOfBoundsException" (fun w1 => ∃ (te' wt' bh' : Nat → Int32), w1 = wX q cI cJ (nI n) mk lt tg pa an la kn fb fh nb te' wt' bh') := by
  refine vx_ofW (cc := cX0_authorOf) (maxL := 2) (ret := (some .int)) (by decide) rfl ?_
  intro p e s m args below meth c s₁ B hml htb hv
  obtain ⟨rfl, hP, hK, hD0, hT⟩ := hv
  have hx := B.exec
  have hb := B.bytes
  have hr := B.returns
  have hts := atoms_spec (ws := wsX0_authorOf) B.pre
  have hown : s.vm.findClass RX0 = some m.cls := findClass_of_methodNamed B.named
  have hlocks := B.notSynchronized
  have hD := eg_D_of hD0
  have hS : va_S (eg_A (wX q cI cJ (nI n) mk lt tg pa an la kn fb fh nb te wt bh)) s.heap s.heap [] := va_S.rf
  have hin : ∀ w ∈ u_ws RX0 TX0 14, w ∈ wsX0_authorOf := by decide +kernel
  have hl := lv_entry ([.ref (q 0), .int x]) (n := 2) (Nat.le_of_ble_eq_true rfl)
  rw [lg_entry_eq]
  generalize (lg_sl ([.ref (q 0), .int x]) ++ List.replicate (2 - (lg_sl ([.ref (q 0), .int x])).length) Slot.unset).toArray = ls at hl ⊢
  have hl : lv_has ls 2 [(0, .ref (q 0)), (1, .int x)] := hl
  generalize h0H : s.heap = H at hP ⊢
  have hS : va_S (eg_A (wX q cI cJ (nI n) mk lt tg pa an la kn fb fh nb te wt bh)) s.heap H [] := by rw [← h0H]; exact hS
  generalize ([] : List Loc) = locs at hS ⊢
  refine lv_aload_n hx hb dX0_authorOf_0 rfl (lv_at hl 0 rfl) ?_
  refine lv_iload_n hx hb dX0_authorOf_1 rfl (lv_at hl 1 rfl) ?_
  exact eg_callXout (As := [.int x]) (rest := []) hx hb hml hown hts hK hP hD rfl hS hT [0, 1, 2, 3, 4, 5, 6, 7, 8, 9, 10, 11, 12] rfl (by decide) (c_X0_checkEvent_no l D cI cJ q n mk lt tg pa an la kn fb fh nb te wt bh x hbad hfl) (cwV 1 hts gX0_authorOf_X0_checkEvent rfl rfl rfl (by decide +kernel) ⟨Nat.le_of_ble_eq_true rfl, Nat.le_of_ble_eq_true rfl⟩) (va_recv hK hP (ci := 0) (q0 := 0) rfl rfl) rfl hl.1 rfl (Nat.le_of_ble_eq_true rfl) dX0_authorOf_2 ⟨Nat.le_of_ble_eq_true rfl, Nat.le_of_ble_eq_true rfl⟩ htb hlocks (fun w1 h => ⟨_, _, _, h⟩)
set_option maxHeartbeats 4000000 in
set_option maxRecDepth 100000 in
theorem c_X0_parents_no1 (l : Launch) (D : va_G) (cI cJ : ClassId) (q : Nat → Nat) (n : Nat) (mk lt tg : Nat → Int32) (pa an la kn : Nat → Int64) (fb : Int32) (fh nb te wt bh : Nat → Int32) (x : Int32) (hbad : bad n x) (hfl : l.stackTraces = false) : eg_MX D (tyL cI cJ) l yX0_parents wsX0_parents ({ frames := 7, cells := 1, slots := 6, locals := 103 }) [.ref (q 0), .int x] (wX q cI cJ (nI n) mk lt tg pa an la kn fb fh nb te wt bh) "java/lang/IndexOutOfBoundsException" (fun w1 => ∃ (te' wt' bh' : Nat → Int32), w1 = wX q cI cJ (nI n) mk lt tg pa an la kn fb fh nb te' wt' bh') := by
  refine vx_ofW (cc := cX0_parents) (maxL := 2) (ret := (some .long)) (by decide) rfl ?_
  intro p e s m args below meth c s₁ B hml htb hv
  obtain ⟨rfl, hP, hK, hD0, hT⟩ := hv
  have hx := B.exec
  have hb := B.bytes
  have hr := B.returns
  have hts := atoms_spec (ws := wsX0_parents) B.pre
  have hown : s.vm.findClass RX0 = some m.cls := findClass_of_methodNamed B.named
  have hlocks := B.notSynchronized
  have hD := eg_D_of hD0
  have hS : va_S (eg_A (wX q cI cJ (nI n) mk lt tg pa an la kn fb fh nb te wt bh)) s.heap s.heap [] := va_S.rf
  have hin : ∀ w ∈ u_ws RX0 TX0 14, w ∈ wsX0_parents := by decide +kernel
  have hl := lv_entry ([.ref (q 0), .int x]) (n := 2) (Nat.le_of_ble_eq_true rfl)
  rw [lg_entry_eq]
  generalize (lg_sl ([.ref (q 0), .int x]) ++ List.replicate (2 - (lg_sl ([.ref (q 0), .int x])).length) Slot.unset).toArray = ls at hl ⊢
  have hl : lv_has ls 2 [(0, .ref (q 0)), (1, .int x)] := hl
  generalize h0H : s.heap = H at hP ⊢
  have hS : va_S (eg_A (wX q cI cJ (nI n) mk lt tg pa an la kn fb fh nb te wt bh)) s.heap H [] := by rw [← h0H]; exact hS
  generalize ([] : List Loc) = locs at hS ⊢
  refine lv_aload_n hx hb dX0_parents_0 rfl (lv_at hl 0 rfl) ?_
  refine lv_iload_n hx hb dX0_parents_1 rfl (lv_at hl 1 rfl) ?_
  exact eg_callXout (As := [.int x]) (rest := []) hx hb hml hown hts hK hP hD rfl hS hT [0, 1, 2, 3, 4, 5, 6, 7, 8, 9, 10, 11, 12] rfl (by decide) (c_X0_checkEvent_no l D cI cJ q n mk lt tg pa an la kn fb fh nb te wt bh x hbad hfl) (cwV 1 hts gX0_parents_X0_checkEvent rfl rfl rfl (by decide +kernel) ⟨Nat.le_of_ble_eq_true rfl, Nat.le_of_ble_eq_true rfl⟩) (va_recv hK hP (ci := 0) (q0 := 0) rfl rfl) rfl hl.1 rfl (Nat.le_of_ble_eq_true rfl) dX0_parents_2 ⟨Nat.le_of_ble_eq_true rfl, Nat.le_of_ble_eq_true rfl⟩ htb hlocks (fun w1 h => ⟨_, _, _, h⟩)
set_option maxHeartbeats 4000000 in
set_option maxRecDepth 100000 in
theorem c_X0_isLater_no1 (l : Launch) (D : va_G) (cI cJ : ClassId) (q : Nat → Nat) (n : Nat) (mk lt tg : Nat → Int32) (pa an la kn : Nat → Int64) (fb : Int32) (fh nb te wt bh : Nat → Int32) (x : Int32) (y : Int32) (hbad : bad n x) (hfl : l.stackTraces = false) : eg_MX D (tyL cI cJ) l yX0_isLater wsX0_isLater ({ frames := 7, cells := 1, slots := 6, locals := 103 }) [.ref (q 0), .int x, .int y] (wX q cI cJ (nI n) mk lt tg pa an la kn fb fh nb te wt bh) "java/lang/IndexOutOfBoundsException" (fun w1 => ∃ (te' wt' bh' : Nat → Int32), w1 = wX q cI cJ (nI n) mk lt tg pa an la kn fb fh nb te' wt' bh') := by
  refine vx_ofW (cc := cX0_isLater) (maxL := 3) (ret := (some .boolean)) (by decide) rfl ?_
  intro p e s m args below meth c s₁ B hml htb hv
  obtain ⟨rfl, hP, hK, hD0, hT⟩ := hv
  have hx := B.exec
  have hb := B.bytes
  have hr := B.returns
  have hts := atoms_spec (ws := wsX0_isLater) B.pre
  have hown : s.vm.findClass RX0 = some m.cls := findClass_of_methodNamed B.named
  have hlocks := B.notSynchronized
  have hD := eg_D_of hD0
  have hS : va_S (eg_A (wX q cI cJ (nI n) mk lt tg pa an la kn fb fh nb te wt bh)) s.heap s.heap [] := va_S.rf
  have hin : ∀ w ∈ u_ws RX0 TX0 14, w ∈ wsX0_isLater := by decide +kernel
  have hl := lv_entry ([.ref (q 0), .int x, .int y]) (n := 3) (Nat.le_of_ble_eq_true rfl)
  rw [lg_entry_eq]
  generalize (lg_sl ([.ref (q 0), .int x, .int y]) ++ List.replicate (3 - (lg_sl ([.ref (q 0), .int x, .int y])).length) Slot.unset).toArray = ls at hl ⊢
  have hl : lv_has ls 3 [(0, .ref (q 0)), (1, .int x), (2, .int y)] := hl
  generalize h0H : s.heap = H at hP ⊢
  have hS : va_S (eg_A (wX q cI cJ (nI n) mk lt tg pa an la kn fb fh nb te wt bh)) s.heap H [] := by rw [← h0H]; exact hS
  generalize ([] : List Loc) = locs at hS ⊢
  refine lv_aload_n hx hb dX0_isLater_0 rfl (lv_at hl 0 rfl) ?_
  refine lv_iload_n hx hb dX0_isLater_1 rfl (lv_at hl 1 rfl) ?_
  exact eg_callXout (As := [.int x]) (rest := []) hx hb hml hown hts hK hP hD rfl hS hT [0, 1, 2, 3, 4, 5, 6, 7, 8, 9, 10, 11, 12] rfl (by decide) (c_X0_checkEvent_no l D cI cJ q n mk lt tg pa an la kn fb fh nb te wt bh x hbad hfl) (cwV 1 hts gX0_isLater_X0_checkEvent rfl rfl rfl (by decide +kernel) ⟨Nat.le_of_ble_eq_true rfl, Nat.le_of_ble_eq_true rfl⟩) (va_recv hK hP (ci := 0) (q0 := 0) rfl rfl) rfl hl.1 rfl (Nat.le_of_ble_eq_true rfl) dX0_isLater_2 ⟨Nat.le_of_ble_eq_true rfl, Nat.le_of_ble_eq_true rfl⟩ htb hlocks (fun w1 h => ⟨_, _, _, h⟩)
set_option maxHeartbeats 4000000 in
set_option maxRecDepth 100000 in
theorem c_X0_insert_no2 (l : Launch) (D : va_G) (cI cJ : ClassId) (q : Nat → Nat) (n : Nat) (mk lt tg : Nat → Int32) (pa an la kn : Nat → Int64) (fb : Int32) (fh nb te wt bh : Nat → Int32) (a : Nat) (y : Int32) (c9 : Int32) (hI : Inv n lt tg an kn) (htr : ∃ f, Tr n fh nb f fb (lay (ins lt) tg n)) (ha : a < 4) (hbad : bad ((tx n lt tg (kn a)).length + 1) y) (hfl : l.stackTraces = false) : eg_MX D (tyL cI cJ) l yX0_insert wsX0_insert ({ frames := 7, cells := 1, slots := 6, locals := 104 }) [.ref (q 0), .int (nI a), .int y, .int c9] (wX q cI cJ (nI n) mk lt tg pa an la kn fb fh nb te wt bh) "java/lang/IndexOutOfBoundsException" (fun w1 => ∃ (te' wt' bh' : Nat → Int32), w1 = wX q cI cJ (nI n) mk lt tg pa an la kn fb fh nb te' wt' bh') := by
  refine vx_ofW (cc := cX0_insert) (maxL := 7) (ret := (some .int)) (by decide) rfl ?_
  intro p e s m args below meth c s₁ B hml htb hv
  obtain ⟨rfl, hP, hK, hD0, hT⟩ := hv
  have hx := B.exec
  have hb := B.bytes
  have hr := B.returns
  have hts := atoms_spec (ws := wsX0_insert) B.pre
  have hown : s.vm.findClass RX0 = some m.cls := findClass_of_methodNamed B.named
  have hlocks := B.notSynchronized
  have hD := eg_D_of hD0
  have hS : va_S (eg_A (wX q cI cJ (nI n) mk lt tg pa an la kn fb fh nb te wt bh)) s.heap s.heap [] := va_S.rf
  have hin : ∀ w ∈ u_ws RX0 TX0 14, w ∈ wsX0_insert := by decide +kernel
  have hl := lv_entry ([.ref (q 0), .int (nI a), .int y, .int c9]) (n := 7) (Nat.le_of_ble_eq_true rfl)
  rw [lg_entry_eq]
  generalize (lg_sl ([.ref (q 0), .int (nI a), .int y, .int c9]) ++ List.replicate (7 - (lg_sl ([.ref (q 0), .int (nI a), .int y, .int c9])).length) Slot.unset).toArray = ls at hl ⊢
  have hl : lv_has ls 7 [(0, .ref (q 0)), (1, .int (nI a)), (2, .int y), (3, .int c9)] := hl
  generalize h0H : s.heap = H at hP ⊢
  have hS : va_S (eg_A (wX q cI cJ (nI n) mk lt tg pa an la kn fb fh nb te wt bh)) s.heap H [] := by rw [← h0H]; exact hS
  generalize ([] : List Loc) = locs at hS ⊢
  refine lv_aload_n hx hb dX0_insert_0 rfl (lv_at hl 0 rfl) ?_
  refine lv_iload_n hx hb dX0_insert_1 rfl (lv_at hl 1 rfl) ?_
  refine eg_callV (As := [.int (nI a)]) (rest := []) hx hb hml hown hts hK hP (c_X0_checkAuthor l D cI cJ q n mk lt tg pa an la kn fb fh nb te wt bh a (by omega)) (cwV 1 hts gX0_insert_X0_checkAuthor rfl rfl rfl (by decide +kernel) ⟨Nat.le_of_ble_eq_true rfl, Nat.le_of_ble_eq_true rfl⟩) (va_recv hK hP (ci := 0) (q0 := 0) rfl rfl) rfl hl.1 rfl (Nat.le_of_ble_eq_true rfl) dX0_insert_2 ⟨Nat.zero_le _, Nat.zero_le _⟩ ?_
  refine lv_aload_n hx hb dX0_insert_5 rfl (lv_at hl 0 rfl) ?_
  refine lv_aload_n hx hb dX0_insert_6 rfl (lv_at hl 0 rfl) ?_
  refine va_get (D := D) (ci := 0) (v := .ref (q 7)) (C := RX0) (T := TX0) (N := 14) hx hb hts hin hown hK hP 0 rfl rfl 7 (by decide) (hts (.fieldLink RX0 33 "EditGraph" "knownSets" "[J") (by decide +kernel)) (fun _ h9 => h9) rfl dX0_insert_7 ?_
  refine lv_iload_n hx hb dX0_insert_10 rfl (lv_at hl 1 rfl) ?_
  refine eg_lald hx hb hK hP 7 1 rfl rfl (by omega) (by decide) dX0_insert_11 ?_
  have e9 := tx_all hI (hI.vk ha)
  refine eg_callWV (As := [.long (kn a)]) (rest := []) hx hb hml hown hts hK hP hD rfl hS (c_X0_findText l D cI cJ q n mk lt tg pa an la kn fb fh nb te wt bh (kn a) (lay (ins lt) tg n) hI.1 hI.hdl htr (Nat.le_trans (lay_len n (lay_nodup (Nat.le_trans hI.1 (by decide)) hI.hangA)) hI.1)) (cwV 1 hts gX0_insert_X0_findText rfl rfl rfl (by decide +kernel) ⟨Nat.le_of_ble_eq_true rfl, Nat.le_of_ble_eq_true rfl⟩) (va_recv hK hP (ci := 0) (q0 := 0) rfl rfl) rfl hl.1 rfl (Nat.le_of_ble_eq_true rfl) dX0_insert_12 ⟨Nat.zero_le _, Nat.zero_le _⟩ (fun v9 w9 H locs hR9 hw9 hP hS => ?_)
  obtain ⟨te1, wt1, rfl, rfl, hh1⟩ := hR9
  rw [e9] at hh1 ⊢
  have hT9 := tx_len hI (hI.vk ha)
  have hI1 := hI.1
  refine lv_istore (lv' := [(4, .int (nI ((tx n lt tg (kn a)).length))), (0, .ref (q 0)), (1, .int (nI a)), (2, .int y), (3, .int c9)]) hx hb dX0_insert_15 hl (by decide) rfl (fun ls hl => ?_)
  refine lv_aload_n hx hb dX0_insert_17 rfl (lv_at hl 1 rfl) ?_
  refine lv_iload_n hx hb dX0_insert_18 rfl (lv_at hl 3 rfl) ?_
  refine lv_iload hx hb dX0_insert_19 (lv_at hl 0 rfl) ?_
  refine lv_iconst (v := nI 1) hx hb dX0_insert_21 (by decide +kernel) ?_
  refine eg_iadd hx hb dX0_insert_22 ?_
  exact eg_callXout (As := [.int y, .int (nI ((tx n lt tg (kn a)).length + 1))]) (rest := []) hx hb hml hown hts hK hP hD rfl hS hT [0, 1, 2, 3, 4, 5, 6, 7, 8, 9, 10, 11, 12] rfl (by decide) (c_X0_checkPlace_no l D cI cJ q n mk lt tg pa an la kn fb fh nb te1 wt1 bh y ((tx n lt tg (kn a)).length + 1) hbad hfl) (cwV 2 hts gX0_insert_X0_checkPlace rfl rfl rfl (by decide +kernel) ⟨Nat.le_of_ble_eq_true rfl, Nat.le_of_ble_eq_true rfl⟩) (va_recv hK hP (ci := 0) (q0 := 0) rfl rfl) rfl hl.1 rfl (Nat.le_of_ble_eq_true rfl) dX0_insert_23 ⟨Nat.le_of_ble_eq_true rfl, Nat.le_of_ble_eq_true rfl⟩ htb hlocks (fun w1 h => ⟨_, _, _, h⟩)
set_option maxHeartbeats 4000000 in
set_option maxRecDepth 100000 in
theorem c_X0_insert_no3 (l : Launch) (D : va_G) (cI cJ : ClassId) (q : Nat → Nat) (n : Nat) (mk lt tg : Nat → Int32) (pa an la kn : Nat → Int64) (fb : Int32) (fh nb te wt bh : Nat → Int32) (a : Nat) (pp : Nat) (c9 : Int32) (hI : Inv n lt tg an kn) (htr : ∃ f, Tr n fh nb f fb (lay (ins lt) tg n)) (ha : a < 4) (hp : pp ≤ (tx n lt tg (kn a)).length) (hcb : c9 < 0 ∨ ¬ c9 < nI 26) (hfl : l.stackTraces = false) : eg_MX D (tyL cI cJ) l yX0_insert wsX0_insert ({ frames := 6, cells := 1, slots := 6, locals := 97 }) [.ref (q 0), .int (nI a), .int (nI pp), .int c9] (wX q cI cJ (nI n) mk lt tg pa an la kn fb fh nb te wt bh) "java/lang/IllegalArgumentException" (fun w1 => ∃ (te' wt' bh' : Nat → Int32), w1 = wX q cI cJ (nI n) mk lt tg pa an la kn fb fh nb te' wt' bh') := by
  refine vx_ofW (cc := cX0_insert) (maxL := 7) (ret := (some .int)) (by decide) rfl ?_
  intro p e s m args below meth c s₁ B hml htb hv
  obtain ⟨rfl, hP, hK, hD0, hT⟩ := hv
  have hx := B.exec
  have hb := B.bytes
  have hr := B.returns
  have hts := atoms_spec (ws := wsX0_insert) B.pre
  have hown : s.vm.findClass RX0 = some m.cls := findClass_of_methodNamed B.named
  have hlocks := B.notSynchronized
  have hD := eg_D_of hD0
  have hS : va_S (eg_A (wX q cI cJ (nI n) mk lt tg pa an la kn fb fh nb te wt bh)) s.heap s.heap [] := va_S.rf
  have hin : ∀ w ∈ u_ws RX0 TX0 14, w ∈ wsX0_insert := by decide +kernel
  have hl := lv_entry ([.ref (q 0), .int (nI a), .int (nI pp), .int c9]) (n := 7) (Nat.le_of_ble_eq_true rfl)
  rw [lg_entry_eq]
  generalize (lg_sl ([.ref (q 0), .int (nI a), .int (nI pp), .int c9]) ++ List.replicate (7 - (lg_sl ([.ref (q 0), .int (nI a), .int (nI pp), .int c9])).length) Slot.unset).toArray = ls at hl ⊢
  have hl : lv_has ls 7 [(0, .ref (q 0)), (1, .int (nI a)), (2, .int (nI pp)), (3, .int c9)] := hl
  generalize h0H : s.heap = H at hP ⊢
  have hS : va_S (eg_A (wX q cI cJ (nI n) mk lt tg pa an la kn fb fh nb te wt bh)) s.heap H [] := by rw [← h0H]; exact hS
  generalize ([] : List Loc) = locs at hS ⊢
  refine lv_aload_n hx hb dX0_insert_0 rfl (lv_at hl 0 rfl) ?_
  refine lv_iload_n hx hb dX0_insert_1 rfl (lv_at hl 1 rfl) ?_
  refine eg_callV (As := [.int (nI a)]) (rest := []) hx hb hml hown hts hK hP (c_X0_checkAuthor l D cI cJ q n mk lt tg pa an la kn fb fh nb te wt bh a (by omega)) (cwV 1 hts gX0_insert_X0_checkAuthor rfl rfl rfl (by decide +kernel) ⟨Nat.le_of_ble_eq_true rfl, Nat.le_of_ble_eq_true rfl⟩) (va_recv hK hP (ci := 0) (q0 := 0) rfl rfl) rfl hl.1 rfl (Nat.le_of_ble_eq_true rfl) dX0_insert_2 ⟨Nat.zero_le _, Nat.zero_le _⟩ ?_
  refine lv_aload_n hx hb dX0_insert_5 rfl (lv_at hl 0 rfl) ?_
  refine lv_aload_n hx hb dX0_insert_6 rfl (lv_at hl 0 rfl) ?_
  refine va_get (D := D) (ci := 0) (v := .ref (q 7)) (C := RX0) (T := TX0) (N := 14) hx hb hts hin hown hK hP 0 rfl rfl 7 (by decide) (hts (.fieldLink RX0 33 "EditGraph" "knownSets" "[J") (by decide +kernel)) (fun _ h9 => h9) rfl dX0_insert_7 ?_
  refine lv_iload_n hx hb dX0_insert_10 rfl (lv_at hl 1 rfl) ?_
  refine eg_lald hx hb hK hP 7 1 rfl rfl (by omega) (by decide) dX0_insert_11 ?_
  have e9 := tx_all hI (hI.vk ha)
  refine eg_callWV (As := [.long (kn a)]) (rest := []) hx hb hml hown hts hK hP hD rfl hS (c_X0_findText l D cI cJ q n mk lt tg pa an la kn fb fh nb te wt bh (kn a) (lay (ins lt) tg n) hI.1 hI.hdl htr (Nat.le_trans (lay_len n (lay_nodup (Nat.le_trans hI.1 (by decide)) hI.hangA)) hI.1)) (cwV 1 hts gX0_insert_X0_findText rfl rfl rfl (by decide +kernel) ⟨Nat.le_of_ble_eq_true rfl, Nat.le_of_ble_eq_true rfl⟩) (va_recv hK hP (ci := 0) (q0 := 0) rfl rfl) rfl hl.1 rfl (Nat.le_of_ble_eq_true rfl) dX0_insert_12 ⟨Nat.zero_le _, Nat.zero_le _⟩ (fun v9 w9 H locs hR9 hw9 hP hS => ?_)
  obtain ⟨te1, wt1, rfl, rfl, hh1⟩ := hR9
  rw [e9] at hh1 ⊢
  have hT9 := tx_len hI (hI.vk ha)
  have hI1 := hI.1
  refine lv_istore (lv' := [(4, .int (nI ((tx n lt tg (kn a)).length))), (0, .ref (q 0)), (1, .int (nI a)), (2, .int (nI pp)), (3, .int c9)]) hx hb dX0_insert_15 hl (by decide) rfl (fun ls hl => ?_)
  refine lv_aload_n hx hb dX0_insert_17 rfl (lv_at hl 1 rfl) ?_
  refine lv_iload_n hx hb dX0_insert_18 rfl (lv_at hl 3 rfl) ?_
  refine lv_iload hx hb dX0_insert_19 (lv_at hl 0 rfl) ?_
  refine lv_iconst (v := nI 1) hx hb dX0_insert_21 (by decide +kernel) ?_
  refine eg_iadd hx hb dX0_insert_22 ?_
  refine eg_callV (As := [.int (nI pp), .int (nI ((tx n lt tg (kn a)).length + 1))]) (rest := []) hx hb hml hown hts hK hP (c_X0_checkPlace l D cI cJ q n mk lt tg pa an la kn fb fh nb te1 wt1 bh pp ((tx n lt tg (kn a)).length + 1) (by omega) (by omega)) (cwV 2 hts gX0_insert_X0_checkPlace rfl rfl rfl (by decide +kernel) ⟨Nat.le_of_ble_eq_true rfl, Nat.le_of_ble_eq_true rfl⟩) (va_recv hK hP (ci := 0) (q0 := 0) rfl rfl) rfl hl.1 rfl (Nat.le_of_ble_eq_true rfl) dX0_insert_23 ⟨Nat.zero_le _, Nat.zero_le _⟩ ?_
  refine lv_iload_n hx hb dX0_insert_26 rfl (lv_at hl 4 rfl) ?_
  refine lv_if_lt (tgt := 36) hx hb dX0_insert_27 (by decide) (fun c27 => ?_) (fun c27 => ?_)
  · exact eg_throw hx hb hfl hown (by decide +kernel) (hts (.classLink RX0 66 "java/lang/IllegalArgumentException") (by decide +kernel)) (hts (.initialized "java/lang/IllegalArgumentException") (by decide +kernel)) hT.2.2.2.2.2 (hat_70 (fun w h9 => hts w (List.mem_cons_of_mem _ (List.mem_append_left _ (List.mem_append_left _ (List.mem_append_right _ h9))))) hT.1.2) ot_70 hP rfl hS hT (hl.1.trans hml.symm) dX0_insert_36 dX0_insert_39 dX0_insert_40 dX0_insert_42 dX0_insert_45 htb (Nat.le_of_ble_eq_true rfl) (Nat.le_of_ble_eq_true rfl) (Nat.le_of_ble_eq_true rfl) (Nat.le_of_ble_eq_true rfl) hlocks ⟨_, _, _, rfl⟩
  · refine lv_iload_n hx hb dX0_insert_30 rfl (lv_at hl 4 rfl) ?_
    refine lv_bipush (v := nI 26) hx hb dX0_insert_31 (by decide +kernel) ?_
    refine lv_icmp_lt (tgt := 46) hx hb dX0_insert_33 (by decide) (fun c33 => ?_) (fun c33 => ?_)
    · rcases hcb with h | h
      · exact absurd h c27
      · exact absurd c33 h
    · exact eg_throw hx hb hfl hown (by decide +kernel) (hts (.classLink RX0 66 "java/lang/IllegalArgumentException") (by decide +kernel)) (hts (.initialized "java/lang/IllegalArgumentException") (by decide +kernel)) hT.2.2.2.2.2 (hat_70 (fun w h9 => hts w (List.mem_cons_of_mem _ (List.mem_append_left _ (List.mem_append_left _ (List.mem_append_right _ h9))))) hT.1.2) ot_70 hP rfl hS hT (hl.1.trans hml.symm) dX0_insert_36 dX0_insert_39 dX0_insert_40 dX0_insert_42 dX0_insert_45 htb (Nat.le_of_ble_eq_true rfl) (Nat.le_of_ble_eq_true rfl) (Nat.le_of_ble_eq_true rfl) (Nat.le_of_ble_eq_true rfl) hlocks ⟨_, _, _, rfl⟩
set_option maxHeartbeats 4000000 in
set_option maxRecDepth 100000 in
theorem c_X0_insert_no4 (l : Launch) (D : va_G) (cI cJ : ClassId) (q : Nat → Nat) (n : Nat) (mk lt tg : Nat → Int32) (pa an la kn : Nat → Int64) (fb : Int32) (fh nb te wt bh : Nat → Int32) (a : Nat) (pp : Nat) (c9 : Int32) (hI : Inv n lt tg an kn) (htr : ∃ f, Tr n fh nb f fb (lay (ins lt) tg n)) (ha : a < 4) (hp : pp ≤ (tx n lt tg (kn a)).length) (hc : ¬ c9 < 0) (hc2 : c9 < nI 26) (hnr : 60 ≤ n) (hfl : l.stackTraces = false) : eg_MX D (tyL cI cJ) l yX0_insert wsX0_insert ({ frames := 7, cells := 1, slots := 6, locals := 102 }) [.ref (q 0), .int (nI a), .int (nI pp), .int c9] (wX q cI cJ (nI n) mk lt tg pa an la kn fb fh nb te wt bh) "java/lang/IllegalStateException" (fun w1 => ∃ (te' wt' bh' : Nat → Int32), w1 = wX q cI cJ (nI n) mk lt tg pa an la kn fb fh nb te' wt' bh') := by
  refine vx_ofW (cc := cX0_insert) (maxL := 7) (ret := (some .int)) (by decide) rfl ?_
  intro p e s m args below meth c s₁ B hml htb hv
  obtain ⟨rfl, hP, hK, hD0, hT⟩ := hv
  have hx := B.exec
  have hb := B.bytes
  have hr := B.returns
  have hts := atoms_spec (ws := wsX0_insert) B.pre
  have hown : s.vm.findClass RX0 = some m.cls := findClass_of_methodNamed B.named
  have hlocks := B.notSynchronized
  have hD := eg_D_of hD0
  have hS : va_S (eg_A (wX q cI cJ (nI n) mk lt tg pa an la kn fb fh nb te wt bh)) s.heap s.heap [] := va_S.rf
  have hin : ∀ w ∈ u_ws RX0 TX0 14, w ∈ wsX0_insert := by decide +kernel
  have hl := lv_entry ([.ref (q 0), .int (nI a), .int (nI pp), .int c9]) (n := 7) (Nat.le_of_ble_eq_true rfl)
  rw [lg_entry_eq]
  generalize (lg_sl ([.ref (q 0), .int (nI a), .int (nI pp), .int c9]) ++ List.replicate (7 - (lg_sl ([.ref (q 0), .int (nI a), .int (nI pp), .int c9])).length) Slot.unset).toArray = ls at hl ⊢
  have hl : lv_has ls 7 [(0, .ref (q 0)), (1, .int (nI a)), (2, .int (nI pp)), (3, .int c9)] := hl
  generalize h0H : s.heap = H at hP ⊢
  have hS : va_S (eg_A (wX q cI cJ (nI n) mk lt tg pa an la kn fb fh nb te wt bh)) s.heap H [] := by rw [← h0H]; exact hS
  generalize ([] : List Loc) = locs at hS ⊢
  refine lv_aload_n hx hb dX0_insert_0 rfl (lv_at hl 0 rfl) ?_
  refine lv_iload_n hx hb dX0_insert_1 rfl (lv_at hl 1 rfl) ?_
  refine eg_callV (As := [.int (nI a)]) (rest := []) hx hb hml hown hts hK hP (c_X0_checkAuthor l D cI cJ q n mk lt tg pa an la kn fb fh nb te wt bh a (by omega)) (cwV 1 hts gX0_insert_X0_checkAuthor rfl rfl rfl (by decide +kernel) ⟨Nat.le_of_ble_eq_true rfl, Nat.le_of_ble_eq_true rfl⟩) (va_recv hK hP (ci := 0) (q0 := 0) rfl rfl) rfl hl.1 rfl (Nat.le_of_ble_eq_true rfl) dX0_insert_2 ⟨Nat.zero_le _, Nat.zero_le _⟩ ?_
  refine lv_aload_n hx hb dX0_insert_5 rfl (lv_at hl 0 rfl) ?_
  refine lv_aload_n hx hb dX0_insert_6 rfl (lv_at hl 0 rfl) ?_
  refine va_get (D := D) (ci := 0) (v := .ref (q 7)) (C := RX0) (T := TX0) (N := 14) hx hb hts hin hown hK hP 0 rfl rfl 7 (by decide) (hts (.fieldLink RX0 33 "EditGraph" "knownSets" "[J") (by decide +kernel)) (fun _ h9 => h9) rfl dX0_insert_7 ?_
  refine lv_iload_n hx hb dX0_insert_10 rfl (lv_at hl 1 rfl) ?_
  refine eg_lald hx hb hK hP 7 1 rfl rfl (by omega) (by decide) dX0_insert_11 ?_
  have e9 := tx_all hI (hI.vk ha)
  refine eg_callWV (As := [.long (kn a)]) (rest := []) hx hb hml hown hts hK hP hD rfl hS (c_X0_findText l D cI cJ q n mk lt tg pa an la kn fb fh nb te wt bh (kn a) (lay (ins lt) tg n) hI.1 hI.hdl htr (Nat.le_trans (lay_len n (lay_nodup (Nat.le_trans hI.1 (by decide)) hI.hangA)) hI.1)) (cwV 1 hts gX0_insert_X0_findText rfl rfl rfl (by decide +kernel) ⟨Nat.le_of_ble_eq_true rfl, Nat.le_of_ble_eq_true rfl⟩) (va_recv hK hP (ci := 0) (q0 := 0) rfl rfl) rfl hl.1 rfl (Nat.le_of_ble_eq_true rfl) dX0_insert_12 ⟨Nat.zero_le _, Nat.zero_le _⟩ (fun v9 w9 H locs hR9 hw9 hP hS => ?_)
  obtain ⟨te1, wt1, rfl, rfl, hh1⟩ := hR9
  rw [e9] at hh1 ⊢
  have hT9 := tx_len hI (hI.vk ha)
  have hI1 := hI.1
  refine lv_istore (lv' := [(4, .int (nI ((tx n lt tg (kn a)).length))), (0, .ref (q 0)), (1, .int (nI a)), (2, .int (nI pp)), (3, .int c9)]) hx hb dX0_insert_15 hl (by decide) rfl (fun ls hl => ?_)
  refine lv_aload_n hx hb dX0_insert_17 rfl (lv_at hl 1 rfl) ?_
  refine lv_iload_n hx hb dX0_insert_18 rfl (lv_at hl 3 rfl) ?_
  refine lv_iload hx hb dX0_insert_19 (lv_at hl 0 rfl) ?_
  refine lv_iconst (v := nI 1) hx hb dX0_insert_21 (by decide +kernel) ?_
  refine eg_iadd hx hb dX0_insert_22 ?_
  refine eg_callV (As := [.int (nI pp), .int (nI ((tx n lt tg (kn a)).length + 1))]) (rest := []) hx hb hml hown hts hK hP (c_X0_checkPlace l D cI cJ q n mk lt tg pa an la kn fb fh nb te1 wt1 bh pp ((tx n lt tg (kn a)).length + 1) (by omega) (by omega)) (cwV 2 hts gX0_insert_X0_checkPlace rfl rfl rfl (by decide +kernel) ⟨Nat.le_of_ble_eq_true rfl, Nat.le_of_ble_eq_true rfl⟩) (va_recv hK hP (ci := 0) (q0 := 0) rfl rfl) rfl hl.1 rfl (Nat.le_of_ble_eq_true rfl) dX0_insert_23 ⟨Nat.zero_le _, Nat.zero_le _⟩ ?_
  refine lv_iload_n hx hb dX0_insert_26 rfl (lv_at hl 4 rfl) ?_
  refine lv_if_lt (tgt := 36) hx hb dX0_insert_27 (by decide) (fun c27 => ?_) (fun c27 => ?_)
  · first | exact absurd c27 hc | exact absurd hc2 c33
  · refine lv_iload_n hx hb dX0_insert_30 rfl (lv_at hl 4 rfl) ?_
    refine lv_bipush (v := nI 26) hx hb dX0_insert_31 (by decide +kernel) ?_
    refine lv_icmp_lt (tgt := 46) hx hb dX0_insert_33 (by decide) (fun c33 => ?_) (fun c33 => ?_)
    · refine lv_aload_n hx hb dX0_insert_46 rfl (lv_at hl 1 rfl) ?_
      exact eg_callXout (As := []) (rest := []) hx hb hml hown hts hK hP hD rfl hS hT [0, 1, 2, 3, 4, 5, 6, 7, 8, 9, 10, 11, 12] rfl (by decide) (c_X0_checkRoom_no l D cI cJ q n mk lt tg pa an la kn fb fh nb te1 wt1 bh  hnr (by have := hI.1; omega) hfl) (cwV 0 hts gX0_insert_X0_checkRoom rfl rfl rfl (by decide +kernel) ⟨Nat.le_of_ble_eq_true rfl, Nat.le_of_ble_eq_true rfl⟩) (va_recv hK hP (ci := 0) (q0 := 0) rfl rfl) rfl hl.1 rfl (Nat.le_of_ble_eq_true rfl) dX0_insert_47 ⟨Nat.le_of_ble_eq_true rfl, Nat.le_of_ble_eq_true rfl⟩ htb hlocks (fun w1 h => ⟨_, _, _, h⟩)
    · first | exact absurd c27 hc | exact absurd hc2 c33
set_option maxHeartbeats 4000000 in
set_option maxRecDepth 100000 in
theorem c_X0_delete_no2 (l : Launch) (D : va_G) (cI cJ : ClassId) (q : Nat → Nat) (n : Nat) (mk lt tg : Nat → Int32) (pa an la kn : Nat → Int64) (fb : Int32) (fh nb te wt bh : Nat → Int32) (a : Nat) (y : Int32) (hI : Inv n lt tg an kn) (htr : ∃ f, Tr n fh nb f fb (lay (ins lt) tg n)) (ha : a < 4) (hbad : bad (tx n lt tg (kn a)).length y) (hfl : l.stackTraces = false) : eg_MX D (tyL cI cJ) l yX0_delete wsX0_delete ({ frames := 7, cells := 1, slots := 6, locals := 104 }) [.ref (q 0), .int (nI a), .int y] (wX q cI cJ (nI n) mk lt tg pa an la kn fb fh nb te wt bh) "java/lang/IndexOutOfBoundsException" (fun w1 => ∃ (te' wt' bh' : Nat → Int32), w1 = wX q cI cJ (nI n) mk lt tg pa an la kn fb fh nb te' wt' bh') := by
  refine vx_ofW (cc := cX0_delete) (maxL := 4) (ret := (some .int)) (by decide) rfl ?_
  intro p e s m args below meth c s₁ B hml htb hv
  obtain ⟨rfl, hP, hK, hD0, hT⟩ := hv
  have hx := B.exec
  have hb := B.bytes
  have hr := B.returns
  have hts := atoms_spec (ws := wsX0_delete) B.pre
  have hown : s.vm.findClass RX0 = some m.cls := findClass_of_methodNamed B.named
  have hlocks := B.notSynchronized
  have hD := eg_D_of hD0
  have hS : va_S (eg_A (wX q cI cJ (nI n) mk lt tg pa an la kn fb fh nb te wt bh)) s.heap s.heap [] := va_S.rf
  have hin : ∀ w ∈ u_ws RX0 TX0 14, w ∈ wsX0_delete := by decide +kernel
  have hl := lv_entry ([.ref (q 0), .int (nI a), .int y]) (n := 4) (Nat.le_of_ble_eq_true rfl)
  rw [lg_entry_eq]
  generalize (lg_sl ([.ref (q 0), .int (nI a), .int y]) ++ List.replicate (4 - (lg_sl ([.ref (q 0), .int (nI a), .int y])).length) Slot.unset).toArray = ls at hl ⊢
  have hl : lv_has ls 4 [(0, .ref (q 0)), (1, .int (nI a)), (2, .int y)] := hl
  generalize h0H : s.heap = H at hP ⊢
  have hS : va_S (eg_A (wX q cI cJ (nI n) mk lt tg pa an la kn fb fh nb te wt bh)) s.heap H [] := by rw [← h0H]; exact hS
  generalize ([] : List Loc) = locs at hS ⊢
  refine lv_aload_n hx hb dX0_delete_0 rfl (lv_at hl 0 rfl) ?_
  refine lv_iload_n hx hb dX0_delete_1 rfl (lv_at hl 1 rfl) ?_
  refine eg_callV (As := [.int (nI a)]) (rest := []) hx hb hml hown hts hK hP (c_X0_checkAuthor l D cI cJ q n mk lt tg pa an la kn fb fh nb te wt bh a (by omega)) (cwV 1 hts gX0_delete_X0_checkAuthor rfl rfl rfl (by decide +kernel) ⟨Nat.le_of_ble_eq_true rfl, Nat.le_of_ble_eq_true rfl⟩) (va_recv hK hP (ci := 0) (q0 := 0) rfl rfl) rfl hl.1 rfl (Nat.le_of_ble_eq_true rfl) dX0_delete_2 ⟨Nat.zero_le _, Nat.zero_le _⟩ ?_
  refine lv_aload_n hx hb dX0_delete_5 rfl (lv_at hl 0 rfl) ?_
  refine lv_aload_n hx hb dX0_delete_6 rfl (lv_at hl 0 rfl) ?_
  refine va_get (D := D) (ci := 0) (v := .ref (q 7)) (C := RX0) (T := TX0) (N := 14) hx hb hts hin hown hK hP 0 rfl rfl 7 (by decide) (hts (.fieldLink RX0 33 "EditGraph" "knownSets" "[J") (by decide +kernel)) (fun _ h9 => h9) rfl dX0_delete_7 ?_
  refine lv_iload_n hx hb dX0_delete_10 rfl (lv_at hl 1 rfl) ?_
  refine eg_lald hx hb hK hP 7 1 rfl rfl (by omega) (by decide) dX0_delete_11 ?_
  have e9 := tx_all hI (hI.vk ha)
  refine eg_callWV (As := [.long (kn a)]) (rest := []) hx hb hml hown hts hK hP hD rfl hS (c_X0_findText l D cI cJ q n mk lt tg pa an la kn fb fh nb te wt bh (kn a) (lay (ins lt) tg n) hI.1 hI.hdl htr (Nat.le_trans (lay_len n (lay_nodup (Nat.le_trans hI.1 (by decide)) hI.hangA)) hI.1)) (cwV 1 hts gX0_delete_X0_findText rfl rfl rfl (by decide +kernel) ⟨Nat.le_of_ble_eq_true rfl, Nat.le_of_ble_eq_true rfl⟩) (va_recv hK hP (ci := 0) (q0 := 0) rfl rfl) rfl hl.1 rfl (Nat.le_of_ble_eq_true rfl) dX0_delete_12 ⟨Nat.zero_le _, Nat.zero_le _⟩ (fun v9 w9 H locs hR9 hw9 hP hS => ?_)
  obtain ⟨te1, wt1, rfl, rfl, hh1⟩ := hR9
  rw [e9] at hh1 ⊢
  have hT9 := tx_len hI (hI.vk ha)
  have hI1 := hI.1
  refine lv_istore_n (lv' := [(3, .int (nI ((tx n lt tg (kn a)).length))), (0, .ref (q 0)), (1, .int (nI a)), (2, .int y)]) hx hb dX0_delete_15 rfl hl (by decide) rfl (fun ls hl => ?_)
  refine lv_aload_n hx hb dX0_delete_16 rfl (lv_at hl 1 rfl) ?_
  refine lv_iload_n hx hb dX0_delete_17 rfl (lv_at hl 3 rfl) ?_
  refine lv_iload_n hx hb dX0_delete_18 rfl (lv_at hl 0 rfl) ?_
  exact eg_callXout (As := [.int y, .int (nI ((tx n lt tg (kn a)).length))]) (rest := []) hx hb hml hown hts hK hP hD rfl hS hT [0, 1, 2, 3, 4, 5, 6, 7, 8, 9, 10, 11, 12] rfl (by decide) (c_X0_checkPlace_no l D cI cJ q n mk lt tg pa an la kn fb fh nb te1 wt1 bh y ((tx n lt tg (kn a)).length) hbad hfl) (cwV 2 hts gX0_delete_X0_checkPlace rfl rfl rfl (by decide +kernel) ⟨Nat.le_of_ble_eq_true rfl, Nat.le_of_ble_eq_true rfl⟩) (va_recv hK hP (ci := 0) (q0 := 0) rfl rfl) rfl hl.1 rfl (Nat.le_of_ble_eq_true rfl) dX0_delete_19 ⟨Nat.le_of_ble_eq_true rfl, Nat.le_of_ble_eq_true rfl⟩ htb hlocks (fun w1 h => ⟨_, _, _, h⟩)
set_option maxHeartbeats 4000000 in
set_option maxRecDepth 100000 in
theorem c_X0_delete_no3 (l : Launch) (D : va_G) (cI cJ : ClassId) (q : Nat → Nat) (n : Nat) (mk lt tg : Nat → Int32) (pa an la kn : Nat → Int64) (fb : Int32) (fh nb te wt bh : Nat → Int32) (a : Nat) (pp : Nat) (hI : Inv n lt tg an kn) (htr : ∃ f, Tr n fh nb f fb (lay (ins lt) tg n)) (ha : a < 4) (hp : pp < (tx n lt tg (kn a)).length) (hnr : 60 ≤ n) (hfl : l.stackTraces = false) : eg_MX D (tyL cI cJ) l yX0_delete wsX0_delete ({ frames := 7, cells := 1, slots := 6, locals := 102 }) [.ref (q 0), .int (nI a), .int (nI pp)] (wX q cI cJ (nI n) mk lt tg pa an la kn fb fh nb te wt bh) "java/lang/IllegalStateException" (fun w1 => ∃ (te' wt' bh' : Nat → Int32), w1 = wX q cI cJ (nI n) mk lt tg pa an la kn fb fh nb te' wt' bh') := by
  refine vx_ofW (cc := cX0_delete) (maxL := 4) (ret := (some .int)) (by decide) rfl ?_
  intro p e s m args below meth c s₁ B hml htb hv
  obtain ⟨rfl, hP, hK, hD0, hT⟩ := hv
  have hx := B.exec
  have hb := B.bytes
  have hr := B.returns
  have hts := atoms_spec (ws := wsX0_delete) B.pre
  have hown : s.vm.findClass RX0 = some m.cls := findClass_of_methodNamed B.named
  have hlocks := B.notSynchronized
  have hD := eg_D_of hD0
  have hS : va_S (eg_A (wX q cI cJ (nI n) mk lt tg pa an la kn fb fh nb te wt bh)) s.heap s.heap [] := va_S.rf
  have hin : ∀ w ∈ u_ws RX0 TX0 14, w ∈ wsX0_delete := by decide +kernel
  have hl := lv_entry ([.ref (q 0), .int (nI a), .int (nI pp)]) (n := 4) (Nat.le_of_ble_eq_true rfl)
  rw [lg_entry_eq]
  generalize (lg_sl ([.ref (q 0), .int (nI a), .int (nI pp)]) ++ List.replicate (4 - (lg_sl ([.ref (q 0), .int (nI a), .int (nI pp)])).length) Slot.unset).toArray = ls at hl ⊢
  have hl : lv_has ls 4 [(0, .ref (q 0)), (1, .int (nI a)), (2, .int (nI pp))] := hl
  generalize h0H : s.heap = H at hP ⊢
  have hS : va_S (eg_A (wX q cI cJ (nI n) mk lt tg pa an la kn fb fh nb te wt bh)) s.heap H [] := by rw [← h0H]; exact hS
  generalize ([] : List Loc) = locs at hS ⊢
  refine lv_aload_n hx hb dX0_delete_0 rfl (lv_at hl 0 rfl) ?_
  refine lv_iload_n hx hb dX0_delete_1 rfl (lv_at hl 1 rfl) ?_
  refine eg_callV (As := [.int (nI a)]) (rest := []) hx hb hml hown hts hK hP (c_X0_checkAuthor l D cI cJ q n mk lt tg pa an la kn fb fh nb te wt bh a (by omega)) (cwV 1 hts gX0_delete_X0_checkAuthor rfl rfl rfl (by decide +kernel) ⟨Nat.le_of_ble_eq_true rfl, Nat.le_of_ble_eq_true rfl⟩) (va_recv hK hP (ci := 0) (q0 := 0) rfl rfl) rfl hl.1 rfl (Nat.le_of_ble_eq_true rfl) dX0_delete_2 ⟨Nat.zero_le _, Nat.zero_le _⟩ ?_
  refine lv_aload_n hx hb dX0_delete_5 rfl (lv_at hl 0 rfl) ?_
  refine lv_aload_n hx hb dX0_delete_6 rfl (lv_at hl 0 rfl) ?_
  refine va_get (D := D) (ci := 0) (v := .ref (q 7)) (C := RX0) (T := TX0) (N := 14) hx hb hts hin hown hK hP 0 rfl rfl 7 (by decide) (hts (.fieldLink RX0 33 "EditGraph" "knownSets" "[J") (by decide +kernel)) (fun _ h9 => h9) rfl dX0_delete_7 ?_
  refine lv_iload_n hx hb dX0_delete_10 rfl (lv_at hl 1 rfl) ?_
  refine eg_lald hx hb hK hP 7 1 rfl rfl (by omega) (by decide) dX0_delete_11 ?_
  have e9 := tx_all hI (hI.vk ha)
  refine eg_callWV (As := [.long (kn a)]) (rest := []) hx hb hml hown hts hK hP hD rfl hS (c_X0_findText l D cI cJ q n mk lt tg pa an la kn fb fh nb te wt bh (kn a) (lay (ins lt) tg n) hI.1 hI.hdl htr (Nat.le_trans (lay_len n (lay_nodup (Nat.le_trans hI.1 (by decide)) hI.hangA)) hI.1)) (cwV 1 hts gX0_delete_X0_findText rfl rfl rfl (by decide +kernel) ⟨Nat.le_of_ble_eq_true rfl, Nat.le_of_ble_eq_true rfl⟩) (va_recv hK hP (ci := 0) (q0 := 0) rfl rfl) rfl hl.1 rfl (Nat.le_of_ble_eq_true rfl) dX0_delete_12 ⟨Nat.zero_le _, Nat.zero_le _⟩ (fun v9 w9 H locs hR9 hw9 hP hS => ?_)
  obtain ⟨te1, wt1, rfl, rfl, hh1⟩ := hR9
  rw [e9] at hh1 ⊢
  have hT9 := tx_len hI (hI.vk ha)
  have hI1 := hI.1
  refine lv_istore_n (lv' := [(3, .int (nI ((tx n lt tg (kn a)).length))), (0, .ref (q 0)), (1, .int (nI a)), (2, .int (nI pp))]) hx hb dX0_delete_15 rfl hl (by decide) rfl (fun ls hl => ?_)
  refine lv_aload_n hx hb dX0_delete_16 rfl (lv_at hl 1 rfl) ?_
  refine lv_iload_n hx hb dX0_delete_17 rfl (lv_at hl 3 rfl) ?_
  refine lv_iload_n hx hb dX0_delete_18 rfl (lv_at hl 0 rfl) ?_
  refine eg_callV (As := [.int (nI pp), .int (nI ((tx n lt tg (kn a)).length))]) (rest := []) hx hb hml hown hts hK hP (c_X0_checkPlace l D cI cJ q n mk lt tg pa an la kn fb fh nb te1 wt1 bh pp ((tx n lt tg (kn a)).length) hp (by omega)) (cwV 2 hts gX0_delete_X0_checkPlace rfl rfl rfl (by decide +kernel) ⟨Nat.le_of_ble_eq_true rfl, Nat.le_of_ble_eq_true rfl⟩) (va_recv hK hP (ci := 0) (q0 := 0) rfl rfl) rfl hl.1 rfl (Nat.le_of_ble_eq_true rfl) dX0_delete_19 ⟨Nat.zero_le _, Nat.zero_le _⟩ ?_
  refine lv_aload_n hx hb dX0_delete_22 rfl (lv_at hl 1 rfl) ?_
  exact eg_callXout (As := []) (rest := []) hx hb hml hown hts hK hP hD rfl hS hT [0, 1, 2, 3, 4, 5, 6, 7, 8, 9, 10, 11, 12] rfl (by decide) (c_X0_checkRoom_no l D cI cJ q n mk lt tg pa an la kn fb fh nb te1 wt1 bh  hnr (by have := hI.1; omega) hfl) (cwV 0 hts gX0_delete_X0_checkRoom rfl rfl rfl (by decide +kernel) ⟨Nat.le_of_ble_eq_true rfl, Nat.le_of_ble_eq_true rfl⟩) (va_recv hK hP (ci := 0) (q0 := 0) rfl rfl) rfl hl.1 rfl (Nat.le_of_ble_eq_true rfl) dX0_delete_23 ⟨Nat.le_of_ble_eq_true rfl, Nat.le_of_ble_eq_true rfl⟩ htb hlocks (fun w1 h => ⟨_, _, _, h⟩)
set_option maxHeartbeats 4000000 in
set_option maxRecDepth 100000 in
theorem c_X0_learn_no2 (l : Launch) (D : va_G) (cI cJ : ClassId) (q : Nat → Nat) (n : Nat) (mk lt tg : Nat → Int32) (pa an la kn : Nat → Int64) (fb : Int32) (fh nb te wt bh : Nat → Int32) (a : Nat) (y : Int32) (ha : a < 4) (hbad : bad 4 y) (hfl : l.stackTraces = false) : eg_MX D (tyL cI cJ) l yX0_learn wsX0_learn ({ frames := 7, cells := 1, slots := 6, locals := 103 }) [.ref (q 0), .int (nI a), .int y] (wX q cI cJ (nI n) mk lt tg pa an la kn fb fh nb te wt bh) "java/lang/IndexOutOfBoundsException" (fun w1 => ∃ (te' wt' bh' : Nat → Int32), w1 = wX q cI cJ (nI n) mk lt tg pa an la kn fb fh nb te' wt' bh') := by
  refine vx_ofW (cc := cX0_learn) (maxL := 3) (ret := (some .int)) (by decide) rfl ?_
  intro p e s m args below meth c s₁ B hml htb hv
  obtain ⟨rfl, hP, hK, hD0, hT⟩ := hv
  have hx := B.exec
  have hb := B.bytes
  have hr := B.returns
  have hts := atoms_spec (ws := wsX0_learn) B.pre
  have hown : s.vm.findClass RX0 = some m.cls := findClass_of_methodNamed B.named
  have hlocks := B.notSynchronized
  have hD := eg_D_of hD0
  have hS : va_S (eg_A (wX q cI cJ (nI n) mk lt tg pa an la kn fb fh nb te wt bh)) s.heap s.heap [] := va_S.rf
  have hin : ∀ w ∈ u_ws RX0 TX0 14, w ∈ wsX0_learn := by decide +kernel
  have hl := lv_entry ([.ref (q 0), .int (nI a), .int y]) (n := 3) (Nat.le_of_ble_eq_true rfl)
  rw [lg_entry_eq]
  generalize (lg_sl ([.ref (q 0), .int (nI a), .int y]) ++ List.replicate (3 - (lg_sl ([.ref (q 0), .int (nI a), .int y])).length) Slot.unset).toArray = ls at hl ⊢
  have hl : lv_has ls 3 [(0, .ref (q 0)), (1, .int (nI a)), (2, .int y)] := hl
  generalize h0H : s.heap = H at hP ⊢
  have hS : va_S (eg_A (wX q cI cJ (nI n) mk lt tg pa an la kn fb fh nb te wt bh)) s.heap H [] := by rw [← h0H]; exact hS
  generalize ([] : List Loc) = locs at hS ⊢
  refine lv_aload_n hx hb dX0_learn_0 rfl (lv_at hl 0 rfl) ?_
  refine lv_iload_n hx hb dX0_learn_1 rfl (lv_at hl 1 rfl) ?_
  refine eg_callV (As := [.int (nI a)]) (rest := []) hx hb hml hown hts hK hP (c_X0_checkAuthor l D cI cJ q n mk lt tg pa an la kn fb fh nb te wt bh a (by omega)) (cwV 1 hts gX0_learn_X0_checkAuthor rfl rfl rfl (by decide +kernel) ⟨Nat.le_of_ble_eq_true rfl, Nat.le_of_ble_eq_true rfl⟩) (va_recv hK hP (ci := 0) (q0 := 0) rfl rfl) rfl hl.1 rfl (Nat.le_of_ble_eq_true rfl) dX0_learn_2 ⟨Nat.zero_le _, Nat.zero_le _⟩ ?_
  refine lv_aload_n hx hb dX0_learn_5 rfl (lv_at hl 0 rfl) ?_
  refine lv_iload_n hx hb dX0_learn_6 rfl (lv_at hl 2 rfl) ?_
  exact eg_callXout (As := [.int y]) (rest := []) hx hb hml hown hts hK hP hD rfl hS hT [0, 1, 2, 3, 4, 5, 6, 7, 8, 9, 10, 11, 12] rfl (by decide) (c_X0_checkAuthor_no l D cI cJ q n mk lt tg pa an la kn fb fh nb te wt bh y hbad hfl) (cwV 1 hts gX0_learn_X0_checkAuthor rfl rfl rfl (by decide +kernel) ⟨Nat.le_of_ble_eq_true rfl, Nat.le_of_ble_eq_true rfl⟩) (va_recv hK hP (ci := 0) (q0 := 0) rfl rfl) rfl hl.1 rfl (Nat.le_of_ble_eq_true rfl) dX0_learn_7 ⟨Nat.le_of_ble_eq_true rfl, Nat.le_of_ble_eq_true rfl⟩ htb hlocks (fun w1 h => ⟨_, _, _, h⟩)
set_option maxHeartbeats 4000000 in
set_option maxRecDepth 100000 in
theorem c_X0_commonHeads_no2 (l : Launch) (D : va_G) (cI cJ : ClassId) (q : Nat → Nat) (n : Nat) (mk lt tg : Nat → Int32) (pa an la kn : Nat → Int64) (fb : Int32) (fh nb te wt bh : Nat → Int32) (a : Nat) (y : Int32) (ha : a < 4) (hbad : bad 4 y) (hfl : l.stackTraces = false) : eg_MX D (tyL cI cJ) l yX0_commonHeads wsX0_commonHeads ({ frames := 7, cells := 1, slots := 6, locals := 103 }) [.ref (q 0), .int (nI a), .int y] (wX q cI cJ (nI n) mk lt tg pa an la kn fb fh nb te wt bh) "java/lang/IndexOutOfBoundsException" (fun w1 => ∃ (te' wt' bh' : Nat → Int32), w1 = wX q cI cJ (nI n) mk lt tg pa an la kn fb fh nb te' wt' bh') := by
  refine vx_ofW (cc := cX0_commonHeads) (maxL := 3) (ret := (some .long)) (by decide) rfl ?_
  intro p e s m args below meth c s₁ B hml htb hv
  obtain ⟨rfl, hP, hK, hD0, hT⟩ := hv
  have hx := B.exec
  have hb := B.bytes
  have hr := B.returns
  have hts := atoms_spec (ws := wsX0_commonHeads) B.pre
  have hown : s.vm.findClass RX0 = some m.cls := findClass_of_methodNamed B.named
  have hlocks := B.notSynchronized
  have hD := eg_D_of hD0
  have hS : va_S (eg_A (wX q cI cJ (nI n) mk lt tg pa an la kn fb fh nb te wt bh)) s.heap s.heap [] := va_S.rf
  have hin : ∀ w ∈ u_ws RX0 TX0 14, w ∈ wsX0_commonHeads := by decide +kernel
  have hl := lv_entry ([.ref (q 0), .int (nI a), .int y]) (n := 3) (Nat.le_of_ble_eq_true rfl)
  rw [lg_entry_eq]
  generalize (lg_sl ([.ref (q 0), .int (nI a), .int y]) ++ List.replicate (3 - (lg_sl ([.ref (q 0), .int (nI a), .int y])).length) Slot.unset).toArray = ls at hl ⊢
  have hl : lv_has ls 3 [(0, .ref (q 0)), (1, .int (nI a)), (2, .int y)] := hl
  generalize h0H : s.heap = H at hP ⊢
  have hS : va_S (eg_A (wX q cI cJ (nI n) mk lt tg pa an la kn fb fh nb te wt bh)) s.heap H [] := by rw [← h0H]; exact hS
  generalize ([] : List Loc) = locs at hS ⊢
  refine lv_aload_n hx hb dX0_commonHeads_0 rfl (lv_at hl 0 rfl) ?_
  refine lv_iload_n hx hb dX0_commonHeads_1 rfl (lv_at hl 1 rfl) ?_
  refine eg_callV (As := [.int (nI a)]) (rest := []) hx hb hml hown hts hK hP (c_X0_checkAuthor l D cI cJ q n mk lt tg pa an la kn fb fh nb te wt bh a (by omega)) (cwV 1 hts gX0_commonHeads_X0_checkAuthor rfl rfl rfl (by decide +kernel) ⟨Nat.le_of_ble_eq_true rfl, Nat.le_of_ble_eq_true rfl⟩) (va_recv hK hP (ci := 0) (q0 := 0) rfl rfl) rfl hl.1 rfl (Nat.le_of_ble_eq_true rfl) dX0_commonHeads_2 ⟨Nat.zero_le _, Nat.zero_le _⟩ ?_
  refine lv_aload_n hx hb dX0_commonHeads_5 rfl (lv_at hl 0 rfl) ?_
  refine lv_iload_n hx hb dX0_commonHeads_6 rfl (lv_at hl 2 rfl) ?_
  exact eg_callXout (As := [.int y]) (rest := []) hx hb hml hown hts hK hP hD rfl hS hT [0, 1, 2, 3, 4, 5, 6, 7, 8, 9, 10, 11, 12] rfl (by decide) (c_X0_checkAuthor_no l D cI cJ q n mk lt tg pa an la kn fb fh nb te wt bh y hbad hfl) (cwV 1 hts gX0_commonHeads_X0_checkAuthor rfl rfl rfl (by decide +kernel) ⟨Nat.le_of_ble_eq_true rfl, Nat.le_of_ble_eq_true rfl⟩) (va_recv hK hP (ci := 0) (q0 := 0) rfl rfl) rfl hl.1 rfl (Nat.le_of_ble_eq_true rfl) dX0_commonHeads_7 ⟨Nat.le_of_ble_eq_true rfl, Nat.le_of_ble_eq_true rfl⟩ htb hlocks (fun w1 h => ⟨_, _, _, h⟩)
set_option maxHeartbeats 4000000 in
set_option maxRecDepth 100000 in
theorem c_X0_lettersBy_no2 (l : Launch) (D : va_G) (cI cJ : ClassId) (q : Nat → Nat) (n : Nat) (mk lt tg : Nat → Int32) (pa an la kn : Nat → Int64) (fb : Int32) (fh nb te wt bh : Nat → Int32) (a : Nat) (y : Int32) (ha : a < 4) (hbad : bad 4 y) (hfl : l.stackTraces = false) : eg_MX D (tyL cI cJ) l yX0_lettersBy wsX0_lettersBy ({ frames := 7, cells := 1, slots := 6, locals := 103 }) [.ref (q 0), .int (nI a), .int y] (wX q cI cJ (nI n) mk lt tg pa an la kn fb fh nb te wt bh) "java/lang/IndexOutOfBoundsException" (fun w1 => ∃ (te' wt' bh' : Nat → Int32), w1 = wX q cI cJ (nI n) mk lt tg pa an la kn fb fh nb te' wt' bh') := by
  refine vx_ofW (cc := cX0_lettersBy) (maxL := 6) (ret := (some .int)) (by decide) rfl ?_
  intro p e s m args below meth c s₁ B hml htb hv
  obtain ⟨rfl, hP, hK, hD0, hT⟩ := hv
  have hx := B.exec
  have hb := B.bytes
  have hr := B.returns
  have hts := atoms_spec (ws := wsX0_lettersBy) B.pre
  have hown : s.vm.findClass RX0 = some m.cls := findClass_of_methodNamed B.named
  have hlocks := B.notSynchronized
  have hD := eg_D_of hD0
  have hS : va_S (eg_A (wX q cI cJ (nI n) mk lt tg pa an la kn fb fh nb te wt bh)) s.heap s.heap [] := va_S.rf
  have hin : ∀ w ∈ u_ws RX0 TX0 14, w ∈ wsX0_lettersBy := by decide +kernel
  have hl := lv_entry ([.ref (q 0), .int (nI a), .int y]) (n := 6) (Nat.le_of_ble_eq_true rfl)
  rw [lg_entry_eq]
  generalize (lg_sl ([.ref (q 0), .int (nI a), .int y]) ++ List.replicate (6 - (lg_sl ([.ref (q 0), .int (nI a), .int y])).length) Slot.unset).toArray = ls at hl ⊢
  have hl : lv_has ls 6 [(0, .ref (q 0)), (1, .int (nI a)), (2, .int y)] := hl
  generalize h0H : s.heap = H at hP ⊢
  have hS : va_S (eg_A (wX q cI cJ (nI n) mk lt tg pa an la kn fb fh nb te wt bh)) s.heap H [] := by rw [← h0H]; exact hS
  generalize ([] : List Loc) = locs at hS ⊢
  refine lv_aload_n hx hb dX0_lettersBy_0 rfl (lv_at hl 0 rfl) ?_
  refine lv_iload_n hx hb dX0_lettersBy_1 rfl (lv_at hl 1 rfl) ?_
  refine eg_callV (As := [.int (nI a)]) (rest := []) hx hb hml hown hts hK hP (c_X0_checkAuthor l D cI cJ q n mk lt tg pa an la kn fb fh nb te wt bh a (by omega)) (cwV 1 hts gX0_lettersBy_X0_checkAuthor rfl rfl rfl (by decide +kernel) ⟨Nat.le_of_ble_eq_true rfl, Nat.le_of_ble_eq_true rfl⟩) (va_recv hK hP (ci := 0) (q0 := 0) rfl rfl) rfl hl.1 rfl (Nat.le_of_ble_eq_true rfl) dX0_lettersBy_2 ⟨Nat.zero_le _, Nat.zero_le _⟩ ?_
  refine lv_aload_n hx hb dX0_lettersBy_5 rfl (lv_at hl 0 rfl) ?_
  refine lv_iload_n hx hb dX0_lettersBy_6 rfl (lv_at hl 2 rfl) ?_
  exact eg_callXout (As := [.int y]) (rest := []) hx hb hml hown hts hK hP hD rfl hS hT [0, 1, 2, 3, 4, 5, 6, 7, 8, 9, 10, 11, 12] rfl (by decide) (c_X0_checkAuthor_no l D cI cJ q n mk lt tg pa an la kn fb fh nb te wt bh y hbad hfl) (cwV 1 hts gX0_lettersBy_X0_checkAuthor rfl rfl rfl (by decide +kernel) ⟨Nat.le_of_ble_eq_true rfl, Nat.le_of_ble_eq_true rfl⟩) (va_recv hK hP (ci := 0) (q0 := 0) rfl rfl) rfl hl.1 rfl (Nat.le_of_ble_eq_true rfl) dX0_lettersBy_7 ⟨Nat.le_of_ble_eq_true rfl, Nat.le_of_ble_eq_true rfl⟩ htb hlocks (fun w1 h => ⟨_, _, _, h⟩)
set_option maxHeartbeats 4000000 in
set_option maxRecDepth 100000 in
theorem c_X0_isLater_no2 (l : Launch) (D : va_G) (cI cJ : ClassId) (q : Nat → Nat) (n : Nat) (mk lt tg : Nat → Int32) (pa an la kn : Nat → Int64) (fb : Int32) (fh nb te wt bh : Nat → Int32) (e0 : Nat) (y : Int32) (hI : Inv n lt tg an kn) (he : e0 < n) (hbad : bad n y) (hfl : l.stackTraces = false) : eg_MX D (tyL cI cJ) l yX0_isLater wsX0_isLater ({ frames := 7, cells := 1, slots := 6, locals := 103 }) [.ref (q 0), .int (nI e0), .int y] (wX q cI cJ (nI n) mk lt tg pa an la kn fb fh nb te wt bh) "java/lang/IndexOutOfBoundsException" (fun w1 => ∃ (te' wt' bh' : Nat → Int32), w1 = wX q cI cJ (nI n) mk lt tg pa an la kn fb fh nb te' wt' bh') := by
  have hI1 := hI.1
  refine vx_ofW (cc := cX0_isLater) (maxL := 3) (ret := (some .boolean)) (by decide) rfl ?_
  intro p e s m args below meth c s₁ B hml htb hv
  obtain ⟨rfl, hP, hK, hD0, hT⟩ := hv
  have hx := B.exec
  have hb := B.bytes
  have hr := B.returns
  have hts := atoms_spec (ws := wsX0_isLater) B.pre
  have hown : s.vm.findClass RX0 = some m.cls := findClass_of_methodNamed B.named
  have hlocks := B.notSynchronized
  have hD := eg_D_of hD0
  have hS : va_S (eg_A (wX q cI cJ (nI n) mk lt tg pa an la kn fb fh nb te wt bh)) s.heap s.heap [] := va_S.rf
  have hin : ∀ w ∈ u_ws RX0 TX0 14, w ∈ wsX0_isLater := by decide +kernel
  have hl := lv_entry ([.ref (q 0), .int (nI e0), .int y]) (n := 3) (Nat.le_of_ble_eq_true rfl)
  rw [lg_entry_eq]
  generalize (lg_sl ([.ref (q 0), .int (nI e0), .int y]) ++ List.replicate (3 - (lg_sl ([.ref (q 0), .int (nI e0), .int y])).length) Slot.unset).toArray = ls at hl ⊢
  have hl : lv_has ls 3 [(0, .ref (q 0)), (1, .int (nI e0)), (2, .int y)] := hl
  generalize h0H : s.heap = H at hP ⊢
  have hS : va_S (eg_A (wX q cI cJ (nI n) mk lt tg pa an la kn fb fh nb te wt bh)) s.heap H [] := by rw [← h0H]; exact hS
  generalize ([] : List Loc) = locs at hS ⊢
  refine lv_aload_n hx hb dX0_isLater_0 rfl (lv_at hl 0 rfl) ?_
  refine lv_iload_n hx hb dX0_isLater_1 rfl (lv_at hl 1 rfl) ?_
  refine eg_callV (As := [.int (nI e0)]) (rest := []) hx hb hml hown hts hK hP (c_X0_checkEvent l D cI cJ q n mk lt tg pa an la kn fb fh nb te wt bh e0 hI.1 (by omega)) (cwV 1 hts gX0_isLater_X0_checkEvent rfl rfl rfl (by decide +kernel) ⟨Nat.le_of_ble_eq_true rfl, Nat.le_of_ble_eq_true rfl⟩) (va_recv hK hP (ci := 0) (q0 := 0) rfl rfl) rfl hl.1 rfl (Nat.le_of_ble_eq_true rfl) dX0_isLater_2 ⟨Nat.zero_le _, Nat.zero_le _⟩ ?_
  refine lv_aload_n hx hb dX0_isLater_5 rfl (lv_at hl 0 rfl) ?_
  refine lv_iload_n hx hb dX0_isLater_6 rfl (lv_at hl 2 rfl) ?_
  exact eg_callXout (As := [.int y]) (rest := []) hx hb hml hown hts hK hP hD rfl hS hT [0, 1, 2, 3, 4, 5, 6, 7, 8, 9, 10, 11, 12] rfl (by decide) (c_X0_checkEvent_no l D cI cJ q n mk lt tg pa an la kn fb fh nb te wt bh y hbad hfl) (cwV 1 hts gX0_isLater_X0_checkEvent rfl rfl rfl (by decide +kernel) ⟨Nat.le_of_ble_eq_true rfl, Nat.le_of_ble_eq_true rfl⟩) (va_recv hK hP (ci := 0) (q0 := 0) rfl rfl) rfl hl.1 rfl (Nat.le_of_ble_eq_true rfl) dX0_isLater_7 ⟨Nat.le_of_ble_eq_true rfl, Nat.le_of_ble_eq_true rfl⟩ htb hlocks (fun w1 h => ⟨_, _, _, h⟩)
set_option maxHeartbeats 4000000 in
set_option maxRecDepth 100000 in
theorem c_X0_learnEvent_no2 (l : Launch) (D : va_G) (cI cJ : ClassId) (q : Nat → Nat) (n : Nat) (mk lt tg : Nat → Int32) (pa an la kn : Nat → Int64) (fb : Int32) (fh nb te wt bh : Nat → Int32) (a : Nat) (y : Int32) (hI : Inv n lt tg an kn) (ha : a < 4) (hbad : bad n y) (hfl : l.stackTraces = false) : eg_MX D (tyL cI cJ) l yX0_learnEvent wsX0_learnEvent ({ frames := 7, cells := 1, slots := 6, locals := 103 }) [.ref (q 0), .int (nI a), .int y] (wX q cI cJ (nI n) mk lt tg pa an la kn fb fh nb te wt bh) "java/lang/IndexOutOfBoundsException" (fun w1 => ∃ (te' wt' bh' : Nat → Int32), w1 = wX q cI cJ (nI n) mk lt tg pa an la kn fb fh nb te' wt' bh') := by
  refine vx_ofW (cc := cX0_learnEvent) (maxL := 3) (ret := (some .int)) (by decide) rfl ?_
  intro p e s m args below meth c s₁ B hml htb hv
  obtain ⟨rfl, hP, hK, hD0, hT⟩ := hv
  have hx := B.exec
  have hb := B.bytes
  have hr := B.returns
  have hts := atoms_spec (ws := wsX0_learnEvent) B.pre
  have hown : s.vm.findClass RX0 = some m.cls := findClass_of_methodNamed B.named
  have hlocks := B.notSynchronized
  have hD := eg_D_of hD0
  have hS : va_S (eg_A (wX q cI cJ (nI n) mk lt tg pa an la kn fb fh nb te wt bh)) s.heap s.heap [] := va_S.rf
  have hl := lv_entry ([.ref (q 0), .int (nI a), .int y]) (n := 3) (Nat.le_of_ble_eq_true rfl)
  rw [lg_entry_eq]
  generalize (lg_sl ([.ref (q 0), .int (nI a), .int y]) ++ List.replicate (3 - (lg_sl ([.ref (q 0), .int (nI a), .int y])).length) Slot.unset).toArray = ls at hl ⊢
  have hl : lv_has ls 3 [(0, .ref (q 0)), (1, .int (nI a)), (2, .int y)] := hl
  generalize h0H : s.heap = H at hP ⊢
  have hS : va_S (eg_A (wX q cI cJ (nI n) mk lt tg pa an la kn fb fh nb te wt bh)) s.heap H [] := by rw [← h0H]; exact hS
  generalize ([] : List Loc) = locs at hS ⊢
  refine lv_aload_n hx hb dX0_learnEvent_0 rfl (lv_at hl 0 rfl) ?_
  refine lv_iload_n hx hb dX0_learnEvent_1 rfl (lv_at hl 1 rfl) ?_
  refine eg_callV (As := [.int (nI a)]) (rest := []) hx hb hml hown hts hK hP (c_X0_checkAuthor l D cI cJ q n mk lt tg pa an la kn fb fh nb te wt bh a (by omega)) (cwV 1 hts gX0_learnEvent_X0_checkAuthor rfl rfl rfl (by decide +kernel) ⟨Nat.le_of_ble_eq_true rfl, Nat.le_of_ble_eq_true rfl⟩) (va_recv hK hP (ci := 0) (q0 := 0) rfl rfl) rfl hl.1 rfl (Nat.le_of_ble_eq_true rfl) dX0_learnEvent_2 ⟨Nat.zero_le _, Nat.zero_le _⟩ ?_
  refine lv_aload_n hx hb dX0_learnEvent_5 rfl (lv_at hl 0 rfl) ?_
  refine lv_iload_n hx hb dX0_learnEvent_6 rfl (lv_at hl 2 rfl) ?_
  exact eg_callXout (As := [.int y]) (rest := []) hx hb hml hown hts hK hP hD rfl hS hT [0, 1, 2, 3, 4, 5, 6, 7, 8, 9, 10, 11, 12] rfl (by decide) (c_X0_checkEvent_no l D cI cJ q n mk lt tg pa an la kn fb fh nb te wt bh y hbad hfl) (cwV 1 hts gX0_learnEvent_X0_checkEvent rfl rfl rfl (by decide +kernel) ⟨Nat.le_of_ble_eq_true rfl, Nat.le_of_ble_eq_true rfl⟩) (va_recv hK hP (ci := 0) (q0 := 0) rfl rfl) rfl hl.1 rfl (Nat.le_of_ble_eq_true rfl) dX0_learnEvent_7 ⟨Nat.le_of_ble_eq_true rfl, Nat.le_of_ble_eq_true rfl⟩ htb hlocks (fun w1 h => ⟨_, _, _, h⟩)
set_option maxHeartbeats 4000000 in
set_option maxRecDepth 100000 in
theorem c_X0_letterAt_no2 (l : Launch) (D : va_G) (cI cJ : ClassId) (q : Nat → Nat) (n : Nat) (mk lt tg : Nat → Int32) (pa an la kn : Nat → Int64) (fb : Int32) (fh nb te wt bh : Nat → Int32) (a : Nat) (y : Int32) (hI : Inv n lt tg an kn) (htr : ∃ f, Tr n fh nb f fb (lay (ins lt) tg n)) (ha : a < 4) (hbad : bad (tx n lt tg (kn a)).length y) (hfl : l.stackTraces = false) : eg_MX D (tyL cI cJ) l yX0_letterAt wsX0_letterAt ({ frames := 8, cells := 1, slots := 6, locals := 128 }) [.ref (q 0), .int (nI a), .int y] (wX q cI cJ (nI n) mk lt tg pa an la kn fb fh nb te wt bh) "java/lang/IndexOutOfBoundsException" (fun w1 => ∃ (te' wt' bh' : Nat → Int32), w1 = wX q cI cJ (nI n) mk lt tg pa an la kn fb fh nb te' wt' bh') := by
  refine vx_ofW (cc := cX0_letterAt) (maxL := 3) (ret := (some .int)) (by decide) rfl ?_
  intro p e s m args below meth c s₁ B hml htb hv
  obtain ⟨rfl, hP, hK, hD0, hT⟩ := hv
  have hx := B.exec
  have hb := B.bytes
  have hr := B.returns
  have hts := atoms_spec (ws := wsX0_letterAt) B.pre
  have hown : s.vm.findClass RX0 = some m.cls := findClass_of_methodNamed B.named
  have hlocks := B.notSynchronized
  have hD := eg_D_of hD0
  have hS : va_S (eg_A (wX q cI cJ (nI n) mk lt tg pa an la kn fb fh nb te wt bh)) s.heap s.heap [] := va_S.rf
  have hin : ∀ w ∈ u_ws RX0 TX0 14, w ∈ wsX0_letterAt := by decide +kernel
  have hl := lv_entry ([.ref (q 0), .int (nI a), .int y]) (n := 3) (Nat.le_of_ble_eq_true rfl)
  rw [lg_entry_eq]
  generalize (lg_sl ([.ref (q 0), .int (nI a), .int y]) ++ List.replicate (3 - (lg_sl ([.ref (q 0), .int (nI a), .int y])).length) Slot.unset).toArray = ls at hl ⊢
  have hl : lv_has ls 3 [(0, .ref (q 0)), (1, .int (nI a)), (2, .int y)] := hl
  generalize h0H : s.heap = H at hP ⊢
  have hS : va_S (eg_A (wX q cI cJ (nI n) mk lt tg pa an la kn fb fh nb te wt bh)) s.heap H [] := by rw [← h0H]; exact hS
  generalize ([] : List Loc) = locs at hS ⊢
  refine lv_aload_n hx hb dX0_letterAt_0 rfl (lv_at hl 0 rfl) ?_
  refine lv_iload_n hx hb dX0_letterAt_1 rfl (lv_at hl 1 rfl) ?_
  refine eg_callV (As := [.int (nI a)]) (rest := []) hx hb hml hown hts hK hP (c_X0_checkAuthor l D cI cJ q n mk lt tg pa an la kn fb fh nb te wt bh a (by omega)) (cwV 1 hts gX0_letterAt_X0_checkAuthor rfl rfl rfl (by decide +kernel) ⟨Nat.le_of_ble_eq_true rfl, Nat.le_of_ble_eq_true rfl⟩) (va_recv hK hP (ci := 0) (q0 := 0) rfl rfl) rfl hl.1 rfl (Nat.le_of_ble_eq_true rfl) dX0_letterAt_2 ⟨Nat.zero_le _, Nat.zero_le _⟩ ?_
  refine lv_aload_n hx hb dX0_letterAt_5 rfl (lv_at hl 0 rfl) ?_
  refine va_get (D := D) (ci := 0) (v := .ref (q 2)) (C := RX0) (T := TX0) (N := 14) hx hb hts hin hown hK hP 0 rfl rfl 2 (by decide) (hts (.fieldLink RX0 17 "EditGraph" "letters" "[I") (by decide +kernel)) (fun _ h9 => h9) rfl dX0_letterAt_6 ?_
  refine lv_aload_n hx hb dX0_letterAt_9 rfl (lv_at hl 0 rfl) ?_
  refine lv_aload_n hx hb dX0_letterAt_10 rfl (lv_at hl 0 rfl) ?_
  refine va_get (D := D) (ci := 0) (v := .ref (q 7)) (C := RX0) (T := TX0) (N := 14) hx hb hts hin hown hK hP 0 rfl rfl 7 (by decide) (hts (.fieldLink RX0 33 "EditGraph" "knownSets" "[J") (by decide +kernel)) (fun _ h9 => h9) rfl dX0_letterAt_11 ?_
  refine lv_iload_n hx hb dX0_letterAt_14 rfl (lv_at hl 1 rfl) ?_
  refine eg_lald hx hb hK hP 7 1 rfl rfl (by omega) (by decide) dX0_letterAt_15 ?_
  refine lv_iload_n hx hb dX0_letterAt_16 rfl (lv_at hl 2 rfl) ?_
  exact eg_callXout (As := [.long (kn a), .int y]) (rest := [.ref (q 2)]) hx hb hml hown hts hK hP hD rfl hS hT [0, 1, 2, 3, 4, 5, 6, 7, 8, 9, 10, 11, 12] rfl (by decide) (c_X0_eventInText_no l D cI cJ q n mk lt tg pa an la kn fb fh nb te wt bh (kn a) y hI htr (hI.vk ha) hbad hfl) (cwV 2 hts gX0_letterAt_X0_eventInText rfl rfl rfl (by decide +kernel) ⟨Nat.le_of_ble_eq_true rfl, Nat.le_of_ble_eq_true rfl⟩) (va_recv hK hP (ci := 0) (q0 := 0) rfl rfl) rfl hl.1 rfl (Nat.le_of_ble_eq_true rfl) dX0_letterAt_17 ⟨Nat.le_of_ble_eq_true rfl, Nat.le_of_ble_eq_true rfl⟩ htb hlocks (fun w1 h => h)
set_option maxHeartbeats 4000000 in
set_option maxRecDepth 100000 in
theorem c_X0_eventAt_no2 (l : Launch) (D : va_G) (cI cJ : ClassId) (q : Nat → Nat) (n : Nat) (mk lt tg : Nat → Int32) (pa an la kn : Nat → Int64) (fb : Int32) (fh nb te wt bh : Nat → Int32) (a : Nat) (y : Int32) (hI : Inv n lt tg an kn) (htr : ∃ f, Tr n fh nb f fb (lay (ins lt) tg n)) (ha : a < 4) (hbad : bad (tx n lt tg (kn a)).length y) (hfl : l.stackTraces = false) : eg_MX D (tyL cI cJ) l yX0_eventAt wsX0_eventAt ({ frames := 8, cells := 1, slots := 6, locals := 128 }) [.ref (q 0), .int (nI a), .int y] (wX q cI cJ (nI n) mk lt tg pa an la kn fb fh nb te wt bh) "java/lang/IndexOutOfBoundsException" (fun w1 => ∃ (te' wt' bh' : Nat → Int32), w1 = wX q cI cJ (nI n) mk lt tg pa an la kn fb fh nb te' wt' bh') := by
  refine vx_ofW (cc := cX0_eventAt) (maxL := 3) (ret := (some .int)) (by decide) rfl ?_
  intro p e s m args below meth c s₁ B hml htb hv
  obtain ⟨rfl, hP, hK, hD0, hT⟩ := hv
  have hx := B.exec
  have hb := B.bytes
  have hr := B.returns
  have hts := atoms_spec (ws := wsX0_eventAt) B.pre
  have hown : s.vm.findClass RX0 = some m.cls := findClass_of_methodNamed B.named
  have hlocks := B.notSynchronized
  have hD := eg_D_of hD0
  have hS : va_S (eg_A (wX q cI cJ (nI n) mk lt tg pa an la kn fb fh nb te wt bh)) s.heap s.heap [] := va_S.rf
  have hin : ∀ w ∈ u_ws RX0 TX0 14, w ∈ wsX0_eventAt := by decide +kernel
  have hl := lv_entry ([.ref (q 0), .int (nI a), .int y]) (n := 3) (Nat.le_of_ble_eq_true rfl)
  rw [lg_entry_eq]
  generalize (lg_sl ([.ref (q 0), .int (nI a), .int y]) ++ List.replicate (3 - (lg_sl ([.ref (q 0), .int (nI a), .int y])).length) Slot.unset).toArray = ls at hl ⊢
  have hl : lv_has ls 3 [(0, .ref (q 0)), (1, .int (nI a)), (2, .int y)] := hl
  generalize h0H : s.heap = H at hP ⊢
  have hS : va_S (eg_A (wX q cI cJ (nI n) mk lt tg pa an la kn fb fh nb te wt bh)) s.heap H [] := by rw [← h0H]; exact hS
  generalize ([] : List Loc) = locs at hS ⊢
  refine lv_aload_n hx hb dX0_eventAt_0 rfl (lv_at hl 0 rfl) ?_
  refine lv_iload_n hx hb dX0_eventAt_1 rfl (lv_at hl 1 rfl) ?_
  refine eg_callV (As := [.int (nI a)]) (rest := []) hx hb hml hown hts hK hP (c_X0_checkAuthor l D cI cJ q n mk lt tg pa an la kn fb fh nb te wt bh a (by omega)) (cwV 1 hts gX0_eventAt_X0_checkAuthor rfl rfl rfl (by decide +kernel) ⟨Nat.le_of_ble_eq_true rfl, Nat.le_of_ble_eq_true rfl⟩) (va_recv hK hP (ci := 0) (q0 := 0) rfl rfl) rfl hl.1 rfl (Nat.le_of_ble_eq_true rfl) dX0_eventAt_2 ⟨Nat.zero_le _, Nat.zero_le _⟩ ?_
  refine lv_aload_n hx hb dX0_eventAt_5 rfl (lv_at hl 0 rfl) ?_
  refine lv_aload_n hx hb dX0_eventAt_6 rfl (lv_at hl 0 rfl) ?_
  refine va_get (D := D) (ci := 0) (v := .ref (q 7)) (C := RX0) (T := TX0) (N := 14) hx hb hts hin hown hK hP 0 rfl rfl 7 (by decide) (hts (.fieldLink RX0 33 "EditGraph" "knownSets" "[J") (by decide +kernel)) (fun _ h9 => h9) rfl dX0_eventAt_7 ?_
  refine lv_iload_n hx hb dX0_eventAt_10 rfl (lv_at hl 1 rfl) ?_
  refine eg_lald hx hb hK hP 7 1 rfl rfl (by omega) (by decide) dX0_eventAt_11 ?_
  refine lv_iload_n hx hb dX0_eventAt_12 rfl (lv_at hl 2 rfl) ?_
  exact eg_callXout (As := [.long (kn a), .int y]) (rest := []) hx hb hml hown hts hK hP hD rfl hS hT [0, 1, 2, 3, 4, 5, 6, 7, 8, 9, 10, 11, 12] rfl (by decide) (c_X0_eventInText_no l D cI cJ q n mk lt tg pa an la kn fb fh nb te wt bh (kn a) y hI htr (hI.vk ha) hbad hfl) (cwV 2 hts gX0_eventAt_X0_eventInText rfl rfl rfl (by decide +kernel) ⟨Nat.le_of_ble_eq_true rfl, Nat.le_of_ble_eq_true rfl⟩) (va_recv hK hP (ci := 0) (q0 := 0) rfl rfl) rfl hl.1 rfl (Nat.le_of_ble_eq_true rfl) dX0_eventAt_13 ⟨Nat.le_of_ble_eq_true rfl, Nat.le_of_ble_eq_true rfl⟩ htb hlocks (fun w1 h => h)
set_option maxHeartbeats 4000000 in
set_option maxRecDepth 100000 in
theorem c_X0_letterOf_no2 (l : Launch) (D : va_G) (cI cJ : ClassId) (q : Nat → Nat) (n : Nat) (mk lt tg : Nat → Int32) (pa an la kn : Nat → Int64) (fb : Int32) (fh nb te wt bh : Nat → Int32) (e0 : Nat) (y : Int32) (hI : Inv n lt tg an kn) (htr : ∃ f, Tr n fh nb f fb (lay (ins lt) tg n)) (he : e0 < n) (hbad : bad (tx n lt tg (an e0 ||| ol e0)).length y) (hfl : l.stackTraces = false) : eg_MX D (tyL cI cJ) l yX0_letterOf wsX0_letterOf ({ frames := 8, cells := 1, slots := 6, locals := 128 }) [.ref (q 0), .int (nI e0), .int y] (wX q cI cJ (nI n) mk lt tg pa an la kn fb fh nb te wt bh) "java/lang/IndexOutOfBoundsException" (fun w1 => ∃ (te' wt' bh' : Nat → Int32), w1 = wX q cI cJ (nI n) mk lt tg pa an la kn fb fh nb te' wt' bh') := by
  have hI1 := hI.1
  refine vx_ofW (cc := cX0_letterOf) (maxL := 3) (ret := (some .int)) (by decide) rfl ?_
  intro p e s m args below meth c s₁ B hml htb hv
  obtain ⟨rfl, hP, hK, hD0, hT⟩ := hv
  have hx := B.exec
  have hb := B.bytes
  have hr := B.returns
  have hts := atoms_spec (ws := wsX0_letterOf) B.pre
  have hown : s.vm.findClass RX0 = some m.cls := findClass_of_methodNamed B.named
  have hlocks := B.notSynchronized
  have hD := eg_D_of hD0
  have hS : va_S (eg_A (wX q cI cJ (nI n) mk lt tg pa an la kn fb fh nb te wt bh)) s.heap s.heap [] := va_S.rf
  have hin : ∀ w ∈ u_ws RX0 TX0 14, w ∈ wsX0_letterOf := by decide +kernel
  have hl := lv_entry ([.ref (q 0), .int (nI e0), .int y]) (n := 3) (Nat.le_of_ble_eq_true rfl)
  rw [lg_entry_eq]
  generalize (lg_sl ([.ref (q 0), .int (nI e0), .int y]) ++ List.replicate (3 - (lg_sl ([.ref (q 0), .int (nI e0), .int y])).length) Slot.unset).toArray = ls at hl ⊢
  have hl : lv_has ls 3 [(0, .ref (q 0)), (1, .int (nI e0)), (2, .int y)] := hl
  generalize h0H : s.heap = H at hP ⊢
  have hS : va_S (eg_A (wX q cI cJ (nI n) mk lt tg pa an la kn fb fh nb te wt bh)) s.heap H [] := by rw [← h0H]; exact hS
  generalize ([] : List Loc) = locs at hS ⊢
  refine lv_aload_n hx hb dX0_letterOf_0 rfl (lv_at hl 0 rfl) ?_
  refine lv_iload_n hx hb dX0_letterOf_1 rfl (lv_at hl 1 rfl) ?_
  refine eg_callV (As := [.int (nI e0)]) (rest := []) hx hb hml hown hts hK hP (c_X0_checkEvent l D cI cJ q n mk lt tg pa an la kn fb fh nb te wt bh e0 hI.1 (by omega)) (cwV 1 hts gX0_letterOf_X0_checkEvent rfl rfl rfl (by decide +kernel) ⟨Nat.le_of_ble_eq_true rfl, Nat.le_of_ble_eq_true rfl⟩) (va_recv hK hP (ci := 0) (q0 := 0) rfl rfl) rfl hl.1 rfl (Nat.le_of_ble_eq_true rfl) dX0_letterOf_2 ⟨Nat.zero_le _, Nat.zero_le _⟩ ?_
  refine lv_aload_n hx hb dX0_letterOf_5 rfl (lv_at hl 0 rfl) ?_
  refine va_get (D := D) (ci := 0) (v := .ref (q 2)) (C := RX0) (T := TX0) (N := 14) hx hb hts hin hown hK hP 0 rfl rfl 2 (by decide) (hts (.fieldLink RX0 17 "EditGraph" "letters" "[I") (by decide +kernel)) (fun _ h9 => h9) rfl dX0_letterOf_6 ?_
  refine lv_aload_n hx hb dX0_letterOf_9 rfl (lv_at hl 0 rfl) ?_
  refine lv_aload_n hx hb dX0_letterOf_10 rfl (lv_at hl 0 rfl) ?_
  refine lv_iload_n hx hb dX0_letterOf_11 rfl (lv_at hl 1 rfl) ?_
  refine eg_callV (As := [.int (nI e0)]) (rest := [.ref (q 0), .ref (q 2)]) hx hb hml hown hts hK hP (c_X0_versionOfEvent l D cI cJ q n mk lt tg pa an la kn fb fh nb te wt bh e0 (by omega)) (cwV 1 hts gX0_letterOf_X0_versionOfEvent rfl rfl rfl (by decide +kernel) ⟨Nat.le_of_ble_eq_true rfl, Nat.le_of_ble_eq_true rfl⟩) (va_recv hK hP (ci := 0) (q0 := 0) rfl rfl) rfl hl.1 rfl (Nat.le_of_ble_eq_true rfl) dX0_letterOf_12 ⟨Nat.zero_le _, Nat.zero_le _⟩ ?_
  refine lv_iload_n hx hb dX0_letterOf_15 rfl (lv_at hl 2 rfl) ?_
  exact eg_callXout (As := [.long (an e0 ||| ol e0), .int y]) (rest := [.ref (q 2)]) hx hb hml hown hts hK hP hD rfl hS hT [0, 1, 2, 3, 4, 5, 6, 7, 8, 9, 10, 11, 12] rfl (by decide) (c_X0_eventInText_no l D cI cJ q n mk lt tg pa an la kn fb fh nb te wt bh (an e0 ||| ol e0) y hI htr (hI.ve he) hbad hfl) (cwV 2 hts gX0_letterOf_X0_eventInText rfl rfl rfl (by decide +kernel) ⟨Nat.le_of_ble_eq_true rfl, Nat.le_of_ble_eq_true rfl⟩) (va_recv hK hP (ci := 0) (q0 := 0) rfl rfl) rfl hl.1 rfl (Nat.le_of_ble_eq_true rfl) dX0_letterOf_16 ⟨Nat.le_of_ble_eq_true rfl, Nat.le_of_ble_eq_true rfl⟩ htb hlocks (fun w1 h => h)
set_option maxHeartbeats 4000000 in
set_option maxRecDepth 100000 in
theorem c_X0_letterByList_no2 (l : Launch) (D : va_G) (cI cJ : ClassId) (q : Nat → Nat) (n : Nat) (mk lt tg : Nat → Int32) (pa an la kn : Nat → Int64) (fb : Int32) (fh nb te wt bh : Nat → Int32) (a : Nat) (y : Int32) (hI : Inv n lt tg an kn) (ha : a < 4) (hbad : bad (tx n lt tg (kn a)).length y) (hfl : l.stackTraces = false) : eg_MX D (tyL cI cJ) l yX0_letterByList wsX0_letterByList ({ frames := 7, cells := 1, slots := 6, locals := 104 }) [.ref (q 0), .int (nI a), .int y] (wX q cI cJ (nI n) mk lt tg pa an la kn fb fh nb te wt bh) "java/lang/IndexOutOfBoundsException" (fun w1 => ∃ (te' wt' bh' : Nat → Int32), w1 = wX q cI cJ (nI n) mk lt tg pa an la kn fb fh nb te' wt' bh') := by
  refine vx_ofW (cc := cX0_letterByList) (maxL := 4) (ret := (some .int)) (by decide) rfl ?_
  intro p e s m args below meth c s₁ B hml htb hv
  obtain ⟨rfl, hP, hK, hD0, hT⟩ := hv
  have hx := B.exec
  have hb := B.bytes
  have hr := B.returns
  have hts := atoms_spec (ws := wsX0_letterByList) B.pre
  have hown : s.vm.findClass RX0 = some m.cls := findClass_of_methodNamed B.named
  have hlocks := B.notSynchronized
  have hD := eg_D_of hD0
  have hS : va_S (eg_A (wX q cI cJ (nI n) mk lt tg pa an la kn fb fh nb te wt bh)) s.heap s.heap [] := va_S.rf
  have hin : ∀ w ∈ u_ws RX0 TX0 14, w ∈ wsX0_letterByList := by decide +kernel
  have hl := lv_entry ([.ref (q 0), .int (nI a), .int y]) (n := 4) (Nat.le_of_ble_eq_true rfl)
  rw [lg_entry_eq]
  generalize (lg_sl ([.ref (q 0), .int (nI a), .int y]) ++ List.replicate (4 - (lg_sl ([.ref (q 0), .int (nI a), .int y])).length) Slot.unset).toArray = ls at hl ⊢
  have hl : lv_has ls 4 [(0, .ref (q 0)), (1, .int (nI a)), (2, .int y)] := hl
  generalize h0H : s.heap = H at hP ⊢
  have hS : va_S (eg_A (wX q cI cJ (nI n) mk lt tg pa an la kn fb fh nb te wt bh)) s.heap H [] := by rw [← h0H]; exact hS
  generalize ([] : List Loc) = locs at hS ⊢
  refine lv_aload_n hx hb dX0_letterByList_0 rfl (lv_at hl 0 rfl) ?_
  refine lv_iload_n hx hb dX0_letterByList_1 rfl (lv_at hl 1 rfl) ?_
  refine eg_callV (As := [.int (nI a)]) (rest := []) hx hb hml hown hts hK hP (c_X0_checkAuthor l D cI cJ q n mk lt tg pa an la kn fb fh nb te wt bh a (by omega)) (cwV 1 hts gX0_letterByList_X0_checkAuthor rfl rfl rfl (by decide +kernel) ⟨Nat.le_of_ble_eq_true rfl, Nat.le_of_ble_eq_true rfl⟩) (va_recv hK hP (ci := 0) (q0 := 0) rfl rfl) rfl hl.1 rfl (Nat.le_of_ble_eq_true rfl) dX0_letterByList_2 ⟨Nat.zero_le _, Nat.zero_le _⟩ ?_
  refine lv_aload_n hx hb dX0_letterByList_5 rfl (lv_at hl 0 rfl) ?_
  refine lv_aload_n hx hb dX0_letterByList_6 rfl (lv_at hl 0 rfl) ?_
  refine va_get (D := D) (ci := 0) (v := .ref (q 7)) (C := RX0) (T := TX0) (N := 14) hx hb hts hin hown hK hP 0 rfl rfl 7 (by decide) (hts (.fieldLink RX0 33 "EditGraph" "knownSets" "[J") (by decide +kernel)) (fun _ h9 => h9) rfl dX0_letterByList_7 ?_
  refine lv_iload_n hx hb dX0_letterByList_10 rfl (lv_at hl 1 rfl) ?_
  refine eg_lald hx hb hK hP 7 1 rfl rfl (by omega) (by decide) dX0_letterByList_11 ?_
  have e9 := tx_list (v := kn a) hI
  refine eg_callWV (As := [.long (kn a)]) (rest := []) hx hb hml hown hts hK hP hD rfl hS (c_X0_findTextByList l D cI cJ q n mk lt tg pa an la kn fb fh nb te wt bh (kn a) hI.1 hI.hdl (hI.hangV (hI.vk ha))) (cwV 1 hts gX0_letterByList_X0_findTextByList rfl rfl rfl (by decide +kernel) ⟨Nat.le_of_ble_eq_true rfl, Nat.le_of_ble_eq_true rfl⟩) (va_recv hK hP (ci := 0) (q0 := 0) rfl rfl) rfl hl.1 rfl (Nat.le_of_ble_eq_true rfl) dX0_letterByList_12 ⟨Nat.zero_le _, Nat.zero_le _⟩ (fun v9 w9 H locs hR9 hw9 hP hS => ?_)
  obtain ⟨te1, bh1, rfl, rfl, hh1⟩ := hR9
  rw [e9] at hh1 ⊢
  have hT9 := tx_len hI (hI.vk ha)
  have hI1 := hI.1
  refine lv_istore_n (lv' := [(3, .int (nI ((tx n lt tg (kn a)).length))), (0, .ref (q 0)), (1, .int (nI a)), (2, .int y)]) hx hb dX0_letterByList_15 rfl hl (by decide) rfl (fun ls hl => ?_)
  refine lv_aload_n hx hb dX0_letterByList_16 rfl (lv_at hl 1 rfl) ?_
  refine lv_iload_n hx hb dX0_letterByList_17 rfl (lv_at hl 3 rfl) ?_
  refine lv_iload_n hx hb dX0_letterByList_18 rfl (lv_at hl 0 rfl) ?_
  exact eg_callXout (As := [.int y, .int (nI ((tx n lt tg (kn a)).length))]) (rest := []) hx hb hml hown hts hK hP hD rfl hS hT [0, 1, 2, 3, 4, 5, 6, 7, 8, 9, 10, 11, 12] rfl (by decide) (c_X0_checkPlace_no l D cI cJ q n mk lt tg pa an la kn fb fh nb te1 wt bh1 y ((tx n lt tg (kn a)).length) hbad hfl) (cwV 2 hts gX0_letterByList_X0_checkPlace rfl rfl rfl (by decide +kernel) ⟨Nat.le_of_ble_eq_true rfl, Nat.le_of_ble_eq_true rfl⟩) (va_recv hK hP (ci := 0) (q0 := 0) rfl rfl) rfl hl.1 rfl (Nat.le_of_ble_eq_true rfl) dX0_letterByList_19 ⟨Nat.le_of_ble_eq_true rfl, Nat.le_of_ble_eq_true rfl⟩ htb hlocks (fun w1 h => ⟨_, _, _, h⟩)
