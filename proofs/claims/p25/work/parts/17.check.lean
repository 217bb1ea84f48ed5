-- the checks, passing and throwing (by gen.py, specC.py)
set_option maxHeartbeats 4000000 in
set_option maxRecDepth 100000 in
theorem c_X0_checkAuthor (l : Launch) (D : va_G) (cI cJ : ClassId) (q : Nat → Nat) (n : Nat) (mk lt tg : Nat → Int32) (pa an la kn : Nat → Int64) (fb : Int32) (fh nb te wt bh : Nat → Int32) (a : Nat) (ha : a < 4) : eg_MR D (tyL cI cJ) l yX0_checkAuthor wsX0_checkAuthor ({ frames := 0, cells := 0, slots := 0, locals := 0 }) [.ref (q 0), .int (nI a)] (wX q cI cJ (nI n) mk lt tg pa an la kn fb fh nb te wt bh) (none) := by
  refine Met.ofW (cc := cX0_checkAuthor) (maxL := 2) (ret := none) (by decide) rfl ?_
  intro p e s m args below meth c s₁ B hml hv
  obtain ⟨rfl, hP, hK⟩ := hv
  have hx := B.exec
  have hb := B.bytes
  have hr := B.returns
  have hts := atoms_spec (ws := wsX0_checkAuthor) B.pre
  have hown : s.vm.findClass RX0 = some m.cls := findClass_of_methodNamed B.named
  have hlocks := B.notSynchronized
  have hl := lv_entry ([.ref (q 0), .int (nI a)]) (n := 2) (Nat.le_of_ble_eq_true rfl)
  rw [lg_entry_eq]
  generalize (lg_sl ([.ref (q 0), .int (nI a)]) ++ List.replicate (2 - (lg_sl ([.ref (q 0), .int (nI a)])).length) Slot.unset).toArray = ls at hl ⊢
  have hl : lv_has ls 2 [(0, .ref (q 0)), (1, .int (nI a))] := hl
  refine lv_iload_n hx hb dX0_checkAuthor_0 rfl (lv_at hl 1 rfl) ?_
  refine eg_if_lt (tgt := 9) hx hb dX0_checkAuthor_1 (by decide) (by omega) ?_
  refine lv_iload_n hx hb dX0_checkAuthor_4 rfl (lv_at hl 1 rfl) ?_
  refine lv_iconst (v := nI 4) hx hb dX0_checkAuthor_5 (by decide +kernel) ?_
  refine eg_icmp_lt (tgt := 19) hx hb dX0_checkAuthor_6 (by decide) (by omega) (by omega) (fun c6 => ?_) (fun c6 => ?_)
  · exact W.vret hx hb hr (fun t9 ht9 _ => ⟨rfl, ht9⟩) (fun q h => nomatch h) dX0_checkAuthor_19
  · omega
set_option maxHeartbeats 4000000 in
set_option maxRecDepth 100000 in
theorem c_X0_checkEvent (l : Launch) (D : va_G) (cI cJ : ClassId) (q : Nat → Nat) (n : Nat) (mk lt tg : Nat → Int32) (pa an la kn : Nat → Int64) (fb : Int32) (fh nb te wt bh : Nat → Int32) (e0 : Nat) (hn : n ≤ 60) (he : e0 < n) : eg_MR D (tyL cI cJ) l yX0_checkEvent wsX0_checkEvent ({ frames := 1, cells := 0, slots := 0, locals := 21 }) [.ref (q 0), .int (nI e0)] (wX q cI cJ (nI n) mk lt tg pa an la kn fb fh nb te wt bh) (none) := by
  refine Met.ofW (cc := cX0_checkEvent) (maxL := 2) (ret := none) (by decide) rfl ?_
  intro p e s m args below meth c s₁ B hml hv
  obtain ⟨rfl, hP, hK⟩ := hv
  have hx := B.exec
  have hb := B.bytes
  have hr := B.returns
  have hts := atoms_spec (ws := wsX0_checkEvent) B.pre
  have hown : s.vm.findClass RX0 = some m.cls := findClass_of_methodNamed B.named
  have hlocks := B.notSynchronized
  have hl := lv_entry ([.ref (q 0), .int (nI e0)]) (n := 2) (Nat.le_of_ble_eq_true rfl)
  rw [lg_entry_eq]
  generalize (lg_sl ([.ref (q 0), .int (nI e0)]) ++ List.replicate (2 - (lg_sl ([.ref (q 0), .int (nI e0)])).length) Slot.unset).toArray = ls at hl ⊢
  have hl : lv_has ls 2 [(0, .ref (q 0)), (1, .int (nI e0))] := hl
  refine lv_aload_n hx hb dX0_checkEvent_0 rfl (lv_at hl 0 rfl) ?_
  refine lv_iload_n hx hb dX0_checkEvent_1 rfl (lv_at hl 1 rfl) ?_
  refine eg_callV (As := [.int (nI e0)]) (rest := []) hx hb hml hown hts hK hP (c_X0_isEvent l D cI cJ q n mk lt tg pa an la kn fb fh nb te wt bh (nI e0) ) (cwV 1 hts gX0_checkEvent_X0_isEvent rfl rfl rfl (by decide +kernel) ⟨Nat.le_of_ble_eq_true rfl, Nat.le_of_ble_eq_true rfl⟩) (va_recv hK hP (ci := 0) (q0 := 0) rfl rfl) rfl hl.1 rfl (Nat.le_of_ble_eq_true rfl) dX0_checkEvent_2 ⟨Nat.zero_le _, Nat.zero_le _⟩ ?_
  refine eg_ifne_b (tgt := 18) hx hb dX0_checkEvent_5 (by decide) (fun c5 => ?_) (fun c5 => ?_)
  · exact W.vret hx hb hr (fun t9 ht9 _ => ⟨rfl, ht9⟩) (fun q h => nomatch h) dX0_checkEvent_18
  · rw [ev_nI (by omega) he] at c5; cases c5
set_option maxHeartbeats 4000000 in
set_option maxRecDepth 100000 in
theorem c_X0_checkPlace (l : Launch) (D : va_G) (cI cJ : ClassId) (q : Nat → Nat) (n : Nat) (mk lt tg : Nat → Int32) (pa an la kn : Nat → Int64) (fb : Int32) (fh nb te wt bh : Nat → Int32) (pp : Nat) (L : Nat) (hp : pp < L) (hL : L < 2 ^ 31) : eg_MR D (tyL cI cJ) l yX0_checkPlace wsX0_checkPlace ({ frames := 0, cells := 0, slots := 0, locals := 0 }) [.ref (q 0), .int (nI pp), .int (nI L)] (wX q cI cJ (nI n) mk lt tg pa an la kn fb fh nb te wt bh) (none) := by
  refine Met.ofW (cc := cX0_checkPlace) (maxL := 3) (ret := none) (by decide) rfl ?_
  intro p e s m args below meth c s₁ B hml hv
  obtain ⟨rfl, hP, hK⟩ := hv
  have hx := B.exec
  have hb := B.bytes
  have hr := B.returns
  have hts := atoms_spec (ws := wsX0_checkPlace) B.pre
  have hown : s.vm.findClass RX0 = some m.cls := findClass_of_methodNamed B.named
  have hlocks := B.notSynchronized
  have hl := lv_entry ([.ref (q 0), .int (nI pp), .int (nI L)]) (n := 3) (Nat.le_of_ble_eq_true rfl)
  rw [lg_entry_eq]
  generalize (lg_sl ([.ref (q 0), .int (nI pp), .int (nI L)]) ++ List.replicate (3 - (lg_sl ([.ref (q 0), .int (nI pp), .int (nI L)])).length) Slot.unset).toArray = ls at hl ⊢
  have hl : lv_has ls 3 [(0, .ref (q 0)), (1, .int (nI pp)), (2, .int (nI L))] := hl
  refine lv_iload_n hx hb dX0_checkPlace_0 rfl (lv_at hl 1 rfl) ?_
  refine eg_if_lt (tgt := 9) hx hb dX0_checkPlace_1 (by decide) (by omega) ?_
  refine lv_iload_n hx hb dX0_checkPlace_4 rfl (lv_at hl 1 rfl) ?_
  refine lv_iload_n hx hb dX0_checkPlace_5 rfl (lv_at hl 2 rfl) ?_
  refine eg_icmp_lt (tgt := 19) hx hb dX0_checkPlace_6 (by decide) (by omega) (by omega) (fun c6 => ?_) (fun c6 => ?_)
  · exact W.vret hx hb hr (fun t9 ht9 _ => ⟨rfl, ht9⟩) (fun q h => nomatch h) dX0_checkPlace_19
  · omega
set_option maxHeartbeats 4000000 in
set_option maxRecDepth 100000 in
theorem c_X0_checkRoom (l : Launch) (D : va_G) (cI cJ : ClassId) (q : Nat → Nat) (n : Nat) (mk lt tg : Nat → Int32) (pa an la kn : Nat → Int64) (fb : Int32) (fh nb te wt bh : Nat → Int32) (hn : n < 60) : eg_MR D (tyL cI cJ) l yX0_checkRoom wsX0_checkRoom ({ frames := 0, cells := 0, slots := 0, locals := 0 }) [.ref (q 0)] (wX q cI cJ (nI n) mk lt tg pa an la kn fb fh nb te wt bh) (none) := by
  refine Met.ofW (cc := cX0_checkRoom) (maxL := 1) (ret := none) (by decide) rfl ?_
  intro p e s m args below meth c s₁ B hml hv
  obtain ⟨rfl, hP, hK⟩ := hv
  have hx := B.exec
  have hb := B.bytes
  have hr := B.returns
  have hts := atoms_spec (ws := wsX0_checkRoom) B.pre
  have hown : s.vm.findClass RX0 = some m.cls := findClass_of_methodNamed B.named
  have hlocks := B.notSynchronized
  have hin : ∀ w ∈ u_ws RX0 TX0 14, w ∈ wsX0_checkRoom := by decide +kernel
  have hl := lv_entry ([.ref (q 0)]) (n := 1) (Nat.le_of_ble_eq_true rfl)
  rw [lg_entry_eq]
  generalize (lg_sl ([.ref (q 0)]) ++ List.replicate (1 - (lg_sl ([.ref (q 0)])).length) Slot.unset).toArray = ls at hl ⊢
  have hl : lv_has ls 1 [(0, .ref (q 0))] := hl
  refine lv_aload_n hx hb dX0_checkRoom_0 rfl (lv_at hl 0 rfl) ?_
  refine va_get (D := D) (ci := 0) (v := .int (nI n)) (C := RX0) (T := TX0) (N := 14) hx hb hts hin hown hK hP 0 rfl rfl 0 (by decide) (hts (.fieldLink RX0 7 "EditGraph" "eventCount" "I") (by decide +kernel)) (fun _ h9 => h9) rfl dX0_checkRoom_1 ?_
  refine lv_bipush (v := nI 60) hx hb dX0_checkRoom_4 (by decide +kernel) ?_
  refine eg_icmp_lt (tgt := 19) hx hb dX0_checkRoom_6 (by decide) (by omega) (by omega) (fun c6 => ?_) (fun c6 => ?_)
  · exact W.vret hx hb hr (fun t9 ht9 _ => ⟨rfl, ht9⟩) (fun q h => nomatch h) dX0_checkRoom_19
  · omega
set_option maxHeartbeats 4000000 in
set_option maxRecDepth 100000 in
theorem c_X0_checkAuthor_no (l : Launch) (D : va_G) (cI cJ : ClassId) (q : Nat → Nat) (n : Nat) (mk lt tg : Nat → Int32) (pa an la kn : Nat → Int64) (fb : Int32) (fh nb te wt bh : Nat → Int32) (x : Int32) (hbad : bad 4 x) (hfl : l.stackTraces = false) : eg_MX D (tyL cI cJ) l yX0_checkAuthor wsX0_checkAuthor ({ frames := 6, cells := 1, slots := 6, locals := 82 }) [.ref (q 0), .int x] (wX q cI cJ (nI n) mk lt tg pa an la kn fb fh nb te wt bh) "java/lang/IndexOutOfBoundsException" (fun w1 => w1 = wX q cI cJ (nI n) mk lt tg pa an la kn fb fh nb te wt bh) := by
  refine vx_ofW (cc := cX0_checkAuthor) (maxL := 2) (ret := none) (by decide) rfl ?_
  intro p e s m args below meth c s₁ B hml htb hv
  obtain ⟨rfl, hP, hK, hD0, hT⟩ := hv
  have hx := B.exec
  have hb := B.bytes
  have hr := B.returns
  have hts := atoms_spec (ws := wsX0_checkAuthor) B.pre
  have hown : s.vm.findClass RX0 = some m.cls := findClass_of_methodNamed B.named
  have hlocks := B.notSynchronized
  have hD := eg_D_of hD0
  have hS : va_S (eg_A (wX q cI cJ (nI n) mk lt tg pa an la kn fb fh nb te wt bh)) s.heap s.heap [] := va_S.rf
  have hl := lv_entry ([.ref (q 0), .int x]) (n := 2) (Nat.le_of_ble_eq_true rfl)
  rw [lg_entry_eq]
  generalize (lg_sl ([.ref (q 0), .int x]) ++ List.replicate (2 - (lg_sl ([.ref (q 0), .int x])).length) Slot.unset).toArray = ls at hl ⊢
  have hl : lv_has ls 2 [(0, .ref (q 0)), (1, .int x)] := hl
  generalize h0H : s.heap = H at hP ⊢
  have hS : va_S (eg_A (wX q cI cJ (nI n) mk lt tg pa an la kn fb fh nb te wt bh)) s.heap H [] := by rw [← h0H]; exact hS
  generalize ([] : List Loc) = locs at hS ⊢
  refine lv_iload_n hx hb dX0_checkAuthor_0 rfl (lv_at hl 1 rfl) ?_
  refine lv_if_lt (tgt := 9) hx hb dX0_checkAuthor_1 (by decide) (fun c1 => ?_) (fun c1 => ?_)
  · exact eg_throw hx hb hfl hown (by decide +kernel) (hts (.classLink RX0 126 "java/lang/IndexOutOfBoundsException") (by decide +kernel)) (hts (.initialized "java/lang/IndexOutOfBoundsException") (by decide +kernel)) hT.2.1 (hat_130 (fun w h9 => hts w (List.mem_cons_of_mem _ (List.mem_append_right _ h9))) hT.1.2) ot_130 hP rfl hS hT (hl.1.trans hml.symm) dX0_checkAuthor_9 dX0_checkAuthor_12 dX0_checkAuthor_13 dX0_checkAuthor_15 dX0_checkAuthor_18 htb (Nat.le_of_ble_eq_true rfl) (Nat.le_of_ble_eq_true rfl) (Nat.le_of_ble_eq_true rfl) (Nat.le_of_ble_eq_true rfl) hlocks rfl
  · refine lv_iload_n hx hb dX0_checkAuthor_4 rfl (lv_at hl 1 rfl) ?_
    refine lv_iconst (v := nI 4) hx hb dX0_checkAuthor_5 (by decide +kernel) ?_
    refine lv_icmp_lt (tgt := 19) hx hb dX0_checkAuthor_6 (by decide) (fun c6 => ?_) (fun c6 => ?_)
    · exact absurd c6 (bad_not hbad c1)
    · exact eg_throw hx hb hfl hown (by decide +kernel) (hts (.classLink RX0 126 "java/lang/IndexOutOfBoundsException") (by decide +kernel)) (hts (.initialized "java/lang/IndexOutOfBoundsException") (by decide +kernel)) hT.2.1 (hat_130 (fun w h9 => hts w (List.mem_cons_of_mem _ (List.mem_append_right _ h9))) hT.1.2) ot_130 hP rfl hS hT (hl.1.trans hml.symm) dX0_checkAuthor_9 dX0_checkAuthor_12 dX0_checkAuthor_13 dX0_checkAuthor_15 dX0_checkAuthor_18 htb (Nat.le_of_ble_eq_true rfl) (Nat.le_of_ble_eq_true rfl) (Nat.le_of_ble_eq_true rfl) (Nat.le_of_ble_eq_true rfl) hlocks rfl
set_option maxHeartbeats 4000000 in
set_option maxRecDepth 100000 in
theorem c_X0_checkEvent_no (l : Launch) (D : va_G) (cI cJ : ClassId) (q : Nat → Nat) (n : Nat) (mk lt tg : Nat → Int32) (pa an la kn : Nat → Int64) (fb : Int32) (fh nb te wt bh : Nat → Int32) (x : Int32) (hbad : bad n x) (hfl : l.stackTraces = false) : eg_MX D (tyL cI cJ) l yX0_checkEvent wsX0_checkEvent ({ frames := 6, cells := 1, slots := 6, locals := 82 }) [.ref (q 0), .int x] (wX q cI cJ (nI n) mk lt tg pa an la kn fb fh nb te wt bh) "java/lang/IndexOutOfBoundsException" (fun w1 => w1 = wX q cI cJ (nI n) mk lt tg pa an la kn fb fh nb te wt bh) := by
  refine vx_ofW (cc := cX0_checkEvent) (maxL := 2) (ret := none) (by decide) rfl ?_
  intro p e s m args below meth c s₁ B hml htb hv
  obtain ⟨rfl, hP, hK, hD0, hT⟩ := hv
  have hx := B.exec
  have hb := B.bytes
  have hr := B.returns
  have hts := atoms_spec (ws := wsX0_checkEvent) B.pre
  have hown : s.vm.findClass RX0 = some m.cls := findClass_of_methodNamed B.named
  have hlocks := B.notSynchronized
  have hD := eg_D_of hD0
  have hS : va_S (eg_A (wX q cI cJ (nI n) mk lt tg pa an la kn fb fh nb te wt bh)) s.heap s.heap [] := va_S.rf
  have hl := lv_entry ([.ref (q 0), .int x]) (n := 2) (Nat.le_of_ble_eq_true rfl)
  rw [lg_entry_eq]
  generalize (lg_sl ([.ref (q 0), .int x]) ++ List.replicate (2 - (lg_sl ([.ref (q 0), .int x])).length) Slot.unset).toArray = ls at hl ⊢
  have hl : lv_has ls 2 [(0, .ref (q 0)), (1, .int x)] := hl
  generalize h0H : s.heap = H at hP ⊢
  have hS : va_S (eg_A (wX q cI cJ (nI n) mk lt tg pa an la kn fb fh nb te wt bh)) s.heap H [] := by rw [← h0H]; exact hS
  generalize ([] : List Loc) = locs at hS ⊢
  refine lv_aload_n hx hb dX0_checkEvent_0 rfl (lv_at hl 0 rfl) ?_
  refine lv_iload_n hx hb dX0_checkEvent_1 rfl (lv_at hl 1 rfl) ?_
  refine eg_callV (As := [.int x]) (rest := []) hx hb hml hown hts hK hP (c_X0_isEvent l D cI cJ q n mk lt tg pa an la kn fb fh nb te wt bh x ) (cwV 1 hts gX0_checkEvent_X0_isEvent rfl rfl rfl (by decide +kernel) ⟨Nat.le_of_ble_eq_true rfl, Nat.le_of_ble_eq_true rfl⟩) (va_recv hK hP (ci := 0) (q0 := 0) rfl rfl) rfl hl.1 rfl (Nat.le_of_ble_eq_true rfl) dX0_checkEvent_2 ⟨Nat.zero_le _, Nat.zero_le _⟩ ?_
  refine eg_ifne_b (tgt := 18) hx hb dX0_checkEvent_5 (by decide) (fun c5 => ?_) (fun c5 => ?_)
  · rw [bad_ev hbad] at c5; cases c5
  · exact eg_throw hx hb hfl hown (by decide +kernel) (hts (.classLink RX0 126 "java/lang/IndexOutOfBoundsException") (by decide +kernel)) (hts (.initialized "java/lang/IndexOutOfBoundsException") (by decide +kernel)) hT.2.2.1 (hat_130 (fun w h9 => hts w (List.mem_cons_of_mem _ (List.mem_append_right _ h9))) hT.1.2) ot_130 hP rfl hS hT (hl.1.trans hml.symm) dX0_checkEvent_8 dX0_checkEvent_11 dX0_checkEvent_12 dX0_checkEvent_14 dX0_checkEvent_17 htb (Nat.le_of_ble_eq_true rfl) (Nat.le_of_ble_eq_true rfl) (Nat.le_of_ble_eq_true rfl) (Nat.le_of_ble_eq_true rfl) hlocks rfl
set_option maxHeartbeats 4000000 in
set_option maxRecDepth 100000 in
theorem c_X0_checkPlace_no (l : Launch) (D : va_G) (cI cJ : ClassId) (q : Nat → Nat) (n : Nat) (mk lt tg : Nat → Int32) (pa an la kn : Nat → Int64) (fb : Int32) (fh nb te wt bh : Nat → Int32) (x : Int32) (L : Nat) (hbad : bad L x) (hfl : l.stackTraces = false) : eg_MX D (tyL cI cJ) l yX0_checkPlace wsX0_checkPlace ({ frames := 6, cells := 1, slots := 6, locals := 82 }) [.ref (q 0), .int x, .int (nI L)] (wX q cI cJ (nI n) mk lt tg pa an la kn fb fh nb te wt bh) "java/lang/IndexOutOfBoundsException" (fun w1 => w1 = wX q cI cJ (nI n) mk lt tg pa an la kn fb fh nb te wt bh) := by
  refine vx_ofW (cc := cX0_checkPlace) (maxL := 3) (ret := none) (by decide) rfl ?_
  intro p e s m args below meth c s₁ B hml htb hv
  obtain ⟨rfl, hP, hK, hD0, hT⟩ := hv
  have hx := B.exec
  have hb := B.bytes
  have hr := B.returns
  have hts := atoms_spec (ws := wsX0_checkPlace) B.pre
  have hown : s.vm.findClass RX0 = some m.cls := findClass_of_methodNamed B.named
  have hlocks := B.notSynchronized
  have hD := eg_D_of hD0
  have hS : va_S (eg_A (wX q cI cJ (nI n) mk lt tg pa an la kn fb fh nb te wt bh)) s.heap s.heap [] := va_S.rf
  have hl := lv_entry ([.ref (q 0), .int x, .int (nI L)]) (n := 3) (Nat.le_of_ble_eq_true rfl)
  rw [lg_entry_eq]
  generalize (lg_sl ([.ref (q 0), .int x, .int (nI L)]) ++ List.replicate (3 - (lg_sl ([.ref (q 0), .int x, .int (nI L)])).length) Slot.unset).toArray = ls at hl ⊢
  have hl : lv_has ls 3 [(0, .ref (q 0)), (1, .int x), (2, .int (nI L))] := hl
  generalize h0H : s.heap = H at hP ⊢
  have hS : va_S (eg_A (wX q cI cJ (nI n) mk lt tg pa an la kn fb fh nb te wt bh)) s.heap H [] := by rw [← h0H]; exact hS
  generalize ([] : List Loc) = locs at hS ⊢
  refine lv_iload_n hx hb dX0_checkPlace_0 rfl (lv_at hl 1 rfl) ?_
  refine lv_if_lt (tgt := 9) hx hb dX0_checkPlace_1 (by decide) (fun c1 => ?_) (fun c1 => ?_)
  · exact eg_throw hx hb hfl hown (by decide +kernel) (hts (.classLink RX0 126 "java/lang/IndexOutOfBoundsException") (by decide +kernel)) (hts (.initialized "java/lang/IndexOutOfBoundsException") (by decide +kernel)) hT.2.2.2.1 (hat_130 (fun w h9 => hts w (List.mem_cons_of_mem _ (List.mem_append_right _ h9))) hT.1.2) ot_130 hP rfl hS hT (hl.1.trans hml.symm) dX0_checkPlace_9 dX0_checkPlace_12 dX0_checkPlace_13 dX0_checkPlace_15 dX0_checkPlace_18 htb (Nat.le_of_ble_eq_true rfl) (Nat.le_of_ble_eq_true rfl) (Nat.le_of_ble_eq_true rfl) (Nat.le_of_ble_eq_true rfl) hlocks rfl
  · refine lv_iload_n hx hb dX0_checkPlace_4 rfl (lv_at hl 1 rfl) ?_
    refine lv_iload_n hx hb dX0_checkPlace_5 rfl (lv_at hl 2 rfl) ?_
    refine lv_icmp_lt (tgt := 19) hx hb dX0_checkPlace_6 (by decide) (fun c6 => ?_) (fun c6 => ?_)
    · exact absurd c6 (bad_not hbad c1)
    · exact eg_throw hx hb hfl hown (by decide +kernel) (hts (.classLink RX0 126 "java/lang/IndexOutOfBoundsException") (by decide +kernel)) (hts (.initialized "java/lang/IndexOutOfBoundsException") (by decide +kernel)) hT.2.2.2.1 (hat_130 (fun w h9 => hts w (List.mem_cons_of_mem _ (List.mem_append_right _ h9))) hT.1.2) ot_130 hP rfl hS hT (hl.1.trans hml.symm) dX0_checkPlace_9 dX0_checkPlace_12 dX0_checkPlace_13 dX0_checkPlace_15 dX0_checkPlace_18 htb (Nat.le_of_ble_eq_true rfl) (Nat.le_of_ble_eq_true rfl) (Nat.le_of_ble_eq_true rfl) (Nat.le_of_ble_eq_true rfl) hlocks rfl
set_option maxHeartbeats 4000000 in
set_option maxRecDepth 100000 in
theorem c_X0_checkRoom_no (l : Launch) (D : va_G) (cI cJ : ClassId) (q : Nat → Nat) (n : Nat) (mk lt tg : Nat → Int32) (pa an la kn : Nat → Int64) (fb : Int32) (fh nb te wt bh : Nat → Int32) (hn : 60 ≤ n) (hn2 : n ≤ 60) (hfl : l.stackTraces = false) : eg_MX D (tyL cI cJ) l yX0_checkRoom wsX0_checkRoom ({ frames := 6, cells := 1, slots := 6, locals := 82 }) [.ref (q 0)] (wX q cI cJ (nI n) mk lt tg pa an la kn fb fh nb te wt bh) "java/lang/IllegalStateException" (fun w1 => w1 = wX q cI cJ (nI n) mk lt tg pa an la kn fb fh nb te wt bh) := by
  refine vx_ofW (cc := cX0_checkRoom) (maxL := 1) (ret := none) (by decide) rfl ?_
  intro p e s m args below meth c s₁ B hml htb hv
  obtain ⟨rfl, hP, hK, hD0, hT⟩ := hv
  have hx := B.exec
  have hb := B.bytes
  have hr := B.returns
  have hts := atoms_spec (ws := wsX0_checkRoom) B.pre
  have hown : s.vm.findClass RX0 = some m.cls := findClass_of_methodNamed B.named
  have hlocks := B.notSynchronized
  have hD := eg_D_of hD0
  have hS : va_S (eg_A (wX q cI cJ (nI n) mk lt tg pa an la kn fb fh nb te wt bh)) s.heap s.heap [] := va_S.rf
  have hin : ∀ w ∈ u_ws RX0 TX0 14, w ∈ wsX0_checkRoom := by decide +kernel
  have hl := lv_entry ([.ref (q 0)]) (n := 1) (Nat.le_of_ble_eq_true rfl)
  rw [lg_entry_eq]
  generalize (lg_sl ([.ref (q 0)]) ++ List.replicate (1 - (lg_sl ([.ref (q 0)])).length) Slot.unset).toArray = ls at hl ⊢
  have hl : lv_has ls 1 [(0, .ref (q 0))] := hl
  generalize h0H : s.heap = H at hP ⊢
  have hS : va_S (eg_A (wX q cI cJ (nI n) mk lt tg pa an la kn fb fh nb te wt bh)) s.heap H [] := by rw [← h0H]; exact hS
  generalize ([] : List Loc) = locs at hS ⊢
  refine lv_aload_n hx hb dX0_checkRoom_0 rfl (lv_at hl 0 rfl) ?_
  refine va_get (D := D) (ci := 0) (v := .int (nI n)) (C := RX0) (T := TX0) (N := 14) hx hb hts hin hown hK hP 0 rfl rfl 0 (by decide) (hts (.fieldLink RX0 7 "EditGraph" "eventCount" "I") (by decide +kernel)) (fun _ h9 => h9) rfl dX0_checkRoom_1 ?_
  refine lv_bipush (v := nI 60) hx hb dX0_checkRoom_4 (by decide +kernel) ?_
  refine eg_icmp_lt (tgt := 19) hx hb dX0_checkRoom_6 (by decide) (by omega) (by omega) (fun c6 => ?_) (fun c6 => ?_)
  · omega
  · exact eg_throw hx hb hfl hown (by decide +kernel) (hts (.classLink RX0 138 "java/lang/IllegalStateException") (by decide +kernel)) (hts (.initialized "java/lang/IllegalStateException") (by decide +kernel)) hT.2.2.2.2.1 (hat_142 (fun w h9 => hts w (List.mem_cons_of_mem _ (List.mem_append_right _ h9))) hT.1.2) ot_142 hP rfl hS hT (hl.1.trans hml.symm) dX0_checkRoom_9 dX0_checkRoom_12 dX0_checkRoom_13 dX0_checkRoom_15 dX0_checkRoom_18 htb (Nat.le_of_ble_eq_true rfl) (Nat.le_of_ble_eq_true rfl) (Nat.le_of_ble_eq_true rfl) (Nat.le_of_ble_eq_true rfl) hlocks rfl
