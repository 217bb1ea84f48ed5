-- THE CLASS: its readers (by gen.py, specX.py)
set_option maxHeartbeats 4000000 in
set_option maxRecDepth 100000 in
theorem c_X0_only (l : Launch) (D : va_G) (cI cJ : ClassId) (i : Nat) (hi : i < 64) : eg_MR D (tyL cI cJ) l yX0_only wsX0_only ({ frames := 0, cells := 0, slots := 0, locals := 0 }) [.int (nI i)] [] (some (.long (ol i))) := by
  refine Met.ofW (cc := cX0_only) (maxL := 1) (ret := (some .long)) (by decide) rfl ?_
  intro p e s m args below meth c s₁ B hml hv
  obtain ⟨rfl, hP, hK⟩ := hv
  have hx := B.exec
  have hb := B.bytes
  have hr := B.returns
  have hts := atoms_spec (ws := wsX0_only) B.pre
  have hown : s.vm.findClass RX0 = some m.cls := findClass_of_methodNamed B.named
  have hlocks := B.notSynchronized
  have hl := lv_entry ([.int (nI i)]) (n := 1) (Nat.le_of_ble_eq_true rfl)
  rw [lg_entry_eq]
  generalize (lg_sl ([.int (nI i)]) ++ List.replicate (1 - (lg_sl ([.int (nI i)])).length) Slot.unset).toArray = ls at hl ⊢
  have hl : lv_has ls 1 [(0, .int (nI i))] := hl
  refine lv_lconst (v := 1) hx hb dX0_only_0 (by decide) ?_
  refine lv_iload_n hx hb dX0_only_1 rfl (lv_at hl 0 rfl) ?_
  refine lv_lshl (v := (1 <<< ((nI i).toInt64 &&& 63))) hx hb dX0_only_2 rfl ?_
  exact W.lret hx hb hr (fun t9 ht9 _ => ⟨congrArg (fun z => Outcome.returned (some (Value.long z))) (by first | exact ol_shl i hi), ht9⟩) (fun q h => nomatch h) dX0_only_3
set_option maxHeartbeats 4000000 in
set_option maxRecDepth 100000 in
theorem c_X0_has (l : Launch) (D : va_G) (cI cJ : ClassId) (x : Int64) (i : Nat) (hi : i < 64) : eg_MR D (tyL cI cJ) l yX0_has wsX0_has ({ frames := 1, cells := 0, slots := 0, locals := 20 }) [.long x, .int (nI i)] [] (some (.int (eb (bi x i)))) := by
  refine Met.ofW (cc := cX0_has) (maxL := 3) (ret := (some .boolean)) (by decide) rfl ?_
  intro p e s m args below meth c s₁ B hml hv
  obtain ⟨rfl, hP, hK⟩ := hv
  have hx := B.exec
  have hb := B.bytes
  have hr := B.returns
  have hts := atoms_spec (ws := wsX0_has) B.pre
  have hown : s.vm.findClass RX0 = some m.cls := findClass_of_methodNamed B.named
  have hlocks := B.notSynchronized
  have hl := lv_entry ([.long x, .int (nI i)]) (n := 3) (Nat.le_of_ble_eq_true rfl)
  rw [lg_entry_eq]
  generalize (lg_sl ([.long x, .int (nI i)]) ++ List.replicate (3 - (lg_sl ([.long x, .int (nI i)])).length) Slot.unset).toArray = ls at hl ⊢
  have hl : lv_has ls 3 [(0, .long x), (2, .int (nI i))] := hl
  refine lv_lload_n hx hb dX0_has_0 rfl (lv_at hl 0 rfl) ?_
  refine lv_iload_n hx hb dX0_has_1 rfl (lv_at hl 1 rfl) ?_
  refine eg_callS (As := [.int (nI i)]) (rest := [.long x]) hx hb hml hown hts hK (c_X0_only l D cI cJ i hi) (va_cwS 1 hts gX0_has_X0_only rfl rfl rfl (by decide +kernel) ⟨Nat.le_of_ble_eq_true rfl, Nat.le_of_ble_eq_true rfl⟩) rfl hl.1 rfl (Nat.le_of_ble_eq_true rfl) dX0_has_2 ⟨Nat.zero_le _, Nat.zero_le _⟩ ?_
  refine lv_land hx hb dX0_has_5 ?_
  refine lv_lconst (v := 0) hx hb dX0_has_6 (by decide) ?_
  refine eg_lcmp_eq (tgt := 15) hx hb dX0_has_7 rfl dX0_has_8 (by decide) (fun c7 => ?_) (fun c7 => ?_)
  · refine lv_iconst (v := nI 0) hx hb dX0_has_15 (by decide +kernel) ?_
    exact W.zret hx hb hr (by first | rfl | exact eb_nar) (fun t9 ht9 _ => ⟨congrArg (fun z => Outcome.returned (some (Value.int z))) (by first | exact eb_z ((has_0 hi).mp c7) | exact eb_1 (has_0n hi c7)), ht9⟩) (fun q h => nomatch h) dX0_has_16
  · refine lv_iconst (v := nI 1) hx hb dX0_has_11 (by decide +kernel) ?_
    refine lv_goto (tgt := 16) hx hb dX0_has_12 (by decide) ?_
    exact W.zret hx hb hr (by first | rfl | exact eb_nar) (fun t9 ht9 _ => ⟨congrArg (fun z => Outcome.returned (some (Value.int z))) (by first | exact eb_z ((has_0 hi).mp c7) | exact eb_1 (has_0n hi c7)), ht9⟩) (fun q h => nomatch h) dX0_has_16
set_option maxHeartbeats 4000000 in
set_option maxRecDepth 100000 in
theorem c_X0_isEvent (l : Launch) (D : va_G) (cI cJ : ClassId) (q : Nat → Nat) (n : Nat) (mk lt tg : Nat → Int32) (pa an la kn : Nat → Int64) (fb : Int32) (fh nb te wt bh : Nat → Int32) (x : Int32) : eg_MR D (tyL cI cJ) l yX0_isEvent wsX0_isEvent ({ frames := 0, cells := 0, slots := 0, locals := 0 }) [.ref (q 0), .int x] (wX q cI cJ (nI n) mk lt tg pa an la kn fb fh nb te wt bh) (some (.int (eb (ev n x)))) := by
  refine Met.ofW (cc := cX0_isEvent) (maxL := 2) (ret := (some .boolean)) (by decide) rfl ?_
  intro p e s m args below meth c s₁ B hml hv
  obtain ⟨rfl, hP, hK⟩ := hv
  have hx := B.exec
  have hb := B.bytes
  have hr := B.returns
  have hts := atoms_spec (ws := wsX0_isEvent) B.pre
  have hown : s.vm.findClass RX0 = some m.cls := findClass_of_methodNamed B.named
  have hlocks := B.notSynchronized
  have hin : ∀ w ∈ u_ws RX0 TX0 14, w ∈ wsX0_isEvent := by decide +kernel
  have hl := lv_entry ([.ref (q 0), .int x]) (n := 2) (Nat.le_of_ble_eq_true rfl)
  rw [lg_entry_eq]
  generalize (lg_sl ([.ref (q 0), .int x]) ++ List.replicate (2 - (lg_sl ([.ref (q 0), .int x])).length) Slot.unset).toArray = ls at hl ⊢
  have hl : lv_has ls 2 [(0, .ref (q 0)), (1, .int x)] := hl
  refine lv_iload_n hx hb dX0_isEvent_0 rfl (lv_at hl 1 rfl) ?_
  refine lv_if_lt (tgt := 16) hx hb dX0_isEvent_1 (by decide) (fun c1 => ?_) (fun c1 => ?_)
  · refine lv_iconst (v := nI 0) hx hb dX0_isEvent_16 (by decide +kernel) ?_
    exact W.zret hx hb hr (by first | rfl | exact eb_nar) (fun t9 ht9 _ => ⟨congrArg (fun z => Outcome.returned (some (Value.int z))) (by first | exact eb_z (ev_f1 c1) | exact eb_z (ev_f2 c9) | exact eb_1 (ev_t c1 c9)), ht9⟩) (fun q h => nomatch h) dX0_isEvent_17
  · refine lv_iload_n hx hb dX0_isEvent_4 rfl (lv_at hl 1 rfl) ?_
    refine lv_aload_n hx hb dX0_isEvent_5 rfl (lv_at hl 0 rfl) ?_
    refine va_get (D := D) (ci := 0) (v := .int (nI n)) (C := RX0) (T := TX0) (N := 14) hx hb hts hin hown hK hP 0 rfl rfl 0 (by decide) (hts (.fieldLink RX0 7 "EditGraph" "eventCount" "I") (by decide +kernel)) (fun _ h9 => h9) rfl dX0_isEvent_6 ?_
    refine lv_icmp_ge (tgt := 16) hx hb dX0_isEvent_9 (by decide) (fun c9 => ?_) (fun c9 => ?_)
    · refine lv_iconst (v := nI 0) hx hb dX0_isEvent_16 (by decide +kernel) ?_
      exact W.zret hx hb hr (by first | rfl | exact eb_nar) (fun t9 ht9 _ => ⟨congrArg (fun z => Outcome.returned (some (Value.int z))) (by first | exact eb_z (ev_f1 c1) | exact eb_z (ev_f2 c9) | exact eb_1 (ev_t c1 c9)), ht9⟩) (fun q h => nomatch h) dX0_isEvent_17
    · refine lv_iconst (v := nI 1) hx hb dX0_isEvent_12 (by decide +kernel) ?_
      refine lv_goto (tgt := 17) hx hb dX0_isEvent_13 (by decide) ?_
      exact W.zret hx hb hr (by first | rfl | exact eb_nar) (fun t9 ht9 _ => ⟨congrArg (fun z => Outcome.returned (some (Value.int z))) (by first | exact eb_z (ev_f1 c1) | exact eb_z (ev_f2 c9) | exact eb_1 (ev_t c1 c9)), ht9⟩) (fun q h => nomatch h) dX0_isEvent_17
set_option maxHeartbeats 4000000 in
set_option maxRecDepth 100000 in
theorem c_X0_isInsert (l : Launch) (D : va_G) (cI cJ : ClassId) (q : Nat → Nat) (n : Nat) (mk lt tg : Nat → Int32) (pa an la kn : Nat → Int64) (fb : Int32) (fh nb te wt bh : Nat → Int32) (i : Nat) (hi : i < 60) : eg_MR D (tyL cI cJ) l yX0_isInsert wsX0_isInsert ({ frames := 0, cells := 0, slots := 0, locals := 0 }) [.ref (q 0), .int (nI i)] (wX q cI cJ (nI n) mk lt tg pa an la kn fb fh nb te wt bh) (some (.int (eb (ins lt i)))) := by
  refine Met.ofW (cc := cX0_isInsert) (maxL := 2) (ret := (some .boolean)) (by decide) rfl ?_
  intro p e s m args below meth c s₁ B hml hv
  obtain ⟨rfl, hP, hK⟩ := hv
  have hx := B.exec
  have hb := B.bytes
  have hr := B.returns
  have hts := atoms_spec (ws := wsX0_isInsert) B.pre
  have hown : s.vm.findClass RX0 = some m.cls := findClass_of_methodNamed B.named
  have hlocks := B.notSynchronized
  have hin : ∀ w ∈ u_ws RX0 TX0 14, w ∈ wsX0_isInsert := by decide +kernel
  have hl := lv_entry ([.ref (q 0), .int (nI i)]) (n := 2) (Nat.le_of_ble_eq_true rfl)
  rw [lg_entry_eq]
  generalize (lg_sl ([.ref (q 0), .int (nI i)]) ++ List.replicate (2 - (lg_sl ([.ref (q 0), .int (nI i)])).length) Slot.unset).toArray = ls at hl ⊢
  have hl : lv_has ls 2 [(0, .ref (q 0)), (1, .int (nI i))] := hl
  refine lv_aload_n hx hb dX0_isInsert_0 rfl (lv_at hl 0 rfl) ?_
  refine va_get (D := D) (ci := 0) (v := .ref (q 2)) (C := RX0) (T := TX0) (N := 14) hx hb hts hin hown hK hP 0 rfl rfl 2 (by decide) (hts (.fieldLink RX0 17 "EditGraph" "letters" "[I") (by decide +kernel)) (fun _ h9 => h9) rfl dX0_isInsert_1 ?_
  refine lv_iload_n hx hb dX0_isInsert_4 rfl (lv_at hl 1 rfl) ?_
  refine eg_iald hx hb hK hP 2 0 rfl rfl (by omega) (by decide) dX0_isInsert_5 ?_
  refine lv_iconst (v := (-1)) hx hb dX0_isInsert_6 (by decide +kernel) ?_
  refine lv_icmp_eq (tgt := 14) hx hb dX0_isInsert_7 (by decide) (fun c7 => ?_) (fun c7 => ?_)
  · refine lv_iconst (v := nI 0) hx hb dX0_isInsert_14 (by decide +kernel) ?_
    exact W.zret hx hb hr (by first | rfl | exact eb_nar) (fun t9 ht9 _ => ⟨congrArg (fun z => Outcome.returned (some (Value.int z))) (by first | exact eb_z (ins_f c7) | exact eb_1 (ins_t c7)), ht9⟩) (fun q h => nomatch h) dX0_isInsert_15
  · refine lv_iconst (v := nI 1) hx hb dX0_isInsert_10 (by decide +kernel) ?_
    refine lv_goto (tgt := 15) hx hb dX0_isInsert_11 (by decide) ?_
    exact W.zret hx hb hr (by first | rfl | exact eb_nar) (fun t9 ht9 _ => ⟨congrArg (fun z => Outcome.returned (some (Value.int z))) (by first | exact eb_z (ins_f c7) | exact eb_1 (ins_t c7)), ht9⟩) (fun q h => nomatch h) dX0_isInsert_15
set_option maxHeartbeats 4000000 in
set_option maxRecDepth 100000 in
theorem c_X0_versionOfEvent (l : Launch) (D : va_G) (cI cJ : ClassId) (q : Nat → Nat) (n : Nat) (mk lt tg : Nat → Int32) (pa an la kn : Nat → Int64) (fb : Int32) (fh nb te wt bh : Nat → Int32) (i : Nat) (hi : i < 60) : eg_MR D (tyL cI cJ) l yX0_versionOfEvent wsX0_versionOfEvent ({ frames := 1, cells := 0, slots := 0, locals := 20 }) [.ref (q 0), .int (nI i)] (wX q cI cJ (nI n) mk lt tg pa an la kn fb fh nb te wt bh) (some (.long (an i ||| ol i))) := by
  refine Met.ofW (cc := cX0_versionOfEvent) (maxL := 2) (ret := (some .long)) (by decide) rfl ?_
  intro p e s m args below meth c s₁ B hml hv
  obtain ⟨rfl, hP, hK⟩ := hv
  have hx := B.exec
  have hb := B.bytes
  have hr := B.returns
  have hts := atoms_spec (ws := wsX0_versionOfEvent) B.pre
  have hown : s.vm.findClass RX0 = some m.cls := findClass_of_methodNamed B.named
  have hlocks := B.notSynchronized
  have hin : ∀ w ∈ u_ws RX0 TX0 14, w ∈ wsX0_versionOfEvent := by decide +kernel
  have hl := lv_entry ([.ref (q 0), .int (nI i)]) (n := 2) (Nat.le_of_ble_eq_true rfl)
  rw [lg_entry_eq]
  generalize (lg_sl ([.ref (q 0), .int (nI i)]) ++ List.replicate (2 - (lg_sl ([.ref (q 0), .int (nI i)])).length) Slot.unset).toArray = ls at hl ⊢
  have hl : lv_has ls 2 [(0, .ref (q 0)), (1, .int (nI i))] := hl
  refine lv_aload_n hx hb dX0_versionOfEvent_0 rfl (lv_at hl 0 rfl) ?_
  refine va_get (D := D) (ci := 0) (v := .ref (q 5)) (C := RX0) (T := TX0) (N := 14) hx hb hts hin hown hK hP 0 rfl rfl 5 (by decide) (hts (.fieldLink RX0 27 "EditGraph" "ancestorSets" "[J") (by decide +kernel)) (fun _ h9 => h9) rfl dX0_versionOfEvent_1 ?_
  refine lv_iload_n hx hb dX0_versionOfEvent_4 rfl (lv_at hl 1 rfl) ?_
  refine eg_lald hx hb hK hP 5 1 rfl rfl (by omega) (by decide) dX0_versionOfEvent_5 ?_
  refine lv_iload_n hx hb dX0_versionOfEvent_6 rfl (lv_at hl 1 rfl) ?_
  refine eg_callS (As := [.int (nI i)]) (rest := [.long (an i)]) hx hb hml hown hts hK (c_X0_only l D cI cJ i (by omega)) (va_cwS 1 hts gX0_versionOfEvent_X0_only rfl rfl rfl (by decide +kernel) ⟨Nat.le_of_ble_eq_true rfl, Nat.le_of_ble_eq_true rfl⟩) rfl hl.1 rfl (Nat.le_of_ble_eq_true rfl) dX0_versionOfEvent_7 ⟨Nat.zero_le _, Nat.zero_le _⟩ ?_
  refine lv_lor hx hb dX0_versionOfEvent_10 ?_
  exact W.lret hx hb hr (fun t9 ht9 _ => ⟨congrArg (fun z => Outcome.returned (some (Value.long z))) (by first | exact rfl), ht9⟩) (fun q h => nomatch h) dX0_versionOfEvent_11
set_option maxHeartbeats 4000000 in
set_option maxRecDepth 100000 in
theorem c_X0_relatedTo (l : Launch) (D : va_G) (cI cJ : ClassId) (q : Nat → Nat) (n : Nat) (mk lt tg : Nat → Int32) (pa an la kn : Nat → Int64) (fb : Int32) (fh nb te wt bh : Nat → Int32) (i : Nat) (hi : i < 60) : eg_MR D (tyL cI cJ) l yX0_relatedTo wsX0_relatedTo ({ frames := 2, cells := 0, slots := 0, locals := 41 }) [.ref (q 0), .int (nI i)] (wX q cI cJ (nI n) mk lt tg pa an la kn fb fh nb te wt bh) (some (.long (rel an la i))) := by
  refine Met.ofW (cc := cX0_relatedTo) (maxL := 2) (ret := (some .long)) (by decide) rfl ?_
  intro p e s m args below meth c s₁ B hml hv
  obtain ⟨rfl, hP, hK⟩ := hv
  have hx := B.exec
  have hb := B.bytes
  have hr := B.returns
  have hts := atoms_spec (ws := wsX0_relatedTo) B.pre
  have hown : s.vm.findClass RX0 = some m.cls := findClass_of_methodNamed B.named
  have hlocks := B.notSynchronized
  have hin : ∀ w ∈ u_ws RX0 TX0 14, w ∈ wsX0_relatedTo := by decide +kernel
  have hl := lv_entry ([.ref (q 0), .int (nI i)]) (n := 2) (Nat.le_of_ble_eq_true rfl)
  rw [lg_entry_eq]
  generalize (lg_sl ([.ref (q 0), .int (nI i)]) ++ List.replicate (2 - (lg_sl ([.ref (q 0), .int (nI i)])).length) Slot.unset).toArray = ls at hl ⊢
  have hl : lv_has ls 2 [(0, .ref (q 0)), (1, .int (nI i))] := hl
  refine lv_aload_n hx hb dX0_relatedTo_0 rfl (lv_at hl 0 rfl) ?_
  refine lv_iload_n hx hb dX0_relatedTo_1 rfl (lv_at hl 1 rfl) ?_
  refine eg_callV (As := [.int (nI i)]) (rest := []) hx hb hml hown hts hK hP (c_X0_versionOfEvent l D cI cJ q n mk lt tg pa an la kn fb fh nb te wt bh i hi) (cwV 1 hts gX0_relatedTo_X0_versionOfEvent rfl rfl rfl (by decide +kernel) ⟨Nat.le_of_ble_eq_true rfl, Nat.le_of_ble_eq_true rfl⟩) (va_recv hK hP (ci := 0) (q0 := 0) rfl rfl) rfl hl.1 rfl (Nat.le_of_ble_eq_true rfl) dX0_relatedTo_2 ⟨Nat.zero_le _, Nat.zero_le _⟩ ?_
  refine lv_aload_n hx hb dX0_relatedTo_5 rfl (lv_at hl 0 rfl) ?_
  refine va_get (D := D) (ci := 0) (v := .ref (q 6)) (C := RX0) (T := TX0) (N := 14) hx hb hts hin hown hK hP 0 rfl rfl 6 (by decide) (hts (.fieldLink RX0 30 "EditGraph" "laterSets" "[J") (by decide +kernel)) (fun _ h9 => h9) rfl dX0_relatedTo_6 ?_
  refine lv_iload_n hx hb dX0_relatedTo_9 rfl (lv_at hl 1 rfl) ?_
  refine eg_lald hx hb hK hP 6 1 rfl rfl (by omega) (by decide) dX0_relatedTo_10 ?_
  refine lv_lor hx hb dX0_relatedTo_11 ?_
  exact W.lret hx hb hr (fun t9 ht9 _ => ⟨congrArg (fun z => Outcome.returned (some (Value.long z))) (by first | exact rfl), ht9⟩) (fun q h => nomatch h) dX0_relatedTo_12
set_option maxHeartbeats 4000000 in
set_option maxRecDepth 100000 in
theorem c_X0_headsOf (l : Launch) (D : va_G) (cI cJ : ClassId) (q : Nat → Nat) (n : Nat) (mk lt tg : Nat → Int32) (pa an la kn : Nat → Int64) (fb : Int32) (fh nb te wt bh : Nat → Int32) (v : Int64) (hn : n ≤ 60) : eg_MR D (tyL cI cJ) l yX0_headsOf wsX0_headsOf ({ frames := 2, cells := 0, slots := 0, locals := 42 }) [.ref (q 0), .long v] (wX q cI cJ (nI n) mk lt tg pa an la kn fb fh nb te wt bh) (some (.long (hdX pa v n))) := by
  refine Met.ofW (cc := cX0_headsOf) (maxL := 6) (ret := (some .long)) (by decide) rfl ?_
  intro p e s m args below meth c s₁ B hml hv
  obtain ⟨rfl, hP, hK⟩ := hv
  have hx := B.exec
  have hb := B.bytes
  have hr := B.returns
  have hts := atoms_spec (ws := wsX0_headsOf) B.pre
  have hown : s.vm.findClass RX0 = some m.cls := findClass_of_methodNamed B.named
  have hlocks := B.notSynchronized
  have hin : ∀ w ∈ u_ws RX0 TX0 14, w ∈ wsX0_headsOf := by decide +kernel
  have hl := lv_entry ([.ref (q 0), .long v]) (n := 6) (Nat.le_of_ble_eq_true rfl)
  rw [lg_entry_eq]
  generalize (lg_sl ([.ref (q 0), .long v]) ++ List.replicate (6 - (lg_sl ([.ref (q 0), .long v])).length) Slot.unset).toArray = ls at hl ⊢
  have hl : lv_has ls 6 [(0, .ref (q 0)), (1, .long v)] := hl
  have loop : ∀ (f i : Nat) (ls : Array Slot), n < i + f → i ≤ n → lv_has ls 6 [(0, .ref (q 0)), (1, .long v), (3, .long (hO pa v i)), (5, .int (nI i))] → W p l e (headSpec wsX0_headsOf ({ frames := 2, cells := 0, slots := 0, locals := 42 })).room s m ([.ref (q 0), .long v] : List Value).toArray below meth c s.heap [] 0 0 (MQ below (eg_R (some (.long (hdX pa v n)))) ([.ref (q 0), .long v] : List Value).toArray s 0 0 (fun _ => False)) (F0 m 5 ls []) := by
    intro f
    induction f with
    | zero => intro i  ls h1 h2 hl; omega
    | succ f ih =>
      intro i  ls h1 h2 hl
      refine lv_iload hx hb dX0_headsOf_5 (lv_at hl 3 rfl) ?_
      refine lv_aload_n hx hb dX0_headsOf_7 rfl (lv_at hl 0 rfl) ?_
      refine va_get (D := D) (ci := 0) (v := .int (nI n)) (C := RX0) (T := TX0) (N := 14) hx hb hts hin hown hK hP 0 rfl rfl 0 (by decide) (hts (.fieldLink RX0 7 "EditGraph" "eventCount" "I") (by decide +kernel)) (fun _ h9 => h9) rfl dX0_headsOf_8 ?_
      refine eg_icmp_ge (tgt := 39) hx hb dX0_headsOf_11 (by decide) (by omega) (by omega) (fun c11 => ?_) (fun c11 => ?_)
      · refine lv_lload_n hx hb dX0_headsOf_39 rfl (lv_at hl 1 rfl) ?_
        refine lv_lload_n hx hb dX0_headsOf_40 rfl (lv_at hl 2 rfl) ?_
        refine lv_ldc2 hx hb hown (hts (.constantLong RX0 112 (-1)) (by decide +kernel)) dX0_headsOf_41 ?_
        refine lv_lxor hx hb dX0_headsOf_44 ?_
        refine lv_land hx hb dX0_headsOf_45 ?_
        exact W.lret hx hb hr (fun t9 ht9 _ => ⟨congrArg (fun z => Outcome.returned (some (Value.long z))) (by first | (rw [hdX, show n = i by omega]; done)), ht9⟩) (fun q h => nomatch h) dX0_headsOf_46
      · refine lv_lload_n hx hb dX0_headsOf_14 rfl (lv_at hl 1 rfl) ?_
        refine lv_iload hx hb dX0_headsOf_15 (lv_at hl 3 rfl) ?_
        refine eg_callS (As := [.long v, .int (nI i)]) (rest := []) hx hb hml hown hts hK (c_X0_has l D cI cJ v i (by omega)) (va_cwS 2 hts gX0_headsOf_X0_has rfl rfl rfl (by decide +kernel) ⟨Nat.le_of_ble_eq_true rfl, Nat.le_of_ble_eq_true rfl⟩) rfl hl.1 rfl (Nat.le_of_ble_eq_true rfl) dX0_headsOf_17 ⟨Nat.zero_le _, Nat.zero_le _⟩ ?_
        refine eg_ifeq_b (tgt := 33) hx hb dX0_headsOf_20 (by decide) (fun c20 => ?_) (fun c20 => ?_)
        · refine lv_iinc (v := nI (i + 1)) (lv' := [(5, .int (nI (i + 1))), (0, .ref (q 0)), (1, .long v), (3, .long (hO pa v i))]) hx hb dX0_headsOf_33 hl (k := 3) rfl (eg_inc1 _) (by decide) rfl (fun ls hl => ?_)
          refine lv_goto (tgt := 5) hx hb dX0_headsOf_36 (by decide) ?_
          have eA0 : hO pa v (i + 1) = hO pa v i := by first | (simp [hO, c20]; done)
          exact ih (i + 1) _ (by omega) (by omega) (by rw [eA0]; exact lv_sub hl [1, 2, 3, 0] rfl)
        · refine lv_lload_n hx hb dX0_headsOf_23 rfl (lv_at hl 2 rfl) ?_
          refine lv_aload_n hx hb dX0_headsOf_24 rfl (lv_at hl 0 rfl) ?_
          refine va_get (D := D) (ci := 0) (v := .ref (q 4)) (C := RX0) (T := TX0) (N := 14) hx hb hts hin hown hK hP 0 rfl rfl 4 (by decide) (hts (.fieldLink RX0 23 "EditGraph" "parentSets" "[J") (by decide +kernel)) (fun _ h9 => h9) rfl dX0_headsOf_25 ?_
          refine lv_iload hx hb dX0_headsOf_28 (lv_at hl 3 rfl) ?_
          refine eg_lald hx hb hK hP 4 1 rfl rfl (by omega) (by decide) dX0_headsOf_30 ?_
          refine lv_lor hx hb dX0_headsOf_31 ?_
          refine lv_lstore_n (lv' := [(3, .long ((hO pa v i) ||| (pa i))), (0, .ref (q 0)), (1, .long v), (5, .int (nI i))]) hx hb dX0_headsOf_32 rfl hl (by decide) rfl (fun ls hl => ?_)
          refine lv_iinc (v := nI (i + 1)) (lv' := [(5, .int (nI (i + 1))), (3, .long ((hO pa v i) ||| (pa i))), (0, .ref (q 0)), (1, .long v)]) hx hb dX0_headsOf_33 hl (k := 3) rfl (eg_inc1 _) (by decide) rfl (fun ls hl => ?_)
          refine lv_goto (tgt := 5) hx hb dX0_headsOf_36 (by decide) ?_
          have eA0 : hO pa v (i + 1) = ((hO pa v i) ||| (pa i)) := by first | (simp [hO, c20]; done)
          exact ih (i + 1) _ (by omega) (by omega) (by rw [eA0]; exact lv_sub hl [2, 3, 1, 0] rfl)
  refine lv_lconst (v := 0) hx hb dX0_headsOf_0 (by decide) ?_
  refine lv_lstore_n (lv' := [(3, .long 0), (0, .ref (q 0)), (1, .long v)]) hx hb dX0_headsOf_1 rfl hl (by decide) rfl (fun ls hl => ?_)
  refine lv_iconst (v := nI 0) hx hb dX0_headsOf_2 (by decide +kernel) ?_
  refine lv_istore (lv' := [(5, .int (nI 0)), (3, .long 0), (0, .ref (q 0)), (1, .long v)]) hx hb dX0_headsOf_3 hl (by decide) rfl (fun ls hl => ?_)
  exact loop (n + 1) 0 _ (by omega) (by omega) (lv_sub hl [2, 3, 1, 0] rfl)
set_option maxHeartbeats 4000000 in
set_option maxRecDepth 100000 in
theorem c_X0_criticalOf (l : Launch) (D : va_G) (cI cJ : ClassId) (q : Nat → Nat) (n : Nat) (mk lt tg : Nat → Int32) (pa an la kn : Nat → Int64) (fb : Int32) (fh nb te wt bh : Nat → Int32) (v : Int64) (hn : n ≤ 60) : eg_MR D (tyL cI cJ) l yX0_criticalOf wsX0_criticalOf ({ frames := 3, cells := 0, slots := 0, locals := 62 }) [.ref (q 0), .long v] (wX q cI cJ (nI n) mk lt tg pa an la kn fb fh nb te wt bh) (some (.long (cO an la v n))) := by
  refine Met.ofW (cc := cX0_criticalOf) (maxL := 6) (ret := (some .long)) (by decide) rfl ?_
  intro p e s m args below meth c s₁ B hml hv
  obtain ⟨rfl, hP, hK⟩ := hv
  have hx := B.exec
  have hb := B.bytes
  have hr := B.returns
  have hts := atoms_spec (ws := wsX0_criticalOf) B.pre
  have hown : s.vm.findClass RX0 = some m.cls := findClass_of_methodNamed B.named
  have hlocks := B.notSynchronized
  have hin : ∀ w ∈ u_ws RX0 TX0 14, w ∈ wsX0_criticalOf := by decide +kernel
  have hl := lv_entry ([.ref (q 0), .long v]) (n := 6) (Nat.le_of_ble_eq_true rfl)
  rw [lg_entry_eq]
  generalize (lg_sl ([.ref (q 0), .long v]) ++ List.replicate (6 - (lg_sl ([.ref (q 0), .long v])).length) Slot.unset).toArray = ls at hl ⊢
  have hl : lv_has ls 6 [(0, .ref (q 0)), (1, .long v)] := hl
  have loop : ∀ (f i : Nat) (ls : Array Slot), n < i + f → i ≤ n → lv_has ls 6 [(0, .ref (q 0)), (1, .long v), (3, .long (cO an la v i)), (5, .int (nI i))] → W p l e (headSpec wsX0_criticalOf ({ frames := 3, cells := 0, slots := 0, locals := 62 })).room s m ([.ref (q 0), .long v] : List Value).toArray below meth c s.heap [] 0 0 (MQ below (eg_R (some (.long (cO an la v n)))) ([.ref (q 0), .long v] : List Value).toArray s 0 0 (fun _ => False)) (F0 m 5 ls []) := by
    intro f
    induction f with
    | zero => intro i  ls h1 h2 hl; omega
    | succ f ih =>
      intro i  ls h1 h2 hl
      refine lv_iload hx hb dX0_criticalOf_5 (lv_at hl 3 rfl) ?_
      refine lv_aload_n hx hb dX0_criticalOf_7 rfl (lv_at hl 0 rfl) ?_
      refine va_get (D := D) (ci := 0) (v := .int (nI n)) (C := RX0) (T := TX0) (N := 14) hx hb hts hin hown hK hP 0 rfl rfl 0 (by decide) (hts (.fieldLink RX0 7 "EditGraph" "eventCount" "I") (by decide +kernel)) (fun _ h9 => h9) rfl dX0_criticalOf_8 ?_
      refine eg_icmp_ge (tgt := 54) hx hb dX0_criticalOf_11 (by decide) (by omega) (by omega) (fun c11 => ?_) (fun c11 => ?_)
      · refine lv_lload_n hx hb dX0_criticalOf_54 rfl (lv_at hl 2 rfl) ?_
        exact W.lret hx hb hr (fun t9 ht9 _ => ⟨congrArg (fun z => Outcome.returned (some (Value.long z))) (by first | (rw [show n = i by omega]; done)), ht9⟩) (fun q h => nomatch h) dX0_criticalOf_55
      · refine lv_lload_n hx hb dX0_criticalOf_14 rfl (lv_at hl 1 rfl) ?_
        refine lv_iload hx hb dX0_criticalOf_15 (lv_at hl 3 rfl) ?_
        refine eg_callS (As := [.long v, .int (nI i)]) (rest := []) hx hb hml hown hts hK (c_X0_has l D cI cJ v i (by omega)) (va_cwS 2 hts gX0_criticalOf_X0_has rfl rfl rfl (by decide +kernel) ⟨Nat.le_of_ble_eq_true rfl, Nat.le_of_ble_eq_true rfl⟩) rfl hl.1 rfl (Nat.le_of_ble_eq_true rfl) dX0_criticalOf_17 ⟨Nat.zero_le _, Nat.zero_le _⟩ ?_
        refine eg_ifeq_b (tgt := 48) hx hb dX0_criticalOf_20 (by decide) (fun c20 => ?_) (fun c20 => ?_)
        · refine lv_iinc (v := nI (i + 1)) (lv' := [(5, .int (nI (i + 1))), (0, .ref (q 0)), (1, .long v), (3, .long (cO an la v i))]) hx hb dX0_criticalOf_48 hl (k := 3) rfl (eg_inc1 _) (by decide) rfl (fun ls hl => ?_)
          refine lv_goto (tgt := 5) hx hb dX0_criticalOf_51 (by decide) ?_
          have eA0 : cO an la v (i + 1) = cO an la v i := by first | (rw [cO, if_pos ⟨c20, c36⟩]; done) | (rw [cO, if_neg (fun h => c36 h.2)]; done) | (rw [cO, if_neg (by simp [c20])]; done)
          exact ih (i + 1) _ (by omega) (by omega) (by rw [eA0]; exact lv_sub hl [1, 2, 3, 0] rfl)
        · refine lv_lload_n hx hb dX0_criticalOf_23 rfl (lv_at hl 1 rfl) ?_
          refine lv_aload_n hx hb dX0_criticalOf_24 rfl (lv_at hl 0 rfl) ?_
          refine lv_iload hx hb dX0_criticalOf_25 (lv_at hl 3 rfl) ?_
          refine eg_callV (As := [.int (nI i)]) (rest := [.long v]) hx hb hml hown hts hK hP (c_X0_relatedTo l D cI cJ q n mk lt tg pa an la kn fb fh nb te wt bh i (by omega)) (cwV 1 hts gX0_criticalOf_X0_relatedTo rfl rfl rfl (by decide +kernel) ⟨Nat.le_of_ble_eq_true rfl, Nat.le_of_ble_eq_true rfl⟩) (va_recv hK hP (ci := 0) (q0 := 0) rfl rfl) rfl hl.1 rfl (Nat.le_of_ble_eq_true rfl) dX0_criticalOf_27 ⟨Nat.zero_le _, Nat.zero_le _⟩ ?_
          refine lv_ldc2 hx hb hown (hts (.constantLong RX0 112 (-1)) (by decide +kernel)) dX0_criticalOf_30 ?_
          refine lv_lxor hx hb dX0_criticalOf_33 ?_
          refine lv_land hx hb dX0_criticalOf_34 ?_
          refine lv_lconst (v := 0) hx hb dX0_criticalOf_35 (by decide) ?_
          refine eg_lcmp_ne (tgt := 48) hx hb dX0_criticalOf_36 rfl dX0_criticalOf_37 (by decide) (fun c36 => ?_) (fun c36 => ?_)
          · refine lv_iinc (v := nI (i + 1)) (lv' := [(5, .int (nI (i + 1))), (0, .ref (q 0)), (1, .long v), (3, .long (cO an la v i))]) hx hb dX0_criticalOf_48 hl (k := 3) rfl (eg_inc1 _) (by decide) rfl (fun ls hl => ?_)
            refine lv_goto (tgt := 5) hx hb dX0_criticalOf_51 (by decide) ?_
            have eA0 : cO an la v (i + 1) = cO an la v i := by first | (rw [cO, if_pos ⟨c20, c36⟩]; done) | (rw [cO, if_neg (fun h => c36 h.2)]; done) | (rw [cO, if_neg (by simp [c20])]; done)
            exact ih (i + 1) _ (by omega) (by omega) (by rw [eA0]; exact lv_sub hl [1, 2, 3, 0] rfl)
          · refine lv_lload_n hx hb dX0_criticalOf_40 rfl (lv_at hl 2 rfl) ?_
            refine lv_iload hx hb dX0_criticalOf_41 (lv_at hl 3 rfl) ?_
            refine eg_callS (As := [.int (nI i)]) (rest := [.long (cO an la v i)]) hx hb hml hown hts hK (c_X0_only l D cI cJ i (by omega)) (va_cwS 1 hts gX0_criticalOf_X0_only rfl rfl rfl (by decide +kernel) ⟨Nat.le_of_ble_eq_true rfl, Nat.le_of_ble_eq_true rfl⟩) rfl hl.1 rfl (Nat.le_of_ble_eq_true rfl) dX0_criticalOf_43 ⟨Nat.zero_le _, Nat.zero_le _⟩ ?_
            refine lv_lor hx hb dX0_criticalOf_46 ?_
            refine lv_lstore_n (lv' := [(3, .long ((cO an la v i) ||| (ol i))), (0, .ref (q 0)), (1, .long v), (5, .int (nI i))]) hx hb dX0_criticalOf_47 rfl hl (by decide) rfl (fun ls hl => ?_)
            refine lv_iinc (v := nI (i + 1)) (lv' := [(5, .int (nI (i + 1))), (3, .long ((cO an la v i) ||| (ol i))), (0, .ref (q 0)), (1, .long v)]) hx hb dX0_criticalOf_48 hl (k := 3) rfl (eg_inc1 _) (by decide) rfl (fun ls hl => ?_)
            refine lv_goto (tgt := 5) hx hb dX0_criticalOf_51 (by decide) ?_
            have eA0 : cO an la v (i + 1) = ((cO an la v i) ||| (ol i)) := by first | (rw [cO, if_pos ⟨c20, c36⟩]; done) | (rw [cO, if_neg (fun h => c36 h.2)]; done) | (rw [cO, if_neg (by simp [c20])]; done)
            exact ih (i + 1) _ (by omega) (by omega) (by rw [eA0]; exact lv_sub hl [2, 3, 1, 0] rfl)
  refine lv_lconst (v := 0) hx hb dX0_criticalOf_0 (by decide) ?_
  refine lv_lstore_n (lv' := [(3, .long 0), (0, .ref (q 0)), (1, .long v)]) hx hb dX0_criticalOf_1 rfl hl (by decide) rfl (fun ls hl => ?_)
  refine lv_iconst (v := nI 0) hx hb dX0_criticalOf_2 (by decide +kernel) ?_
  refine lv_istore (lv' := [(5, .int (nI 0)), (3, .long 0), (0, .ref (q 0)), (1, .long v)]) hx hb dX0_criticalOf_3 hl (by decide) rfl (fun ls hl => ?_)
  exact loop (n + 1) 0 _ (by omega) (by omega) (lv_sub hl [2, 3, 1, 0] rfl)
set_option maxHeartbeats 4000000 in
set_option maxRecDepth 100000 in
theorem c_X0_standingIn (l : Launch) (D : va_G) (cI cJ : ClassId) (q : Nat → Nat) (n : Nat) (mk lt tg : Nat → Int32) (pa an la kn : Nat → Int64) (fb : Int32) (fh nb te wt bh : Nat → Int32) (v : Int64) (hn : n ≤ 60) (hdl : ∀ k, k < n → bi v k = true → lt k = -1 → ∃ t, t < n ∧ tg k = nI t) : eg_MR D (tyL cI cJ) l yX0_standingIn wsX0_standingIn ({ frames := 2, cells := 0, slots := 0, locals := 42 }) [.ref (q 0), .long v] (wX q cI cJ (nI n) mk lt tg pa an la kn fb fh nb te wt bh) (some (.long (sdX lt tg v n))) := by
  refine Met.ofW (cc := cX0_standingIn) (maxL := 8) (ret := (some .long)) (by decide) rfl ?_
  intro p e s m args below meth c s₁ B hml hv
  obtain ⟨rfl, hP, hK⟩ := hv
  have hx := B.exec
  have hb := B.bytes
  have hr := B.returns
  have hts := atoms_spec (ws := wsX0_standingIn) B.pre
  have hown : s.vm.findClass RX0 = some m.cls := findClass_of_methodNamed B.named
  have hlocks := B.notSynchronized
  have hin : ∀ w ∈ u_ws RX0 TX0 14, w ∈ wsX0_standingIn := by decide +kernel
  have hl := lv_entry ([.ref (q 0), .long v]) (n := 8) (Nat.le_of_ble_eq_true rfl)
  rw [lg_entry_eq]
  generalize (lg_sl ([.ref (q 0), .long v]) ++ List.replicate (8 - (lg_sl ([.ref (q 0), .long v])).length) Slot.unset).toArray = ls at hl ⊢
  have hl : lv_has ls 8 [(0, .ref (q 0)), (1, .long v)] := hl
  have loop : ∀ (f i : Nat) (ls : Array Slot), n < i + f → i ≤ n → lv_has ls 8 [(0, .ref (q 0)), (1, .long v), (3, .long (sI lt v i)), (5, .long (sG lt tg v i)), (7, .int (nI i))] → W p l e (headSpec wsX0_standingIn ({ frames := 2, cells := 0, slots := 0, locals := 42 })).room s m ([.ref (q 0), .long v] : List Value).toArray below meth c s.heap [] 0 0 (MQ below (eg_R (some (.long (sdX lt tg v n)))) ([.ref (q 0), .long v] : List Value).toArray s 0 0 (fun _ => False)) (F0 m 8 ls []) := by
    intro f
    induction f with
    | zero => intro i  ls h1 h2 hl; omega
    | succ f ih =>
      intro i  ls h1 h2 hl
      refine lv_iload hx hb dX0_standingIn_8 (lv_at hl 4 rfl) ?_
      refine lv_aload_n hx hb dX0_standingIn_10 rfl (lv_at hl 0 rfl) ?_
      refine va_get (D := D) (ci := 0) (v := .int (nI n)) (C := RX0) (T := TX0) (N := 14) hx hb hts hin hown hK hP 0 rfl rfl 0 (by decide) (hts (.fieldLink RX0 7 "EditGraph" "eventCount" "I") (by decide +kernel)) (fun _ h9 => h9) rfl dX0_standingIn_11 ?_
      refine eg_icmp_ge (tgt := 67) hx hb dX0_standingIn_14 (by decide) (by omega) (by omega) (fun c14 => ?_) (fun c14 => ?_)
      · refine lv_lload_n hx hb dX0_standingIn_67 rfl (lv_at hl 2 rfl) ?_
        refine lv_lload hx hb dX0_standingIn_68 (lv_at hl 3 rfl) ?_
        refine lv_ldc2 hx hb hown (hts (.constantLong RX0 112 (-1)) (by decide +kernel)) dX0_standingIn_70 ?_
        refine lv_lxor hx hb dX0_standingIn_73 ?_
        refine lv_land hx hb dX0_standingIn_74 ?_
        exact W.lret hx hb hr (fun t9 ht9 _ => ⟨congrArg (fun z => Outcome.returned (some (Value.long z))) (by first | (rw [sdX, show n = i by omega]; done)), ht9⟩) (fun q h => nomatch h) dX0_standingIn_75
      · refine lv_lload_n hx hb dX0_standingIn_17 rfl (lv_at hl 1 rfl) ?_
        refine lv_iload hx hb dX0_standingIn_18 (lv_at hl 4 rfl) ?_
        refine eg_callS (As := [.long v, .int (nI i)]) (rest := []) hx hb hml hown hts hK (c_X0_has l D cI cJ v i (by omega)) (va_cwS 2 hts gX0_standingIn_X0_has rfl rfl rfl (by decide +kernel) ⟨Nat.le_of_ble_eq_true rfl, Nat.le_of_ble_eq_true rfl⟩) rfl hl.1 rfl (Nat.le_of_ble_eq_true rfl) dX0_standingIn_20 ⟨Nat.zero_le _, Nat.zero_le _⟩ ?_
        refine eg_ifeq_b (tgt := 61) hx hb dX0_standingIn_23 (by decide) (fun c23 => ?_) (fun c23 => ?_)
        · refine lv_iinc (v := nI (i + 1)) (lv' := [(7, .int (nI (i + 1))), (0, .ref (q 0)), (1, .long v), (3, .long (sI lt v i)), (5, .long (sG lt tg v i))]) hx hb dX0_standingIn_61 hl (k := 4) rfl (eg_inc1 _) (by decide) rfl (fun ls hl => ?_)
          refine lv_goto (tgt := 8) hx hb dX0_standingIn_64 (by decide) ?_
          have eA0 : sI lt v (i + 1) = sI lt v i := by first | (simp [sI, c23, c32]; done) | (simp [sI, c23]; done)
          have eA1 : sG lt tg v (i + 1) = sG lt tg v i := by first | (rw [sG, if_pos ⟨c23, c32⟩, c54]; done) | (simp [sG, c23, c32]; done) | (simp [sG, c23]; done)
          exact ih (i + 1) _ (by omega) (by omega) (by rw [eA0, eA1]; exact lv_sub hl [1, 2, 3, 4, 0] rfl)
        · refine lv_aload_n hx hb dX0_standingIn_26 rfl (lv_at hl 0 rfl) ?_
          refine lv_iload hx hb dX0_standingIn_27 (lv_at hl 4 rfl) ?_
          refine eg_callV (As := [.int (nI i)]) (rest := []) hx hb hml hown hts hK hP (c_X0_isInsert l D cI cJ q n mk lt tg pa an la kn fb fh nb te wt bh i (by omega)) (cwV 1 hts gX0_standingIn_X0_isInsert rfl rfl rfl (by decide +kernel) ⟨Nat.le_of_ble_eq_true rfl, Nat.le_of_ble_eq_true rfl⟩) (va_recv hK hP (ci := 0) (q0 := 0) rfl rfl) rfl hl.1 rfl (Nat.le_of_ble_eq_true rfl) dX0_standingIn_29 ⟨Nat.zero_le _, Nat.zero_le _⟩ ?_
          refine eg_ifeq_b (tgt := 46) hx hb dX0_standingIn_32 (by decide) (fun c32 => ?_) (fun c32 => ?_)
          · refine lv_lload hx hb dX0_standingIn_46 (lv_at hl 3 rfl) ?_
            refine lv_aload_n hx hb dX0_standingIn_48 rfl (lv_at hl 0 rfl) ?_
            refine va_get (D := D) (ci := 0) (v := .ref (q 3)) (C := RX0) (T := TX0) (N := 14) hx hb hts hin hown hK hP 0 rfl rfl 3 (by decide) (hts (.fieldLink RX0 20 "EditGraph" "targets" "[I") (by decide +kernel)) (fun _ h9 => h9) rfl dX0_standingIn_49 ?_
            refine lv_iload hx hb dX0_standingIn_52 (lv_at hl 4 rfl) ?_
            refine eg_iald hx hb hK hP 3 0 rfl rfl (by omega) (by decide) dX0_standingIn_54 ?_
            obtain ⟨t54, ht54, c54⟩ := hdl i (by omega) c23 (ins_eq c32)
            rw [c54]
            have c54 : ol t54 = ol (cl (tg i)) := by rw [c54, cl_nI (by omega)]
            refine eg_callS (As := [.int (nI t54)]) (rest := [.long (sG lt tg v i)]) hx hb hml hown hts hK (c_X0_only l D cI cJ t54 (by omega)) (va_cwS 1 hts gX0_standingIn_X0_only rfl rfl rfl (by decide +kernel) ⟨Nat.le_of_ble_eq_true rfl, Nat.le_of_ble_eq_true rfl⟩) rfl hl.1 rfl (Nat.le_of_ble_eq_true rfl) dX0_standingIn_55 ⟨Nat.zero_le _, Nat.zero_le _⟩ ?_
            refine lv_lor hx hb dX0_standingIn_58 ?_
            refine lv_lstore (lv' := [(5, .long ((sG lt tg v i) ||| (ol t54))), (0, .ref (q 0)), (1, .long v), (3, .long (sI lt v i)), (7, .int (nI i))]) hx hb dX0_standingIn_59 hl (by decide) rfl (fun ls hl => ?_)
            refine lv_iinc (v := nI (i + 1)) (lv' := [(7, .int (nI (i + 1))), (5, .long ((sG lt tg v i) ||| (ol t54))), (0, .ref (q 0)), (1, .long v), (3, .long (sI lt v i))]) hx hb dX0_standingIn_61 hl (k := 4) rfl (eg_inc1 _) (by decide) rfl (fun ls hl => ?_)
            refine lv_goto (tgt := 8) hx hb dX0_standingIn_64 (by decide) ?_
            have eA0 : sI lt v (i + 1) = sI lt v i := by first | (simp [sI, c23, c32]; done) | (simp [sI, c23]; done)
            have eA1 : sG lt tg v (i + 1) = ((sG lt tg v i) ||| (ol t54)) := by first | (rw [sG, if_pos ⟨c23, c32⟩, c54]; done) | (simp [sG, c23, c32]; done) | (simp [sG, c23]; done)
            exact ih (i + 1) _ (by omega) (by omega) (by rw [eA0, eA1]; exact lv_sub hl [2, 3, 4, 1, 0] rfl)
          · refine lv_lload_n hx hb dX0_standingIn_35 rfl (lv_at hl 2 rfl) ?_
            refine lv_iload hx hb dX0_standingIn_36 (lv_at hl 4 rfl) ?_
            refine eg_callS (As := [.int (nI i)]) (rest := [.long (sI lt v i)]) hx hb hml hown hts hK (c_X0_only l D cI cJ i (by omega)) (va_cwS 1 hts gX0_standingIn_X0_only rfl rfl rfl (by decide +kernel) ⟨Nat.le_of_ble_eq_true rfl, Nat.le_of_ble_eq_true rfl⟩) rfl hl.1 rfl (Nat.le_of_ble_eq_true rfl) dX0_standingIn_38 ⟨Nat.zero_le _, Nat.zero_le _⟩ ?_
            refine lv_lor hx hb dX0_standingIn_41 ?_
            refine lv_lstore_n (lv' := [(3, .long ((sI lt v i) ||| (ol i))), (0, .ref (q 0)), (1, .long v), (5, .long (sG lt tg v i)), (7, .int (nI i))]) hx hb dX0_standingIn_42 rfl hl (by decide) rfl (fun ls hl => ?_)
            refine lv_goto (tgt := 61) hx hb dX0_standingIn_43 (by decide) ?_
            refine lv_iinc (v := nI (i + 1)) (lv' := [(7, .int (nI (i + 1))), (3, .long ((sI lt v i) ||| (ol i))), (0, .ref (q 0)), (1, .long v), (5, .long (sG lt tg v i))]) hx hb dX0_standingIn_61 hl (k := 4) rfl (eg_inc1 _) (by decide) rfl (fun ls hl => ?_)
            refine lv_goto (tgt := 8) hx hb dX0_standingIn_64 (by decide) ?_
            have eA0 : sI lt v (i + 1) = ((sI lt v i) ||| (ol i)) := by first | (simp [sI, c23, c32]; done) | (simp [sI, c23]; done)
            have eA1 : sG lt tg v (i + 1) = sG lt tg v i := by first | (rw [sG, if_pos ⟨c23, c32⟩, c54]; done) | (simp [sG, c23, c32]; done) | (simp [sG, c23]; done)
            exact ih (i + 1) _ (by omega) (by omega) (by rw [eA0, eA1]; exact lv_sub hl [2, 3, 1, 4, 0] rfl)
  refine lv_lconst (v := 0) hx hb dX0_standingIn_0 (by decide) ?_
  refine lv_lstore_n (lv' := [(3, .long 0), (0, .ref (q 0)), (1, .long v)]) hx hb dX0_standingIn_1 rfl hl (by decide) rfl (fun ls hl => ?_)
  refine lv_lconst (v := 0) hx hb dX0_standingIn_2 (by decide) ?_
  refine lv_lstore (lv' := [(5, .long 0), (3, .long 0), (0, .ref (q 0)), (1, .long v)]) hx hb dX0_standingIn_3 hl (by decide) rfl (fun ls hl => ?_)
  refine lv_iconst (v := nI 0) hx hb dX0_standingIn_5 (by decide +kernel) ?_
  refine lv_istore (lv' := [(7, .int (nI 0)), (5, .long 0), (3, .long 0), (0, .ref (q 0)), (1, .long v)]) hx hb dX0_standingIn_6 hl (by decide) rfl (fun ls hl => ?_)
  exact loop (n + 1) 0 _ (by omega) (by omega) (lv_sub hl [3, 4, 2, 1, 0] rfl)
set_option maxHeartbeats 4000000 in
set_option maxRecDepth 100000 in
theorem c_X0_continuesRun (l : Launch) (D : va_G) (cI cJ : ClassId) (q : Nat → Nat) (n : Nat) (mk lt tg : Nat → Int32) (pa an la kn : Nat → Int64) (fb : Int32) (fh nb te wt bh : Nat → Int32) (i : Nat) (hn : n ≤ 60) (hi : i < n) : eg_MR D (tyL cI cJ) l yX0_continuesRun wsX0_continuesRun ({ frames := 1, cells := 0, slots := 0, locals := 21 }) [.ref (q 0), .int (nI i)] (wX q cI cJ (nI n) mk lt tg pa an la kn fb fh nb te wt bh) (some (.int (eb (cR n mk lt tg pa i)))) := by
  refine Met.ofW (cc := cX0_continuesRun) (maxL := 3) (ret := (some .boolean)) (by decide) rfl ?_
  intro p e s m args below meth c s₁ B hml hv
  obtain ⟨rfl, hP, hK⟩ := hv
  have hx := B.exec
  have hb := B.bytes
  have hr := B.returns
  have hts := atoms_spec (ws := wsX0_continuesRun) B.pre
  have hown : s.vm.findClass RX0 = some m.cls := findClass_of_methodNamed B.named
  have hlocks := B.notSynchronized
  have hin : ∀ w ∈ u_ws RX0 TX0 14, w ∈ wsX0_continuesRun := by decide +kernel
  have hl := lv_entry ([.ref (q 0), .int (nI i)]) (n := 3) (Nat.le_of_ble_eq_true rfl)
  rw [lg_entry_eq]
  generalize (lg_sl ([.ref (q 0), .int (nI i)]) ++ List.replicate (3 - (lg_sl ([.ref (q 0), .int (nI i)])).length) Slot.unset).toArray = ls at hl ⊢
  have hl : lv_has ls 3 [(0, .ref (q 0)), (1, .int (nI i))] := hl
  refine lv_aload_n hx hb dX0_continuesRun_0 rfl (lv_at hl 0 rfl) ?_
  refine va_get (D := D) (ci := 0) (v := .ref (q 3)) (C := RX0) (T := TX0) (N := 14) hx hb hts hin hown hK hP 0 rfl rfl 3 (by decide) (hts (.fieldLink RX0 20 "EditGraph" "targets" "[I") (by decide +kernel)) (fun _ h9 => h9) rfl dX0_continuesRun_1 ?_
  refine lv_iload_n hx hb dX0_continuesRun_4 rfl (lv_at hl 1 rfl) ?_
  refine eg_iald hx hb hK hP 3 0 rfl rfl (by omega) (by decide) dX0_continuesRun_5 ?_
  refine lv_istore_n (lv' := [(2, .int (tg i)), (0, .ref (q 0)), (1, .int (nI i))]) hx hb dX0_continuesRun_6 rfl hl (by decide) rfl (fun ls hl => ?_)
  refine lv_aload_n hx hb dX0_continuesRun_7 rfl (lv_at hl 1 rfl) ?_
  refine lv_iload_n hx hb dX0_continuesRun_8 rfl (lv_at hl 2 rfl) ?_
  refine eg_callV (As := [.int (nI i)]) (rest := []) hx hb hml hown hts hK hP (c_X0_isInsert l D cI cJ q n mk lt tg pa an la kn fb fh nb te wt bh i (by omega)) (cwV 1 hts gX0_continuesRun_X0_isInsert rfl rfl rfl (by decide +kernel) ⟨Nat.le_of_ble_eq_true rfl, Nat.le_of_ble_eq_true rfl⟩) (va_recv hK hP (ci := 0) (q0 := 0) rfl rfl) rfl hl.1 rfl (Nat.le_of_ble_eq_true rfl) dX0_continuesRun_9 ⟨Nat.zero_le _, Nat.zero_le _⟩ ?_
  refine eg_ifeq_b (tgt := 56) hx hb dX0_continuesRun_12 (by decide) (fun c12 => ?_) (fun c12 => ?_)
  · refine lv_iconst (v := nI 0) hx hb dX0_continuesRun_56 (by decide +kernel) ?_
    exact W.zret hx hb hr (by first | rfl | exact eb_nar) (fun t9 ht9 _ => ⟨congrArg (fun z => Outcome.returned (some (Value.int z))) (by first | (refine eb_z ?_; simp [cR, c12]; done) | (refine eb_z ?_; simp [cR, c12, c20]; done) | (refine eb_z ?_; rw [cR, c12, c20, eT, cl_nI (show t < 2 ^ 31 by omega)]; simp [c33]; done) | (refine eb_z ?_; rw [cR, c12, c20, eT, cl_nI (show t < 2 ^ 31 by omega)]; simp [c49]; done) | (refine eb_1 ?_; rw [cR, c12, c20, eT, cl_nI (show t < 2 ^ 31 by omega)]; simp [c33, c49]; done)), ht9⟩) (fun q h => nomatch h) dX0_continuesRun_57
  · refine lv_aload_n hx hb dX0_continuesRun_15 rfl (lv_at hl 1 rfl) ?_
    refine lv_iload_n hx hb dX0_continuesRun_16 rfl (lv_at hl 0 rfl) ?_
    refine eg_callV (As := [.int (tg i)]) (rest := []) hx hb hml hown hts hK hP (c_X0_isEvent l D cI cJ q n mk lt tg pa an la kn fb fh nb te wt bh (tg i) ) (cwV 1 hts gX0_continuesRun_X0_isEvent rfl rfl rfl (by decide +kernel) ⟨Nat.le_of_ble_eq_true rfl, Nat.le_of_ble_eq_true rfl⟩) (va_recv hK hP (ci := 0) (q0 := 0) rfl rfl) rfl hl.1 rfl (Nat.le_of_ble_eq_true rfl) dX0_continuesRun_17 ⟨Nat.zero_le _, Nat.zero_le _⟩ ?_
    refine eg_ifeq_b (tgt := 56) hx hb dX0_continuesRun_20 (by decide) (fun c20 => ?_) (fun c20 => ?_)
    · refine lv_iconst (v := nI 0) hx hb dX0_continuesRun_56 (by decide +kernel) ?_
      exact W.zret hx hb hr (by first | rfl | exact eb_nar) (fun t9 ht9 _ => ⟨congrArg (fun z => Outcome.returned (some (Value.int z))) (by first | (refine eb_z ?_; simp [cR, c12]; done) | (refine eb_z ?_; simp [cR, c12, c20]; done) | (refine eb_z ?_; rw [cR, c12, c20, eT, cl_nI (show t < 2 ^ 31 by omega)]; simp [c33]; done) | (refine eb_z ?_; rw [cR, c12, c20, eT, cl_nI (show t < 2 ^ 31 by omega)]; simp [c49]; done) | (refine eb_1 ?_; rw [cR, c12, c20, eT, cl_nI (show t < 2 ^ 31 by omega)]; simp [c33, c49]; done)), ht9⟩) (fun q h => nomatch h) dX0_continuesRun_57
    · obtain ⟨t, htn, eT⟩ := ev_of (by omega) c20
      have hl : lv_has ls 3 [(2, .int (nI t)), (0, .ref (q 0)), (1, .int (nI i))] := by rw [← eT]; exact hl
      refine lv_aload_n hx hb dX0_continuesRun_23 rfl (lv_at hl 1 rfl) ?_
      refine va_get (D := D) (ci := 0) (v := .ref (q 4)) (C := RX0) (T := TX0) (N := 14) hx hb hts hin hown hK hP 0 rfl rfl 4 (by decide) (hts (.fieldLink RX0 23 "EditGraph" "parentSets" "[J") (by decide +kernel)) (fun _ h9 => h9) rfl dX0_continuesRun_24 ?_
      refine lv_iload_n hx hb dX0_continuesRun_27 rfl (lv_at hl 2 rfl) ?_
      refine eg_lald hx hb hK hP 4 1 rfl rfl (by omega) (by decide) dX0_continuesRun_28 ?_
      refine lv_iload_n hx hb dX0_continuesRun_29 rfl (lv_at hl 0 rfl) ?_
      refine eg_callS (As := [.int (nI t)]) (rest := [.long (pa i)]) hx hb hml hown hts hK (c_X0_only l D cI cJ t (by omega)) (va_cwS 1 hts gX0_continuesRun_X0_only rfl rfl rfl (by decide +kernel) ⟨Nat.le_of_ble_eq_true rfl, Nat.le_of_ble_eq_true rfl⟩) rfl hl.1 rfl (Nat.le_of_ble_eq_true rfl) dX0_continuesRun_30 ⟨Nat.zero_le _, Nat.zero_le _⟩ ?_
      refine eg_lcmp_ne (tgt := 56) hx hb dX0_continuesRun_33 rfl dX0_continuesRun_34 (by decide) (fun c33 => ?_) (fun c33 => ?_)
      · refine lv_iconst (v := nI 0) hx hb dX0_continuesRun_56 (by decide +kernel) ?_
        exact W.zret hx hb hr (by first | rfl | exact eb_nar) (fun t9 ht9 _ => ⟨congrArg (fun z => Outcome.returned (some (Value.int z))) (by first | (refine eb_z ?_; simp [cR, c12]; done) | (refine eb_z ?_; simp [cR, c12, c20]; done) | (refine eb_z ?_; rw [cR, c12, c20, eT, cl_nI (show t < 2 ^ 31 by omega)]; simp [c33]; done) | (refine eb_z ?_; rw [cR, c12, c20, eT, cl_nI (show t < 2 ^ 31 by omega)]; simp [c49]; done) | (refine eb_1 ?_; rw [cR, c12, c20, eT, cl_nI (show t < 2 ^ 31 by omega)]; simp [c33, c49]; done)), ht9⟩) (fun q h => nomatch h) dX0_continuesRun_57
      · refine lv_aload_n hx hb dX0_continuesRun_37 rfl (lv_at hl 1 rfl) ?_
        refine va_get (D := D) (ci := 0) (v := .ref (q 1)) (C := RX0) (T := TX0) (N := 14) hx hb hts hin hown hK hP 0 rfl rfl 1 (by decide) (hts (.fieldLink RX0 13 "EditGraph" "makers" "[I") (by decide +kernel)) (fun _ h9 => h9) rfl dX0_continuesRun_38 ?_
        refine lv_iload_n hx hb dX0_continuesRun_41 rfl (lv_at hl 2 rfl) ?_
        refine eg_iald hx hb hK hP 1 0 rfl rfl (by omega) (by decide) dX0_continuesRun_42 ?_
        refine lv_aload_n hx hb dX0_continuesRun_43 rfl (lv_at hl 1 rfl) ?_
        refine va_get (D := D) (ci := 0) (v := .ref (q 1)) (C := RX0) (T := TX0) (N := 14) hx hb hts hin hown hK hP 0 rfl rfl 1 (by decide) (hts (.fieldLink RX0 13 "EditGraph" "makers" "[I") (by decide +kernel)) (fun _ h9 => h9) rfl dX0_continuesRun_44 ?_
        refine lv_iload_n hx hb dX0_continuesRun_47 rfl (lv_at hl 0 rfl) ?_
        refine eg_iald hx hb hK hP 1 0 rfl rfl (by omega) (by decide) dX0_continuesRun_48 ?_
        refine lv_icmp_ne (tgt := 56) hx hb dX0_continuesRun_49 (by decide) (fun c49 => ?_) (fun c49 => ?_)
        · refine lv_iconst (v := nI 0) hx hb dX0_continuesRun_56 (by decide +kernel) ?_
          exact W.zret hx hb hr (by first | rfl | exact eb_nar) (fun t9 ht9 _ => ⟨congrArg (fun z => Outcome.returned (some (Value.int z))) (by first | (refine eb_z ?_; simp [cR, c12]; done) | (refine eb_z ?_; simp [cR, c12, c20]; done) | (refine eb_z ?_; rw [cR, c12, c20, eT, cl_nI (show t < 2 ^ 31 by omega)]; simp [c33]; done) | (refine eb_z ?_; rw [cR, c12, c20, eT, cl_nI (show t < 2 ^ 31 by omega)]; simp [c49]; done) | (refine eb_1 ?_; rw [cR, c12, c20, eT, cl_nI (show t < 2 ^ 31 by omega)]; simp [c33, c49]; done)), ht9⟩) (fun q h => nomatch h) dX0_continuesRun_57
        · refine lv_iconst (v := nI 1) hx hb dX0_continuesRun_52 (by decide +kernel) ?_
          refine lv_goto (tgt := 57) hx hb dX0_continuesRun_53 (by decide) ?_
          exact W.zret hx hb hr (by first | rfl | exact eb_nar) (fun t9 ht9 _ => ⟨congrArg (fun z => Outcome.returned (some (Value.int z))) (by first | (refine eb_z ?_; simp [cR, c12]; done) | (refine eb_z ?_; simp [cR, c12, c20]; done) | (refine eb_z ?_; rw [cR, c12, c20, eT, cl_nI (show t < 2 ^ 31 by omega)]; simp [c33]; done) | (refine eb_z ?_; rw [cR, c12, c20, eT, cl_nI (show t < 2 ^ 31 by omega)]; simp [c49]; done) | (refine eb_1 ?_; rw [cR, c12, c20, eT, cl_nI (show t < 2 ^ 31 by omega)]; simp [c33, c49]; done)), ht9⟩) (fun q h => nomatch h) dX0_continuesRun_57
