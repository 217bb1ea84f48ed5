-- the reference: its readers (by gen.py, specM.py)
set_option maxHeartbeats 4000000 in
set_option maxRecDepth 100000 in
theorem c_X1_in (l : Launch) (D : va_G) (cI cJ : ClassId) (v : Int32) (lo : Int32) (hi : Int32) : eg_MR D (tyL cI cJ) l yX1_in wsX1_in ({ frames := 0, cells := 0, slots := 0, locals := 0 }) [.int v, .int lo, .int hi] [] (some (.int (eb (inr v lo hi)))) := by
  refine Met.ofW (cc := cX1_in) (maxL := 3) (ret := (some .boolean)) (by decide) rfl ?_
  intro p e s m args below meth c s₁ B hml hv
  obtain ⟨rfl, hP, hK⟩ := hv
  have hx := B.exec
  have hb := B.bytes
  have hr := B.returns
  have hts := atoms_spec (ws := wsX1_in) B.pre
  have hown : s.vm.findClass RX1 = some m.cls := findClass_of_methodNamed B.named
  have hlocks := B.notSynchronized
  have hl := lv_entry ([.int v, .int lo, .int hi]) (n := 3) (Nat.le_of_ble_eq_true rfl)
  rw [lg_entry_eq]
  generalize (lg_sl ([.int v, .int lo, .int hi]) ++ List.replicate (3 - (lg_sl ([.int v, .int lo, .int hi])).length) Slot.unset).toArray = ls at hl ⊢
  have hl : lv_has ls 3 [(0, .int v), (1, .int lo), (2, .int hi)] := hl
  refine lv_iload_n hx hb dX1_in_0 rfl (lv_at hl 0 rfl) ?_
  refine lv_iload_n hx hb dX1_in_1 rfl (lv_at hl 1 rfl) ?_
  refine lv_icmp_lt (tgt := 14) hx hb dX1_in_2 (by decide) (fun c2 => ?_) (fun c2 => ?_)
  · refine lv_iconst (v := nI 0) hx hb dX1_in_14 (by decide +kernel) ?_
    exact W.zret hx hb hr (by first | rfl | exact eb_nar) (fun t9 ht9 _ => ⟨congrArg (fun z => Outcome.returned (some (Value.int z))) (by first | exact eb_z (inr_f1 c2) | exact eb_z (inr_f2 c7) | exact eb_1 (inr_t c2 c7)), ht9⟩) (fun q h => nomatch h) dX1_in_15
  · refine lv_iload_n hx hb dX1_in_5 rfl (lv_at hl 0 rfl) ?_
    refine lv_iload_n hx hb dX1_in_6 rfl (lv_at hl 2 rfl) ?_
    refine lv_icmp_gt (tgt := 14) hx hb dX1_in_7 (by decide) (fun c7 => ?_) (fun c7 => ?_)
    · refine lv_iconst (v := nI 0) hx hb dX1_in_14 (by decide +kernel) ?_
      exact W.zret hx hb hr (by first | rfl | exact eb_nar) (fun t9 ht9 _ => ⟨congrArg (fun z => Outcome.returned (some (Value.int z))) (by first | exact eb_z (inr_f1 c2) | exact eb_z (inr_f2 c7) | exact eb_1 (inr_t c2 c7)), ht9⟩) (fun q h => nomatch h) dX1_in_15
    · refine lv_iconst (v := nI 1) hx hb dX1_in_10 (by decide +kernel) ?_
      refine lv_goto (tgt := 15) hx hb dX1_in_11 (by decide) ?_
      exact W.zret hx hb hr (by first | rfl | exact eb_nar) (fun t9 ht9 _ => ⟨congrArg (fun z => Outcome.returned (some (Value.int z))) (by first | exact eb_z (inr_f1 c2) | exact eb_z (inr_f2 c7) | exact eb_1 (inr_t c2 c7)), ht9⟩) (fun q h => nomatch h) dX1_in_15
set_option maxHeartbeats 4000000 in
set_option maxRecDepth 100000 in
theorem c_X1_isAuthor (l : Launch) (D : va_G) (cI cJ : ClassId) (x : Int32) : eg_MR D (tyL cI cJ) l yX1_isAuthor wsX1_isAuthor ({ frames := 1, cells := 0, slots := 0, locals := 22 }) [.int x] [] (some (.int (eb (ev 4 x)))) := by
  refine Met.ofW (cc := cX1_isAuthor) (maxL := 1) (ret := (some .boolean)) (by decide) rfl ?_
  intro p e s m args below meth c s₁ B hml hv
  obtain ⟨rfl, hP, hK⟩ := hv
  have hx := B.exec
  have hb := B.bytes
  have hr := B.returns
  have hts := atoms_spec (ws := wsX1_isAuthor) B.pre
  have hown : s.vm.findClass RX1 = some m.cls := findClass_of_methodNamed B.named
  have hlocks := B.notSynchronized
  have hl := lv_entry ([.int x]) (n := 1) (Nat.le_of_ble_eq_true rfl)
  rw [lg_entry_eq]
  generalize (lg_sl ([.int x]) ++ List.replicate (1 - (lg_sl ([.int x])).length) Slot.unset).toArray = ls at hl ⊢
  have hl : lv_has ls 1 [(0, .int x)] := hl
  refine lv_iload_n hx hb dX1_isAuthor_0 rfl (lv_at hl 0 rfl) ?_
  refine lv_iconst (v := nI 0) hx hb dX1_isAuthor_1 (by decide +kernel) ?_
  refine lv_iconst (v := nI 3) hx hb dX1_isAuthor_2 (by decide +kernel) ?_
  refine eg_callS (As := [.int x, .int (nI 0), .int (nI 3)]) (rest := []) hx hb hml hown hts hK (c_X1_in l D cI cJ x (nI 0) (nI 3) ) (va_cwS 3 hts gX1_isAuthor_X1_in rfl rfl rfl (by decide +kernel) ⟨Nat.le_of_ble_eq_true rfl, Nat.le_of_ble_eq_true rfl⟩) rfl hl.1 rfl (Nat.le_of_ble_eq_true rfl) dX1_isAuthor_3 ⟨Nat.zero_le _, Nat.zero_le _⟩ ?_
  rw [show inr x (nI 0) (nI 3) = ev 4 x from inr_ev _ (by decide)]
  exact W.zret hx hb hr (by first | rfl | exact eb_nar) (fun t9 ht9 _ => ⟨congrArg (fun z => Outcome.returned (some (Value.int z))) (by first | exact rfl), ht9⟩) (fun q h => nomatch h) dX1_isAuthor_6
set_option maxHeartbeats 4000000 in
set_option maxRecDepth 100000 in
theorem c_X1_isEvent (l : Launch) (D : va_G) (cI cJ : ClassId) (q : Nat → Nat) (n : Nat) (mk lt tg : Nat → Int32) (pa an kn : Nat → Int64) (row : Nat → Int32) (len thr : Int32) (x : Int32) (hn : n ≤ 60) : eg_MR D (tyL cI cJ) l yX1_isEvent wsX1_isEvent ({ frames := 1, cells := 0, slots := 0, locals := 22 }) [.ref (q 0), .int x] (wM q cI cJ (nI n) mk lt tg pa an kn row len thr) (some (.int (eb (ev n x)))) := by
  refine Met.ofW (cc := cX1_isEvent) (maxL := 2) (ret := (some .boolean)) (by decide) rfl ?_
  intro p e s m args below meth c s₁ B hml hv
  obtain ⟨rfl, hP, hK⟩ := hv
  have hx := B.exec
  have hb := B.bytes
  have hr := B.returns
  have hts := atoms_spec (ws := wsX1_isEvent) B.pre
  have hown : s.vm.findClass RX1 = some m.cls := findClass_of_methodNamed B.named
  have hlocks := B.notSynchronized
  have hin : ∀ w ∈ u_ws RX1 TX1 10, w ∈ wsX1_isEvent := by decide +kernel
  have hl := lv_entry ([.ref (q 0), .int x]) (n := 2) (Nat.le_of_ble_eq_true rfl)
  rw [lg_entry_eq]
  generalize (lg_sl ([.ref (q 0), .int x]) ++ List.replicate (2 - (lg_sl ([.ref (q 0), .int x])).length) Slot.unset).toArray = ls at hl ⊢
  have hl : lv_has ls 2 [(0, .ref (q 0)), (1, .int x)] := hl
  refine lv_iload_n hx hb dX1_isEvent_0 rfl (lv_at hl 1 rfl) ?_
  refine lv_iconst (v := nI 0) hx hb dX1_isEvent_1 (by decide +kernel) ?_
  refine lv_aload_n hx hb dX1_isEvent_2 rfl (lv_at hl 0 rfl) ?_
  refine va_get (D := D) (ci := 1) (v := .int (nI n)) (C := RX1) (T := TX1) (N := 10) hx hb hts hin hown hK hP 0 rfl rfl 5 (by decide) (hts (.fieldLink RX1 40 "EditGraphModel" "events" "I") (by decide +kernel)) (fun _ h9 => h9) rfl dX1_isEvent_3 ?_
  refine lv_iconst (v := nI 1) hx hb dX1_isEvent_6 (by decide +kernel) ?_
  refine lv_isub hx hb dX1_isEvent_7 ?_
  refine eg_callS (As := [.int x, .int (nI 0), .int ((nI n) - (nI 1))]) (rest := []) hx hb hml hown hts hK (c_X1_in l D cI cJ x (nI 0) ((nI n) - (nI 1)) ) (va_cwS 3 hts gX1_isEvent_X1_in rfl rfl rfl (by decide +kernel) ⟨Nat.le_of_ble_eq_true rfl, Nat.le_of_ble_eq_true rfl⟩) rfl hl.1 rfl (Nat.le_of_ble_eq_true rfl) dX1_isEvent_8 ⟨Nat.zero_le _, Nat.zero_le _⟩ ?_
  rw [inr_sub (L := n) _ (by omega)]
  exact W.zret hx hb hr (by first | rfl | exact eb_nar) (fun t9 ht9 _ => ⟨congrArg (fun z => Outcome.returned (some (Value.int z))) (by first | exact rfl), ht9⟩) (fun q h => nomatch h) dX1_isEvent_11
set_option maxHeartbeats 4000000 in
set_option maxRecDepth 100000 in
theorem c_X1_has (l : Launch) (D : va_G) (cI cJ : ClassId) (x : Int64) (i : Nat) (hi : i < 64) : eg_MR D (tyL cI cJ) l yX1_has wsX1_has ({ frames := 0, cells := 0, slots := 0, locals := 0 }) [.long x, .int (nI i)] [] (some (.int (eb (bi x i)))) := by
  refine Met.ofW (cc := cX1_has) (maxL := 3) (ret := (some .boolean)) (by decide) rfl ?_
  intro p e s m args below meth c s₁ B hml hv
  obtain ⟨rfl, hP, hK⟩ := hv
  have hx := B.exec
  have hb := B.bytes
  have hr := B.returns
  have hts := atoms_spec (ws := wsX1_has) B.pre
  have hown : s.vm.findClass RX1 = some m.cls := findClass_of_methodNamed B.named
  have hlocks := B.notSynchronized
  have hl := lv_entry ([.long x, .int (nI i)]) (n := 3) (Nat.le_of_ble_eq_true rfl)
  rw [lg_entry_eq]
  generalize (lg_sl ([.long x, .int (nI i)]) ++ List.replicate (3 - (lg_sl ([.long x, .int (nI i)])).length) Slot.unset).toArray = ls at hl ⊢
  have hl : lv_has ls 3 [(0, .long x), (2, .int (nI i))] := hl
  refine lv_lload_n hx hb dX1_has_0 rfl (lv_at hl 0 rfl) ?_
  refine lv_iload_n hx hb dX1_has_1 rfl (lv_at hl 1 rfl) ?_
  refine lv_lushr (v := ((x.toUInt64 >>> ((nI i).toInt64.toUInt64 &&& Int64.toUInt64 63)).toInt64)) hx hb dX1_has_2 rfl ?_
  refine lv_lconst (v := 1) hx hb dX1_has_3 (by decide) ?_
  refine lv_land hx hb dX1_has_4 ?_
  refine lv_lconst (v := 1) hx hb dX1_has_5 (by decide) ?_
  refine eg_lcmp_ne (tgt := 14) hx hb dX1_has_6 rfl dX1_has_7 (by decide) (fun c6 => ?_) (fun c6 => ?_)
  · refine lv_iconst (v := nI 0) hx hb dX1_has_14 (by decide +kernel) ?_
    exact W.zret hx hb hr (by first | rfl | exact eb_nar) (fun t9 ht9 _ => ⟨congrArg (fun z => Outcome.returned (some (Value.int z))) (by first | exact eb_1 ((has_1t hi).mp c6) | exact eb_z (Bool.eq_false_iff.mpr (fun h => c6 ((has_1t hi).mpr h)))), ht9⟩) (fun q h => nomatch h) dX1_has_15
  · refine lv_iconst (v := nI 1) hx hb dX1_has_10 (by decide +kernel) ?_
    refine lv_goto (tgt := 15) hx hb dX1_has_11 (by decide) ?_
    exact W.zret hx hb hr (by first | rfl | exact eb_nar) (fun t9 ht9 _ => ⟨congrArg (fun z => Outcome.returned (some (Value.int z))) (by first | exact eb_1 ((has_1t hi).mp c6) | exact eb_z (Bool.eq_false_iff.mpr (fun h => c6 ((has_1t hi).mpr h)))), ht9⟩) (fun q h => nomatch h) dX1_has_15
set_option maxHeartbeats 4000000 in
set_option maxRecDepth 100000 in
theorem c_X1_count (l : Launch) (D : va_G) (cI cJ : ClassId) (q : Nat → Nat) (n : Nat) (mk lt tg : Nat → Int32) (pa an kn : Nat → Int64) (row : Nat → Int32) (len thr : Int32) (v : Int64) (hn : n ≤ 60) : eg_MR D (tyL cI cJ) l yX1_count wsX1_count ({ frames := 1, cells := 0, slots := 0, locals := 22 }) [.ref (q 0), .long v] (wM q cI cJ (nI n) mk lt tg pa an kn row len thr) (some (.int (nI (ct (bi v) n)))) := by
  refine Met.ofW (cc := cX1_count) (maxL := 5) (ret := (some .int)) (by decide) rfl ?_
  intro p e s m args below meth c s₁ B hml hv
  obtain ⟨rfl, hP, hK⟩ := hv
  have hx := B.exec
  have hb := B.bytes
  have hr := B.returns
  have hts := atoms_spec (ws := wsX1_count) B.pre
  have hown : s.vm.findClass RX1 = some m.cls := findClass_of_methodNamed B.named
  have hlocks := B.notSynchronized
  have hin : ∀ w ∈ u_ws RX1 TX1 10, w ∈ wsX1_count := by decide +kernel
  have hl := lv_entry ([.ref (q 0), .long v]) (n := 5) (Nat.le_of_ble_eq_true rfl)
  rw [lg_entry_eq]
  generalize (lg_sl ([.ref (q 0), .long v]) ++ List.replicate (5 - (lg_sl ([.ref (q 0), .long v])).length) Slot.unset).toArray = ls at hl ⊢
  have hl : lv_has ls 5 [(0, .ref (q 0)), (1, .long v)] := hl
  have loop : ∀ (f i : Nat) (ls : Array Slot), n < i + f → i ≤ n → lv_has ls 5 [(0, .ref (q 0)), (1, .long v), (3, .int (nI (ct (bi v) i))), (4, .int (nI i))] → W p l e (headSpec wsX1_count ({ frames := 1, cells := 0, slots := 0, locals := 22 })).room s m ([.ref (q 0), .long v] : List Value).toArray below meth c s.heap [] 0 0 (MQ below (eg_R (some (.int (nI (ct (bi v) n))))) ([.ref (q 0), .long v] : List Value).toArray s 0 0 (fun _ => False)) (F0 m 5 ls []) := by
    intro f
    induction f with
    | zero => intro i  ls h1 h2 hl; omega
    | succ f ih =>
      intro i  ls h1 h2 hl
      refine lv_iload hx hb dX1_count_5 (lv_at hl 3 rfl) ?_
      refine lv_aload_n hx hb dX1_count_7 rfl (lv_at hl 0 rfl) ?_
      refine va_get (D := D) (ci := 1) (v := .int (nI n)) (C := RX1) (T := TX1) (N := 10) hx hb hts hin hown hK hP 0 rfl rfl 5 (by decide) (hts (.fieldLink RX1 40 "EditGraphModel" "events" "I") (by decide +kernel)) (fun _ h9 => h9) rfl dX1_count_8 ?_
      refine eg_icmp_ge (tgt := 37) hx hb dX1_count_11 (by decide) (by omega) (by omega) (fun c11 => ?_) (fun c11 => ?_)
      · refine lv_iload_n hx hb dX1_count_37 rfl (lv_at hl 2 rfl) ?_
        exact W.iret hx hb hr (fun t9 ht9 _ => ⟨congrArg (fun z => Outcome.returned (some (Value.int z))) (by first | (rw [show n = i by omega]; done)), ht9⟩) (fun q h => nomatch h) dX1_count_38
      · refine lv_iload_n hx hb dX1_count_14 rfl (lv_at hl 2 rfl) ?_
        refine lv_lload_n hx hb dX1_count_15 rfl (lv_at hl 1 rfl) ?_
        refine lv_iload hx hb dX1_count_16 (lv_at hl 3 rfl) ?_
        refine eg_callS (As := [.long v, .int (nI i)]) (rest := [.int (nI (ct (bi v) i))]) hx hb hml hown hts hK (c_X1_has l D cI cJ v i (by omega)) (va_cwS 2 hts gX1_count_X1_has rfl rfl rfl (by decide +kernel) ⟨Nat.le_of_ble_eq_true rfl, Nat.le_of_ble_eq_true rfl⟩) rfl hl.1 rfl (Nat.le_of_ble_eq_true rfl) dX1_count_18 ⟨Nat.zero_le _, Nat.zero_le _⟩ ?_
        refine eg_ifeq_b (tgt := 28) hx hb dX1_count_21 (by decide) (fun c21 => ?_) (fun c21 => ?_)
        · refine lv_iconst (v := nI 0) hx hb dX1_count_28 (by decide +kernel) ?_
          refine eg_iadd hx hb dX1_count_29 ?_
          refine lv_istore_n (lv' := [(3, .int (nI (ct (bi v) i + 0))), (0, .ref (q 0)), (1, .long v), (4, .int (nI i))]) hx hb dX1_count_30 rfl hl (by decide) rfl (fun ls hl => ?_)
          refine lv_iinc (v := nI (i + 1)) (lv' := [(4, .int (nI (i + 1))), (3, .int (nI (ct (bi v) i + 0))), (0, .ref (q 0)), (1, .long v)]) hx hb dX1_count_31 hl (k := 3) rfl (eg_inc1 _) (by decide) rfl (fun ls hl => ?_)
          refine lv_goto (tgt := 5) hx hb dX1_count_34 (by decide) ?_
          have eA0 : ct (bi v) (i + 1) = ct (bi v) i + 0 := by first | (simp [ct, c21]; done)
          exact ih (i + 1) _ (by omega) (by omega) (by rw [eA0]; exact lv_sub hl [2, 3, 1, 0] rfl)
        · refine lv_iconst (v := nI 1) hx hb dX1_count_24 (by decide +kernel) ?_
          refine lv_goto (tgt := 29) hx hb dX1_count_25 (by decide) ?_
          refine eg_iadd hx hb dX1_count_29 ?_
          refine lv_istore_n (lv' := [(3, .int (nI (ct (bi v) i + 1))), (0, .ref (q 0)), (1, .long v), (4, .int (nI i))]) hx hb dX1_count_30 rfl hl (by decide) rfl (fun ls hl => ?_)
          refine lv_iinc (v := nI (i + 1)) (lv' := [(4, .int (nI (i + 1))), (3, .int (nI (ct (bi v) i + 1))), (0, .ref (q 0)), (1, .long v)]) hx hb dX1_count_31 hl (k := 3) rfl (eg_inc1 _) (by decide) rfl (fun ls hl => ?_)
          refine lv_goto (tgt := 5) hx hb dX1_count_34 (by decide) ?_
          have eA0 : ct (bi v) (i + 1) = ct (bi v) i + 1 := by first | (simp [ct, c21]; done)
          exact ih (i + 1) _ (by omega) (by omega) (by rw [eA0]; exact lv_sub hl [2, 3, 1, 0] rfl)
  refine lv_iconst (v := nI 0) hx hb dX1_count_0 (by decide +kernel) ?_
  refine lv_istore_n (lv' := [(3, .int (nI 0)), (0, .ref (q 0)), (1, .long v)]) hx hb dX1_count_1 rfl hl (by decide) rfl (fun ls hl => ?_)
  refine lv_iconst (v := nI 0) hx hb dX1_count_2 (by decide +kernel) ?_
  refine lv_istore (lv' := [(4, .int (nI 0)), (3, .int (nI 0)), (0, .ref (q 0)), (1, .long v)]) hx hb dX1_count_3 hl (by decide) rfl (fun ls hl => ?_)
  exact loop (n + 1) 0 _ (by omega) (by omega) (lv_sub hl [2, 3, 1, 0] rfl)
set_option maxHeartbeats 4000000 in
set_option maxRecDepth 100000 in
theorem c_X1_versionOf (l : Launch) (D : va_G) (cI cJ : ClassId) (q : Nat → Nat) (n : Nat) (mk lt tg : Nat → Int32) (pa an kn : Nat → Int64) (row : Nat → Int32) (len thr : Int32) (i : Nat) (hi : i < 60) : eg_MR D (tyL cI cJ) l yX1_versionOf wsX1_versionOf ({ frames := 0, cells := 0, slots := 0, locals := 0 }) [.ref (q 0), .int (nI i)] (wM q cI cJ (nI n) mk lt tg pa an kn row len thr) (some (.long (an i ||| ol i))) := by
  refine Met.ofW (cc := cX1_versionOf) (maxL := 2) (ret := (some .long)) (by decide) rfl ?_
  intro p e s m args below meth c s₁ B hml hv
  obtain ⟨rfl, hP, hK⟩ := hv
  have hx := B.exec
  have hb := B.bytes
  have hr := B.returns
  have hts := atoms_spec (ws := wsX1_versionOf) B.pre
  have hown : s.vm.findClass RX1 = some m.cls := findClass_of_methodNamed B.named
  have hlocks := B.notSynchronized
  have hin : ∀ w ∈ u_ws RX1 TX1 10, w ∈ wsX1_versionOf := by decide +kernel
  have hl := lv_entry ([.ref (q 0), .int (nI i)]) (n := 2) (Nat.le_of_ble_eq_true rfl)
  rw [lg_entry_eq]
  generalize (lg_sl ([.ref (q 0), .int (nI i)]) ++ List.replicate (2 - (lg_sl ([.ref (q 0), .int (nI i)])).length) Slot.unset).toArray = ls at hl ⊢
  have hl : lv_has ls 2 [(0, .ref (q 0)), (1, .int (nI i))] := hl
  refine lv_aload_n hx hb dX1_versionOf_0 rfl (lv_at hl 0 rfl) ?_
  refine va_get (D := D) (ci := 1) (v := .ref (q 5)) (C := RX1) (T := TX1) (N := 10) hx hb hts hin hown hK hP 0 rfl rfl 4 (by decide) (hts (.fieldLink RX1 23 "EditGraphModel" "ancestors" "[J") (by decide +kernel)) (fun _ h9 => h9) rfl dX1_versionOf_1 ?_
  refine lv_iload_n hx hb dX1_versionOf_4 rfl (lv_at hl 1 rfl) ?_
  refine eg_lald hx hb hK hP 5 1 rfl rfl (by omega) (by decide) dX1_versionOf_5 ?_
  refine lv_lconst (v := 1) hx hb dX1_versionOf_6 (by decide) ?_
  refine lv_iload_n hx hb dX1_versionOf_7 rfl (lv_at hl 1 rfl) ?_
  refine lv_lshl (v := (1 <<< ((nI i).toInt64 &&& 63))) hx hb dX1_versionOf_8 rfl ?_
  refine lv_lor hx hb dX1_versionOf_9 ?_
  exact W.lret hx hb hr (fun t9 ht9 _ => ⟨congrArg (fun z => Outcome.returned (some (Value.long z))) (by first | (rw [ol_shl i (by omega)]; done)), ht9⟩) (fun q h => nomatch h) dX1_versionOf_10
set_option maxHeartbeats 4000000 in
set_option maxRecDepth 100000 in
theorem c_X1_headsOf (l : Launch) (D : va_G) (cI cJ : ClassId) (q : Nat → Nat) (n : Nat) (mk lt tg : Nat → Int32) (pa an kn : Nat → Int64) (row : Nat → Int32) (len thr : Int32) (v : Int64) (hn : n ≤ 60) : eg_MR D (tyL cI cJ) l yX1_headsOf wsX1_headsOf ({ frames := 1, cells := 0, slots := 0, locals := 22 }) [.ref (q 0), .long v] (wM q cI cJ (nI n) mk lt tg pa an kn row len thr) (some (.long (hdX pa v n))) := by
  refine Met.ofW (cc := cX1_headsOf) (maxL := 6) (ret := (some .long)) (by decide) rfl ?_
  intro p e s m args below meth c s₁ B hml hv
  obtain ⟨rfl, hP, hK⟩ := hv
  have hx := B.exec
  have hb := B.bytes
  have hr := B.returns
  have hts := atoms_spec (ws := wsX1_headsOf) B.pre
  have hown : s.vm.findClass RX1 = some m.cls := findClass_of_methodNamed B.named
  have hlocks := B.notSynchronized
  have hin : ∀ w ∈ u_ws RX1 TX1 10, w ∈ wsX1_headsOf := by decide +kernel
  have hl := lv_entry ([.ref (q 0), .long v]) (n := 6) (Nat.le_of_ble_eq_true rfl)
  rw [lg_entry_eq]
  generalize (lg_sl ([.ref (q 0), .long v]) ++ List.replicate (6 - (lg_sl ([.ref (q 0), .long v])).length) Slot.unset).toArray = ls at hl ⊢
  have hl : lv_has ls 6 [(0, .ref (q 0)), (1, .long v)] := hl
  have loop : ∀ (f i : Nat) (ls : Array Slot), n < i + f → i ≤ n → lv_has ls 6 [(0, .ref (q 0)), (1, .long v), (3, .long (hM pa v i)), (5, .int (nI i))] → W p l e (headSpec wsX1_headsOf ({ frames := 1, cells := 0, slots := 0, locals := 22 })).room s m ([.ref (q 0), .long v] : List Value).toArray below meth c s.heap [] 0 0 (MQ below (eg_R (some (.long (hdX pa v n)))) ([.ref (q 0), .long v] : List Value).toArray s 0 0 (fun _ => False)) (F0 m 5 ls []) := by
    intro f
    induction f with
    | zero => intro i  ls h1 h2 hl; omega
    | succ f ih =>
      intro i  ls h1 h2 hl
      refine lv_iload hx hb dX1_headsOf_5 (lv_at hl 3 rfl) ?_
      refine lv_aload_n hx hb dX1_headsOf_7 rfl (lv_at hl 0 rfl) ?_
      refine va_get (D := D) (ci := 1) (v := .int (nI n)) (C := RX1) (T := TX1) (N := 10) hx hb hts hin hown hK hP 0 rfl rfl 5 (by decide) (hts (.fieldLink RX1 40 "EditGraphModel" "events" "I") (by decide +kernel)) (fun _ h9 => h9) rfl dX1_headsOf_8 ?_
      refine eg_icmp_ge (tgt := 49) hx hb dX1_headsOf_11 (by decide) (by omega) (by omega) (fun c11 => ?_) (fun c11 => ?_)
      · refine lv_lload_n hx hb dX1_headsOf_49 rfl (lv_at hl 2 rfl) ?_
        exact W.lret hx hb hr (fun t9 ht9 _ => ⟨congrArg (fun z => Outcome.returned (some (Value.long z))) (by first | (rw [← hM_eq, show n = i by omega]; done)), ht9⟩) (fun q h => nomatch h) dX1_headsOf_50
      · refine lv_lload_n hx hb dX1_headsOf_14 rfl (lv_at hl 2 rfl) ?_
        refine lv_lload_n hx hb dX1_headsOf_15 rfl (lv_at hl 1 rfl) ?_
        refine lv_iload hx hb dX1_headsOf_16 (lv_at hl 3 rfl) ?_
        refine eg_callS (As := [.long v, .int (nI i)]) (rest := [.long (hM pa v i)]) hx hb hml hown hts hK (c_X1_has l D cI cJ v i (by omega)) (va_cwS 2 hts gX1_headsOf_X1_has rfl rfl rfl (by decide +kernel) ⟨Nat.le_of_ble_eq_true rfl, Nat.le_of_ble_eq_true rfl⟩) rfl hl.1 rfl (Nat.le_of_ble_eq_true rfl) dX1_headsOf_18 ⟨Nat.zero_le _, Nat.zero_le _⟩ ?_
        refine eg_ifeq_b (tgt := 38) hx hb dX1_headsOf_21 (by decide) (fun c21 => ?_) (fun c21 => ?_)
        · refine lv_ldc2 hx hb hown (hts (.constantLong RX1 47 (-1)) (by decide +kernel)) dX1_headsOf_38 ?_
          refine lv_land hx hb dX1_headsOf_41 ?_
          refine lv_lstore_n (lv' := [(3, .long ((hM pa v i) &&& (-1))), (0, .ref (q 0)), (1, .long v), (5, .int (nI i))]) hx hb dX1_headsOf_42 rfl hl (by decide) rfl (fun ls hl => ?_)
          refine lv_iinc (v := nI (i + 1)) (lv' := [(5, .int (nI (i + 1))), (3, .long ((hM pa v i) &&& (-1))), (0, .ref (q 0)), (1, .long v)]) hx hb dX1_headsOf_43 hl (k := 3) rfl (eg_inc1 _) (by decide) rfl (fun ls hl => ?_)
          refine lv_goto (tgt := 5) hx hb dX1_headsOf_46 (by decide) ?_
          have eA0 : hM pa v (i + 1) = ((hM pa v i) &&& (-1)) := by first | (rw [hM, if_pos c21]; done) | (rw [hM, if_neg (fun h => Bool.noConfusion (c21.symm.trans h))]; done)
          exact ih (i + 1) _ (by omega) (by omega) (by rw [eA0]; exact lv_sub hl [2, 3, 1, 0] rfl)
        · refine lv_aload_n hx hb dX1_headsOf_24 rfl (lv_at hl 0 rfl) ?_
          refine va_get (D := D) (ci := 1) (v := .ref (q 4)) (C := RX1) (T := TX1) (N := 10) hx hb hts hin hown hK hP 0 rfl rfl 3 (by decide) (hts (.fieldLink RX1 19 "EditGraphModel" "parents" "[J") (by decide +kernel)) (fun _ h9 => h9) rfl dX1_headsOf_25 ?_
          refine lv_iload hx hb dX1_headsOf_28 (lv_at hl 3 rfl) ?_
          refine eg_lald hx hb hK hP 4 1 rfl rfl (by omega) (by decide) dX1_headsOf_30 ?_
          refine lv_ldc2 hx hb hown (hts (.constantLong RX1 47 (-1)) (by decide +kernel)) dX1_headsOf_31 ?_
          refine lv_lxor hx hb dX1_headsOf_34 ?_
          refine lv_goto (tgt := 41) hx hb dX1_headsOf_35 (by decide) ?_
          refine lv_land hx hb dX1_headsOf_41 ?_
          refine lv_lstore_n (lv' := [(3, .long ((hM pa v i) &&& ((pa i) ^^^ (-1)))), (0, .ref (q 0)), (1, .long v), (5, .int (nI i))]) hx hb dX1_headsOf_42 rfl hl (by decide) rfl (fun ls hl => ?_)
          refine lv_iinc (v := nI (i + 1)) (lv' := [(5, .int (nI (i + 1))), (3, .long ((hM pa v i) &&& ((pa i) ^^^ (-1)))), (0, .ref (q 0)), (1, .long v)]) hx hb dX1_headsOf_43 hl (k := 3) rfl (eg_inc1 _) (by decide) rfl (fun ls hl => ?_)
          refine lv_goto (tgt := 5) hx hb dX1_headsOf_46 (by decide) ?_
          have eA0 : hM pa v (i + 1) = ((hM pa v i) &&& ((pa i) ^^^ (-1))) := by first | (rw [hM, if_pos c21]; done) | (rw [hM, if_neg (fun h => Bool.noConfusion (c21.symm.trans h))]; done)
          exact ih (i + 1) _ (by omega) (by omega) (by rw [eA0]; exact lv_sub hl [2, 3, 1, 0] rfl)
  refine lv_lload_n hx hb dX1_headsOf_0 rfl (lv_at hl 1 rfl) ?_
  refine lv_lstore_n (lv' := [(3, .long v), (0, .ref (q 0)), (1, .long v)]) hx hb dX1_headsOf_1 rfl hl (by decide) rfl (fun ls hl => ?_)
  refine lv_iconst (v := nI 0) hx hb dX1_headsOf_2 (by decide +kernel) ?_
  refine lv_istore (lv' := [(5, .int (nI 0)), (3, .long v), (0, .ref (q 0)), (1, .long v)]) hx hb dX1_headsOf_3 hl (by decide) rfl (fun ls hl => ?_)
  exact loop (n + 1) 0 _ (by omega) (by omega) (lv_sub hl [2, 3, 1, 0] rfl)
set_option maxHeartbeats 4000000 in
set_option maxRecDepth 100000 in
theorem c_X1_areConcurrent (l : Launch) (D : va_G) (cI cJ : ClassId) (q : Nat → Nat) (n : Nat) (mk lt tg : Nat → Int32) (pa an kn : Nat → Int64) (row : Nat → Int32) (len thr : Int32) (i : Nat) (j : Nat) (hi : i < 60) (hj : j < 60) : eg_MR D (tyL cI cJ) l yX1_areConcurrent wsX1_areConcurrent ({ frames := 1, cells := 0, slots := 0, locals := 22 }) [.ref (q 0), .int (nI i), .int (nI j)] (wM q cI cJ (nI n) mk lt tg pa an kn row len thr) (some (.int (eb (acB an i j)))) := by
  refine Met.ofW (cc := cX1_areConcurrent) (maxL := 3) (ret := (some .boolean)) (by decide) rfl ?_
  intro p e s m args below meth c s₁ B hml hv
  obtain ⟨rfl, hP, hK⟩ := hv
  have hx := B.exec
  have hb := B.bytes
  have hr := B.returns
  have hts := atoms_spec (ws := wsX1_areConcurrent) B.pre
  have hown : s.vm.findClass RX1 = some m.cls := findClass_of_methodNamed B.named
  have hlocks := B.notSynchronized
  have hin : ∀ w ∈ u_ws RX1 TX1 10, w ∈ wsX1_areConcurrent := by decide +kernel
  have hl := lv_entry ([.ref (q 0), .int (nI i), .int (nI j)]) (n := 3) (Nat.le_of_ble_eq_true rfl)
  rw [lg_entry_eq]
  generalize (lg_sl ([.ref (q 0), .int (nI i), .int (nI j)]) ++ List.replicate (3 - (lg_sl ([.ref (q 0), .int (nI i), .int (nI j)])).length) Slot.unset).toArray = ls at hl ⊢
  have hl : lv_has ls 3 [(0, .ref (q 0)), (1, .int (nI i)), (2, .int (nI j))] := hl
  refine lv_iload_n hx hb dX1_areConcurrent_0 rfl (lv_at hl 1 rfl) ?_
  refine lv_iload_n hx hb dX1_areConcurrent_1 rfl (lv_at hl 2 rfl) ?_
  refine lv_icmp_eq (tgt := 35) hx hb dX1_areConcurrent_2 (by decide) (fun c2 => ?_) (fun c2 => ?_)
  · refine lv_iconst (v := nI 0) hx hb dX1_areConcurrent_35 (by decide +kernel) ?_
    exact W.zret hx hb hr (by first | rfl | exact eb_nar) (fun t9 ht9 _ => ⟨congrArg (fun z => Outcome.returned (some (Value.int z))) (by first | (refine eb_z ?_; simp [acB, nI_in1 (show i < 2 ^ 31 by omega) (show j < 2 ^ 31 by omega) c2]; done) | (refine eb_z ?_; simp [acB, c15]; done) | (refine eb_z ?_; simp [acB, c28]; done) | (refine eb_1 ?_; have hij : ¬ i = j := fun h => c2 (by rw [h]); simp [acB, c15, c28, hij]; done)), ht9⟩) (fun q h => nomatch h) dX1_areConcurrent_36
  · refine lv_aload_n hx hb dX1_areConcurrent_5 rfl (lv_at hl 0 rfl) ?_
    refine va_get (D := D) (ci := 1) (v := .ref (q 5)) (C := RX1) (T := TX1) (N := 10) hx hb hts hin hown hK hP 0 rfl rfl 4 (by decide) (hts (.fieldLink RX1 23 "EditGraphModel" "ancestors" "[J") (by decide +kernel)) (fun _ h9 => h9) rfl dX1_areConcurrent_6 ?_
    refine lv_iload_n hx hb dX1_areConcurrent_9 rfl (lv_at hl 1 rfl) ?_
    refine eg_lald hx hb hK hP 5 1 rfl rfl (by omega) (by decide) dX1_areConcurrent_10 ?_
    refine lv_iload_n hx hb dX1_areConcurrent_11 rfl (lv_at hl 2 rfl) ?_
    refine eg_callS (As := [.long (an i), .int (nI j)]) (rest := []) hx hb hml hown hts hK (c_X1_has l D cI cJ (an i) j (by omega)) (va_cwS 2 hts gX1_areConcurrent_X1_has rfl rfl rfl (by decide +kernel) ⟨Nat.le_of_ble_eq_true rfl, Nat.le_of_ble_eq_true rfl⟩) rfl hl.1 rfl (Nat.le_of_ble_eq_true rfl) dX1_areConcurrent_12 ⟨Nat.zero_le _, Nat.zero_le _⟩ ?_
    refine eg_ifne_b (tgt := 35) hx hb dX1_areConcurrent_15 (by decide) (fun c15 => ?_) (fun c15 => ?_)
    · refine lv_iconst (v := nI 0) hx hb dX1_areConcurrent_35 (by decide +kernel) ?_
      exact W.zret hx hb hr (by first | rfl | exact eb_nar) (fun t9 ht9 _ => ⟨congrArg (fun z => Outcome.returned (some (Value.int z))) (by first | (refine eb_z ?_; simp [acB, nI_in1 (show i < 2 ^ 31 by omega) (show j < 2 ^ 31 by omega) c2]; done) | (refine eb_z ?_; simp [acB, c15]; done) | (refine eb_z ?_; simp [acB, c28]; done) | (refine eb_1 ?_; have hij : ¬ i = j := fun h => c2 (by rw [h]); simp [acB, c15, c28, hij]; done)), ht9⟩) (fun q h => nomatch h) dX1_areConcurrent_36
    · refine lv_aload_n hx hb dX1_areConcurrent_18 rfl (lv_at hl 0 rfl) ?_
      refine va_get (D := D) (ci := 1) (v := .ref (q 5)) (C := RX1) (T := TX1) (N := 10) hx hb hts hin hown hK hP 0 rfl rfl 4 (by decide) (hts (.fieldLink RX1 23 "EditGraphModel" "ancestors" "[J") (by decide +kernel)) (fun _ h9 => h9) rfl dX1_areConcurrent_19 ?_
      refine lv_iload_n hx hb dX1_areConcurrent_22 rfl (lv_at hl 2 rfl) ?_
      refine eg_lald hx hb hK hP 5 1 rfl rfl (by omega) (by decide) dX1_areConcurrent_23 ?_
      refine lv_iload_n hx hb dX1_areConcurrent_24 rfl (lv_at hl 1 rfl) ?_
      refine eg_callS (As := [.long (an j), .int (nI i)]) (rest := []) hx hb hml hown hts hK (c_X1_has l D cI cJ (an j) i (by omega)) (va_cwS 2 hts gX1_areConcurrent_X1_has rfl rfl rfl (by decide +kernel) ⟨Nat.le_of_ble_eq_true rfl, Nat.le_of_ble_eq_true rfl⟩) rfl hl.1 rfl (Nat.le_of_ble_eq_true rfl) dX1_areConcurrent_25 ⟨Nat.zero_le _, Nat.zero_le _⟩ ?_
      refine eg_ifne_b (tgt := 35) hx hb dX1_areConcurrent_28 (by decide) (fun c28 => ?_) (fun c28 => ?_)
      · refine lv_iconst (v := nI 0) hx hb dX1_areConcurrent_35 (by decide +kernel) ?_
        exact W.zret hx hb hr (by first | rfl | exact eb_nar) (fun t9 ht9 _ => ⟨congrArg (fun z => Outcome.returned (some (Value.int z))) (by first | (refine eb_z ?_; simp [acB, nI_in1 (show i < 2 ^ 31 by omega) (show j < 2 ^ 31 by omega) c2]; done) | (refine eb_z ?_; simp [acB, c15]; done) | (refine eb_z ?_; simp [acB, c28]; done) | (refine eb_1 ?_; have hij : ¬ i = j := fun h => c2 (by rw [h]); simp [acB, c15, c28, hij]; done)), ht9⟩) (fun q h => nomatch h) dX1_areConcurrent_36
      · refine lv_iconst (v := nI 1) hx hb dX1_areConcurrent_31 (by decide +kernel) ?_
        refine lv_goto (tgt := 36) hx hb dX1_areConcurrent_32 (by decide) ?_
        exact W.zret hx hb hr (by first | rfl | exact eb_nar) (fun t9 ht9 _ => ⟨congrArg (fun z => Outcome.returned (some (Value.int z))) (by first | (refine eb_z ?_; simp [acB, nI_in1 (show i < 2 ^ 31 by omega) (show j < 2 ^ 31 by omega) c2]; done) | (refine eb_z ?_; simp [acB, c15]; done) | (refine eb_z ?_; simp [acB, c28]; done) | (refine eb_1 ?_; have hij : ¬ i = j := fun h => c2 (by rw [h]); simp [acB, c15, c28, hij]; done)), ht9⟩) (fun q h => nomatch h) dX1_areConcurrent_36
set_option maxHeartbeats 4000000 in
set_option maxRecDepth 100000 in
theorem c_X1_asked_t (l : Launch) (D : va_G) (cI cJ : ClassId) (q : Nat → Nat) (n : Nat) (mk lt tg : Nat → Int32) (pa an kn : Nat → Int64) (row : Nat → Int32) (len thr : Int32) : eg_MW D (tyL cI cJ) l yX1_asked wsX1_asked ({ frames := 0, cells := 0, slots := 0, locals := 0 }) 0 0 [.ref (q 0), .int (eb true)] (wM q cI cJ (nI n) mk lt tg pa an kn row len thr) (fun r w1 => r = some (.int (eb true)) ∧ w1 = wM q cI cJ (nI n) mk lt tg pa an kn row len (nI 0)) := by
  refine Met.ofW (cc := cX1_asked) (maxL := 2) (ret := (some .boolean)) (by decide) rfl ?_
  intro p e s m args below meth c s₁ B hml hv
  obtain ⟨rfl, hP, hK, hD0⟩ := hv
  have hx := B.exec
  have hb := B.bytes
  have hr := B.returns
  have hts := atoms_spec (ws := wsX1_asked) B.pre
  have hown : s.vm.findClass RX1 = some m.cls := findClass_of_methodNamed B.named
  have hlocks := B.notSynchronized
  have hD := eg_D_of hD0
  have hS : va_S (eg_A (wM q cI cJ (nI n) mk lt tg pa an kn row len thr)) s.heap s.heap [] := va_S.rf
  have hin : ∀ w ∈ u_ws RX1 TX1 10, w ∈ wsX1_asked := by decide +kernel
  have hl := lv_entry ([.ref (q 0), .int (eb true)]) (n := 2) (Nat.le_of_ble_eq_true rfl)
  rw [lg_entry_eq]
  generalize (lg_sl ([.ref (q 0), .int (eb true)]) ++ List.replicate (2 - (lg_sl ([.ref (q 0), .int (eb true)])).length) Slot.unset).toArray = ls at hl ⊢
  have hl : lv_has ls 2 [(0, .ref (q 0)), (1, .int (eb true))] := hl
  generalize h0H : s.heap = H at hP ⊢
  have hS : va_S (eg_A (wM q cI cJ (nI n) mk lt tg pa an kn row len thr)) s.heap H [] := by rw [← h0H]; exact hS
  generalize ([] : List Loc) = locs at hS ⊢
  refine lv_aload_n hx hb dX1_asked_0 rfl (lv_at hl 0 rfl) ?_
  refine lv_iload_n hx hb dX1_asked_1 rfl (lv_at hl 1 rfl) ?_
  refine eg_ifeq_b (tgt := 9) hx hb dX1_asked_2 (by decide) (fun h => Bool.noConfusion h) (fun _ => ?_)
  refine lv_iconst (v := nI 0) hx hb dX1_asked_5 (by decide +kernel) ?_
  refine lv_goto (tgt := 10) hx hb dX1_asked_6 (by decide) ?_
  refine va_put (D := D) (ci := 1) (v := .int (nI 0)) (ty := .int) (C := RX1) (T := TX1) (N := 10) hx hb hts hin tyX1 tyX1_ok nmX1 hown hK hP (eg_D_same hD rfl) hS 0 rfl rfl 9 (by decide) (hts (.fieldLink RX1 32 "EditGraphModel" "thrown" "I") (by decide +kernel)) (fun _ h9 => h9) rfl (by decide +kernel) rfl rfl (Nat.le_of_ble_eq_true rfl) dX1_asked_10 (fun H locs hP _ hS => ?_)
  have hP : va_P D vwCl (wM q cI cJ (nI n) mk lt tg pa an kn row len (nI 0)) H := hP
  refine lv_iload_n hx hb dX1_asked_13 rfl (lv_at hl 1 rfl) ?_
  exact W.zret hx hb hr (by first | rfl | exact eb_nar) (fun t9 ht9 _ => ⟨some (.int (eb true)), (wM q cI cJ (nI n) mk lt tg pa an kn row len (nI 0)), rfl, ⟨rfl, rfl⟩, rfl, by rw [ht9]; exact hP, hS.F ht9⟩) hS.2.2 dX1_asked_14
set_option maxHeartbeats 4000000 in
set_option maxRecDepth 100000 in
theorem c_X1_asked_f (l : Launch) (D : va_G) (cI cJ : ClassId) (q : Nat → Nat) (n : Nat) (mk lt tg : Nat → Int32) (pa an kn : Nat → Int64) (row : Nat → Int32) (len thr : Int32) : eg_MW D (tyL cI cJ) l yX1_asked wsX1_asked ({ frames := 0, cells := 0, slots := 0, locals := 0 }) 0 0 [.ref (q 0), .int (eb false)] (wM q cI cJ (nI n) mk lt tg pa an kn row len thr) (fun r w1 => r = some (.int (eb false)) ∧ w1 = wM q cI cJ (nI n) mk lt tg pa an kn row len (nI 1)) := by
  refine Met.ofW (cc := cX1_asked) (maxL := 2) (ret := (some .boolean)) (by decide) rfl ?_
  intro p e s m args below meth c s₁ B hml hv
  obtain ⟨rfl, hP, hK, hD0⟩ := hv
  have hx := B.exec
  have hb := B.bytes
  have hr := B.returns
  have hts := atoms_spec (ws := wsX1_asked) B.pre
  have hown : s.vm.findClass RX1 = some m.cls := findClass_of_methodNamed B.named
  have hlocks := B.notSynchronized
  have hD := eg_D_of hD0
  have hS : va_S (eg_A (wM q cI cJ (nI n) mk lt tg pa an kn row len thr)) s.heap s.heap [] := va_S.rf
  have hin : ∀ w ∈ u_ws RX1 TX1 10, w ∈ wsX1_asked := by decide +kernel
  have hl := lv_entry ([.ref (q 0), .int (eb false)]) (n := 2) (Nat.le_of_ble_eq_true rfl)
  rw [lg_entry_eq]
  generalize (lg_sl ([.ref (q 0), .int (eb false)]) ++ List.replicate (2 - (lg_sl ([.ref (q 0), .int (eb false)])).length) Slot.unset).toArray = ls at hl ⊢
  have hl : lv_has ls 2 [(0, .ref (q 0)), (1, .int (eb false))] := hl
  generalize h0H : s.heap = H at hP ⊢
  have hS : va_S (eg_A (wM q cI cJ (nI n) mk lt tg pa an kn row len thr)) s.heap H [] := by rw [← h0H]; exact hS
  generalize ([] : List Loc) = locs at hS ⊢
  refine lv_aload_n hx hb dX1_asked_0 rfl (lv_at hl 0 rfl) ?_
  refine lv_iload_n hx hb dX1_asked_1 rfl (lv_at hl 1 rfl) ?_
  refine eg_ifeq_b (tgt := 9) hx hb dX1_asked_2 (by decide) (fun _ => ?_) (fun h => Bool.noConfusion h)
  refine lv_iconst (v := nI 1) hx hb dX1_asked_9 (by decide +kernel) ?_
  refine va_put (D := D) (ci := 1) (v := .int (nI 1)) (ty := .int) (C := RX1) (T := TX1) (N := 10) hx hb hts hin tyX1 tyX1_ok nmX1 hown hK hP (eg_D_same hD rfl) hS 0 rfl rfl 9 (by decide) (hts (.fieldLink RX1 32 "EditGraphModel" "thrown" "I") (by decide +kernel)) (fun _ h9 => h9) rfl (by decide +kernel) rfl rfl (Nat.le_of_ble_eq_true rfl) dX1_asked_10 (fun H locs hP _ hS => ?_)
  have hP : va_P D vwCl (wM q cI cJ (nI n) mk lt tg pa an kn row len (nI 1)) H := hP
  refine lv_iload_n hx hb dX1_asked_13 rfl (lv_at hl 1 rfl) ?_
  exact W.zret hx hb hr (by first | rfl | exact eb_nar) (fun t9 ht9 _ => ⟨some (.int (eb false)), (wM q cI cJ (nI n) mk lt tg pa an kn row len (nI 1)), rfl, ⟨rfl, rfl⟩, rfl, by rw [ht9]; exact hP, hS.F ht9⟩) hS.2.2 dX1_asked_14
set_option maxHeartbeats 4000000 in
set_option maxRecDepth 100000 in
theorem c_X1_asked__tt (l : Launch) (D : va_G) (cI cJ : ClassId) (q : Nat → Nat) (n : Nat) (mk lt tg : Nat → Int32) (pa an kn : Nat → Int64) (row : Nat → Int32) (len thr : Int32) : eg_MW D (tyL cI cJ) l yX1_asked_ wsX1_asked_ ({ frames := 0, cells := 0, slots := 0, locals := 0 }) 0 0 [.ref (q 0), .int (eb true), .int (eb true)] (wM q cI cJ (nI n) mk lt tg pa an kn row len thr) (fun r w1 => r = some (.int (eb true)) ∧ w1 = wM q cI cJ (nI n) mk lt tg pa an kn row len (nI 0)) := by
  refine Met.ofW (cc := cX1_asked_) (maxL := 3) (ret := (some .boolean)) (by decide) rfl ?_
  intro p e s m args below meth c s₁ B hml hv
  obtain ⟨rfl, hP, hK, hD0⟩ := hv
  have hx := B.exec
  have hb := B.bytes
  have hr := B.returns
  have hts := atoms_spec (ws := wsX1_asked_) B.pre
  have hown : s.vm.findClass RX1 = some m.cls := findClass_of_methodNamed B.named
  have hlocks := B.notSynchronized
  have hD := eg_D_of hD0
  have hS : va_S (eg_A (wM q cI cJ (nI n) mk lt tg pa an kn row len thr)) s.heap s.heap [] := va_S.rf
  have hin : ∀ w ∈ u_ws RX1 TX1 10, w ∈ wsX1_asked_ := by decide +kernel
  have hl := lv_entry ([.ref (q 0), .int (eb true), .int (eb true)]) (n := 3) (Nat.le_of_ble_eq_true rfl)
  rw [lg_entry_eq]
  generalize (lg_sl ([.ref (q 0), .int (eb true), .int (eb true)]) ++ List.replicate (3 - (lg_sl ([.ref (q 0), .int (eb true), .int (eb true)])).length) Slot.unset).toArray = ls at hl ⊢
  have hl : lv_has ls 3 [(0, .ref (q 0)), (1, .int (eb true)), (2, .int (eb true))] := hl
  generalize h0H : s.heap = H at hP ⊢
  have hS : va_S (eg_A (wM q cI cJ (nI n) mk lt tg pa an kn row len thr)) s.heap H [] := by rw [← h0H]; exact hS
  generalize ([] : List Loc) = locs at hS ⊢
  refine lv_aload_n hx hb dX1_asked__0 rfl (lv_at hl 0 rfl) ?_
  refine lv_iload_n hx hb dX1_asked__1 rfl (lv_at hl 1 rfl) ?_
  refine eg_ifne_b (tgt := 9) hx hb dX1_asked__2 (by decide) (fun _ => ?_) (fun h => Bool.noConfusion h)
  refine lv_iload_n hx hb dX1_asked__9 rfl (lv_at hl 2 rfl) ?_
  refine eg_ifeq_b (tgt := 17) hx hb dX1_asked__10 (by decide) (fun h => Bool.noConfusion h) (fun _ => ?_)
  refine lv_iconst (v := nI 0) hx hb dX1_asked__13 (by decide +kernel) ?_
  refine lv_goto (tgt := 18) hx hb dX1_asked__14 (by decide) ?_
  refine va_put (D := D) (ci := 1) (v := .int (nI 0)) (ty := .int) (C := RX1) (T := TX1) (N := 10) hx hb hts hin tyX1 tyX1_ok nmX1 hown hK hP (eg_D_same hD rfl) hS 0 rfl rfl 9 (by decide) (hts (.fieldLink RX1 32 "EditGraphModel" "thrown" "I") (by decide +kernel)) (fun _ h9 => h9) rfl (by decide +kernel) rfl rfl (Nat.le_of_ble_eq_true rfl) dX1_asked__18 (fun H locs hP _ hS => ?_)
  have hP : va_P D vwCl (wM q cI cJ (nI n) mk lt tg pa an kn row len (nI 0)) H := hP
  refine lv_aload_n hx hb dX1_asked__21 rfl (lv_at hl 0 rfl) ?_
  refine va_get (D := D) (ci := 1) (v := .int (nI 0)) (C := RX1) (T := TX1) (N := 10) hx hb hts hin hown hK hP 0 rfl rfl 9 (by decide) (hts (.fieldLink RX1 32 "EditGraphModel" "thrown" "I") (by decide +kernel)) (fun _ h9 => h9) rfl dX1_asked__22 ?_
  refine eg_if_ne (tgt := 32) hx hb dX1_asked__25 (by decide) (by decide) (fun h => absurd h (by decide)) (fun _ => ?_)
  refine lv_iconst (v := nI 1) hx hb dX1_asked__28 (by decide +kernel) ?_
  refine lv_goto (tgt := 33) hx hb dX1_asked__29 (by decide) ?_
  exact W.zret hx hb hr (by first | rfl | exact eb_nar) (fun t9 ht9 _ => ⟨some (.int (nI 1)), (wM q cI cJ (nI n) mk lt tg pa an kn row len (nI 0)), rfl, ⟨rfl, rfl⟩, rfl, by rw [ht9]; exact hP, hS.F ht9⟩) hS.2.2 dX1_asked__33
set_option maxHeartbeats 4000000 in
set_option maxRecDepth 100000 in
theorem c_X1_asked__tf (l : Launch) (D : va_G) (cI cJ : ClassId) (q : Nat → Nat) (n : Nat) (mk lt tg : Nat → Int32) (pa an kn : Nat → Int64) (row : Nat → Int32) (len thr : Int32) : eg_MW D (tyL cI cJ) l yX1_asked_ wsX1_asked_ ({ frames := 0, cells := 0, slots := 0, locals := 0 }) 0 0 [.ref (q 0), .int (eb true), .int (eb false)] (wM q cI cJ (nI n) mk lt tg pa an kn row len thr) (fun r w1 => r = some (.int (eb false)) ∧ w1 = wM q cI cJ (nI n) mk lt tg pa an kn row len (nI 2)) := by
  refine Met.ofW (cc := cX1_asked_) (maxL := 3) (ret := (some .boolean)) (by decide) rfl ?_
  intro p e s m args below meth c s₁ B hml hv
  obtain ⟨rfl, hP, hK, hD0⟩ := hv
  have hx := B.exec
  have hb := B.bytes
  have hr := B.returns
  have hts := atoms_spec (ws := wsX1_asked_) B.pre
  have hown : s.vm.findClass RX1 = some m.cls := findClass_of_methodNamed B.named
  have hlocks := B.notSynchronized
  have hD := eg_D_of hD0
  have hS : va_S (eg_A (wM q cI cJ (nI n) mk lt tg pa an kn row len thr)) s.heap s.heap [] := va_S.rf
  have hin : ∀ w ∈ u_ws RX1 TX1 10, w ∈ wsX1_asked_ := by decide +kernel
  have hl := lv_entry ([.ref (q 0), .int (eb true), .int (eb false)]) (n := 3) (Nat.le_of_ble_eq_true rfl)
  rw [lg_entry_eq]
  generalize (lg_sl ([.ref (q 0), .int (eb true), .int (eb false)]) ++ List.replicate (3 - (lg_sl ([.ref (q 0), .int (eb true), .int (eb false)])).length) Slot.unset).toArray = ls at hl ⊢
  have hl : lv_has ls 3 [(0, .ref (q 0)), (1, .int (eb true)), (2, .int (eb false))] := hl
  generalize h0H : s.heap = H at hP ⊢
  have hS : va_S (eg_A (wM q cI cJ (nI n) mk lt tg pa an kn row len thr)) s.heap H [] := by rw [← h0H]; exact hS
  generalize ([] : List Loc) = locs at hS ⊢
  refine lv_aload_n hx hb dX1_asked__0 rfl (lv_at hl 0 rfl) ?_
  refine lv_iload_n hx hb dX1_asked__1 rfl (lv_at hl 1 rfl) ?_
  refine eg_ifne_b (tgt := 9) hx hb dX1_asked__2 (by decide) (fun _ => ?_) (fun h => Bool.noConfusion h)
  refine lv_iload_n hx hb dX1_asked__9 rfl (lv_at hl 2 rfl) ?_
  refine eg_ifeq_b (tgt := 17) hx hb dX1_asked__10 (by decide) (fun _ => ?_) (fun h => Bool.noConfusion h)
  refine lv_iconst (v := nI 2) hx hb dX1_asked__17 (by decide +kernel) ?_
  refine va_put (D := D) (ci := 1) (v := .int (nI 2)) (ty := .int) (C := RX1) (T := TX1) (N := 10) hx hb hts hin tyX1 tyX1_ok nmX1 hown hK hP (eg_D_same hD rfl) hS 0 rfl rfl 9 (by decide) (hts (.fieldLink RX1 32 "EditGraphModel" "thrown" "I") (by decide +kernel)) (fun _ h9 => h9) rfl (by decide +kernel) rfl rfl (Nat.le_of_ble_eq_true rfl) dX1_asked__18 (fun H locs hP _ hS => ?_)
  have hP : va_P D vwCl (wM q cI cJ (nI n) mk lt tg pa an kn row len (nI 2)) H := hP
  refine lv_aload_n hx hb dX1_asked__21 rfl (lv_at hl 0 rfl) ?_
  refine va_get (D := D) (ci := 1) (v := .int (nI 2)) (C := RX1) (T := TX1) (N := 10) hx hb hts hin hown hK hP 0 rfl rfl 9 (by decide) (hts (.fieldLink RX1 32 "EditGraphModel" "thrown" "I") (by decide +kernel)) (fun _ h9 => h9) rfl dX1_asked__22 ?_
  refine eg_if_ne (tgt := 32) hx hb dX1_asked__25 (by decide) (by decide) (fun _ => ?_) (fun h => absurd h (by decide))
  refine lv_iconst (v := nI 0) hx hb dX1_asked__32 (by decide +kernel) ?_
  exact W.zret hx hb hr (by first | rfl | exact eb_nar) (fun t9 ht9 _ => ⟨some (.int (nI 0)), (wM q cI cJ (nI n) mk lt tg pa an kn row len (nI 2)), rfl, ⟨rfl, rfl⟩, rfl, by rw [ht9]; exact hP, hS.F ht9⟩) hS.2.2 dX1_asked__33
set_option maxHeartbeats 4000000 in
set_option maxRecDepth 100000 in
theorem c_X1_asked__f (l : Launch) (D : va_G) (cI cJ : ClassId) (q : Nat → Nat) (n : Nat) (mk lt tg : Nat → Int32) (pa an kn : Nat → Int64) (row : Nat → Int32) (len thr : Int32) (b2 : Bool) : eg_MW D (tyL cI cJ) l yX1_asked_ wsX1_asked_ ({ frames := 0, cells := 0, slots := 0, locals := 0 }) 0 0 [.ref (q 0), .int (eb false), .int (eb b2)] (wM q cI cJ (nI n) mk lt tg pa an kn row len thr) (fun r w1 => r = some (.int (eb false)) ∧ w1 = wM q cI cJ (nI n) mk lt tg pa an kn row len (nI 1)) := by
  refine Met.ofW (cc := cX1_asked_) (maxL := 3) (ret := (some .boolean)) (by decide) rfl ?_
  intro p e s m args below meth c s₁ B hml hv
  obtain ⟨rfl, hP, hK, hD0⟩ := hv
  have hx := B.exec
  have hb := B.bytes
  have hr := B.returns
  have hts := atoms_spec (ws := wsX1_asked_) B.pre
  have hown : s.vm.findClass RX1 = some m.cls := findClass_of_methodNamed B.named
  have hlocks := B.notSynchronized
  have hD := eg_D_of hD0
  have hS : va_S (eg_A (wM q cI cJ (nI n) mk lt tg pa an kn row len thr)) s.heap s.heap [] := va_S.rf
  have hin : ∀ w ∈ u_ws RX1 TX1 10, w ∈ wsX1_asked_ := by decide +kernel
  have hl := lv_entry ([.ref (q 0), .int (eb false), .int (eb b2)]) (n := 3) (Nat.le_of_ble_eq_true rfl)
  rw [lg_entry_eq]
  generalize (lg_sl ([.ref (q 0), .int (eb false), .int (eb b2)]) ++ List.replicate (3 - (lg_sl ([.ref (q 0), .int (eb false), .int (eb b2)])).length) Slot.unset).toArray = ls at hl ⊢
  have hl : lv_has ls 3 [(0, .ref (q 0)), (1, .int (eb false)), (2, .int (eb b2))] := hl
  generalize h0H : s.heap = H at hP ⊢
  have hS : va_S (eg_A (wM q cI cJ (nI n) mk lt tg pa an kn row len thr)) s.heap H [] := by rw [← h0H]; exact hS
  generalize ([] : List Loc) = locs at hS ⊢
  refine lv_aload_n hx hb dX1_asked__0 rfl (lv_at hl 0 rfl) ?_
  refine lv_iload_n hx hb dX1_asked__1 rfl (lv_at hl 1 rfl) ?_
  refine eg_ifne_b (tgt := 9) hx hb dX1_asked__2 (by decide) (fun h => Bool.noConfusion h) (fun _ => ?_)
  refine lv_iconst (v := nI 1) hx hb dX1_asked__5 (by decide +kernel) ?_
  refine lv_goto (tgt := 18) hx hb dX1_asked__6 (by decide) ?_
  refine va_put (D := D) (ci := 1) (v := .int (nI 1)) (ty := .int) (C := RX1) (T := TX1) (N := 10) hx hb hts hin tyX1 tyX1_ok nmX1 hown hK hP (eg_D_same hD rfl) hS 0 rfl rfl 9 (by decide) (hts (.fieldLink RX1 32 "EditGraphModel" "thrown" "I") (by decide +kernel)) (fun _ h9 => h9) rfl (by decide +kernel) rfl rfl (Nat.le_of_ble_eq_true rfl) dX1_asked__18 (fun H locs hP _ hS => ?_)
  have hP : va_P D vwCl (wM q cI cJ (nI n) mk lt tg pa an kn row len (nI 1)) H := hP
  refine lv_aload_n hx hb dX1_asked__21 rfl (lv_at hl 0 rfl) ?_
  refine va_get (D := D) (ci := 1) (v := .int (nI 1)) (C := RX1) (T := TX1) (N := 10) hx hb hts hin hown hK hP 0 rfl rfl 9 (by decide) (hts (.fieldLink RX1 32 "EditGraphModel" "thrown" "I") (by decide +kernel)) (fun _ h9 => h9) rfl dX1_asked__22 ?_
  refine eg_if_ne (tgt := 32) hx hb dX1_asked__25 (by decide) (by decide) (fun _ => ?_) (fun h => absurd h (by decide))
  refine lv_iconst (v := nI 0) hx hb dX1_asked__32 (by decide +kernel) ?_
  exact W.zret hx hb hr (by first | rfl | exact eb_nar) (fun t9 ht9 _ => ⟨some (.int (nI 0)), (wM q cI cJ (nI n) mk lt tg pa an kn row len (nI 1)), rfl, ⟨rfl, rfl⟩, rfl, by rw [ht9]; exact hP, hS.F ht9⟩) hS.2.2 dX1_asked__33
set_option maxHeartbeats 4000000 in
set_option maxRecDepth 100000 in
theorem c_X1_asked___ttt (l : Launch) (D : va_G) (cI cJ : ClassId) (q : Nat → Nat) (n : Nat) (mk lt tg : Nat → Int32) (pa an kn : Nat → Int64) (row : Nat → Int32) (len thr : Int32) : eg_MW D (tyL cI cJ) l yX1_asked__ wsX1_asked__ ({ frames := 0, cells := 0, slots := 0, locals := 0 }) 0 0 [.ref (q 0), .int (eb true), .int (eb true), .int (eb true)] (wM q cI cJ (nI n) mk lt tg pa an kn row len thr) (fun r w1 => r = some (.int (eb true)) ∧ w1 = wM q cI cJ (nI n) mk lt tg pa an kn row len (nI 0)) := by
  refine Met.ofW (cc := cX1_asked__) (maxL := 4) (ret := (some .boolean)) (by decide) rfl ?_
  intro p e s m args below meth c s₁ B hml hv
  obtain ⟨rfl, hP, hK, hD0⟩ := hv
  have hx := B.exec
  have hb := B.bytes
  have hr := B.returns
  have hts := atoms_spec (ws := wsX1_asked__) B.pre
  have hown : s.vm.findClass RX1 = some m.cls := findClass_of_methodNamed B.named
  have hlocks := B.notSynchronized
  have hD := eg_D_of hD0
  have hS : va_S (eg_A (wM q cI cJ (nI n) mk lt tg pa an kn row len thr)) s.heap s.heap [] := va_S.rf
  have hin : ∀ w ∈ u_ws RX1 TX1 10, w ∈ wsX1_asked__ := by decide +kernel
  have hl := lv_entry ([.ref (q 0), .int (eb true), .int (eb true), .int (eb true)]) (n := 4) (Nat.le_of_ble_eq_true rfl)
  rw [lg_entry_eq]
  generalize (lg_sl ([.ref (q 0), .int (eb true), .int (eb true), .int (eb true)]) ++ List.replicate (4 - (lg_sl ([.ref (q 0), .int (eb true), .int (eb true), .int (eb true)])).length) Slot.unset).toArray = ls at hl ⊢
  have hl : lv_has ls 4 [(0, .ref (q 0)), (1, .int (eb true)), (2, .int (eb true)), (3, .int (eb true))] := hl
  generalize h0H : s.heap = H at hP ⊢
  have hS : va_S (eg_A (wM q cI cJ (nI n) mk lt tg pa an kn row len thr)) s.heap H [] := by rw [← h0H]; exact hS
  generalize ([] : List Loc) = locs at hS ⊢
  refine lv_aload_n hx hb dX1_asked___0 rfl (lv_at hl 0 rfl) ?_
  refine lv_iload_n hx hb dX1_asked___1 rfl (lv_at hl 1 rfl) ?_
  refine eg_ifne_b (tgt := 9) hx hb dX1_asked___2 (by decide) (fun _ => ?_) (fun h => Bool.noConfusion h)
  refine lv_iload_n hx hb dX1_asked___9 rfl (lv_at hl 2 rfl) ?_
  refine eg_ifne_b (tgt := 17) hx hb dX1_asked___10 (by decide) (fun _ => ?_) (fun h => Bool.noConfusion h)
  refine lv_iload_n hx hb dX1_asked___17 rfl (lv_at hl 3 rfl) ?_
  refine eg_ifeq_b (tgt := 25) hx hb dX1_asked___18 (by decide) (fun h => Bool.noConfusion h) (fun _ => ?_)
  refine lv_iconst (v := nI 0) hx hb dX1_asked___21 (by decide +kernel) ?_
  refine lv_goto (tgt := 26) hx hb dX1_asked___22 (by decide) ?_
  refine va_put (D := D) (ci := 1) (v := .int (nI 0)) (ty := .int) (C := RX1) (T := TX1) (N := 10) hx hb hts hin tyX1 tyX1_ok nmX1 hown hK hP (eg_D_same hD rfl) hS 0 rfl rfl 9 (by decide) (hts (.fieldLink RX1 32 "EditGraphModel" "thrown" "I") (by decide +kernel)) (fun _ h9 => h9) rfl (by decide +kernel) rfl rfl (Nat.le_of_ble_eq_true rfl) dX1_asked___26 (fun H locs hP _ hS => ?_)
  have hP : va_P D vwCl (wM q cI cJ (nI n) mk lt tg pa an kn row len (nI 0)) H := hP
  refine lv_aload_n hx hb dX1_asked___29 rfl (lv_at hl 0 rfl) ?_
  refine va_get (D := D) (ci := 1) (v := .int (nI 0)) (C := RX1) (T := TX1) (N := 10) hx hb hts hin hown hK hP 0 rfl rfl 9 (by decide) (hts (.fieldLink RX1 32 "EditGraphModel" "thrown" "I") (by decide +kernel)) (fun _ h9 => h9) rfl dX1_asked___30 ?_
  refine eg_if_ne (tgt := 40) hx hb dX1_asked___33 (by decide) (by decide) (fun h => absurd h (by decide)) (fun _ => ?_)
  refine lv_iconst (v := nI 1) hx hb dX1_asked___36 (by decide +kernel) ?_
  refine lv_goto (tgt := 41) hx hb dX1_asked___37 (by decide) ?_
  exact W.zret hx hb hr (by first | rfl | exact eb_nar) (fun t9 ht9 _ => ⟨some (.int (nI 1)), (wM q cI cJ (nI n) mk lt tg pa an kn row len (nI 0)), rfl, ⟨rfl, rfl⟩, rfl, by rw [ht9]; exact hP, hS.F ht9⟩) hS.2.2 dX1_asked___41
set_option maxHeartbeats 4000000 in
set_option maxRecDepth 100000 in
theorem c_X1_asked___ttf (l : Launch) (D : va_G) (cI cJ : ClassId) (q : Nat → Nat) (n : Nat) (mk lt tg : Nat → Int32) (pa an kn : Nat → Int64) (row : Nat → Int32) (len thr : Int32) : eg_MW D (tyL cI cJ) l yX1_asked__ wsX1_asked__ ({ frames := 0, cells := 0, slots := 0, locals := 0 }) 0 0 [.ref (q 0), .int (eb true), .int (eb true), .int (eb false)] (wM q cI cJ (nI n) mk lt tg pa an kn row len thr) (fun r w1 => r = some (.int (eb false)) ∧ w1 = wM q cI cJ (nI n) mk lt tg pa an kn row len (nI 3)) := by
  refine Met.ofW (cc := cX1_asked__) (maxL := 4) (ret := (some .boolean)) (by decide) rfl ?_
  intro p e s m args below meth c s₁ B hml hv
  obtain ⟨rfl, hP, hK, hD0⟩ := hv
  have hx := B.exec
  have hb := B.bytes
  have hr := B.returns
  have hts := atoms_spec (ws := wsX1_asked__) B.pre
  have hown : s.vm.findClass RX1 = some m.cls := findClass_of_methodNamed B.named
  have hlocks := B.notSynchronized
  have hD := eg_D_of hD0
  have hS : va_S (eg_A (wM q cI cJ (nI n) mk lt tg pa an kn row len thr)) s.heap s.heap [] := va_S.rf
  have hin : ∀ w ∈ u_ws RX1 TX1 10, w ∈ wsX1_asked__ := by decide +kernel
  have hl := lv_entry ([.ref (q 0), .int (eb true), .int (eb true), .int (eb false)]) (n := 4) (Nat.le_of_ble_eq_true rfl)
  rw [lg_entry_eq]
  generalize (lg_sl ([.ref (q 0), .int (eb true), .int (eb true), .int (eb false)]) ++ List.replicate (4 - (lg_sl ([.ref (q 0), .int (eb true), .int (eb true), .int (eb false)])).length) Slot.unset).toArray = ls at hl ⊢
  have hl : lv_has ls 4 [(0, .ref (q 0)), (1, .int (eb true)), (2, .int (eb true)), (3, .int (eb false))] := hl
  generalize h0H : s.heap = H at hP ⊢
  have hS : va_S (eg_A (wM q cI cJ (nI n) mk lt tg pa an kn row len thr)) s.heap H [] := by rw [← h0H]; exact hS
  generalize ([] : List Loc) = locs at hS ⊢
  refine lv_aload_n hx hb dX1_asked___0 rfl (lv_at hl 0 rfl) ?_
  refine lv_iload_n hx hb dX1_asked___1 rfl (lv_at hl 1 rfl) ?_
  refine eg_ifne_b (tgt := 9) hx hb dX1_asked___2 (by decide) (fun _ => ?_) (fun h => Bool.noConfusion h)
  refine lv_iload_n hx hb dX1_asked___9 rfl (lv_at hl 2 rfl) ?_
  refine eg_ifne_b (tgt := 17) hx hb dX1_asked___10 (by decide) (fun _ => ?_) (fun h => Bool.noConfusion h)
  refine lv_iload_n hx hb dX1_asked___17 rfl (lv_at hl 3 rfl) ?_
  refine eg_ifeq_b (tgt := 25) hx hb dX1_asked___18 (by decide) (fun _ => ?_) (fun h => Bool.noConfusion h)
  refine lv_iconst (v := nI 3) hx hb dX1_asked___25 (by decide +kernel) ?_
  refine va_put (D := D) (ci := 1) (v := .int (nI 3)) (ty := .int) (C := RX1) (T := TX1) (N := 10) hx hb hts hin tyX1 tyX1_ok nmX1 hown hK hP (eg_D_same hD rfl) hS 0 rfl rfl 9 (by decide) (hts (.fieldLink RX1 32 "EditGraphModel" "thrown" "I") (by decide +kernel)) (fun _ h9 => h9) rfl (by decide +kernel) rfl rfl (Nat.le_of_ble_eq_true rfl) dX1_asked___26 (fun H locs hP _ hS => ?_)
  have hP : va_P D vwCl (wM q cI cJ (nI n) mk lt tg pa an kn row len (nI 3)) H := hP
  refine lv_aload_n hx hb dX1_asked___29 rfl (lv_at hl 0 rfl) ?_
  refine va_get (D := D) (ci := 1) (v := .int (nI 3)) (C := RX1) (T := TX1) (N := 10) hx hb hts hin hown hK hP 0 rfl rfl 9 (by decide) (hts (.fieldLink RX1 32 "EditGraphModel" "thrown" "I") (by decide +kernel)) (fun _ h9 => h9) rfl dX1_asked___30 ?_
  refine eg_if_ne (tgt := 40) hx hb dX1_asked___33 (by decide) (by decide) (fun _ => ?_) (fun h => absurd h (by decide))
  refine lv_iconst (v := nI 0) hx hb dX1_asked___40 (by decide +kernel) ?_
  exact W.zret hx hb hr (by first | rfl | exact eb_nar) (fun t9 ht9 _ => ⟨some (.int (nI 0)), (wM q cI cJ (nI n) mk lt tg pa an kn row len (nI 3)), rfl, ⟨rfl, rfl⟩, rfl, by rw [ht9]; exact hP, hS.F ht9⟩) hS.2.2 dX1_asked___41
set_option maxHeartbeats 4000000 in
set_option maxRecDepth 100000 in
theorem c_X1_asked___tf (l : Launch) (D : va_G) (cI cJ : ClassId) (q : Nat → Nat) (n : Nat) (mk lt tg : Nat → Int32) (pa an kn : Nat → Int64) (row : Nat → Int32) (len thr : Int32) (b3 : Bool) : eg_MW D (tyL cI cJ) l yX1_asked__ wsX1_asked__ ({ frames := 0, cells := 0, slots := 0, locals := 0 }) 0 0 [.ref (q 0), .int (eb true), .int (eb false), .int (eb b3)] (wM q cI cJ (nI n) mk lt tg pa an kn row len thr) (fun r w1 => r = some (.int (eb false)) ∧ w1 = wM q cI cJ (nI n) mk lt tg pa an kn row len (nI 2)) := by
  refine Met.ofW (cc := cX1_asked__) (maxL := 4) (ret := (some .boolean)) (by decide) rfl ?_
  intro p e s m args below meth c s₁ B hml hv
  obtain ⟨rfl, hP, hK, hD0⟩ := hv
  have hx := B.exec
  have hb := B.bytes
  have hr := B.returns
  have hts := atoms_spec (ws := wsX1_asked__) B.pre
  have hown : s.vm.findClass RX1 = some m.cls := findClass_of_methodNamed B.named
  have hlocks := B.notSynchronized
  have hD := eg_D_of hD0
  have hS : va_S (eg_A (wM q cI cJ (nI n) mk lt tg pa an kn row len thr)) s.heap s.heap [] := va_S.rf
  have hin : ∀ w ∈ u_ws RX1 TX1 10, w ∈ wsX1_asked__ := by decide +kernel
  have hl := lv_entry ([.ref (q 0), .int (eb true), .int (eb false), .int (eb b3)]) (n := 4) (Nat.le_of_ble_eq_true rfl)
  rw [lg_entry_eq]
  generalize (lg_sl ([.ref (q 0), .int (eb true), .int (eb false), .int (eb b3)]) ++ List.replicate (4 - (lg_sl ([.ref (q 0), .int (eb true), .int (eb false), .int (eb b3)])).length) Slot.unset).toArray = ls at hl ⊢
  have hl : lv_has ls 4 [(0, .ref (q 0)), (1, .int (eb true)), (2, .int (eb false)), (3, .int (eb b3))] := hl
  generalize h0H : s.heap = H at hP ⊢
  have hS : va_S (eg_A (wM q cI cJ (nI n) mk lt tg pa an kn row len thr)) s.heap H [] := by rw [← h0H]; exact hS
  generalize ([] : List Loc) = locs at hS ⊢
  refine lv_aload_n hx hb dX1_asked___0 rfl (lv_at hl 0 rfl) ?_
  refine lv_iload_n hx hb dX1_asked___1 rfl (lv_at hl 1 rfl) ?_
  refine eg_ifne_b (tgt := 9) hx hb dX1_asked___2 (by decide) (fun _ => ?_) (fun h => Bool.noConfusion h)
  refine lv_iload_n hx hb dX1_asked___9 rfl (lv_at hl 2 rfl) ?_
  refine eg_ifne_b (tgt := 17) hx hb dX1_asked___10 (by decide) (fun h => Bool.noConfusion h) (fun _ => ?_)
  refine lv_iconst (v := nI 2) hx hb dX1_asked___13 (by decide +kernel) ?_
  refine lv_goto (tgt := 26) hx hb dX1_asked___14 (by decide) ?_
  refine va_put (D := D) (ci := 1) (v := .int (nI 2)) (ty := .int) (C := RX1) (T := TX1) (N := 10) hx hb hts hin tyX1 tyX1_ok nmX1 hown hK hP (eg_D_same hD rfl) hS 0 rfl rfl 9 (by decide) (hts (.fieldLink RX1 32 "EditGraphModel" "thrown" "I") (by decide +kernel)) (fun _ h9 => h9) rfl (by decide +kernel) rfl rfl (Nat.le_of_ble_eq_true rfl) dX1_asked___26 (fun H locs hP _ hS => ?_)
  have hP : va_P D vwCl (wM q cI cJ (nI n) mk lt tg pa an kn row len (nI 2)) H := hP
  refine lv_aload_n hx hb dX1_asked___29 rfl (lv_at hl 0 rfl) ?_
  refine va_get (D := D) (ci := 1) (v := .int (nI 2)) (C := RX1) (T := TX1) (N := 10) hx hb hts hin hown hK hP 0 rfl rfl 9 (by decide) (hts (.fieldLink RX1 32 "EditGraphModel" "thrown" "I") (by decide +kernel)) (fun _ h9 => h9) rfl dX1_asked___30 ?_
  refine eg_if_ne (tgt := 40) hx hb dX1_asked___33 (by decide) (by decide) (fun _ => ?_) (fun h => absurd h (by decide))
  refine lv_iconst (v := nI 0) hx hb dX1_asked___40 (by decide +kernel) ?_
  exact W.zret hx hb hr (by first | rfl | exact eb_nar) (fun t9 ht9 _ => ⟨some (.int (nI 0)), (wM q cI cJ (nI n) mk lt tg pa an kn row len (nI 2)), rfl, ⟨rfl, rfl⟩, rfl, by rw [ht9]; exact hP, hS.F ht9⟩) hS.2.2 dX1_asked___41
set_option maxHeartbeats 4000000 in
set_option maxRecDepth 100000 in
theorem c_X1_asked___f (l : Launch) (D : va_G) (cI cJ : ClassId) (q : Nat → Nat) (n : Nat) (mk lt tg : Nat → Int32) (pa an kn : Nat → Int64) (row : Nat → Int32) (len thr : Int32) (b2 : Bool) (b3 : Bool) : eg_MW D (tyL cI cJ) l yX1_asked__ wsX1_asked__ ({ frames := 0, cells := 0, slots := 0, locals := 0 }) 0 0 [.ref (q 0), .int (eb false), .int (eb b2), .int (eb b3)] (wM q cI cJ (nI n) mk lt tg pa an kn row len thr) (fun r w1 => r = some (.int (eb false)) ∧ w1 = wM q cI cJ (nI n) mk lt tg pa an kn row len (nI 1)) := by
  refine Met.ofW (cc := cX1_asked__) (maxL := 4) (ret := (some .boolean)) (by decide) rfl ?_
  intro p e s m args below meth c s₁ B hml hv
  obtain ⟨rfl, hP, hK, hD0⟩ := hv
  have hx := B.exec
  have hb := B.bytes
  have hr := B.returns
  have hts := atoms_spec (ws := wsX1_asked__) B.pre
  have hown : s.vm.findClass RX1 = some m.cls := findClass_of_methodNamed B.named
  have hlocks := B.notSynchronized
  have hD := eg_D_of hD0
  have hS : va_S (eg_A (wM q cI cJ (nI n) mk lt tg pa an kn row len thr)) s.heap s.heap [] := va_S.rf
  have hin : ∀ w ∈ u_ws RX1 TX1 10, w ∈ wsX1_asked__ := by decide +kernel
  have hl := lv_entry ([.ref (q 0), .int (eb false), .int (eb b2), .int (eb b3)]) (n := 4) (Nat.le_of_ble_eq_true rfl)
  rw [lg_entry_eq]
  generalize (lg_sl ([.ref (q 0), .int (eb false), .int (eb b2), .int (eb b3)]) ++ List.replicate (4 - (lg_sl ([.ref (q 0), .int (eb false), .int (eb b2), .int (eb b3)])).length) Slot.unset).toArray = ls at hl ⊢
  have hl : lv_has ls 4 [(0, .ref (q 0)), (1, .int (eb false)), (2, .int (eb b2)), (3, .int (eb b3))] := hl
  generalize h0H : s.heap = H at hP ⊢
  have hS : va_S (eg_A (wM q cI cJ (nI n) mk lt tg pa an kn row len thr)) s.heap H [] := by rw [← h0H]; exact hS
  generalize ([] : List Loc) = locs at hS ⊢
  refine lv_aload_n hx hb dX1_asked___0 rfl (lv_at hl 0 rfl) ?_
  refine lv_iload_n hx hb dX1_asked___1 rfl (lv_at hl 1 rfl) ?_
  refine eg_ifne_b (tgt := 9) hx hb dX1_asked___2 (by decide) (fun h => Bool.noConfusion h) (fun _ => ?_)
  refine lv_iconst (v := nI 1) hx hb dX1_asked___5 (by decide +kernel) ?_
  refine lv_goto (tgt := 26) hx hb dX1_asked___6 (by decide) ?_
  refine va_put (D := D) (ci := 1) (v := .int (nI 1)) (ty := .int) (C := RX1) (T := TX1) (N := 10) hx hb hts hin tyX1 tyX1_ok nmX1 hown hK hP (eg_D_same hD rfl) hS 0 rfl rfl 9 (by decide) (hts (.fieldLink RX1 32 "EditGraphModel" "thrown" "I") (by decide +kernel)) (fun _ h9 => h9) rfl (by decide +kernel) rfl rfl (Nat.le_of_ble_eq_true rfl) dX1_asked___26 (fun H locs hP _ hS => ?_)
  have hP : va_P D vwCl (wM q cI cJ (nI n) mk lt tg pa an kn row len (nI 1)) H := hP
  refine lv_aload_n hx hb dX1_asked___29 rfl (lv_at hl 0 rfl) ?_
  refine va_get (D := D) (ci := 1) (v := .int (nI 1)) (C := RX1) (T := TX1) (N := 10) hx hb hts hin hown hK hP 0 rfl rfl 9 (by decide) (hts (.fieldLink RX1 32 "EditGraphModel" "thrown" "I") (by decide +kernel)) (fun _ h9 => h9) rfl dX1_asked___30 ?_
  refine eg_if_ne (tgt := 40) hx hb dX1_asked___33 (by decide) (by decide) (fun _ => ?_) (fun h => absurd h (by decide))
  refine lv_iconst (v := nI 0) hx hb dX1_asked___40 (by decide +kernel) ?_
  exact W.zret hx hb hr (by first | rfl | exact eb_nar) (fun t9 ht9 _ => ⟨some (.int (nI 0)), (wM q cI cJ (nI n) mk lt tg pa an kn row len (nI 1)), rfl, ⟨rfl, rfl⟩, rfl, by rw [ht9]; exact hP, hS.F ht9⟩) hS.2.2 dX1_asked___41
