-- THE CLASS: its writers (by gen.py, specW.py)
set_option maxHeartbeats 4000000 in
set_option maxRecDepth 100000 in
theorem c_X0_markLater (l : Launch) (D : va_G) (cI cJ : ClassId) (q : Nat → Nat) (n : Nat) (mk lt tg : Nat → Int32) (pa an la kn : Nat → Int64) (fb : Int32) (fh nb te wt bh : Nat → Int32) (v : Int64) (j : Nat) (hn : n ≤ 60) (hj : j < 64) : eg_MW D (tyL cI cJ) l yX0_markLater wsX0_markLater ({ frames := 2, cells := 0, slots := 0, locals := 42 }) 0 0 [.ref (q 0), .long v, .int (nI j)] (wX q cI cJ (nI n) mk lt tg pa an la kn fb fh nb te wt bh) (fun r w1 => r = none ∧ w1 = wX q cI cJ (nI n) mk lt tg pa an (mL la v j n) kn fb fh nb te wt bh) := by
  refine Met.ofW (cc := cX0_markLater) (maxL := 5) (ret := none) (by decide) rfl ?_
  intro p e s m args below meth c s₁ B hml hv
  obtain ⟨rfl, hP, hK, hD0⟩ := hv
  have hx := B.exec
  have hb := B.bytes
  have hr := B.returns
  have hts := atoms_spec (ws := wsX0_markLater) B.pre
  have hown : s.vm.findClass RX0 = some m.cls := findClass_of_methodNamed B.named
  have hlocks := B.notSynchronized
  have hD := eg_D_of hD0
  have hS : va_S (eg_A (wX q cI cJ (nI n) mk lt tg pa an la kn fb fh nb te wt bh)) s.heap s.heap [] := va_S.rf
  have hin : ∀ w ∈ u_ws RX0 TX0 14, w ∈ wsX0_markLater := by decide +kernel
  have hl := lv_entry ([.ref (q 0), .long v, .int (nI j)]) (n := 5) (Nat.le_of_ble_eq_true rfl)
  rw [lg_entry_eq]
  generalize (lg_sl ([.ref (q 0), .long v, .int (nI j)]) ++ List.replicate (5 - (lg_sl ([.ref (q 0), .long v, .int (nI j)])).length) Slot.unset).toArray = ls at hl ⊢
  have hl : lv_has ls 5 [(0, .ref (q 0)), (1, .long v), (3, .int (nI j))] := hl
  generalize h0H : s.heap = H at hP ⊢
  have hS : va_S (eg_A (wX q cI cJ (nI n) mk lt tg pa an la kn fb fh nb te wt bh)) s.heap H [] := by rw [← h0H]; exact hS
  generalize ([] : List Loc) = locs at hS ⊢
  have loop : ∀ (f i : Nat) (H : Heap) (locs : List Loc) (ls : Array Slot), n < i + f → i ≤ n → va_P D vwCl (wX q cI cJ (nI n) mk lt tg pa an (mL la v j i) kn fb fh nb te wt bh) H → va_S (eg_A (wX q cI cJ (nI n) mk lt tg pa an la kn fb fh nb te wt bh)) s.heap H locs → lv_has ls 5 [(0, .ref (q 0)), (1, .long v), (3, .int (nI j)), (4, .int (nI i))] → W p l e (headSpec wsX0_markLater ({ frames := 2, cells := 0, slots := 0, locals := 42 })).room s m ([.ref (q 0), .long v, .int (nI j)] : List Value).toArray below meth c H locs 0 0 (MQ below (eg_Wq D (wX q cI cJ (nI n) mk lt tg pa an la kn fb fh nb te wt bh) (fun r w1 => r = none ∧ w1 = wX q cI cJ (nI n) mk lt tg pa an (mL la v j n) kn fb fh nb te wt bh)) ([.ref (q 0), .long v, .int (nI j)] : List Value).toArray s 0 0 (eg_A (wX q cI cJ (nI n) mk lt tg pa an la kn fb fh nb te wt bh))) (F0 m 3 ls []) := by
    intro f
    induction f with
    | zero => intro i  H locs ls h1 h2 hP hS hl; omega
    | succ f ih =>
      intro i  H locs ls h1 h2 hP hS hl
      refine lv_iload hx hb dX0_markLater_3 (lv_at hl 3 rfl) ?_
      refine lv_aload_n hx hb dX0_markLater_5 rfl (lv_at hl 0 rfl) ?_
      refine va_get (D := D) (ci := 0) (v := .int (nI n)) (C := RX0) (T := TX0) (N := 14) hx hb hts hin hown hK hP 0 rfl rfl 0 (by decide) (hts (.fieldLink RX0 7 "EditGraph" "eventCount" "I") (by decide +kernel)) (fun _ h9 => h9) rfl dX0_markLater_6 ?_
      refine eg_icmp_ge (tgt := 41) hx hb dX0_markLater_9 (by decide) (by omega) (by omega) (fun c9 => ?_) (fun c9 => ?_)
      · have ein : i = n := by omega
        rw [ein] at hP
        exact W.vret hx hb hr (fun t9 ht9 _ => ⟨none, (wX q cI cJ (nI n) mk lt tg pa an (mL la v j n) kn fb fh nb te wt bh), rfl, ⟨rfl, rfl⟩, rfl, by rw [ht9]; exact hP, hS.F ht9⟩) hS.2.2 dX0_markLater_41
      · refine lv_lload_n hx hb dX0_markLater_12 rfl (lv_at hl 1 rfl) ?_
        refine lv_iload hx hb dX0_markLater_13 (lv_at hl 3 rfl) ?_
        refine eg_callS (As := [.long v, .int (nI i)]) (rest := []) hx hb hml hown hts hK (c_X0_has l D cI cJ v i (by omega)) (va_cwS 2 hts gX0_markLater_X0_has rfl rfl rfl (by decide +kernel) ⟨Nat.le_of_ble_eq_true rfl, Nat.le_of_ble_eq_true rfl⟩) rfl hl.1 rfl (Nat.le_of_ble_eq_true rfl) dX0_markLater_15 ⟨Nat.zero_le _, Nat.zero_le _⟩ ?_
        refine eg_ifeq_b (tgt := 35) hx hb dX0_markLater_18 (by decide) (fun c18 => ?_) (fun c18 => ?_)
        · refine lv_iinc (v := nI (i + 1)) (lv' := [(4, .int (nI (i + 1))), (0, .ref (q 0)), (1, .long v), (3, .int (nI j))]) hx hb dX0_markLater_35 hl (k := 3) rfl (eg_inc1 _) (by decide) rfl (fun ls hl => ?_)
          refine lv_goto (tgt := 3) hx hb dX0_markLater_38 (by decide) ?_
          rw [mL_f c18] at hP
          exact ih (i + 1) H locs _ (by omega) (by omega) hP hS (lv_sub hl [1, 2, 3, 0] rfl)
        · refine lv_aload_n hx hb dX0_markLater_21 rfl (lv_at hl 0 rfl) ?_
          refine va_get (D := D) (ci := 0) (v := .ref (q 6)) (C := RX0) (T := TX0) (N := 14) hx hb hts hin hown hK hP 0 rfl rfl 6 (by decide) (hts (.fieldLink RX0 30 "EditGraph" "laterSets" "[J") (by decide +kernel)) (fun _ h9 => h9) rfl dX0_markLater_22 ?_
          refine lv_iload hx hb dX0_markLater_25 (lv_at hl 3 rfl) ?_
          refine lv_dup2_11 hx hb dX0_markLater_27 rfl rfl ?_
          refine eg_lald hx hb hK hP 6 1 rfl rfl (by omega) (by decide) dX0_markLater_28 ?_
          refine lv_iload_n hx hb dX0_markLater_29 rfl (lv_at hl 2 rfl) ?_
          refine eg_callS (As := [.int (nI j)]) (rest := [.long ((mL la v j i) i), .int (nI i), .ref (q 6)]) hx hb hml hown hts hK (c_X0_only l D cI cJ j hj) (va_cwS 1 hts gX0_markLater_X0_only rfl rfl rfl (by decide +kernel) ⟨Nat.le_of_ble_eq_true rfl, Nat.le_of_ble_eq_true rfl⟩) rfl hl.1 rfl (Nat.le_of_ble_eq_true rfl) dX0_markLater_30 ⟨Nat.zero_le _, Nat.zero_le _⟩ ?_
          refine lv_lor hx hb dX0_markLater_33 ?_
          refine eg_last hx hb hK hP hD rfl hS 6 1 rfl rfl (by omega) (by decide) dX0_markLater_34 (w' := wX q cI cJ (nI n) mk lt tg pa an (vp_updL (mL la v j i) i (((mL la v j i) i) ||| (ol j))) kn fb fh nb te wt bh) rfl (fun H locs hP hS => ?_)
          refine lv_iinc (v := nI (i + 1)) (lv' := [(4, .int (nI (i + 1))), (0, .ref (q 0)), (1, .long v), (3, .int (nI j))]) hx hb dX0_markLater_35 hl (k := 3) rfl (eg_inc1 _) (by decide) rfl (fun ls hl => ?_)
          refine lv_goto (tgt := 3) hx hb dX0_markLater_38 (by decide) ?_
          rw [mL_t c18] at hP
          exact ih (i + 1) H locs _ (by omega) (by omega) hP hS (lv_sub hl [1, 2, 3, 0] rfl)
  refine lv_iconst (v := nI 0) hx hb dX0_markLater_0 (by decide +kernel) ?_
  refine lv_istore (lv' := [(4, .int (nI 0)), (0, .ref (q 0)), (1, .long v), (3, .int (nI j))]) hx hb dX0_markLater_1 hl (by decide) rfl (fun ls hl => ?_)
  rw [← mL_0 la v j] at hP
  exact loop (n + 1) 0 H locs _ (by omega) (by omega) hP hS (lv_sub hl [1, 2, 3, 0] rfl)
set_option maxHeartbeats 4000000 in
set_option maxRecDepth 100000 in
theorem c_X0_addEvent (l : Launch) (D : va_G) (cI cJ : ClassId) (q : Nat → Nat) (n : Nat) (mk lt tg : Nat → Int32) (pa an la kn : Nat → Int64) (fb : Int32) (fh nb te wt bh : Nat → Int32) (a : Nat) (lc : Int32) (t : Int32) (hn : n < 60) (ha : a < 4) : eg_MW D (tyL cI cJ) l yX0_addEvent wsX0_addEvent ({ frames := 3, cells := 0, slots := 0, locals := 67 }) 0 0 [.ref (q 0), .int (nI a), .int lc, .int t] (wX q cI cJ (nI n) mk lt tg pa an la kn fb fh nb te wt bh) (fun r w1 => r = some (.int (nI n)) ∧ w1 = wX q cI cJ (nI (n + 1)) (upd mk n (nI a)) (upd lt n lc) (upd tg n t) (vp_updL pa n (hdX pa (kn a) n)) (vp_updL an n (kn a)) (mL la (kn a) n n) (vp_updL kn a (kn a ||| ol n)) fb fh nb te wt bh) := by
  refine Met.ofW (cc := cX0_addEvent) (maxL := 7) (ret := (some .int)) (by decide) rfl ?_
  intro p e s m args below meth c s₁ B hml hv
  obtain ⟨rfl, hP, hK, hD0⟩ := hv
  have hx := B.exec
  have hb := B.bytes
  have hr := B.returns
  have hts := atoms_spec (ws := wsX0_addEvent) B.pre
  have hown : s.vm.findClass RX0 = some m.cls := findClass_of_methodNamed B.named
  have hlocks := B.notSynchronized
  have hD := eg_D_of hD0
  have hS : va_S (eg_A (wX q cI cJ (nI n) mk lt tg pa an la kn fb fh nb te wt bh)) s.heap s.heap [] := va_S.rf
  have hin : ∀ w ∈ u_ws RX0 TX0 14, w ∈ wsX0_addEvent := by decide +kernel
  have hl := lv_entry ([.ref (q 0), .int (nI a), .int lc, .int t]) (n := 7) (Nat.le_of_ble_eq_true rfl)
  rw [lg_entry_eq]
  generalize (lg_sl ([.ref (q 0), .int (nI a), .int lc, .int t]) ++ List.replicate (7 - (lg_sl ([.ref (q 0), .int (nI a), .int lc, .int t])).length) Slot.unset).toArray = ls at hl ⊢
  have hl : lv_has ls 7 [(0, .ref (q 0)), (1, .int (nI a)), (2, .int lc), (3, .int t)] := hl
  generalize h0H : s.heap = H at hP ⊢
  have hS : va_S (eg_A (wX q cI cJ (nI n) mk lt tg pa an la kn fb fh nb te wt bh)) s.heap H [] := by rw [← h0H]; exact hS
  generalize ([] : List Loc) = locs at hS ⊢
  refine lv_aload_n hx hb dX0_addEvent_0 rfl (lv_at hl 0 rfl) ?_
  refine va_get (D := D) (ci := 0) (v := .int (nI n)) (C := RX0) (T := TX0) (N := 14) hx hb hts hin hown hK hP 0 rfl rfl 0 (by decide) (hts (.fieldLink RX0 7 "EditGraph" "eventCount" "I") (by decide +kernel)) (fun _ h9 => h9) rfl dX0_addEvent_1 ?_
  refine lv_istore (lv' := [(4, .int (nI n)), (0, .ref (q 0)), (1, .int (nI a)), (2, .int lc), (3, .int t)]) hx hb dX0_addEvent_4 hl (by decide) rfl (fun ls hl => ?_)
  refine lv_aload_n hx hb dX0_addEvent_6 rfl (lv_at hl 1 rfl) ?_
  refine va_get (D := D) (ci := 0) (v := .ref (q 7)) (C := RX0) (T := TX0) (N := 14) hx hb hts hin hown hK hP 0 rfl rfl 7 (by decide) (hts (.fieldLink RX0 33 "EditGraph" "knownSets" "[J") (by decide +kernel)) (fun _ h9 => h9) rfl dX0_addEvent_7 ?_
  refine lv_iload_n hx hb dX0_addEvent_10 rfl (lv_at hl 2 rfl) ?_
  refine eg_lald hx hb hK hP 7 1 rfl rfl (by omega) (by decide) dX0_addEvent_11 ?_
  refine lv_lstore (lv' := [(5, .long (kn a)), (4, .int (nI n)), (0, .ref (q 0)), (1, .int (nI a)), (2, .int lc), (3, .int t)]) hx hb dX0_addEvent_12 hl (by decide) rfl (fun ls hl => ?_)
  refine lv_aload_n hx hb dX0_addEvent_14 rfl (lv_at hl 2 rfl) ?_
  refine va_get (D := D) (ci := 0) (v := .ref (q 1)) (C := RX0) (T := TX0) (N := 14) hx hb hts hin hown hK hP 0 rfl rfl 1 (by decide) (hts (.fieldLink RX0 13 "EditGraph" "makers" "[I") (by decide +kernel)) (fun _ h9 => h9) rfl dX0_addEvent_15 ?_
  refine lv_iload hx hb dX0_addEvent_18 (lv_at hl 1 rfl) ?_
  refine lv_iload_n hx hb dX0_addEvent_20 rfl (lv_at hl 3 rfl) ?_
  refine eg_iast hx hb hK hP hD rfl hS 1 0 rfl rfl (by omega) (by decide) dX0_addEvent_21 (w' := wX q cI cJ (nI n) (upd mk n (nI a)) lt tg pa an la kn fb fh nb te wt bh) rfl (fun H locs hP hS => ?_)
  refine lv_aload_n hx hb dX0_addEvent_22 rfl (lv_at hl 2 rfl) ?_
  refine va_get (D := D) (ci := 0) (v := .ref (q 2)) (C := RX0) (T := TX0) (N := 14) hx hb hts hin hown hK hP 0 rfl rfl 2 (by decide) (hts (.fieldLink RX0 17 "EditGraph" "letters" "[I") (by decide +kernel)) (fun _ h9 => h9) rfl dX0_addEvent_23 ?_
  refine lv_iload hx hb dX0_addEvent_26 (lv_at hl 1 rfl) ?_
  refine lv_iload_n hx hb dX0_addEvent_28 rfl (lv_at hl 4 rfl) ?_
  refine eg_iast hx hb hK hP hD rfl hS 2 0 rfl rfl (by omega) (by decide) dX0_addEvent_29 (w' := wX q cI cJ (nI n) (upd mk n (nI a)) (upd lt n lc) tg pa an la kn fb fh nb te wt bh) rfl (fun H locs hP hS => ?_)
  refine lv_aload_n hx hb dX0_addEvent_30 rfl (lv_at hl 2 rfl) ?_
  refine va_get (D := D) (ci := 0) (v := .ref (q 3)) (C := RX0) (T := TX0) (N := 14) hx hb hts hin hown hK hP 0 rfl rfl 3 (by decide) (hts (.fieldLink RX0 20 "EditGraph" "targets" "[I") (by decide +kernel)) (fun _ h9 => h9) rfl dX0_addEvent_31 ?_
  refine lv_iload hx hb dX0_addEvent_34 (lv_at hl 1 rfl) ?_
  refine lv_iload_n hx hb dX0_addEvent_36 rfl (lv_at hl 5 rfl) ?_
  refine eg_iast hx hb hK hP hD rfl hS 3 0 rfl rfl (by omega) (by decide) dX0_addEvent_37 (w' := wX q cI cJ (nI n) (upd mk n (nI a)) (upd lt n lc) (upd tg n t) pa an la kn fb fh nb te wt bh) rfl (fun H locs hP hS => ?_)
  refine lv_aload_n hx hb dX0_addEvent_38 rfl (lv_at hl 2 rfl) ?_
  refine va_get (D := D) (ci := 0) (v := .ref (q 4)) (C := RX0) (T := TX0) (N := 14) hx hb hts hin hown hK hP 0 rfl rfl 4 (by decide) (hts (.fieldLink RX0 23 "EditGraph" "parentSets" "[J") (by decide +kernel)) (fun _ h9 => h9) rfl dX0_addEvent_39 ?_
  refine lv_iload hx hb dX0_addEvent_42 (lv_at hl 1 rfl) ?_
  refine lv_aload_n hx hb dX0_addEvent_44 rfl (lv_at hl 2 rfl) ?_
  refine lv_lload hx hb dX0_addEvent_45 (lv_at hl 0 rfl) ?_
  refine eg_callV (As := [.long (kn a)]) (rest := [.int (nI n), .ref (q 4)]) hx hb hml hown hts hK hP (c_X0_headsOf l D cI cJ q n (upd mk n (nI a)) (upd lt n lc) (upd tg n t) pa an la kn fb fh nb te wt bh (kn a) (by omega)) (cwV 1 hts gX0_addEvent_X0_headsOf rfl rfl rfl (by decide +kernel) ⟨Nat.le_of_ble_eq_true rfl, Nat.le_of_ble_eq_true rfl⟩) (va_recv hK hP (ci := 0) (q0 := 0) rfl rfl) rfl hl.1 rfl (Nat.le_of_ble_eq_true rfl) dX0_addEvent_47 ⟨Nat.zero_le _, Nat.zero_le _⟩ ?_
  refine eg_last hx hb hK hP hD rfl hS 4 1 rfl rfl (by omega) (by decide) dX0_addEvent_50 (w' := wX q cI cJ (nI n) (upd mk n (nI a)) (upd lt n lc) (upd tg n t) (vp_updL pa n (hdX pa (kn a) n)) an la kn fb fh nb te wt bh) rfl (fun H locs hP hS => ?_)
  refine lv_aload_n hx hb dX0_addEvent_51 rfl (lv_at hl 2 rfl) ?_
  refine va_get (D := D) (ci := 0) (v := .ref (q 5)) (C := RX0) (T := TX0) (N := 14) hx hb hts hin hown hK hP 0 rfl rfl 5 (by decide) (hts (.fieldLink RX0 27 "EditGraph" "ancestorSets" "[J") (by decide +kernel)) (fun _ h9 => h9) rfl dX0_addEvent_52 ?_
  refine lv_iload hx hb dX0_addEvent_55 (lv_at hl 1 rfl) ?_
  refine lv_lload hx hb dX0_addEvent_57 (lv_at hl 0 rfl) ?_
  refine eg_last hx hb hK hP hD rfl hS 5 1 rfl rfl (by omega) (by decide) dX0_addEvent_59 (w' := wX q cI cJ (nI n) (upd mk n (nI a)) (upd lt n lc) (upd tg n t) (vp_updL pa n (hdX pa (kn a) n)) (vp_updL an n (kn a)) la kn fb fh nb te wt bh) rfl (fun H locs hP hS => ?_)
  refine lv_aload_n hx hb dX0_addEvent_60 rfl (lv_at hl 2 rfl) ?_
  refine lv_lload hx hb dX0_addEvent_61 (lv_at hl 0 rfl) ?_
  refine lv_iload hx hb dX0_addEvent_63 (lv_at hl 1 rfl) ?_
  refine eg_callWV (As := [.long (kn a), .int (nI n)]) (rest := []) hx hb hml hown hts hK hP hD rfl hS (c_X0_markLater l D cI cJ q n (upd mk n (nI a)) (upd lt n lc) (upd tg n t) (vp_updL pa n (hdX pa (kn a) n)) (vp_updL an n (kn a)) la kn fb fh nb te wt bh (kn a) n (by omega) (by omega)) (cwV 2 hts gX0_addEvent_X0_markLater rfl rfl rfl (by decide +kernel) ⟨Nat.le_of_ble_eq_true rfl, Nat.le_of_ble_eq_true rfl⟩) (va_recv hK hP (ci := 0) (q0 := 0) rfl rfl) rfl hl.1 rfl (Nat.le_of_ble_eq_true rfl) dX0_addEvent_65 ⟨Nat.zero_le _, Nat.zero_le _⟩ (fun v9 w9 H locs hR9 hw9 hP hS => ?_)
  obtain ⟨rfl, rfl⟩ := hR9
  refine lv_aload_n hx hb dX0_addEvent_68 rfl (lv_at hl 2 rfl) ?_
  refine va_get (D := D) (ci := 0) (v := .ref (q 7)) (C := RX0) (T := TX0) (N := 14) hx hb hts hin hown hK hP 0 rfl rfl 7 (by decide) (hts (.fieldLink RX0 33 "EditGraph" "knownSets" "[J") (by decide +kernel)) (fun _ h9 => h9) rfl dX0_addEvent_69 ?_
  refine lv_iload_n hx hb dX0_addEvent_72 rfl (lv_at hl 3 rfl) ?_
  refine lv_lload hx hb dX0_addEvent_73 (lv_at hl 0 rfl) ?_
  refine lv_iload hx hb dX0_addEvent_75 (lv_at hl 1 rfl) ?_
  refine eg_callS (As := [.int (nI n)]) (rest := [.long (kn a), .int (nI a), .ref (q 7)]) hx hb hml hown hts hK (c_X0_only l D cI cJ n (by omega)) (va_cwS 1 hts gX0_addEvent_X0_only rfl rfl rfl (by decide +kernel) ⟨Nat.le_of_ble_eq_true rfl, Nat.le_of_ble_eq_true rfl⟩) rfl hl.1 rfl (Nat.le_of_ble_eq_true rfl) dX0_addEvent_77 ⟨Nat.zero_le _, Nat.zero_le _⟩ ?_
  refine lv_lor hx hb dX0_addEvent_80 ?_
  refine eg_last hx hb hK hP hD rfl hS 7 1 rfl rfl (by omega) (by decide) dX0_addEvent_81 (w' := wX q cI cJ (nI n) (upd mk n (nI a)) (upd lt n lc) (upd tg n t) (vp_updL pa n (hdX pa (kn a) n)) (vp_updL an n (kn a)) (mL la (kn a) n n) (vp_updL kn a ((kn a) ||| (ol n))) fb fh nb te wt bh) rfl (fun H locs hP hS => ?_)
  refine lv_aload_n hx hb dX0_addEvent_82 rfl (lv_at hl 2 rfl) ?_
  refine lv_dup hx hb dX0_addEvent_83 rfl ?_
  refine va_get (D := D) (ci := 0) (v := .int (nI n)) (C := RX0) (T := TX0) (N := 14) hx hb hts hin hown hK hP 0 rfl rfl 0 (by decide) (hts (.fieldLink RX0 7 "EditGraph" "eventCount" "I") (by decide +kernel)) (fun _ h9 => h9) rfl dX0_addEvent_84 ?_
  refine lv_iconst (v := nI 1) hx hb dX0_addEvent_87 (by decide +kernel) ?_
  refine eg_iadd hx hb dX0_addEvent_88 ?_
  refine va_put (D := D) (ci := 0) (v := .int (nI (n + 1))) (ty := .int) (C := RX0) (T := TX0) (N := 14) hx hb hts hin tyX0 tyX0_ok nmX0 hown hK hP (eg_D_same hD rfl) hS 0 rfl rfl 0 (by decide) (hts (.fieldLink RX0 7 "EditGraph" "eventCount" "I") (by decide +kernel)) (fun _ h9 => h9) rfl (by decide +kernel) rfl rfl (Nat.le_of_ble_eq_true rfl) dX0_addEvent_89 (fun H locs hP _ hS => ?_)
  have hP : va_P D vwCl (wX q cI cJ (nI (n + 1)) (upd mk n (nI a)) (upd lt n lc) (upd tg n t) (vp_updL pa n (hdX pa (kn a) n)) (vp_updL an n (kn a)) (mL la (kn a) n n) (vp_updL kn a ((kn a) ||| (ol n))) fb fh nb te wt bh) H := hP
  refine lv_iload hx hb dX0_addEvent_92 (lv_at hl 1 rfl) ?_
  exact W.iret hx hb hr (fun t9 ht9 _ => ⟨some (.int (nI n)), (wX q cI cJ (nI (n + 1)) (upd mk n (nI a)) (upd lt n lc) (upd tg n t) (vp_updL pa n (hdX pa (kn a) n)) (vp_updL an n (kn a)) (mL la (kn a) n n) (vp_updL kn a ((kn a) ||| (ol n))) fb fh nb te wt bh), rfl, ⟨rfl, rfl⟩, rfl, by rw [ht9]; exact hP, hS.F ht9⟩) hS.2.2 dX0_addEvent_94
set_option maxHeartbeats 4000000 in
set_option maxRecDepth 100000 in
theorem c_X0_hangLetter (l : Launch) (D : va_G) (cI cJ : ClassId) (q : Nat → Nat) (n : Nat) (mk lt tg : Nat → Int32) (pa an la kn : Nat → Int64) (fb : Int32) (fh nb te wt bh : Nat → Int32) (e0 : Nat) (h : Int32) (hn : n ≤ 60) (he : e0 < 60) : eg_MW D (tyL cI cJ) l yX0_hangLetter wsX0_hangLetter ({ frames := 1, cells := 0, slots := 0, locals := 21 }) 0 0 [.ref (q 0), .int (nI e0), .int h] (wX q cI cJ (nI n) mk lt tg pa an la kn fb fh nb te wt bh) (fun r w1 => r = none ∧ ((∃ t : Nat, t < n ∧ h = nI t ∧ w1 = wX q cI cJ (nI n) mk lt tg pa an la kn fb (upd (upd fh e0 (-1)) t (nI e0)) (upd nb e0 (upd fh e0 (-1) t)) te wt bh) ∨ (ev n h = false ∧ w1 = wX q cI cJ (nI n) mk lt tg pa an la kn (nI e0) (upd fh e0 (-1)) (upd nb e0 fb) te wt bh))) := by
  refine Met.ofW (cc := cX0_hangLetter) (maxL := 3) (ret := none) (by decide) rfl ?_
  intro p e s m args below meth c s₁ B hml hv
  obtain ⟨rfl, hP, hK, hD0⟩ := hv
  have hx := B.exec
  have hb := B.bytes
  have hr := B.returns
  have hts := atoms_spec (ws := wsX0_hangLetter) B.pre
  have hown : s.vm.findClass RX0 = some m.cls := findClass_of_methodNamed B.named
  have hlocks := B.notSynchronized
  have hD := eg_D_of hD0
  have hS : va_S (eg_A (wX q cI cJ (nI n) mk lt tg pa an la kn fb fh nb te wt bh)) s.heap s.heap [] := va_S.rf
  have hin : ∀ w ∈ u_ws RX0 TX0 14, w ∈ wsX0_hangLetter := by decide +kernel
  have hl := lv_entry ([.ref (q 0), .int (nI e0), .int h]) (n := 3) (Nat.le_of_ble_eq_true rfl)
  rw [lg_entry_eq]
  generalize (lg_sl ([.ref (q 0), .int (nI e0), .int h]) ++ List.replicate (3 - (lg_sl ([.ref (q 0), .int (nI e0), .int h])).length) Slot.unset).toArray = ls at hl ⊢
  have hl : lv_has ls 3 [(0, .ref (q 0)), (1, .int (nI e0)), (2, .int h)] := hl
  generalize h0H : s.heap = H at hP ⊢
  have hS : va_S (eg_A (wX q cI cJ (nI n) mk lt tg pa an la kn fb fh nb te wt bh)) s.heap H [] := by rw [← h0H]; exact hS
  generalize ([] : List Loc) = locs at hS ⊢
  refine lv_aload_n hx hb dX0_hangLetter_0 rfl (lv_at hl 0 rfl) ?_
  refine va_get (D := D) (ci := 0) (v := .ref (q 8)) (C := RX0) (T := TX0) (N := 14) hx hb hts hin hown hK hP 0 rfl rfl 9 (by decide) (hts (.fieldLink RX0 39 "EditGraph" "firstHanging" "[I") (by decide +kernel)) (fun _ h9 => h9) rfl dX0_hangLetter_1 ?_
  refine lv_iload_n hx hb dX0_hangLetter_4 rfl (lv_at hl 1 rfl) ?_
  refine lv_iconst (v := (-1)) hx hb dX0_hangLetter_5 (by decide +kernel) ?_
  refine eg_iast hx hb hK hP hD rfl hS 8 0 rfl rfl (by omega) (by decide) dX0_hangLetter_6 (w' := wX q cI cJ (nI n) mk lt tg pa an la kn fb (upd fh e0 (-1)) nb te wt bh) rfl (fun H locs hP hS => ?_)
  refine lv_aload_n hx hb dX0_hangLetter_7 rfl (lv_at hl 0 rfl) ?_
  refine lv_iload_n hx hb dX0_hangLetter_8 rfl (lv_at hl 2 rfl) ?_
  refine eg_callV (As := [.int h]) (rest := []) hx hb hml hown hts hK hP (c_X0_isEvent l D cI cJ q n mk lt tg pa an la kn fb (upd fh e0 (-1)) nb te wt bh h ) (cwV 1 hts gX0_hangLetter_X0_isEvent rfl rfl rfl (by decide +kernel) ⟨Nat.le_of_ble_eq_true rfl, Nat.le_of_ble_eq_true rfl⟩) (va_recv hK hP (ci := 0) (q0 := 0) rfl rfl) rfl hl.1 rfl (Nat.le_of_ble_eq_true rfl) dX0_hangLetter_9 ⟨Nat.zero_le _, Nat.zero_le _⟩ ?_
  refine eg_ifeq_b (tgt := 37) hx hb dX0_hangLetter_12 (by decide) (fun c12 => ?_) (fun c12 => ?_)
  · refine lv_aload_n hx hb dX0_hangLetter_37 rfl (lv_at hl 0 rfl) ?_
    refine va_get (D := D) (ci := 0) (v := .ref (q 9)) (C := RX0) (T := TX0) (N := 14) hx hb hts hin hown hK hP 0 rfl rfl 10 (by decide) (hts (.fieldLink RX0 42 "EditGraph" "nextBeside" "[I") (by decide +kernel)) (fun _ h9 => h9) rfl dX0_hangLetter_38 ?_
    refine lv_iload_n hx hb dX0_hangLetter_41 rfl (lv_at hl 1 rfl) ?_
    refine lv_aload_n hx hb dX0_hangLetter_42 rfl (lv_at hl 0 rfl) ?_
    refine va_get (D := D) (ci := 0) (v := .int fb) (C := RX0) (T := TX0) (N := 14) hx hb hts hin hown hK hP 0 rfl rfl 8 (by decide) (hts (.fieldLink RX0 36 "EditGraph" "firstAtBeginning" "I") (by decide +kernel)) (fun _ h9 => h9) rfl dX0_hangLetter_43 ?_
    refine eg_iast hx hb hK hP hD rfl hS 9 0 rfl rfl (by omega) (by decide) dX0_hangLetter_46 (w' := wX q cI cJ (nI n) mk lt tg pa an la kn fb (upd fh e0 (-1)) (upd nb e0 fb) te wt bh) rfl (fun H locs hP hS => ?_)
    refine lv_aload_n hx hb dX0_hangLetter_47 rfl (lv_at hl 0 rfl) ?_
    refine lv_iload_n hx hb dX0_hangLetter_48 rfl (lv_at hl 1 rfl) ?_
    refine va_put (D := D) (ci := 0) (v := .int (nI e0)) (ty := .int) (C := RX0) (T := TX0) (N := 14) hx hb hts hin tyX0 tyX0_ok nmX0 hown hK hP (eg_D_same hD rfl) hS 0 rfl rfl 8 (by decide) (hts (.fieldLink RX0 36 "EditGraph" "firstAtBeginning" "I") (by decide +kernel)) (fun _ h9 => h9) rfl (by decide +kernel) rfl rfl (Nat.le_of_ble_eq_true rfl) dX0_hangLetter_49 (fun H locs hP _ hS => ?_)
    have hP : va_P D vwCl (wX q cI cJ (nI n) mk lt tg pa an la kn (nI e0) (upd fh e0 (-1)) (upd nb e0 fb) te wt bh) H := hP
    exact W.vret hx hb hr (fun t9 ht9 _ => ⟨none, (wX q cI cJ (nI n) mk lt tg pa an la kn (nI e0) (upd fh e0 (-1)) (upd nb e0 fb) te wt bh), rfl, ⟨rfl, Or.inr ⟨c12, rfl⟩⟩, rfl, by rw [ht9]; exact hP, hS.F ht9⟩) hS.2.2 dX0_hangLetter_52
  · obtain ⟨t, htn, eT⟩ := ev_of (by omega) c12
    have hl : lv_has ls 3 [(0, .ref (q 0)), (1, .int (nI e0)), (2, .int (nI t))] := by rw [← eT]; exact hl
    refine lv_aload_n hx hb dX0_hangLetter_15 rfl (lv_at hl 0 rfl) ?_
    refine va_get (D := D) (ci := 0) (v := .ref (q 9)) (C := RX0) (T := TX0) (N := 14) hx hb hts hin hown hK hP 0 rfl rfl 10 (by decide) (hts (.fieldLink RX0 42 "EditGraph" "nextBeside" "[I") (by decide +kernel)) (fun _ h9 => h9) rfl dX0_hangLetter_16 ?_
    refine lv_iload_n hx hb dX0_hangLetter_19 rfl (lv_at hl 1 rfl) ?_
    refine lv_aload_n hx hb dX0_hangLetter_20 rfl (lv_at hl 0 rfl) ?_
    refine va_get (D := D) (ci := 0) (v := .ref (q 8)) (C := RX0) (T := TX0) (N := 14) hx hb hts hin hown hK hP 0 rfl rfl 9 (by decide) (hts (.fieldLink RX0 39 "EditGraph" "firstHanging" "[I") (by decide +kernel)) (fun _ h9 => h9) rfl dX0_hangLetter_21 ?_
    refine lv_iload_n hx hb dX0_hangLetter_24 rfl (lv_at hl 2 rfl) ?_
    refine eg_iald hx hb hK hP 8 0 rfl rfl (by omega) (by decide) dX0_hangLetter_25 ?_
    refine eg_iast hx hb hK hP hD rfl hS 9 0 rfl rfl (by omega) (by decide) dX0_hangLetter_26 (w' := wX q cI cJ (nI n) mk lt tg pa an la kn fb (upd fh e0 (-1)) (upd nb e0 ((upd fh e0 (-1)) t)) te wt bh) rfl (fun H locs hP hS => ?_)
    refine lv_aload_n hx hb dX0_hangLetter_27 rfl (lv_at hl 0 rfl) ?_
    refine va_get (D := D) (ci := 0) (v := .ref (q 8)) (C := RX0) (T := TX0) (N := 14) hx hb hts hin hown hK hP 0 rfl rfl 9 (by decide) (hts (.fieldLink RX0 39 "EditGraph" "firstHanging" "[I") (by decide +kernel)) (fun _ h9 => h9) rfl dX0_hangLetter_28 ?_
    refine lv_iload_n hx hb dX0_hangLetter_31 rfl (lv_at hl 2 rfl) ?_
    refine lv_iload_n hx hb dX0_hangLetter_32 rfl (lv_at hl 1 rfl) ?_
    refine eg_iast hx hb hK hP hD rfl hS 8 0 rfl rfl (by omega) (by decide) dX0_hangLetter_33 (w' := wX q cI cJ (nI n) mk lt tg pa an la kn fb (upd (upd fh e0 (-1)) t (nI e0)) (upd nb e0 ((upd fh e0 (-1)) t)) te wt bh) rfl (fun H locs hP hS => ?_)
    refine lv_goto (tgt := 52) hx hb dX0_hangLetter_34 (by decide) ?_
    exact W.vret hx hb hr (fun t9 ht9 _ => ⟨none, (wX q cI cJ (nI n) mk lt tg pa an la kn fb (upd (upd fh e0 (-1)) t (nI e0)) (upd nb e0 ((upd fh e0 (-1)) t)) te wt bh), rfl, ⟨rfl, Or.inl ⟨t, htn, eT, rfl⟩⟩, rfl, by rw [ht9]; exact hP, hS.F ht9⟩) hS.2.2 dX0_hangLetter_52
set_option maxHeartbeats 4000000 in
set_option maxRecDepth 100000 in
theorem c_X0_putWaiting (l : Launch) (D : va_G) (cI cJ : ClassId) (q : Nat → Nat) (n : Nat) (mk lt tg : Nat → Int32) (pa an la kn : Nat → Int64) (fb : Int32) (fh nb te wt bh : Nat → Int32) (x : Int32) (k : Nat) (hn : n ≤ 60) (hk : k ≤ 60) : eg_MW D (tyL cI cJ) l yX0_putWaiting wsX0_putWaiting ({ frames := 1, cells := 0, slots := 0, locals := 21 }) 0 0 [.ref (q 0), .int x, .int (nI k)] (wX q cI cJ (nI n) mk lt tg pa an la kn fb fh nb te wt bh) (fun r w1 => (ev n x = true ∧ k < 60 ∧ r = some (.int (nI (k + 1))) ∧ w1 = wX q cI cJ (nI n) mk lt tg pa an la kn fb fh nb te (upd wt k x) bh) ∨ ((ev n x = false ∨ 60 ≤ k) ∧ r = some (.int (nI k)) ∧ w1 = wX q cI cJ (nI n) mk lt tg pa an la kn fb fh nb te wt bh)) := by
  refine Met.ofW (cc := cX0_putWaiting) (maxL := 3) (ret := (some .int)) (by decide) rfl ?_
  intro p e s m args below meth c s₁ B hml hv
  obtain ⟨rfl, hP, hK, hD0⟩ := hv
  have hx := B.exec
  have hb := B.bytes
  have hr := B.returns
  have hts := atoms_spec (ws := wsX0_putWaiting) B.pre
  have hown : s.vm.findClass RX0 = some m.cls := findClass_of_methodNamed B.named
  have hlocks := B.notSynchronized
  have hD := eg_D_of hD0
  have hS : va_S (eg_A (wX q cI cJ (nI n) mk lt tg pa an la kn fb fh nb te wt bh)) s.heap s.heap [] := va_S.rf
  have hin : ∀ w ∈ u_ws RX0 TX0 14, w ∈ wsX0_putWaiting := by decide +kernel
  have hl := lv_entry ([.ref (q 0), .int x, .int (nI k)]) (n := 3) (Nat.le_of_ble_eq_true rfl)
  rw [lg_entry_eq]
  generalize (lg_sl ([.ref (q 0), .int x, .int (nI k)]) ++ List.replicate (3 - (lg_sl ([.ref (q 0), .int x, .int (nI k)])).length) Slot.unset).toArray = ls at hl ⊢
  have hl : lv_has ls 3 [(0, .ref (q 0)), (1, .int x), (2, .int (nI k))] := hl
  generalize h0H : s.heap = H at hP ⊢
  have hS : va_S (eg_A (wX q cI cJ (nI n) mk lt tg pa an la kn fb fh nb te wt bh)) s.heap H [] := by rw [← h0H]; exact hS
  generalize ([] : List Loc) = locs at hS ⊢
  refine lv_aload_n hx hb dX0_putWaiting_0 rfl (lv_at hl 0 rfl) ?_
  refine lv_iload_n hx hb dX0_putWaiting_1 rfl (lv_at hl 1 rfl) ?_
  refine eg_callV (As := [.int x]) (rest := []) hx hb hml hown hts hK hP (c_X0_isEvent l D cI cJ q n mk lt tg pa an la kn fb fh nb te wt bh x ) (cwV 1 hts gX0_putWaiting_X0_isEvent rfl rfl rfl (by decide +kernel) ⟨Nat.le_of_ble_eq_true rfl, Nat.le_of_ble_eq_true rfl⟩) (va_recv hK hP (ci := 0) (q0 := 0) rfl rfl) rfl hl.1 rfl (Nat.le_of_ble_eq_true rfl) dX0_putWaiting_2 ⟨Nat.zero_le _, Nat.zero_le _⟩ ?_
  refine eg_ifeq_b (tgt := 14) hx hb dX0_putWaiting_5 (by decide) (fun c5 => ?_) (fun c5 => ?_)
  · refine lv_iload_n hx hb dX0_putWaiting_14 rfl (lv_at hl 2 rfl) ?_
    exact W.iret hx hb hr (fun t9 ht9 _ => ⟨some (.int (nI k)), (wX q cI cJ (nI n) mk lt tg pa an la kn fb fh nb te wt bh), rfl, Or.inr ⟨by first | exact Or.inl c5 | exact Or.inr c11, rfl, rfl⟩, rfl, by rw [ht9]; exact hP, hS.F ht9⟩) hS.2.2 dX0_putWaiting_15
  · refine lv_iload_n hx hb dX0_putWaiting_8 rfl (lv_at hl 2 rfl) ?_
    refine lv_bipush (v := nI 60) hx hb dX0_putWaiting_9 (by decide +kernel) ?_
    refine eg_icmp_lt (tgt := 16) hx hb dX0_putWaiting_11 (by decide) (by omega) (by omega) (fun c11 => ?_) (fun c11 => ?_)
    · refine lv_aload_n hx hb dX0_putWaiting_16 rfl (lv_at hl 0 rfl) ?_
      refine va_get (D := D) (ci := 0) (v := .ref (q 11)) (C := RX0) (T := TX0) (N := 14) hx hb hts hin hown hK hP 0 rfl rfl 12 (by decide) (hts (.fieldLink RX0 48 "EditGraph" "waiting" "[I") (by decide +kernel)) (fun _ h9 => h9) rfl dX0_putWaiting_17 ?_
      refine lv_iload_n hx hb dX0_putWaiting_20 rfl (lv_at hl 2 rfl) ?_
      refine lv_iload_n hx hb dX0_putWaiting_21 rfl (lv_at hl 1 rfl) ?_
      refine eg_iast hx hb hK hP hD rfl hS 11 0 rfl rfl (by omega) (by decide) dX0_putWaiting_22 (w' := wX q cI cJ (nI n) mk lt tg pa an la kn fb fh nb te (upd wt k x) bh) rfl (fun H locs hP hS => ?_)
      refine lv_iload_n hx hb dX0_putWaiting_23 rfl (lv_at hl 2 rfl) ?_
      refine lv_iconst (v := nI 1) hx hb dX0_putWaiting_24 (by decide +kernel) ?_
      refine eg_iadd hx hb dX0_putWaiting_25 ?_
      exact W.iret hx hb hr (fun t9 ht9 _ => ⟨some (.int (nI (k + 1))), (wX q cI cJ (nI n) mk lt tg pa an la kn fb fh nb te (upd wt k x) bh), rfl, Or.inl ⟨c5, c11, rfl, rfl⟩, rfl, by rw [ht9]; exact hP, hS.F ht9⟩) hS.2.2 dX0_putWaiting_26
    · refine lv_iload_n hx hb dX0_putWaiting_14 rfl (lv_at hl 2 rfl) ?_
      exact W.iret hx hb hr (fun t9 ht9 _ => ⟨some (.int (nI k)), (wX q cI cJ (nI n) mk lt tg pa an la kn fb fh nb te wt bh), rfl, Or.inr ⟨by first | exact Or.inl c5 | exact Or.inr c11, rfl, rfl⟩, rfl, by rw [ht9]; exact hP, hS.F ht9⟩) hS.2.2 dX0_putWaiting_15
set_option maxHeartbeats 4000000 in
set_option maxRecDepth 100000 in
theorem c_X0_putText (l : Launch) (D : va_G) (cI cJ : ClassId) (q : Nat → Nat) (n : Nat) (mk lt tg : Nat → Int32) (pa an la kn : Nat → Int64) (fb : Int32) (fh nb te wt bh : Nat → Int32) (z : Int64) (e0 : Nat) (k : Nat) (he : e0 < 60) (hk : k ≤ 60) : eg_MW D (tyL cI cJ) l yX0_putText wsX0_putText ({ frames := 2, cells := 0, slots := 0, locals := 42 }) 0 0 [.ref (q 0), .long z, .int (nI e0), .int (nI k)] (wX q cI cJ (nI n) mk lt tg pa an la kn fb fh nb te wt bh) (fun r w1 => (bi z e0 = true ∧ k < 60 ∧ r = some (.int (nI (k + 1))) ∧ w1 = wX q cI cJ (nI n) mk lt tg pa an la kn fb fh nb (upd te k (nI e0)) wt bh) ∨ ((bi z e0 = false ∨ 60 ≤ k) ∧ r = some (.int (nI k)) ∧ w1 = wX q cI cJ (nI n) mk lt tg pa an la kn fb fh nb te wt bh)) := by
  refine Met.ofW (cc := cX0_putText) (maxL := 5) (ret := (some .int)) (by decide) rfl ?_
  intro p e s m args below meth c s₁ B hml hv
  obtain ⟨rfl, hP, hK, hD0⟩ := hv
  have hx := B.exec
  have hb := B.bytes
  have hr := B.returns
  have hts := atoms_spec (ws := wsX0_putText) B.pre
  have hown : s.vm.findClass RX0 = some m.cls := findClass_of_methodNamed B.named
  have hlocks := B.notSynchronized
  have hD := eg_D_of hD0
  have hS : va_S (eg_A (wX q cI cJ (nI n) mk lt tg pa an la kn fb fh nb te wt bh)) s.heap s.heap [] := va_S.rf
  have hin : ∀ w ∈ u_ws RX0 TX0 14, w ∈ wsX0_putText := by decide +kernel
  have hl := lv_entry ([.ref (q 0), .long z, .int (nI e0), .int (nI k)]) (n := 5) (Nat.le_of_ble_eq_true rfl)
  rw [lg_entry_eq]
  generalize (lg_sl ([.ref (q 0), .long z, .int (nI e0), .int (nI k)]) ++ List.replicate (5 - (lg_sl ([.ref (q 0), .long z, .int (nI e0), .int (nI k)])).length) Slot.unset).toArray = ls at hl ⊢
  have hl : lv_has ls 5 [(0, .ref (q 0)), (1, .long z), (3, .int (nI e0)), (4, .int (nI k))] := hl
  generalize h0H : s.heap = H at hP ⊢
  have hS : va_S (eg_A (wX q cI cJ (nI n) mk lt tg pa an la kn fb fh nb te wt bh)) s.heap H [] := by rw [← h0H]; exact hS
  generalize ([] : List Loc) = locs at hS ⊢
  refine lv_lload_n hx hb dX0_putText_0 rfl (lv_at hl 1 rfl) ?_
  refine lv_iload_n hx hb dX0_putText_1 rfl (lv_at hl 2 rfl) ?_
  refine eg_callS (As := [.long z, .int (nI e0)]) (rest := []) hx hb hml hown hts hK (c_X0_has l D cI cJ z e0 (by omega)) (va_cwS 2 hts gX0_putText_X0_has rfl rfl rfl (by decide +kernel) ⟨Nat.le_of_ble_eq_true rfl, Nat.le_of_ble_eq_true rfl⟩) rfl hl.1 rfl (Nat.le_of_ble_eq_true rfl) dX0_putText_2 ⟨Nat.zero_le _, Nat.zero_le _⟩ ?_
  refine eg_ifeq_b (tgt := 15) hx hb dX0_putText_5 (by decide) (fun c5 => ?_) (fun c5 => ?_)
  · refine lv_iload hx hb dX0_putText_15 (lv_at hl 3 rfl) ?_
    exact W.iret hx hb hr (fun t9 ht9 _ => ⟨some (.int (nI k)), (wX q cI cJ (nI n) mk lt tg pa an la kn fb fh nb te wt bh), rfl, Or.inr ⟨by first | exact Or.inl c5 | exact Or.inr c12, rfl, rfl⟩, rfl, by rw [ht9]; exact hP, hS.F ht9⟩) hS.2.2 dX0_putText_17
  · refine lv_iload hx hb dX0_putText_8 (lv_at hl 3 rfl) ?_
    refine lv_bipush (v := nI 60) hx hb dX0_putText_10 (by decide +kernel) ?_
    refine eg_icmp_lt (tgt := 18) hx hb dX0_putText_12 (by decide) (by omega) (by omega) (fun c12 => ?_) (fun c12 => ?_)
    · refine lv_aload_n hx hb dX0_putText_18 rfl (lv_at hl 0 rfl) ?_
      refine va_get (D := D) (ci := 0) (v := .ref (q 10)) (C := RX0) (T := TX0) (N := 14) hx hb hts hin hown hK hP 0 rfl rfl 11 (by decide) (hts (.fieldLink RX0 45 "EditGraph" "textEvents" "[I") (by decide +kernel)) (fun _ h9 => h9) rfl dX0_putText_19 ?_
      refine lv_iload hx hb dX0_putText_22 (lv_at hl 3 rfl) ?_
      refine lv_iload_n hx hb dX0_putText_24 rfl (lv_at hl 2 rfl) ?_
      refine eg_iast hx hb hK hP hD rfl hS 10 0 rfl rfl (by omega) (by decide) dX0_putText_25 (w' := wX q cI cJ (nI n) mk lt tg pa an la kn fb fh nb (upd te k (nI e0)) wt bh) rfl (fun H locs hP hS => ?_)
      refine lv_iload hx hb dX0_putText_26 (lv_at hl 3 rfl) ?_
      refine lv_iconst (v := nI 1) hx hb dX0_putText_28 (by decide +kernel) ?_
      refine eg_iadd hx hb dX0_putText_29 ?_
      exact W.iret hx hb hr (fun t9 ht9 _ => ⟨some (.int (nI (k + 1))), (wX q cI cJ (nI n) mk lt tg pa an la kn fb fh nb (upd te k (nI e0)) wt bh), rfl, Or.inl ⟨c5, c12, rfl, rfl⟩, rfl, by rw [ht9]; exact hP, hS.F ht9⟩) hS.2.2 dX0_putText_30
    · refine lv_iload hx hb dX0_putText_15 (lv_at hl 3 rfl) ?_
      exact W.iret hx hb hr (fun t9 ht9 _ => ⟨some (.int (nI k)), (wX q cI cJ (nI n) mk lt tg pa an la kn fb fh nb te wt bh), rfl, Or.inr ⟨by first | exact Or.inl c5 | exact Or.inr c12, rfl, rfl⟩, rfl, by rw [ht9]; exact hP, hS.F ht9⟩) hS.2.2 dX0_putText_17
