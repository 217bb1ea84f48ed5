-- layList, findTextByList (by gen.py, specB.py)
set_option maxHeartbeats 4000000 in
set_option maxRecDepth 100000 in
theorem c_X0_layList (l : Launch) (D : va_G) (cI cJ : ClassId) (q : Nat → Nat) (n : Nat) (mk lt tg : Nat → Int32) (pa an la kn : Nat → Int64) (fb : Int32) (fh nb te wt bh : Nat → Int32) (v : Int64) (hn : n ≤ 60) (hc : hang (vI lt v) tg n) : eg_MW D (tyL cI cJ) l yX0_layList wsX0_layList ({ frames := 2, cells := 0, slots := 0, locals := 42 }) 0 0 [.ref (q 0), .long v] (wX q cI cJ (nI n) mk lt tg pa an la kn fb fh nb te wt bh) (fun r w1 => ∃ (bh' : Nat → Int32) (x : Int32), r = some (.int x) ∧ w1 = wX q cI cJ (nI n) mk lt tg pa an la kn fb fh nb te wt bh' ∧ Ch bh' x (lay (vI lt v) tg n)) := by
  refine Met.ofW (cc := cX0_layList) (maxL := 6) (ret := (some .int)) (by decide) rfl ?_
  intro p e s m args below meth c s₁ B hml hv
  obtain ⟨rfl, hP, hK, hD0⟩ := hv
  have hx := B.exec
  have hb := B.bytes
  have hr := B.returns
  have hts := atoms_spec (ws := wsX0_layList) B.pre
  have hown : s.vm.findClass RX0 = some m.cls := findClass_of_methodNamed B.named
  have hlocks := B.notSynchronized
  have hD := eg_D_of hD0
  have hS : va_S (eg_A (wX q cI cJ (nI n) mk lt tg pa an la kn fb fh nb te wt bh)) s.heap s.heap [] := va_S.rf
  have hin : ∀ w ∈ u_ws RX0 TX0 14, w ∈ wsX0_layList := by decide +kernel
  have hl := lv_entry ([.ref (q 0), .long v]) (n := 6) (Nat.le_of_ble_eq_true rfl)
  rw [lg_entry_eq]
  generalize (lg_sl ([.ref (q 0), .long v]) ++ List.replicate (6 - (lg_sl ([.ref (q 0), .long v])).length) Slot.unset).toArray = ls at hl ⊢
  have hl : lv_has ls 6 [(0, .ref (q 0)), (1, .long v)] := hl
  generalize h0H : s.heap = H at hP ⊢
  have hS : va_S (eg_A (wX q cI cJ (nI n) mk lt tg pa an la kn fb fh nb te wt bh)) s.heap H [] := by rw [← h0H]; exact hS
  generalize ([] : List Loc) = locs at hS ⊢
  have loop : ∀ (f i : Nat) (x1 : Int32) (bh1 : Nat → Int32) (H : Heap) (locs : List Loc) (ls : Array Slot), n < i + f → i ≤ n → Ch bh1 x1 (lay (vI lt v) tg i) → va_P D vwCl (wX q cI cJ (nI n) mk lt tg pa an la kn fb fh nb te wt bh1) H → va_S (eg_A (wX q cI cJ (nI n) mk lt tg pa an la kn fb fh nb te wt bh)) s.heap H locs → lv_has ls 6 [(0, .ref (q 0)), (1, .long v), (3, .int x1), (4, .int (nI i))] → W p l e (headSpec wsX0_layList ({ frames := 2, cells := 0, slots := 0, locals := 42 })).room s m ([.ref (q 0), .long v] : List Value).toArray below meth c H locs 0 0 (MQ below (eg_Wq D (wX q cI cJ (nI n) mk lt tg pa an la kn fb fh nb te wt bh) (fun r w1 => ∃ (bh' : Nat → Int32) (x : Int32), r = some (.int x) ∧ w1 = wX q cI cJ (nI n) mk lt tg pa an la kn fb fh nb te wt bh' ∧ Ch bh' x (lay (vI lt v) tg n))) ([.ref (q 0), .long v] : List Value).toArray s 0 0 (eg_A (wX q cI cJ (nI n) mk lt tg pa an la kn fb fh nb te wt bh))) (F0 m 5 ls []) := by
    intro f
    induction f with
    | zero => intro i x1 bh1  H locs ls h1 h2 h3 hP hS hl; omega
    | succ f ih =>
      intro i x1 bh1  H locs ls h1 h2 h3 hP hS hl
      have hCh := h3
      refine lv_iload hx hb dX0_layList_5 (lv_at hl 3 rfl) ?_
      refine lv_aload_n hx hb dX0_layList_7 rfl (lv_at hl 0 rfl) ?_
      refine va_get (D := D) (ci := 0) (v := .int (nI n)) (C := RX0) (T := TX0) (N := 14) hx hb hts hin hown hK hP 0 rfl rfl 0 (by decide) (hts (.fieldLink RX0 7 "EditGraph" "eventCount" "I") (by decide +kernel)) (fun _ h9 => h9) rfl dX0_layList_8 ?_
      refine eg_icmp_ge (tgt := 93) hx hb dX0_layList_11 (by decide) (by omega) (by omega) (fun c11 => ?_) (fun c11 => ?_)
      · refine lv_iload_n hx hb dX0_layList_93 rfl (lv_at hl 2 rfl) ?_
        have ein : i = n := by omega
        rw [ein] at hCh
        exact W.iret hx hb hr (fun t9 ht9 _ => ⟨some (.int x1), (wX q cI cJ (nI n) mk lt tg pa an la kn fb fh nb te wt bh1), rfl, ⟨bh1, x1, rfl, rfl, hCh⟩, rfl, by rw [ht9]; exact hP, hS.F ht9⟩) hS.2.2 dX0_layList_94
      · refine lv_lload_n hx hb dX0_layList_14 rfl (lv_at hl 1 rfl) ?_
        refine lv_iload hx hb dX0_layList_15 (lv_at hl 3 rfl) ?_
        refine eg_callS (As := [.long v, .int (nI i)]) (rest := []) hx hb hml hown hts hK (c_X0_has l D cI cJ v i (by omega)) (va_cwS 2 hts gX0_layList_X0_has rfl rfl rfl (by decide +kernel) ⟨Nat.le_of_ble_eq_true rfl, Nat.le_of_ble_eq_true rfl⟩) rfl hl.1 rfl (Nat.le_of_ble_eq_true rfl) dX0_layList_17 ⟨Nat.zero_le _, Nat.zero_le _⟩ ?_
        refine eg_ifeq_b (tgt := 87) hx hb dX0_layList_20 (by decide) (fun c20 => ?_) (fun c20 => ?_)
        · refine lv_iinc (v := nI (i + 1)) (lv' := [(4, .int (nI (i + 1))), (0, .ref (q 0)), (1, .long v), (3, .int x1)]) hx hb dX0_layList_87 hl (k := 3) rfl (eg_inc1 _) (by decide) rfl (fun ls hl => ?_)
          refine lv_goto (tgt := 5) hx hb dX0_layList_90 (by decide) ?_
          exact ih (i + 1) x1 bh1 H locs _ (by omega) (by omega) (Ch_s (by first | exact Or.inl c20 | exact Or.inr c29) hCh) hP hS (lv_sub hl [1, 2, 3, 0] rfl)
        · refine lv_aload_n hx hb dX0_layList_23 rfl (lv_at hl 0 rfl) ?_
          refine lv_iload hx hb dX0_layList_24 (lv_at hl 3 rfl) ?_
          refine eg_callV (As := [.int (nI i)]) (rest := []) hx hb hml hown hts hK hP (c_X0_isInsert l D cI cJ q n mk lt tg pa an la kn fb fh nb te wt bh1 i (by omega)) (cwV 1 hts gX0_layList_X0_isInsert rfl rfl rfl (by decide +kernel) ⟨Nat.le_of_ble_eq_true rfl, Nat.le_of_ble_eq_true rfl⟩) (va_recv hK hP (ci := 0) (q0 := 0) rfl rfl) rfl hl.1 rfl (Nat.le_of_ble_eq_true rfl) dX0_layList_26 ⟨Nat.zero_le _, Nat.zero_le _⟩ ?_
          refine eg_ifeq_b (tgt := 87) hx hb dX0_layList_29 (by decide) (fun c29 => ?_) (fun c29 => ?_)
          · refine lv_iinc (v := nI (i + 1)) (lv' := [(4, .int (nI (i + 1))), (0, .ref (q 0)), (1, .long v), (3, .int x1)]) hx hb dX0_layList_87 hl (k := 3) rfl (eg_inc1 _) (by decide) rfl (fun ls hl => ?_)
            refine lv_goto (tgt := 5) hx hb dX0_layList_90 (by decide) ?_
            exact ih (i + 1) x1 bh1 H locs _ (by omega) (by omega) (Ch_s (by first | exact Or.inl c20 | exact Or.inr c29) hCh) hP hS (lv_sub hl [1, 2, 3, 0] rfl)
          · refine lv_aload_n hx hb dX0_layList_32 rfl (lv_at hl 0 rfl) ?_
            refine va_get (D := D) (ci := 0) (v := .ref (q 3)) (C := RX0) (T := TX0) (N := 14) hx hb hts hin hown hK hP 0 rfl rfl 3 (by decide) (hts (.fieldLink RX0 20 "EditGraph" "targets" "[I") (by decide +kernel)) (fun _ h9 => h9) rfl dX0_layList_33 ?_
            refine lv_iload hx hb dX0_layList_36 (lv_at hl 3 rfl) ?_
            refine eg_iald hx hb hK hP 3 0 rfl rfl (by omega) (by decide) dX0_layList_38 ?_
            refine lv_istore (lv' := [(5, .int (tg i)), (0, .ref (q 0)), (1, .long v), (3, .int x1), (4, .int (nI i))]) hx hb dX0_layList_39 hl (by decide) rfl (fun ls hl => ?_)
            refine lv_aload_n hx hb dX0_layList_41 rfl (lv_at hl 1 rfl) ?_
            refine lv_iload hx hb dX0_layList_42 (lv_at hl 0 rfl) ?_
            refine eg_callV (As := [.int (tg i)]) (rest := []) hx hb hml hown hts hK hP (c_X0_isEvent l D cI cJ q n mk lt tg pa an la kn fb fh nb te wt bh1 (tg i) ) (cwV 1 hts gX0_layList_X0_isEvent rfl rfl rfl (by decide +kernel) ⟨Nat.le_of_ble_eq_true rfl, Nat.le_of_ble_eq_true rfl⟩) (va_recv hK hP (ci := 0) (q0 := 0) rfl rfl) rfl hl.1 rfl (Nat.le_of_ble_eq_true rfl) dX0_layList_44 ⟨Nat.zero_le _, Nat.zero_le _⟩ ?_
            refine eg_ifeq_b (tgt := 76) hx hb dX0_layList_47 (by decide) (fun c47 => ?_) (fun c47 => ?_)
            · refine lv_aload_n hx hb dX0_layList_76 rfl (lv_at hl 1 rfl) ?_
              refine va_get (D := D) (ci := 0) (v := .ref (q 12)) (C := RX0) (T := TX0) (N := 14) hx hb hts hin hown hK hP 0 rfl rfl 13 (by decide) (hts (.fieldLink RX0 51 "EditGraph" "behind" "[I") (by decide +kernel)) (fun _ h9 => h9) rfl dX0_layList_77 ?_
              refine lv_iload hx hb dX0_layList_80 (lv_at hl 4 rfl) ?_
              refine lv_iload_n hx hb dX0_layList_82 rfl (lv_at hl 3 rfl) ?_
              refine eg_iast hx hb hK hP hD rfl hS 12 0 rfl rfl (by omega) (by decide) dX0_layList_83 (w' := wX q cI cJ (nI n) mk lt tg pa an la kn fb fh nb te wt (upd bh1 i x1)) rfl (fun H locs hP hS => ?_)
              refine lv_iload hx hb dX0_layList_84 (lv_at hl 4 rfl) ?_
              refine lv_istore_n (lv' := [(3, .int (nI i)), (5, .int (tg i)), (0, .ref (q 0)), (1, .long v), (4, .int (nI i))]) hx hb dX0_layList_86 rfl hl (by decide) rfl (fun ls hl => ?_)
              refine lv_iinc (v := nI (i + 1)) (lv' := [(4, .int (nI (i + 1))), (3, .int (nI i)), (5, .int (tg i)), (0, .ref (q 0)), (1, .long v)]) hx hb dX0_layList_87 hl (k := 4) rfl (eg_inc1 _) (by decide) rfl (fun ls hl => ?_)
              refine lv_goto (tgt := 5) hx hb dX0_layList_90 (by decide) ?_
              exact ih (i + 1) (nI i) (upd bh1 i x1) H locs _ (by omega) (by omega) (Ch_f hn hc (by omega) c20 c29 c47 hCh) hP hS (lv_sub hl [3, 4, 1, 0] rfl)
            · obtain ⟨t, htn, eT⟩ := ev_of (by omega) c47
              have hl : lv_has ls 6 [(5, .int (nI t)), (0, .ref (q 0)), (1, .long v), (3, .int x1), (4, .int (nI i))] := by rw [← eT]; exact hl
              refine lv_aload_n hx hb dX0_layList_50 rfl (lv_at hl 1 rfl) ?_
              refine va_get (D := D) (ci := 0) (v := .ref (q 12)) (C := RX0) (T := TX0) (N := 14) hx hb hts hin hown hK hP 0 rfl rfl 13 (by decide) (hts (.fieldLink RX0 51 "EditGraph" "behind" "[I") (by decide +kernel)) (fun _ h9 => h9) rfl dX0_layList_51 ?_
              refine lv_iload hx hb dX0_layList_54 (lv_at hl 4 rfl) ?_
              refine lv_aload_n hx hb dX0_layList_56 rfl (lv_at hl 1 rfl) ?_
              refine va_get (D := D) (ci := 0) (v := .ref (q 12)) (C := RX0) (T := TX0) (N := 14) hx hb hts hin hown hK hP 0 rfl rfl 13 (by decide) (hts (.fieldLink RX0 51 "EditGraph" "behind" "[I") (by decide +kernel)) (fun _ h9 => h9) rfl dX0_layList_57 ?_
              refine lv_iload hx hb dX0_layList_60 (lv_at hl 0 rfl) ?_
              refine eg_iald hx hb hK hP 12 0 rfl rfl (by omega) (by decide) dX0_layList_62 ?_
              refine eg_iast hx hb hK hP hD rfl hS 12 0 rfl rfl (by omega) (by decide) dX0_layList_63 (w' := wX q cI cJ (nI n) mk lt tg pa an la kn fb fh nb te wt (upd bh1 i (bh1 t))) rfl (fun H locs hP hS => ?_)
              refine lv_aload_n hx hb dX0_layList_64 rfl (lv_at hl 1 rfl) ?_
              refine va_get (D := D) (ci := 0) (v := .ref (q 12)) (C := RX0) (T := TX0) (N := 14) hx hb hts hin hown hK hP 0 rfl rfl 13 (by decide) (hts (.fieldLink RX0 51 "EditGraph" "behind" "[I") (by decide +kernel)) (fun _ h9 => h9) rfl dX0_layList_65 ?_
              refine lv_iload hx hb dX0_layList_68 (lv_at hl 0 rfl) ?_
              refine lv_iload hx hb dX0_layList_70 (lv_at hl 4 rfl) ?_
              refine eg_iast hx hb hK hP hD rfl hS 12 0 rfl rfl (by omega) (by decide) dX0_layList_72 (w' := wX q cI cJ (nI n) mk lt tg pa an la kn fb fh nb te wt (upd (upd bh1 i (bh1 t)) t (nI i))) rfl (fun H locs hP hS => ?_)
              refine lv_goto (tgt := 87) hx hb dX0_layList_73 (by decide) ?_
              refine lv_iinc (v := nI (i + 1)) (lv' := [(4, .int (nI (i + 1))), (5, .int (nI t)), (0, .ref (q 0)), (1, .long v), (3, .int x1)]) hx hb dX0_layList_87 hl (k := 4) rfl (eg_inc1 _) (by decide) rfl (fun ls hl => ?_)
              refine lv_goto (tgt := 5) hx hb dX0_layList_90 (by decide) ?_
              exact ih (i + 1) x1 (upd (upd bh1 i (bh1 t)) t (nI i)) H locs _ (by omega) (by omega) (Ch_t hn hc (by omega) c20 c29 eT htn hCh) hP hS (lv_sub hl [2, 3, 4, 0] rfl)
  refine lv_iconst (v := (-1)) hx hb dX0_layList_0 (by decide +kernel) ?_
  refine lv_istore_n (lv' := [(3, .int (-1)), (0, .ref (q 0)), (1, .long v)]) hx hb dX0_layList_1 rfl hl (by decide) rfl (fun ls hl => ?_)
  refine lv_iconst (v := nI 0) hx hb dX0_layList_2 (by decide +kernel) ?_
  refine lv_istore (lv' := [(4, .int (nI 0)), (3, .int (-1)), (0, .ref (q 0)), (1, .long v)]) hx hb dX0_layList_3 hl (by decide) rfl (fun ls hl => ?_)
  exact loop (n + 1) 0 (-1) bh H locs _ (by omega) (by omega) rfl hP hS (lv_sub hl [2, 3, 1, 0] rfl)
set_option maxHeartbeats 4000000 in
set_option maxRecDepth 100000 in
theorem c_X0_findTextByList (l : Launch) (D : va_G) (cI cJ : ClassId) (q : Nat → Nat) (n : Nat) (mk lt tg : Nat → Int32) (pa an la kn : Nat → Int64) (fb : Int32) (fh nb te wt bh : Nat → Int32) (v : Int64) (hn : n ≤ 60) (hdl : ∀ k, k < n → bi v k = true → lt k = -1 → ∃ t, t < n ∧ tg k = nI t) (hc : hang (vI lt v) tg n) : eg_MW D (tyL cI cJ) l yX0_findTextByList wsX0_findTextByList ({ frames := 3, cells := 0, slots := 0, locals := 69 }) 0 0 [.ref (q 0), .long v] (wX q cI cJ (nI n) mk lt tg pa an la kn fb fh nb te wt bh) (fun r w1 => ∃ (te' bh' : Nat → Int32), r = some (.int (nI ((lay (vI lt v) tg n).filter (bi (sdX lt tg v n))).length)) ∧ w1 = wX q cI cJ (nI n) mk lt tg pa an la kn fb fh nb te' wt bh' ∧ holds te' ((lay (vI lt v) tg n).filter (bi (sdX lt tg v n)))) := by
  have hln : (lay (vI lt v) tg n).length ≤ n := lay_len n (lay_nodup (by omega) hc)
  refine Met.ofW (cc := cX0_findTextByList) (maxL := 8) (ret := (some .int)) (by decide) rfl ?_
  intro p e s m args below meth c s₁ B hml hv
  obtain ⟨rfl, hP, hK, hD0⟩ := hv
  have hx := B.exec
  have hb := B.bytes
  have hr := B.returns
  have hts := atoms_spec (ws := wsX0_findTextByList) B.pre
  have hown : s.vm.findClass RX0 = some m.cls := findClass_of_methodNamed B.named
  have hlocks := B.notSynchronized
  have hD := eg_D_of hD0
  have hS : va_S (eg_A (wX q cI cJ (nI n) mk lt tg pa an la kn fb fh nb te wt bh)) s.heap s.heap [] := va_S.rf
  have hin : ∀ w ∈ u_ws RX0 TX0 14, w ∈ wsX0_findTextByList := by decide +kernel
  have hl := lv_entry ([.ref (q 0), .long v]) (n := 8) (Nat.le_of_ble_eq_true rfl)
  rw [lg_entry_eq]
  generalize (lg_sl ([.ref (q 0), .long v]) ++ List.replicate (8 - (lg_sl ([.ref (q 0), .long v])).length) Slot.unset).toArray = ls at hl ⊢
  have hl : lv_has ls 8 [(0, .ref (q 0)), (1, .long v)] := hl
  generalize h0H : s.heap = H at hP ⊢
  have hS : va_S (eg_A (wX q cI cJ (nI n) mk lt tg pa an la kn fb fh nb te wt bh)) s.heap H [] := by rw [← h0H]; exact hS
  generalize ([] : List Loc) = locs at hS ⊢
  have loop : ∀ (f i : Nat) (E R : List Nat) (x1 : Int32) (te1 bh1 : Nat → Int32) (H : Heap) (locs : List Loc) (ls : Array Slot), 60 < i + f → i ≤ 60 → E.length = i → E ++ R = (lay (vI lt v) tg n) → Ch bh1 x1 R → holds te1 (E.filter (bi (sdX lt tg v n))) → va_P D vwCl (wX q cI cJ (nI n) mk lt tg pa an la kn fb fh nb te1 wt bh1) H → va_S (eg_A (wX q cI cJ (nI n) mk lt tg pa an la kn fb fh nb te wt bh)) s.heap H locs → lv_has ls 8 [(0, .ref (q 0)), (1, .long v), (3, .long (sdX lt tg v n)), (5, .int (nI ((E.filter (bi (sdX lt tg v n))).length))), (6, .int x1), (7, .int (nI i))] → W p l e (headSpec wsX0_findTextByList ({ frames := 3, cells := 0, slots := 0, locals := 69 })).room s m ([.ref (q 0), .long v] : List Value).toArray below meth c H locs 0 0 (MQ below (eg_Wq D (wX q cI cJ (nI n) mk lt tg pa an la kn fb fh nb te wt bh) (fun r w1 => ∃ (te' bh' : Nat → Int32), r = some (.int (nI ((lay (vI lt v) tg n).filter (bi (sdX lt tg v n))).length)) ∧ w1 = wX q cI cJ (nI n) mk lt tg pa an la kn fb fh nb te' wt bh' ∧ holds te' ((lay (vI lt v) tg n).filter (bi (sdX lt tg v n))))) ([.ref (q 0), .long v] : List Value).toArray s 0 0 (eg_A (wX q cI cJ (nI n) mk lt tg pa an la kn fb fh nb te wt bh))) (F0 m 19 ls []) := by
    intro f
    induction f with
    | zero => intro i E R x1 te1 bh1  H locs ls h1 h2 h3 h4 h5 h6 hP hS hl; omega
    | succ f ih =>
      intro i E R x1 te1 bh1  H locs ls h1 h2 h3 h4 h5 h6 hP hS hl
      have hEi := h3
      have hER := h4
      have hCh := h5
      have hhold := h6
      have hfl := flen (z := (sdX lt tg v n)) E
      have hOl0 : E.length + R.length = (lay (vI lt v) tg n).length := by rw [← hER, List.length_append]
      have hRn : ∀ e, e ∈ R → e < n := fun e he => (lay_mem (by rw [← hER]; exact List.mem_append_right _ he)).1
      refine lv_iload hx hb dX0_findTextByList_19 (lv_at hl 5 rfl) ?_
      refine lv_bipush (v := nI 60) hx hb dX0_findTextByList_21 (by decide +kernel) ?_
      refine eg_icmp_ge (tgt := 61) hx hb dX0_findTextByList_23 (by decide) (by omega) (by omega) (fun c23 => ?_) (fun c23 => ?_)
      · refine lv_iload hx hb dX0_findTextByList_61 (lv_at hl 3 rfl) ?_
        have hEO : E = (lay (vI lt v) tg n) := by
          have hR0 : R = [] := by
            first
            | (have hc := c32; exact Ch_end (by omega) hCh hRn hc)
            | (have hc := c23; exact List.length_eq_zero_iff.mp (by omega))
          rw [← hER, hR0, List.append_nil]
        rw [hEO] at hhold
        exact W.iret hx hb hr (fun t9 ht9 _ => ⟨some (.int (nI (E.filter (bi (sdX lt tg v n))).length)), (wX q cI cJ (nI n) mk lt tg pa an la kn fb fh nb te1 wt bh1), rfl, ⟨te1, bh1, by rw [hEO], rfl, hhold⟩, rfl, by rw [ht9]; exact hP, hS.F ht9⟩) hS.2.2 dX0_findTextByList_63
      · refine lv_aload_n hx hb dX0_findTextByList_26 rfl (lv_at hl 0 rfl) ?_
        refine lv_iload hx hb dX0_findTextByList_27 (lv_at hl 4 rfl) ?_
        refine eg_callV (As := [.int x1]) (rest := []) hx hb hml hown hts hK hP (c_X0_isEvent l D cI cJ q n mk lt tg pa an la kn fb fh nb te1 wt bh1 x1 ) (cwV 1 hts gX0_findTextByList_X0_isEvent rfl rfl rfl (by decide +kernel) ⟨Nat.le_of_ble_eq_true rfl, Nat.le_of_ble_eq_true rfl⟩) (va_recv hK hP (ci := 0) (q0 := 0) rfl rfl) rfl hl.1 rfl (Nat.le_of_ble_eq_true rfl) dX0_findTextByList_29 ⟨Nat.zero_le _, Nat.zero_le _⟩ ?_
        refine eg_ifeq_b (tgt := 61) hx hb dX0_findTextByList_32 (by decide) (fun c32 => ?_) (fun c32 => ?_)
        · refine lv_iload hx hb dX0_findTextByList_61 (lv_at hl 3 rfl) ?_
          have hEO : E = (lay (vI lt v) tg n) := by
            have hR0 : R = [] := by
              first
              | (have hc := c32; exact Ch_end (by omega) hCh hRn hc)
              | (have hc := c23; exact List.length_eq_zero_iff.mp (by omega))
            rw [← hER, hR0, List.append_nil]
          rw [hEO] at hhold
          exact W.iret hx hb hr (fun t9 ht9 _ => ⟨some (.int (nI (E.filter (bi (sdX lt tg v n))).length)), (wX q cI cJ (nI n) mk lt tg pa an la kn fb fh nb te1 wt bh1), rfl, ⟨te1, bh1, by rw [hEO], rfl, hhold⟩, rfl, by rw [ht9]; exact hP, hS.F ht9⟩) hS.2.2 dX0_findTextByList_63
        · obtain ⟨e0, R2, rfl, rfl, hCh2⟩ := Ch_pop hCh c32
          have he0 : e0 < n := hRn e0 List.mem_cons_self
          have hfl := flen (z := (sdX lt tg v n)) E
          refine lv_aload_n hx hb dX0_findTextByList_35 rfl (lv_at hl 0 rfl) ?_
          refine lv_lload_n hx hb dX0_findTextByList_36 rfl (lv_at hl 2 rfl) ?_
          refine lv_iload hx hb dX0_findTextByList_37 (lv_at hl 4 rfl) ?_
          refine lv_iload hx hb dX0_findTextByList_39 (lv_at hl 3 rfl) ?_
          refine eg_callWV (As := [.long (sdX lt tg v n), .int (nI e0), .int (nI ((E.filter (bi (sdX lt tg v n))).length))]) (rest := []) hx hb hml hown hts hK hP hD rfl hS (c_X0_putText l D cI cJ q n mk lt tg pa an la kn fb fh nb te1 wt bh1 (sdX lt tg v n) e0 (E.filter (bi (sdX lt tg v n))).length (by omega) (by omega)) (cwV 3 hts gX0_findTextByList_X0_putText rfl rfl rfl (by decide +kernel) ⟨Nat.le_of_ble_eq_true rfl, Nat.le_of_ble_eq_true rfl⟩) (va_recv hK hP (ci := 0) (q0 := 0) rfl rfl) rfl hl.1 rfl (Nat.le_of_ble_eq_true rfl) dX0_findTextByList_41 ⟨Nat.zero_le _, Nat.zero_le _⟩ (fun v9 w9 H locs hR9 hw9 hP hS => ?_)
          obtain ⟨te2, rfl, rfl, hhold2⟩ := pt_holds hR9 hhold (by omega)
          refine lv_istore (lv' := [(5, .int (nI (((E ++ [e0]).filter (bi (sdX lt tg v n))).length))), (0, .ref (q 0)), (1, .long v), (3, .long (sdX lt tg v n)), (6, .int (nI e0)), (7, .int (nI i))]) hx hb dX0_findTextByList_44 hl (by decide) rfl (fun ls hl => ?_)
          refine lv_aload_n hx hb dX0_findTextByList_46 rfl (lv_at hl 1 rfl) ?_
          refine va_get (D := D) (ci := 0) (v := .ref (q 12)) (C := RX0) (T := TX0) (N := 14) hx hb hts hin hown hK hP 0 rfl rfl 13 (by decide) (hts (.fieldLink RX0 51 "EditGraph" "behind" "[I") (by decide +kernel)) (fun _ h9 => h9) rfl dX0_findTextByList_47 ?_
          refine lv_iload hx hb dX0_findTextByList_50 (lv_at hl 4 rfl) ?_
          refine eg_iald hx hb hK hP 12 0 rfl rfl (by omega) (by decide) dX0_findTextByList_52 ?_
          refine lv_istore (lv' := [(6, .int (bh1 e0)), (5, .int (nI (((E ++ [e0]).filter (bi (sdX lt tg v n))).length))), (0, .ref (q 0)), (1, .long v), (3, .long (sdX lt tg v n)), (7, .int (nI i))]) hx hb dX0_findTextByList_53 hl (by decide) rfl (fun ls hl => ?_)
          refine lv_iinc (v := nI (i + 1)) (lv' := [(7, .int (nI (i + 1))), (6, .int (bh1 e0)), (5, .int (nI (((E ++ [e0]).filter (bi (sdX lt tg v n))).length))), (0, .ref (q 0)), (1, .long v), (3, .long (sdX lt tg v n))]) hx hb dX0_findTextByList_55 hl (k := 5) rfl (eg_inc1 _) (by decide) rfl (fun ls hl => ?_)
          refine lv_goto (tgt := 19) hx hb dX0_findTextByList_58 (by decide) ?_
          exact ih (i + 1) (E ++ [e0]) R2 (bh1 e0) te2 bh1 H locs _ (by omega) (by omega) (by rw [List.length_append, hEi]; rfl) (by rw [← hER, List.append_assoc]; rfl) hCh2 hhold2 hP hS (lv_sub hl [3, 4, 5, 2, 1, 0] rfl)
  refine lv_aload_n hx hb dX0_findTextByList_0 rfl (lv_at hl 0 rfl) ?_
  refine lv_lload_n hx hb dX0_findTextByList_1 rfl (lv_at hl 1 rfl) ?_
  refine eg_callV (As := [.long v]) (rest := []) hx hb hml hown hts hK hP (c_X0_standingIn l D cI cJ q n mk lt tg pa an la kn fb fh nb te wt bh v (by omega) hdl) (cwV 1 hts gX0_findTextByList_X0_standingIn rfl rfl rfl (by decide +kernel) ⟨Nat.le_of_ble_eq_true rfl, Nat.le_of_ble_eq_true rfl⟩) (va_recv hK hP (ci := 0) (q0 := 0) rfl rfl) rfl hl.1 rfl (Nat.le_of_ble_eq_true rfl) dX0_findTextByList_2 ⟨Nat.zero_le _, Nat.zero_le _⟩ ?_
  refine lv_lstore_n (lv' := [(3, .long (sdX lt tg v n)), (0, .ref (q 0)), (1, .long v)]) hx hb dX0_findTextByList_5 rfl hl (by decide) rfl (fun ls hl => ?_)
  refine lv_iconst (v := nI 0) hx hb dX0_findTextByList_6 (by decide +kernel) ?_
  refine lv_istore (lv' := [(5, .int (nI 0)), (3, .long (sdX lt tg v n)), (0, .ref (q 0)), (1, .long v)]) hx hb dX0_findTextByList_7 hl (by decide) rfl (fun ls hl => ?_)
  refine lv_aload_n hx hb dX0_findTextByList_9 rfl (lv_at hl 2 rfl) ?_
  refine lv_lload_n hx hb dX0_findTextByList_10 rfl (lv_at hl 3 rfl) ?_
  refine eg_callWV (As := [.long v]) (rest := []) hx hb hml hown hts hK hP hD rfl hS (c_X0_layList l D cI cJ q n mk lt tg pa an la kn fb fh nb te wt bh v hn hc) (cwV 1 hts gX0_findTextByList_X0_layList rfl rfl rfl (by decide +kernel) ⟨Nat.le_of_ble_eq_true rfl, Nat.le_of_ble_eq_true rfl⟩) (va_recv hK hP (ci := 0) (q0 := 0) rfl rfl) rfl hl.1 rfl (Nat.le_of_ble_eq_true rfl) dX0_findTextByList_11 ⟨Nat.zero_le _, Nat.zero_le _⟩ (fun v9 w9 H locs hR9 hw9 hP hS => ?_)
  obtain ⟨bh1, x0, rfl, rfl, hCh0⟩ := hR9
  refine lv_istore (lv' := [(6, .int x0), (5, .int (nI 0)), (3, .long (sdX lt tg v n)), (0, .ref (q 0)), (1, .long v)]) hx hb dX0_findTextByList_14 hl (by decide) rfl (fun ls hl => ?_)
  refine lv_iconst (v := nI 0) hx hb dX0_findTextByList_16 (by decide +kernel) ?_
  refine lv_istore (lv' := [(7, .int (nI 0)), (6, .int x0), (5, .int (nI 0)), (3, .long (sdX lt tg v n)), (0, .ref (q 0)), (1, .long v)]) hx hb dX0_findTextByList_17 hl (by decide) rfl (fun ls hl => ?_)
  exact loop 61 0 [] (lay (vI lt v) tg n) x0 te bh1 H locs _ (by omega) (by omega) rfl rfl hCh0 (holds_nil te) hP hS (lv_sub hl [4, 5, 3, 2, 1, 0] rfl)
