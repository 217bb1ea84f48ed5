-- findText (by gen.py, specB.py)
set_option maxHeartbeats 4000000 in
set_option maxRecDepth 100000 in
theorem c_X0_addKnown (l : Launch) (D : va_G) (cI cJ : ClassId) (q : Nat → Nat) (n : Nat) (mk lt tg : Nat → Int32) (pa an la kn : Nat → Int64) (fb : Int32) (fh nb te wt bh : Nat → Int32) (a : Nat) (v : Int64) (ha : a < 4) : eg_MW D (tyL cI cJ) l yX0_addKnown wsX0_addKnown ({ frames := 1, cells := 0, slots := 0, locals := 21 }) 0 0 [.ref (q 0), .int (nI a), .long v] (wX q cI cJ (nI n) mk lt tg pa an la kn fb fh nb te wt bh) (fun r w1 => r = some (.int (nI (pc64 (v &&& (kn a ^^^ (-1)))))) ∧ w1 = wX q cI cJ (nI n) mk lt tg pa an la (vp_updL kn a (kn a ||| v)) fb fh nb te wt bh) := by
  refine Met.ofW (cc := cX0_addKnown) (maxL := 5) (ret := (some .int)) (by decide) rfl ?_
  intro p e s m args below meth c s₁ B hml hv
  obtain ⟨rfl, hP, hK, hD0⟩ := hv
  have hx := B.exec
  have hb := B.bytes
  have hr := B.returns
  have hts := atoms_spec (ws := wsX0_addKnown) B.pre
  have hown : s.vm.findClass RX0 = some m.cls := findClass_of_methodNamed B.named
  have hlocks := B.notSynchronized
  have hD := eg_D_of hD0
  have hS : va_S (eg_A (wX q cI cJ (nI n) mk lt tg pa an la kn fb fh nb te wt bh)) s.heap s.heap [] := va_S.rf
  have hin : ∀ w ∈ u_ws RX0 TX0 14, w ∈ wsX0_addKnown := by decide +kernel
  have hl := lv_entry ([.ref (q 0), .int (nI a), .long v]) (n := 5) (Nat.le_of_ble_eq_true rfl)
  rw [lg_entry_eq]
  generalize (lg_sl ([.ref (q 0), .int (nI a), .long v]) ++ List.replicate (5 - (lg_sl ([.ref (q 0), .int (nI a), .long v])).length) Slot.unset).toArray = ls at hl ⊢
  have hl : lv_has ls 5 [(0, .ref (q 0)), (1, .int (nI a)), (2, .long v)] := hl
  generalize h0H : s.heap = H at hP ⊢
  have hS : va_S (eg_A (wX q cI cJ (nI n) mk lt tg pa an la kn fb fh nb te wt bh)) s.heap H [] := by rw [← h0H]; exact hS
  generalize ([] : List Loc) = locs at hS ⊢
  refine lv_lload_n hx hb dX0_addKnown_0 rfl (lv_at hl 2 rfl) ?_
  refine lv_aload_n hx hb dX0_addKnown_1 rfl (lv_at hl 0 rfl) ?_
  refine va_get (D := D) (ci := 0) (v := .ref (q 7)) (C := RX0) (T := TX0) (N := 14) hx hb hts hin hown hK hP 0 rfl rfl 7 (by decide) (hts (.fieldLink RX0 33 "EditGraph" "knownSets" "[J") (by decide +kernel)) (fun _ h9 => h9) rfl dX0_addKnown_2 ?_
  refine lv_iload_n hx hb dX0_addKnown_5 rfl (lv_at hl 1 rfl) ?_
  refine eg_lald hx hb hK hP 7 1 rfl rfl (by omega) (by decide) dX0_addKnown_6 ?_
  refine lv_ldc2 hx hb hown (hts (.constantLong RX0 112 (-1)) (by decide +kernel)) dX0_addKnown_7 ?_
  refine lv_lxor hx hb dX0_addKnown_10 ?_
  refine lv_land hx hb dX0_addKnown_11 ?_
  refine eg_callS (As := [.long (v &&& ((kn a) ^^^ (-1)))]) (rest := []) hx hb hml hown hts hK (c_J13_bitCount_95d88 l D cI cJ (v &&& ((kn a) ^^^ (-1))) ) (va_cwS 1 hts gX0_addKnown_J13_bitCount_95d88 rfl rfl rfl (by decide +kernel) ⟨Nat.le_of_ble_eq_true rfl, Nat.le_of_ble_eq_true rfl⟩) rfl hl.1 rfl (Nat.le_of_ble_eq_true rfl) dX0_addKnown_12 ⟨Nat.zero_le _, Nat.zero_le _⟩ ?_
  refine lv_istore (lv' := [(4, .int (nI (pc64 (v &&& ((kn a) ^^^ (-1)))))), (0, .ref (q 0)), (1, .int (nI a)), (2, .long v)]) hx hb dX0_addKnown_15 hl (by decide) rfl (fun ls hl => ?_)
  refine lv_aload_n hx hb dX0_addKnown_17 rfl (lv_at hl 1 rfl) ?_
  refine va_get (D := D) (ci := 0) (v := .ref (q 7)) (C := RX0) (T := TX0) (N := 14) hx hb hts hin hown hK hP 0 rfl rfl 7 (by decide) (hts (.fieldLink RX0 33 "EditGraph" "knownSets" "[J") (by decide +kernel)) (fun _ h9 => h9) rfl dX0_addKnown_18 ?_
  refine lv_iload_n hx hb dX0_addKnown_21 rfl (lv_at hl 2 rfl) ?_
  refine lv_dup2_11 hx hb dX0_addKnown_22 rfl rfl ?_
  refine eg_lald hx hb hK hP 7 1 rfl rfl (by omega) (by decide) dX0_addKnown_23 ?_
  refine lv_lload_n hx hb dX0_addKnown_24 rfl (lv_at hl 3 rfl) ?_
  refine lv_lor hx hb dX0_addKnown_25 ?_
  refine eg_last hx hb hK hP hD rfl hS 7 1 rfl rfl (by omega) (by decide) dX0_addKnown_26 (w' := wX q cI cJ (nI n) mk lt tg pa an la (vp_updL kn a ((kn a) ||| v)) fb fh nb te wt bh) rfl (fun H locs hP hS => ?_)
  refine lv_iload hx hb dX0_addKnown_27 (lv_at hl 0 rfl) ?_
  exact W.iret hx hb hr (fun t9 ht9 _ => ⟨some (.int (nI (pc64 (v &&& ((kn a) ^^^ (-1)))))), (wX q cI cJ (nI n) mk lt tg pa an la (vp_updL kn a ((kn a) ||| v)) fb fh nb te wt bh), rfl, ⟨rfl, rfl⟩, rfl, by rw [ht9]; exact hP, hS.F ht9⟩) hS.2.2 dX0_addKnown_29
set_option maxHeartbeats 4000000 in
set_option maxRecDepth 100000 in
theorem c_X0_findText (l : Launch) (D : va_G) (cI cJ : ClassId) (q : Nat → Nat) (n : Nat) (mk lt tg : Nat → Int32) (pa an la kn : Nat → Int64) (fb : Int32) (fh nb te wt bh : Nat → Int32) (v : Int64) (O : List Nat) (hn : n ≤ 60) (hdl : ∀ k, k < n → bi v k = true → lt k = -1 → ∃ t, t < n ∧ tg k = nI t) (htr : ∃ f, Tr n fh nb f fb O) (hln : O.length ≤ 60) : eg_MW D (tyL cI cJ) l yX0_findText wsX0_findText ({ frames := 3, cells := 0, slots := 0, locals := 69 }) 0 0 [.ref (q 0), .long v] (wX q cI cJ (nI n) mk lt tg pa an la kn fb fh nb te wt bh) (fun r w1 => ∃ (te' wt' : Nat → Int32), r = some (.int (nI (O.filter (bi (sdX lt tg v n))).length)) ∧ w1 = wX q cI cJ (nI n) mk lt tg pa an la kn fb fh nb te' wt' bh ∧ holds te' (O.filter (bi (sdX lt tg v n)))) := by
  obtain ⟨fO, hTO⟩ := htr
  refine Met.ofW (cc := cX0_findText) (maxL := 9) (ret := (some .int)) (by decide) rfl ?_
  intro p e s m args below meth c s₁ B hml hv
  obtain ⟨rfl, hP, hK, hD0⟩ := hv
  have hx := B.exec
  have hb := B.bytes
  have hr := B.returns
  have hts := atoms_spec (ws := wsX0_findText) B.pre
  have hown : s.vm.findClass RX0 = some m.cls := findClass_of_methodNamed B.named
  have hlocks := B.notSynchronized
  have hD := eg_D_of hD0
  have hS : va_S (eg_A (wX q cI cJ (nI n) mk lt tg pa an la kn fb fh nb te wt bh)) s.heap s.heap [] := va_S.rf
  have hin : ∀ w ∈ u_ws RX0 TX0 14, w ∈ wsX0_findText := by decide +kernel
  have hl := lv_entry ([.ref (q 0), .long v]) (n := 9) (Nat.le_of_ble_eq_true rfl)
  rw [lg_entry_eq]
  generalize (lg_sl ([.ref (q 0), .long v]) ++ List.replicate (9 - (lg_sl ([.ref (q 0), .long v])).length) Slot.unset).toArray = ls at hl ⊢
  have hl : lv_has ls 9 [(0, .ref (q 0)), (1, .long v)] := hl
  generalize h0H : s.heap = H at hP ⊢
  have hS : va_S (eg_A (wX q cI cJ (nI n) mk lt tg pa an la kn fb fh nb te wt bh)) s.heap H [] := by rw [← h0H]; exact hS
  generalize ([] : List Loc) = locs at hS ⊢
  have loop : ∀ (f i : Nat) (E S R : List Nat) (te1 wt1 : Nat → Int32) (H : Heap) (locs : List Loc) (ls : Array Slot), 60 < i + f → i ≤ 60 → E.length = i → E ++ R = O → St n fh nb S R → stk wt1 S → holds te1 (E.filter (bi (sdX lt tg v n))) → va_P D vwCl (wX q cI cJ (nI n) mk lt tg pa an la kn fb fh nb te1 wt1 bh) H → va_S (eg_A (wX q cI cJ (nI n) mk lt tg pa an la kn fb fh nb te wt bh)) s.heap H locs → lv_has ls 9 [(0, .ref (q 0)), (1, .long v), (3, .long (sdX lt tg v n)), (5, .int (nI ((E.filter (bi (sdX lt tg v n))).length))), (6, .int (nI S.length)), (7, .int (nI i))] → W p l e (headSpec wsX0_findText ({ frames := 3, cells := 0, slots := 0, locals := 69 })).room s m ([.ref (q 0), .long v] : List Value).toArray below meth c H locs 0 0 (MQ below (eg_Wq D (wX q cI cJ (nI n) mk lt tg pa an la kn fb fh nb te wt bh) (fun r w1 => ∃ (te' wt' : Nat → Int32), r = some (.int (nI (O.filter (bi (sdX lt tg v n))).length)) ∧ w1 = wX q cI cJ (nI n) mk lt tg pa an la kn fb fh nb te' wt' bh ∧ holds te' (O.filter (bi (sdX lt tg v n))))) ([.ref (q 0), .long v] : List Value).toArray s 0 0 (eg_A (wX q cI cJ (nI n) mk lt tg pa an la kn fb fh nb te wt bh))) (F0 m 23 ls []) := by
    intro f
    induction f with
    | zero => intro i E S R te1 wt1  H locs ls h1 h2 h3 h4 h5 h6 h7 hP hS hl; omega
    | succ f ih =>
      intro i E S R te1 wt1  H locs ls h1 h2 h3 h4 h5 h6 h7 hP hS hl
      have hEi := h3
      have hER := h4
      have hSt := h5
      have hstk := h6
      have hhold := h7
      have hSl := St_len (by omega) S R hSt
      have hOl0 : E.length + R.length = O.length := by rw [← hER, List.length_append]
      refine lv_iload hx hb dX0_findText_23 (lv_at hl 5 rfl) ?_
      refine lv_bipush (v := nI 60) hx hb dX0_findText_25 (by decide +kernel) ?_
      refine eg_icmp_ge (tgt := 94) hx hb dX0_findText_27 (by decide) (by omega) (by omega) (fun c27 => ?_) (fun c27 => ?_)
      · refine lv_iload hx hb dX0_findText_94 (lv_at hl 3 rfl) ?_
        have hEO : E = O := by
          have hR0 : R = [] := by
            first
            | (have hc := c32; have : S = [] := List.length_eq_zero_iff.mp hc; subst this; exact hSt)
            | (have hc := c27; have hOl : E.length + R.length = O.length := (by rw [← hER, List.length_append]); exact List.length_eq_zero_iff.mp (by omega))
          rw [← hER, hR0, List.append_nil]
        subst hEO
        exact W.iret hx hb hr (fun t9 ht9 _ => ⟨some (.int (nI (E.filter (bi (sdX lt tg v n))).length)), (wX q cI cJ (nI n) mk lt tg pa an la kn fb fh nb te1 wt1 bh), rfl, ⟨te1, wt1, rfl, rfl, hhold⟩, rfl, by rw [ht9]; exact hP, hS.F ht9⟩) hS.2.2 dX0_findText_96
      · refine lv_iload hx hb dX0_findText_30 (lv_at hl 4 rfl) ?_
        refine eg_if_le (tgt := 94) hx hb dX0_findText_32 (by decide) (by omega) (fun c32 => ?_) (fun c32 => ?_)
        · refine lv_iload hx hb dX0_findText_94 (lv_at hl 3 rfl) ?_
          have hEO : E = O := by
            have hR0 : R = [] := by
              first
              | (have hc := c32; have : S = [] := List.length_eq_zero_iff.mp hc; subst this; exact hSt)
              | (have hc := c27; have hOl : E.length + R.length = O.length := (by rw [← hER, List.length_append]); exact List.length_eq_zero_iff.mp (by omega))
            rw [← hER, hR0, List.append_nil]
          subst hEO
          exact W.iret hx hb hr (fun t9 ht9 _ => ⟨some (.int (nI (E.filter (bi (sdX lt tg v n))).length)), (wX q cI cJ (nI n) mk lt tg pa an la kn fb fh nb te1 wt1 bh), rfl, ⟨te1, wt1, rfl, rfl, hhold⟩, rfl, by rw [ht9]; exact hP, hS.F ht9⟩) hS.2.2 dX0_findText_96
        · obtain ⟨e0, S2, rfl⟩ : ∃ e0 S2, S = e0 :: S2 := by cases S with | nil => exact absurd c32 (Nat.lt_irrefl 0) | cons x y => exact ⟨x, y, rfl⟩
          obtain ⟨f2, A2, B2, R2, he0, hRe, hTA, hTB, hSt2⟩ := St_pop (by omega) hSt
          have hRl : R.length = A2.length + (B2.length + R2.length) + 1 := by rw [hRe]; simp only [List.length_cons, List.length_append]
          have hOl : E.length + R.length = O.length := by rw [← hER, List.length_append]
          have hS2l := St_len (by omega) S2 R2 hSt2
          have hfl := flen (z := (sdX lt tg v n)) E
          have hl : lv_has ls 9 [(0, .ref (q 0)), (1, .long v), (3, .long (sdX lt tg v n)), (5, .int (nI ((E.filter (bi (sdX lt tg v n))).length))), (6, .int (nI (S2.length + 1))), (7, .int (nI i))] := hl
          refine lv_iinc (v := nI (S2.length + 1 - 1)) (lv' := [(6, .int (nI (S2.length + 1 - 1))), (0, .ref (q 0)), (1, .long v), (3, .long (sdX lt tg v n)), (5, .int (nI ((E.filter (bi (sdX lt tg v n))).length))), (7, .int (nI i))]) hx hb dX0_findText_35 hl (k := 4) rfl (eg_dec1 (by omega)) (by decide) rfl (fun ls hl => ?_)
          have hl : lv_has ls 9 [(6, .int (nI S2.length)), (0, .ref (q 0)), (1, .long v), (3, .long (sdX lt tg v n)), (5, .int (nI ((E.filter (bi (sdX lt tg v n))).length))), (7, .int (nI i))] := hl
          refine lv_aload_n hx hb dX0_findText_38 rfl (lv_at hl 1 rfl) ?_
          refine va_get (D := D) (ci := 0) (v := .ref (q 11)) (C := RX0) (T := TX0) (N := 14) hx hb hts hin hown hK hP 0 rfl rfl 12 (by decide) (hts (.fieldLink RX0 48 "EditGraph" "waiting" "[I") (by decide +kernel)) (fun _ h9 => h9) rfl dX0_findText_39 ?_
          refine lv_iload hx hb dX0_findText_42 (lv_at hl 0 rfl) ?_
          refine eg_iald hx hb hK hP 11 0 rfl rfl (by omega) (by decide) dX0_findText_44 ?_
          rw [hstk.1]
          refine lv_istore (lv' := [(8, .int (nI e0)), (6, .int (nI S2.length)), (0, .ref (q 0)), (1, .long v), (3, .long (sdX lt tg v n)), (5, .int (nI ((E.filter (bi (sdX lt tg v n))).length))), (7, .int (nI i))]) hx hb dX0_findText_45 hl (by decide) rfl (fun ls hl => ?_)
          refine lv_aload_n hx hb dX0_findText_47 rfl (lv_at hl 2 rfl) ?_
          refine lv_lload_n hx hb dX0_findText_48 rfl (lv_at hl 4 rfl) ?_
          refine lv_iload hx hb dX0_findText_49 (lv_at hl 0 rfl) ?_
          refine lv_iload hx hb dX0_findText_51 (lv_at hl 5 rfl) ?_
          refine eg_callWV (As := [.long (sdX lt tg v n), .int (nI e0), .int (nI ((E.filter (bi (sdX lt tg v n))).length))]) (rest := []) hx hb hml hown hts hK hP hD rfl hS (c_X0_putText l D cI cJ q n mk lt tg pa an la kn fb fh nb te1 wt1 bh (sdX lt tg v n) e0 (E.filter (bi (sdX lt tg v n))).length (by omega) (by omega)) (cwV 3 hts gX0_findText_X0_putText rfl rfl rfl (by decide +kernel) ⟨Nat.le_of_ble_eq_true rfl, Nat.le_of_ble_eq_true rfl⟩) (va_recv hK hP (ci := 0) (q0 := 0) rfl rfl) rfl hl.1 rfl (Nat.le_of_ble_eq_true rfl) dX0_findText_53 ⟨Nat.zero_le _, Nat.zero_le _⟩ (fun v9 w9 H locs hR9 hw9 hP hS => ?_)
          obtain ⟨te2, rfl, rfl, hhold2⟩ := pt_holds hR9 hhold (by omega)
          refine lv_istore (lv' := [(5, .int (nI (((E ++ [e0]).filter (bi (sdX lt tg v n))).length))), (8, .int (nI e0)), (6, .int (nI S2.length)), (0, .ref (q 0)), (1, .long v), (3, .long (sdX lt tg v n)), (7, .int (nI i))]) hx hb dX0_findText_56 hl (by decide) rfl (fun ls hl => ?_)
          refine lv_aload_n hx hb dX0_findText_58 rfl (lv_at hl 3 rfl) ?_
          refine lv_aload_n hx hb dX0_findText_59 rfl (lv_at hl 3 rfl) ?_
          refine va_get (D := D) (ci := 0) (v := .ref (q 9)) (C := RX0) (T := TX0) (N := 14) hx hb hts hin hown hK hP 0 rfl rfl 10 (by decide) (hts (.fieldLink RX0 42 "EditGraph" "nextBeside" "[I") (by decide +kernel)) (fun _ h9 => h9) rfl dX0_findText_60 ?_
          refine lv_iload hx hb dX0_findText_63 (lv_at hl 1 rfl) ?_
          refine eg_iald hx hb hK hP 9 0 rfl rfl (by omega) (by decide) dX0_findText_65 ?_
          refine lv_iload hx hb dX0_findText_66 (lv_at hl 2 rfl) ?_
          refine eg_callWV (As := [.int (nb e0), .int (nI S2.length)]) (rest := []) hx hb hml hown hts hK hP hD rfl hS (c_X0_putWaiting l D cI cJ q n mk lt tg pa an la kn fb fh nb te2 wt1 bh (nb e0) S2.length (by omega) (by omega)) (cwV 2 hts gX0_findText_X0_putWaiting rfl rfl rfl (by decide +kernel) ⟨Nat.le_of_ble_eq_true rfl, Nat.le_of_ble_eq_true rfl⟩) (va_recv hK hP (ci := 0) (q0 := 0) rfl rfl) rfl hl.1 rfl (Nat.le_of_ble_eq_true rfl) dX0_findText_68 ⟨Nat.zero_le _, Nat.zero_le _⟩ (fun v9 w9 H locs hR9 hw9 hP hS => ?_)
          obtain ⟨S3, wt3, rfl, rfl, hSt71, hstk71⟩ := pw_St (S := S2) hn hR9 hTB hSt2 hstk.2 (by omega)
          have hS3l := St_len (by omega) S3 _ hSt71
          rw [List.length_append] at hS3l
          refine lv_istore (lv' := [(6, .int (nI S3.length)), (5, .int (nI (((E ++ [e0]).filter (bi (sdX lt tg v n))).length))), (8, .int (nI e0)), (0, .ref (q 0)), (1, .long v), (3, .long (sdX lt tg v n)), (7, .int (nI i))]) hx hb dX0_findText_71 hl (by decide) rfl (fun ls hl => ?_)
          refine lv_aload_n hx hb dX0_findText_73 rfl (lv_at hl 3 rfl) ?_
          refine lv_aload_n hx hb dX0_findText_74 rfl (lv_at hl 3 rfl) ?_
          refine va_get (D := D) (ci := 0) (v := .ref (q 8)) (C := RX0) (T := TX0) (N := 14) hx hb hts hin hown hK hP 0 rfl rfl 9 (by decide) (hts (.fieldLink RX0 39 "EditGraph" "firstHanging" "[I") (by decide +kernel)) (fun _ h9 => h9) rfl dX0_findText_75 ?_
          refine lv_iload hx hb dX0_findText_78 (lv_at hl 2 rfl) ?_
          refine eg_iald hx hb hK hP 8 0 rfl rfl (by omega) (by decide) dX0_findText_80 ?_
          refine lv_iload hx hb dX0_findText_81 (lv_at hl 0 rfl) ?_
          refine eg_callWV (As := [.int (fh e0), .int (nI S3.length)]) (rest := []) hx hb hml hown hts hK hP hD rfl hS (c_X0_putWaiting l D cI cJ q n mk lt tg pa an la kn fb fh nb te2 wt3 bh (fh e0) S3.length (by omega) (by omega)) (cwV 2 hts gX0_findText_X0_putWaiting rfl rfl rfl (by decide +kernel) ⟨Nat.le_of_ble_eq_true rfl, Nat.le_of_ble_eq_true rfl⟩) (va_recv hK hP (ci := 0) (q0 := 0) rfl rfl) rfl hl.1 rfl (Nat.le_of_ble_eq_true rfl) dX0_findText_83 ⟨Nat.zero_le _, Nat.zero_le _⟩ (fun v9 w9 H locs hR9 hw9 hP hS => ?_)
          obtain ⟨S4, wt4, rfl, rfl, hSt86, hstk86⟩ := pw_St (S := S3) hn hR9 hTA hSt71 hstk71 (by omega)
          refine lv_istore (lv' := [(6, .int (nI S4.length)), (5, .int (nI (((E ++ [e0]).filter (bi (sdX lt tg v n))).length))), (8, .int (nI e0)), (0, .ref (q 0)), (1, .long v), (3, .long (sdX lt tg v n)), (7, .int (nI i))]) hx hb dX0_findText_86 hl (by decide) rfl (fun ls hl => ?_)
          refine lv_iinc (v := nI (i + 1)) (lv' := [(7, .int (nI (i + 1))), (6, .int (nI S4.length)), (5, .int (nI (((E ++ [e0]).filter (bi (sdX lt tg v n))).length))), (8, .int (nI e0)), (0, .ref (q 0)), (1, .long v), (3, .long (sdX lt tg v n))]) hx hb dX0_findText_88 hl (k := 6) rfl (eg_inc1 _) (by decide) rfl (fun ls hl => ?_)
          refine lv_goto (tgt := 23) hx hb dX0_findText_91 (by decide) ?_
          exact ih (i + 1) (E ++ [e0]) S4 (A2 ++ (B2 ++ R2)) te2 wt4 H locs _ (by omega) (by omega) (by rw [List.length_append, hEi]; rfl) (by rw [← hER, hRe, List.append_assoc]; rfl) hSt86 hstk86 hhold2 hP hS (lv_sub hl [4, 5, 6, 2, 1, 0] rfl)
  refine lv_aload_n hx hb dX0_findText_0 rfl (lv_at hl 0 rfl) ?_
  refine lv_lload_n hx hb dX0_findText_1 rfl (lv_at hl 1 rfl) ?_
  refine eg_callV (As := [.long v]) (rest := []) hx hb hml hown hts hK hP (c_X0_standingIn l D cI cJ q n mk lt tg pa an la kn fb fh nb te wt bh v (by omega) hdl) (cwV 1 hts gX0_findText_X0_standingIn rfl rfl rfl (by decide +kernel) ⟨Nat.le_of_ble_eq_true rfl, Nat.le_of_ble_eq_true rfl⟩) (va_recv hK hP (ci := 0) (q0 := 0) rfl rfl) rfl hl.1 rfl (Nat.le_of_ble_eq_true rfl) dX0_findText_2 ⟨Nat.zero_le _, Nat.zero_le _⟩ ?_
  refine lv_lstore_n (lv' := [(3, .long (sdX lt tg v n)), (0, .ref (q 0)), (1, .long v)]) hx hb dX0_findText_5 rfl hl (by decide) rfl (fun ls hl => ?_)
  refine lv_iconst (v := nI 0) hx hb dX0_findText_6 (by decide +kernel) ?_
  refine lv_istore (lv' := [(5, .int (nI 0)), (3, .long (sdX lt tg v n)), (0, .ref (q 0)), (1, .long v)]) hx hb dX0_findText_7 hl (by decide) rfl (fun ls hl => ?_)
  refine lv_aload_n hx hb dX0_findText_9 rfl (lv_at hl 2 rfl) ?_
  refine lv_aload_n hx hb dX0_findText_10 rfl (lv_at hl 2 rfl) ?_
  refine va_get (D := D) (ci := 0) (v := .int fb) (C := RX0) (T := TX0) (N := 14) hx hb hts hin hown hK hP 0 rfl rfl 8 (by decide) (hts (.fieldLink RX0 36 "EditGraph" "firstAtBeginning" "I") (by decide +kernel)) (fun _ h9 => h9) rfl dX0_findText_11 ?_
  refine lv_iconst (v := nI 0) hx hb dX0_findText_14 (by decide +kernel) ?_
  refine eg_callWV (As := [.int fb, .int (nI 0)]) (rest := []) hx hb hml hown hts hK hP hD rfl hS (c_X0_putWaiting l D cI cJ q n mk lt tg pa an la kn fb fh nb te wt bh fb 0 (by omega) (by omega)) (cwV 2 hts gX0_findText_X0_putWaiting rfl rfl rfl (by decide +kernel) ⟨Nat.le_of_ble_eq_true rfl, Nat.le_of_ble_eq_true rfl⟩) (va_recv hK hP (ci := 0) (q0 := 0) rfl rfl) rfl hl.1 rfl (Nat.le_of_ble_eq_true rfl) dX0_findText_15 ⟨Nat.zero_le _, Nat.zero_le _⟩ (fun v9 w9 H locs hR9 hw9 hP hS => ?_)
  obtain ⟨S1, wt1, rfl, rfl, hSt, hstk⟩ : ∃ (S' : List Nat) (wt' : Nat → Int32), v9 = some (.int (nI S'.length)) ∧ w9 = wX q cI cJ (nI n) mk lt tg pa an la kn fb fh nb te wt' bh ∧ St n fh nb S' (O ++ []) ∧ stk wt' S' := pw_St (S := []) (R := []) hn hR9 hTO rfl trivial (by decide)
  refine lv_istore (lv' := [(6, .int (nI S1.length)), (5, .int (nI 0)), (3, .long (sdX lt tg v n)), (0, .ref (q 0)), (1, .long v)]) hx hb dX0_findText_18 hl (by decide) rfl (fun ls hl => ?_)
  refine lv_iconst (v := nI 0) hx hb dX0_findText_20 (by decide +kernel) ?_
  refine lv_istore (lv' := [(7, .int (nI 0)), (6, .int (nI S1.length)), (5, .int (nI 0)), (3, .long (sdX lt tg v n)), (0, .ref (q 0)), (1, .long v)]) hx hb dX0_findText_21 hl (by decide) rfl (fun ls hl => ?_)
  exact loop 61 0 [] S1 (O ++ []) te wt1 H locs _ (by omega) (by omega) rfl (by simp) hSt hstk (holds_nil te) hP hS (lv_sub hl [4, 5, 3, 2, 1, 0] rfl)
