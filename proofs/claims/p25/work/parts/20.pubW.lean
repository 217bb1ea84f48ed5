-- insert and delete (by gen.py, specE.py)
set_option maxHeartbeats 4000000 in
set_option maxRecDepth 100000 in
theorem c_X0_insert (l : Launch) (D : va_G) (cI cJ : ClassId) (q : Nat → Nat) (n : Nat) (mk lt tg : Nat → Int32) (pa an la kn : Nat → Int64) (fb : Int32) (fh nb te wt bh : Nat → Int32) (a : Nat) (pp : Nat) (c9 : Int32) (hI : Inv n lt tg an kn) (htr : ∃ f, Tr n fh nb f fb (lay (ins lt) tg n)) (ha : a < 4) (hp : pp ≤ (tx n lt tg (kn a)).length) (hc : ¬ c9 < 0) (hc2 : c9 < nI 26) (hnr : n < 60) : eg_MW D (tyL cI cJ) l yX0_insert wsX0_insert ({ frames := 4, cells := 0, slots := 0, locals := 97 }) 0 0 [.ref (q 0), .int (nI a), .int (nI pp), .int c9] (wX q cI cJ (nI n) mk lt tg pa an la kn fb fh nb te wt bh) (fun r w1 => ∃ (tt : Int32) (te' wt' : Nat → Int32) (fb' : Int32) (fh' nb' : Nat → Int32), ((pp = 0 ∧ tt = -1) ∨ (0 < pp ∧ ∃ x : Nat, (tx n lt tg (kn a))[pp - 1]? = some x ∧ tt = nI x)) ∧ (∃ f, Tr (n + 1) fh' nb' f fb' (lay (ins (upd lt n c9)) (upd tg n tt) (n + 1))) ∧ r = some (.int (nI n)) ∧ w1 = wX q cI cJ (nI (n + 1)) (upd mk n (nI a)) (upd lt n c9) (upd tg n tt) (vp_updL pa n (hdX pa (kn a) n)) (vp_updL an n (kn a)) (mL la (kn a) n n) (vp_updL kn a (kn a ||| ol n)) fb' fh' nb' te' wt' bh) := by
  refine Met.ofW (cc := cX0_insert) (maxL := 7) (ret := (some .int)) (by decide) rfl ?_
  intro p e s m args below meth c s₁ B hml hv
  obtain ⟨rfl, hP, hK, hD0⟩ := hv
  have hx := B.exec
  have hb := B.bytes
  have hr := B.returns
  have hts := atoms_spec (ws := wsX0_insert) B.pre
  have hown : s.vm.findClass RX0 = some m.cls := findClass_of_methodNamed B.named
  have hlocks := B.notSynchronized
  have hD := eg_D_of hD0
  have hS : va_S (eg_A (wX q cI cJ (nI n) mk lt tg pa an la kn fb fh nb te wt bh)) s.heap s.heap [] := va_S.rf
  have hin : ∀ w ∈ u_ws RX0 TX0 14, w ∈ wsX0_insert := by decide +kernel
  have hl := lv_entry ([.ref (q 0), .int (nI a), .int (nI pp), .int c9]) (n := 7) (Nat.le_of_ble_eq_true rfl)
  rw [lg_entry_eq]
  generalize (lg_sl ([.ref (q 0), .int (nI a), .int (nI pp), .int c9]) ++ List.replicate (7 - (lg_sl ([.ref (q 0), .int (nI a), .int (nI pp), .int c9])).length) Slot.unset).toArray = ls at hl ⊢
  have hl : lv_has ls 7 [(0, .ref (q 0)), (1, .int (nI a)), (2, .int (nI pp)), (3, .int c9)] := hl
  generalize h0H : s.heap = H at hP ⊢
  have hS : va_S (eg_A (wX q cI cJ (nI n) mk lt tg pa an la kn fb fh nb te wt bh)) s.heap H [] := by rw [← h0H]; exact hS
  generalize ([] : List Loc) = locs at hS ⊢
  refine lv_aload_n hx hb dX0_insert_0 rfl (lv_at hl 0 rfl) ?_
  refine lv_iload_n hx hb dX0_insert_1 rfl (lv_at hl 1 rfl) ?_
  refine eg_callV (As := [.int (nI a)]) (rest := []) hx hb hml hown hts hK hP (c_X0_checkAuthor l D cI cJ q n mk lt tg pa an la kn fb fh nb te wt bh a (by omega)) (cwV 1 hts gX0_insert_X0_checkAuthor rfl rfl rfl (by decide +kernel) ⟨Nat.le_of_ble_eq_true rfl, Nat.le_of_ble_eq_true rfl⟩) (va_recv hK hP (ci := 0) (q0 := 0) rfl rfl) rfl hl.1 rfl (Nat.le_of_ble_eq_true rfl) dX0_insert_2 ⟨Nat.zero_le _, Nat.zero_le _⟩ ?_
  refine lv_aload_n hx hb dX0_insert_5 rfl (lv_at hl 0 rfl) ?_
  refine lv_aload_n hx hb dX0_insert_6 rfl (lv_at hl 0 rfl) ?_
  refine va_get (D := D) (ci := 0) (v := .ref (q 7)) (C := RX0) (T := TX0) (N := 14) hx hb hts hin hown hK hP 0 rfl rfl 7 (by decide) (hts (.fieldLink RX0 33 "EditGraph" "knownSets" "[J") (by decide +kernel)) (fun _ h9 => h9) rfl dX0_insert_7 ?_
  refine lv_iload_n hx hb dX0_insert_10 rfl (lv_at hl 1 rfl) ?_
  refine eg_lald hx hb hK hP 7 1 rfl rfl (by omega) (by decide) dX0_insert_11 ?_
  have e9 := tx_all hI (hI.vk ha)
  refine eg_callWV (As := [.long (kn a)]) (rest := []) hx hb hml hown hts hK hP hD rfl hS (c_X0_findText l D cI cJ q n mk lt tg pa an la kn fb fh nb te wt bh (kn a) (lay (ins lt) tg n) hI.1 hI.hdl htr (Nat.le_trans (lay_len n (lay_nodup (Nat.le_trans hI.1 (by decide)) hI.hangA)) hI.1)) (cwV 1 hts gX0_insert_X0_findText rfl rfl rfl (by decide +kernel) ⟨Nat.le_of_ble_eq_true rfl, Nat.le_of_ble_eq_true rfl⟩) (va_recv hK hP (ci := 0) (q0 := 0) rfl rfl) rfl hl.1 rfl (Nat.le_of_ble_eq_true rfl) dX0_insert_12 ⟨Nat.zero_le _, Nat.zero_le _⟩ (fun v9 w9 H locs hR9 hw9 hP hS => ?_)
  obtain ⟨te1, wt1, rfl, rfl, hh1⟩ := hR9
  rw [e9] at hh1 ⊢
  have hT9 := tx_len hI (hI.vk ha)
  have hI1 := hI.1
  refine lv_istore (lv' := [(4, .int (nI ((tx n lt tg (kn a)).length))), (0, .ref (q 0)), (1, .int (nI a)), (2, .int (nI pp)), (3, .int c9)]) hx hb dX0_insert_15 hl (by decide) rfl (fun ls hl => ?_)
  refine lv_aload_n hx hb dX0_insert_17 rfl (lv_at hl 1 rfl) ?_
  refine lv_iload_n hx hb dX0_insert_18 rfl (lv_at hl 3 rfl) ?_
  refine lv_iload hx hb dX0_insert_19 (lv_at hl 0 rfl) ?_
  refine lv_iconst (v := nI 1) hx hb dX0_insert_21 (by decide +kernel) ?_
  refine eg_iadd hx hb dX0_insert_22 ?_
  refine eg_callV (As := [.int (nI pp), .int (nI ((tx n lt tg (kn a)).length + 1))]) (rest := []) hx hb hml hown hts hK hP (c_X0_checkPlace l D cI cJ q n mk lt tg pa an la kn fb fh nb te1 wt1 bh pp ((tx n lt tg (kn a)).length + 1) (by omega) (by omega)) (cwV 2 hts gX0_insert_X0_checkPlace rfl rfl rfl (by decide +kernel) ⟨Nat.le_of_ble_eq_true rfl, Nat.le_of_ble_eq_true rfl⟩) (va_recv hK hP (ci := 0) (q0 := 0) rfl rfl) rfl hl.1 rfl (Nat.le_of_ble_eq_true rfl) dX0_insert_23 ⟨Nat.zero_le _, Nat.zero_le _⟩ ?_
  refine lv_iload_n hx hb dX0_insert_26 rfl (lv_at hl 4 rfl) ?_
  refine lv_if_lt (tgt := 36) hx hb dX0_insert_27 (by decide) (fun c27 => ?_) (fun c27 => ?_)
  · first | exact absurd c27 hc | exact absurd hc2 c33
  · refine lv_iload_n hx hb dX0_insert_30 rfl (lv_at hl 4 rfl) ?_
    refine lv_bipush (v := nI 26) hx hb dX0_insert_31 (by decide +kernel) ?_
    refine lv_icmp_lt (tgt := 46) hx hb dX0_insert_33 (by decide) (fun c33 => ?_) (fun c33 => ?_)
    · refine lv_aload_n hx hb dX0_insert_46 rfl (lv_at hl 1 rfl) ?_
      refine eg_callV (As := []) (rest := []) hx hb hml hown hts hK hP (c_X0_checkRoom l D cI cJ q n mk lt tg pa an la kn fb fh nb te1 wt1 bh  hnr) (cwV 0 hts gX0_insert_X0_checkRoom rfl rfl rfl (by decide +kernel) ⟨Nat.le_of_ble_eq_true rfl, Nat.le_of_ble_eq_true rfl⟩) (va_recv hK hP (ci := 0) (q0 := 0) rfl rfl) rfl hl.1 rfl (Nat.le_of_ble_eq_true rfl) dX0_insert_47 ⟨Nat.zero_le _, Nat.zero_le _⟩ ?_
      refine lv_iload_n hx hb dX0_insert_50 rfl (lv_at hl 3 rfl) ?_
      refine eg_if_ne (tgt := 58) hx hb dX0_insert_51 (by decide) (by omega) (fun c51 => ?_) (fun c51 => ?_)
      · refine lv_aload_n hx hb dX0_insert_58 rfl (lv_at hl 1 rfl) ?_
        refine va_get (D := D) (ci := 0) (v := .ref (q 10)) (C := RX0) (T := TX0) (N := 14) hx hb hts hin hown hK hP 0 rfl rfl 11 (by decide) (hts (.fieldLink RX0 45 "EditGraph" "textEvents" "[I") (by decide +kernel)) (fun _ h9 => h9) rfl dX0_insert_59 ?_
        refine lv_iload_n hx hb dX0_insert_62 rfl (lv_at hl 3 rfl) ?_
        refine lv_iconst (v := nI 1) hx hb dX0_insert_63 (by decide +kernel) ?_
        refine eg_isub hx hb dX0_insert_64 (by omega) ?_
        refine eg_iald hx hb hK hP 10 0 rfl rfl (by omega) (by decide) dX0_insert_65 ?_
        obtain ⟨x9, hx9⟩ := getq (L := (tx n lt tg (kn a))) (k := pp - 1) (by omega)
        rw [hh1 _ _ hx9]
        have hxn := (tx_mem (List.mem_of_getElem? hx9)).1
        refine lv_istore (lv' := [(5, .int (nI x9)), (4, .int (nI ((tx n lt tg (kn a)).length))), (0, .ref (q 0)), (1, .int (nI a)), (2, .int (nI pp)), (3, .int c9)]) hx hb dX0_insert_66 hl (by decide) rfl (fun ls hl => ?_)
        refine lv_aload_n hx hb dX0_insert_68 rfl (lv_at hl 2 rfl) ?_
        refine lv_iload_n hx hb dX0_insert_69 rfl (lv_at hl 3 rfl) ?_
        refine lv_iload_n hx hb dX0_insert_70 rfl (lv_at hl 5 rfl) ?_
        refine lv_iload hx hb dX0_insert_71 (lv_at hl 0 rfl) ?_
        refine eg_callWV (As := [.int (nI a), .int c9, .int (nI x9)]) (rest := []) hx hb hml hown hts hK hP hD rfl hS (c_X0_addEvent l D cI cJ q n mk lt tg pa an la kn fb fh nb te1 wt1 bh a c9 (nI x9) hnr ha) (cwV 3 hts gX0_insert_X0_addEvent rfl rfl rfl (by decide +kernel) ⟨Nat.le_of_ble_eq_true rfl, Nat.le_of_ble_eq_true rfl⟩) (va_recv hK hP (ci := 0) (q0 := 0) rfl rfl) rfl hl.1 rfl (Nat.le_of_ble_eq_true rfl) dX0_insert_73 ⟨Nat.zero_le _, Nat.zero_le _⟩ (fun v9 w9 H locs hR9 hw9 hP hS => ?_)
        obtain ⟨rfl, rfl⟩ := hR9
        refine lv_istore (lv' := [(6, .int (nI n)), (5, .int (nI x9)), (4, .int (nI ((tx n lt tg (kn a)).length))), (0, .ref (q 0)), (1, .int (nI a)), (2, .int (nI pp)), (3, .int c9)]) hx hb dX0_insert_76 hl (by decide) rfl (fun ls hl => ?_)
        refine lv_aload_n hx hb dX0_insert_78 rfl (lv_at hl 3 rfl) ?_
        refine lv_iload hx hb dX0_insert_79 (lv_at hl 0 rfl) ?_
        refine lv_iload hx hb dX0_insert_81 (lv_at hl 1 rfl) ?_
        refine eg_callWV (As := [.int (nI n), .int (nI x9)]) (rest := []) hx hb hml hown hts hK hP hD rfl hS (c_X0_hangLetter l D cI cJ q (n + 1) (upd mk n (nI a)) (upd lt n c9) (upd tg n (nI x9)) (vp_updL pa n (hdX pa (kn a) n)) (vp_updL an n (kn a)) (mL la (kn a) n n) (vp_updL kn a (kn a ||| ol n)) fb fh nb te1 wt1 bh n (nI x9) (by omega) (by omega)) (cwV 2 hts gX0_insert_X0_hangLetter rfl rfl rfl (by decide +kernel) ⟨Nat.le_of_ble_eq_true rfl, Nat.le_of_ble_eq_true rfl⟩) (va_recv hK hP (ci := 0) (q0 := 0) rfl rfl) rfl hl.1 rfl (Nat.le_of_ble_eq_true rfl) dX0_insert_83 ⟨Nat.zero_le _, Nat.zero_le _⟩ (fun v9 w9 H locs hR9 hw9 hP hS => ?_)
        obtain ⟨rfl, hH⟩ := hR9
        obtain ⟨fb1, fh1, nb1, hTr1, rfl⟩ : ∃ (fb' : Int32) (fh' nb' : Nat → Int32), (∃ f, Tr (n + 1) fh' nb' f fb' (lay (ins (upd lt n c9)) (upd tg n (nI x9)) (n + 1))) ∧ w9 = wX q cI cJ (nI (n + 1)) (upd mk n (nI a)) (upd lt n c9) (upd tg n (nI x9)) (vp_updL pa n (hdX pa (kn a) n)) (vp_updL an n (kn a)) (mL la (kn a) n n) (vp_updL kn a (kn a ||| ol n)) fb' fh' nb' te1 wt1 bh := by
          rcases hH with ⟨t8, ht8, eh8, rfl⟩ | ⟨eh8, rfl⟩
          · exact ⟨_, _, _, hang_Tr hI hnr htr (fun h => hc (by rw [h]; decide)) (Or.inr ⟨x9, hxn, rfl⟩) (Or.inl ⟨t8, ht8, eh8, rfl, rfl, rfl⟩), rfl⟩
          · exact ⟨_, _, _, hang_Tr hI hnr htr (fun h => hc (by rw [h]; decide)) (Or.inr ⟨x9, hxn, rfl⟩) (Or.inr ⟨eh8, rfl, rfl, rfl⟩), rfl⟩
        refine lv_iload hx hb dX0_insert_86 (lv_at hl 0 rfl) ?_
        exact W.iret hx hb hr (fun t9 ht9 _ => ⟨some (.int (nI n)), (wX q cI cJ (nI (n + 1)) (upd mk n (nI a)) (upd lt n c9) (upd tg n (nI x9)) (vp_updL pa n (hdX pa (kn a) n)) (vp_updL an n (kn a)) (mL la (kn a) n n) (vp_updL kn a (kn a ||| ol n)) fb1 fh1 nb1 te1 wt1 bh), rfl, ⟨_, te1, wt1, fb1, fh1, nb1, Or.inr ⟨c51, x9, hx9, rfl⟩, hTr1, rfl, rfl⟩, rfl, by rw [ht9]; exact hP, hS.F ht9⟩) hS.2.2 dX0_insert_88
      · refine lv_iconst (v := (-1)) hx hb dX0_insert_54 (by decide +kernel) ?_
        refine lv_goto (tgt := 66) hx hb dX0_insert_55 (by decide) ?_
        refine lv_istore (lv' := [(5, .int (-1)), (4, .int (nI ((tx n lt tg (kn a)).length))), (0, .ref (q 0)), (1, .int (nI a)), (2, .int (nI pp)), (3, .int c9)]) hx hb dX0_insert_66 hl (by decide) rfl (fun ls hl => ?_)
        refine lv_aload_n hx hb dX0_insert_68 rfl (lv_at hl 2 rfl) ?_
        refine lv_iload_n hx hb dX0_insert_69 rfl (lv_at hl 3 rfl) ?_
        refine lv_iload_n hx hb dX0_insert_70 rfl (lv_at hl 5 rfl) ?_
        refine lv_iload hx hb dX0_insert_71 (lv_at hl 0 rfl) ?_
        refine eg_callWV (As := [.int (nI a), .int c9, .int (-1)]) (rest := []) hx hb hml hown hts hK hP hD rfl hS (c_X0_addEvent l D cI cJ q n mk lt tg pa an la kn fb fh nb te1 wt1 bh a c9 (-1) hnr ha) (cwV 3 hts gX0_insert_X0_addEvent rfl rfl rfl (by decide +kernel) ⟨Nat.le_of_ble_eq_true rfl, Nat.le_of_ble_eq_true rfl⟩) (va_recv hK hP (ci := 0) (q0 := 0) rfl rfl) rfl hl.1 rfl (Nat.le_of_ble_eq_true rfl) dX0_insert_73 ⟨Nat.zero_le _, Nat.zero_le _⟩ (fun v9 w9 H locs hR9 hw9 hP hS => ?_)
        obtain ⟨rfl, rfl⟩ := hR9
        refine lv_istore (lv' := [(6, .int (nI n)), (5, .int (-1)), (4, .int (nI ((tx n lt tg (kn a)).length))), (0, .ref (q 0)), (1, .int (nI a)), (2, .int (nI pp)), (3, .int c9)]) hx hb dX0_insert_76 hl (by decide) rfl (fun ls hl => ?_)
        refine lv_aload_n hx hb dX0_insert_78 rfl (lv_at hl 3 rfl) ?_
        refine lv_iload hx hb dX0_insert_79 (lv_at hl 0 rfl) ?_
        refine lv_iload hx hb dX0_insert_81 (lv_at hl 1 rfl) ?_
        refine eg_callWV (As := [.int (nI n), .int (-1)]) (rest := []) hx hb hml hown hts hK hP hD rfl hS (c_X0_hangLetter l D cI cJ q (n + 1) (upd mk n (nI a)) (upd lt n c9) (upd tg n (-1)) (vp_updL pa n (hdX pa (kn a) n)) (vp_updL an n (kn a)) (mL la (kn a) n n) (vp_updL kn a (kn a ||| ol n)) fb fh nb te1 wt1 bh n (-1) (by omega) (by omega)) (cwV 2 hts gX0_insert_X0_hangLetter rfl rfl rfl (by decide +kernel) ⟨Nat.le_of_ble_eq_true rfl, Nat.le_of_ble_eq_true rfl⟩) (va_recv hK hP (ci := 0) (q0 := 0) rfl rfl) rfl hl.1 rfl (Nat.le_of_ble_eq_true rfl) dX0_insert_83 ⟨Nat.zero_le _, Nat.zero_le _⟩ (fun v9 w9 H locs hR9 hw9 hP hS => ?_)
        obtain ⟨rfl, hH⟩ := hR9
        obtain ⟨fb1, fh1, nb1, hTr1, rfl⟩ : ∃ (fb' : Int32) (fh' nb' : Nat → Int32), (∃ f, Tr (n + 1) fh' nb' f fb' (lay (ins (upd lt n c9)) (upd tg n (-1)) (n + 1))) ∧ w9 = wX q cI cJ (nI (n + 1)) (upd mk n (nI a)) (upd lt n c9) (upd tg n (-1)) (vp_updL pa n (hdX pa (kn a) n)) (vp_updL an n (kn a)) (mL la (kn a) n n) (vp_updL kn a (kn a ||| ol n)) fb' fh' nb' te1 wt1 bh := by
          rcases hH with ⟨t8, ht8, eh8, rfl⟩ | ⟨eh8, rfl⟩
          · exact ⟨_, _, _, hang_Tr hI hnr htr (fun h => hc (by rw [h]; decide)) (Or.inl rfl) (Or.inl ⟨t8, ht8, eh8, rfl, rfl, rfl⟩), rfl⟩
          · exact ⟨_, _, _, hang_Tr hI hnr htr (fun h => hc (by rw [h]; decide)) (Or.inl rfl) (Or.inr ⟨eh8, rfl, rfl, rfl⟩), rfl⟩
        refine lv_iload hx hb dX0_insert_86 (lv_at hl 0 rfl) ?_
        exact W.iret hx hb hr (fun t9 ht9 _ => ⟨some (.int (nI n)), (wX q cI cJ (nI (n + 1)) (upd mk n (nI a)) (upd lt n c9) (upd tg n (-1)) (vp_updL pa n (hdX pa (kn a) n)) (vp_updL an n (kn a)) (mL la (kn a) n n) (vp_updL kn a (kn a ||| ol n)) fb1 fh1 nb1 te1 wt1 bh), rfl, ⟨_, te1, wt1, fb1, fh1, nb1, Or.inl ⟨c51, rfl⟩, hTr1, rfl, rfl⟩, rfl, by rw [ht9]; exact hP, hS.F ht9⟩) hS.2.2 dX0_insert_88
    · first | exact absurd c27 hc | exact absurd hc2 c33
set_option maxHeartbeats 4000000 in
set_option maxRecDepth 100000 in
theorem c_X0_delete (l : Launch) (D : va_G) (cI cJ : ClassId) (q : Nat → Nat) (n : Nat) (mk lt tg : Nat → Int32) (pa an la kn : Nat → Int64) (fb : Int32) (fh nb te wt bh : Nat → Int32) (a : Nat) (pp : Nat) (hI : Inv n lt tg an kn) (htr : ∃ f, Tr n fh nb f fb (lay (ins lt) tg n)) (ha : a < 4) (hp : pp < (tx n lt tg (kn a)).length) (hnr : n < 60) : eg_MW D (tyL cI cJ) l yX0_delete wsX0_delete ({ frames := 4, cells := 0, slots := 0, locals := 97 }) 0 0 [.ref (q 0), .int (nI a), .int (nI pp)] (wX q cI cJ (nI n) mk lt tg pa an la kn fb fh nb te wt bh) (fun r w1 => ∃ (x : Nat) (te' wt' : Nat → Int32), (tx n lt tg (kn a))[pp]? = some x ∧ r = some (.int (nI n)) ∧ w1 = wX q cI cJ (nI (n + 1)) (upd mk n (nI a)) (upd lt n (-1)) (upd tg n (nI x)) (vp_updL pa n (hdX pa (kn a) n)) (vp_updL an n (kn a)) (mL la (kn a) n n) (vp_updL kn a (kn a ||| ol n)) fb fh nb te' wt' bh) := by
  refine Met.ofW (cc := cX0_delete) (maxL := 4) (ret := (some .int)) (by decide) rfl ?_
  intro p e s m args below meth c s₁ B hml hv
  obtain ⟨rfl, hP, hK, hD0⟩ := hv
  have hx := B.exec
  have hb := B.bytes
  have hr := B.returns
  have hts := atoms_spec (ws := wsX0_delete) B.pre
  have hown : s.vm.findClass RX0 = some m.cls := findClass_of_methodNamed B.named
  have hlocks := B.notSynchronized
  have hD := eg_D_of hD0
  have hS : va_S (eg_A (wX q cI cJ (nI n) mk lt tg pa an la kn fb fh nb te wt bh)) s.heap s.heap [] := va_S.rf
  have hin : ∀ w ∈ u_ws RX0 TX0 14, w ∈ wsX0_delete := by decide +kernel
  have hl := lv_entry ([.ref (q 0), .int (nI a), .int (nI pp)]) (n := 4) (Nat.le_of_ble_eq_true rfl)
  rw [lg_entry_eq]
  generalize (lg_sl ([.ref (q 0), .int (nI a), .int (nI pp)]) ++ List.replicate (4 - (lg_sl ([.ref (q 0), .int (nI a), .int (nI pp)])).length) Slot.unset).toArray = ls at hl ⊢
  have hl : lv_has ls 4 [(0, .ref (q 0)), (1, .int (nI a)), (2, .int (nI pp))] := hl
  generalize h0H : s.heap = H at hP ⊢
  have hS : va_S (eg_A (wX q cI cJ (nI n) mk lt tg pa an la kn fb fh nb te wt bh)) s.heap H [] := by rw [← h0H]; exact hS
  generalize ([] : List Loc) = locs at hS ⊢
  refine lv_aload_n hx hb dX0_delete_0 rfl (lv_at hl 0 rfl) ?_
  refine lv_iload_n hx hb dX0_delete_1 rfl (lv_at hl 1 rfl) ?_
  refine eg_callV (As := [.int (nI a)]) (rest := []) hx hb hml hown hts hK hP (c_X0_checkAuthor l D cI cJ q n mk lt tg pa an la kn fb fh nb te wt bh a (by omega)) (cwV 1 hts gX0_delete_X0_checkAuthor rfl rfl rfl (by decide +kernel) ⟨Nat.le_of_ble_eq_true rfl, Nat.le_of_ble_eq_true rfl⟩) (va_recv hK hP (ci := 0) (q0 := 0) rfl rfl) rfl hl.1 rfl (Nat.le_of_ble_eq_true rfl) dX0_delete_2 ⟨Nat.zero_le _, Nat.zero_le _⟩ ?_
  refine lv_aload_n hx hb dX0_delete_5 rfl (lv_at hl 0 rfl) ?_
  refine lv_aload_n hx hb dX0_delete_6 rfl (lv_at hl 0 rfl) ?_
  refine va_get (D := D) (ci := 0) (v := .ref (q 7)) (C := RX0) (T := TX0) (N := 14) hx hb hts hin hown hK hP 0 rfl rfl 7 (by decide) (hts (.fieldLink RX0 33 "EditGraph" "knownSets" "[J") (by decide +kernel)) (fun _ h9 => h9) rfl dX0_delete_7 ?_
  refine lv_iload_n hx hb dX0_delete_10 rfl (lv_at hl 1 rfl) ?_
  refine eg_lald hx hb hK hP 7 1 rfl rfl (by omega) (by decide) dX0_delete_11 ?_
  have e9 := tx_all hI (hI.vk ha)
  refine eg_callWV (As := [.long (kn a)]) (rest := []) hx hb hml hown hts hK hP hD rfl hS (c_X0_findText l D cI cJ q n mk lt tg pa an la kn fb fh nb te wt bh (kn a) (lay (ins lt) tg n) hI.1 hI.hdl htr (Nat.le_trans (lay_len n (lay_nodup (Nat.le_trans hI.1 (by decide)) hI.hangA)) hI.1)) (cwV 1 hts gX0_delete_X0_findText rfl rfl rfl (by decide +kernel) ⟨Nat.le_of_ble_eq_true rfl, Nat.le_of_ble_eq_true rfl⟩) (va_recv hK hP (ci := 0) (q0 := 0) rfl rfl) rfl hl.1 rfl (Nat.le_of_ble_eq_true rfl) dX0_delete_12 ⟨Nat.zero_le _, Nat.zero_le _⟩ (fun v9 w9 H locs hR9 hw9 hP hS => ?_)
  obtain ⟨te1, wt1, rfl, rfl, hh1⟩ := hR9
  rw [e9] at hh1 ⊢
  have hT9 := tx_len hI (hI.vk ha)
  have hI1 := hI.1
  refine lv_istore_n (lv' := [(3, .int (nI ((tx n lt tg (kn a)).length))), (0, .ref (q 0)), (1, .int (nI a)), (2, .int (nI pp))]) hx hb dX0_delete_15 rfl hl (by decide) rfl (fun ls hl => ?_)
  refine lv_aload_n hx hb dX0_delete_16 rfl (lv_at hl 1 rfl) ?_
  refine lv_iload_n hx hb dX0_delete_17 rfl (lv_at hl 3 rfl) ?_
  refine lv_iload_n hx hb dX0_delete_18 rfl (lv_at hl 0 rfl) ?_
  refine eg_callV (As := [.int (nI pp), .int (nI ((tx n lt tg (kn a)).length))]) (rest := []) hx hb hml hown hts hK hP (c_X0_checkPlace l D cI cJ q n mk lt tg pa an la kn fb fh nb te1 wt1 bh pp ((tx n lt tg (kn a)).length) hp (by omega)) (cwV 2 hts gX0_delete_X0_checkPlace rfl rfl rfl (by decide +kernel) ⟨Nat.le_of_ble_eq_true rfl, Nat.le_of_ble_eq_true rfl⟩) (va_recv hK hP (ci := 0) (q0 := 0) rfl rfl) rfl hl.1 rfl (Nat.le_of_ble_eq_true rfl) dX0_delete_19 ⟨Nat.zero_le _, Nat.zero_le _⟩ ?_
  refine lv_aload_n hx hb dX0_delete_22 rfl (lv_at hl 1 rfl) ?_
  refine eg_callV (As := []) (rest := []) hx hb hml hown hts hK hP (c_X0_checkRoom l D cI cJ q n mk lt tg pa an la kn fb fh nb te1 wt1 bh  hnr) (cwV 0 hts gX0_delete_X0_checkRoom rfl rfl rfl (by decide +kernel) ⟨Nat.le_of_ble_eq_true rfl, Nat.le_of_ble_eq_true rfl⟩) (va_recv hK hP (ci := 0) (q0 := 0) rfl rfl) rfl hl.1 rfl (Nat.le_of_ble_eq_true rfl) dX0_delete_23 ⟨Nat.zero_le _, Nat.zero_le _⟩ ?_
  refine lv_aload_n hx hb dX0_delete_26 rfl (lv_at hl 1 rfl) ?_
  refine lv_iload_n hx hb dX0_delete_27 rfl (lv_at hl 2 rfl) ?_
  refine lv_iconst (v := (-1)) hx hb dX0_delete_28 (by decide +kernel) ?_
  refine lv_aload_n hx hb dX0_delete_29 rfl (lv_at hl 1 rfl) ?_
  refine va_get (D := D) (ci := 0) (v := .ref (q 10)) (C := RX0) (T := TX0) (N := 14) hx hb hts hin hown hK hP 0 rfl rfl 11 (by decide) (hts (.fieldLink RX0 45 "EditGraph" "textEvents" "[I") (by decide +kernel)) (fun _ h9 => h9) rfl dX0_delete_30 ?_
  refine lv_iload_n hx hb dX0_delete_33 rfl (lv_at hl 3 rfl) ?_
  refine eg_iald hx hb hK hP 10 0 rfl rfl (by omega) (by decide) dX0_delete_34 ?_
  obtain ⟨x9, hx9⟩ := getq hp
  rw [hh1 _ _ hx9]
  refine eg_callWV (As := [.int (nI a), .int (-1), .int (nI x9)]) (rest := []) hx hb hml hown hts hK hP hD rfl hS (c_X0_addEvent l D cI cJ q n mk lt tg pa an la kn fb fh nb te1 wt1 bh a (-1) (nI x9) hnr ha) (cwV 3 hts gX0_delete_X0_addEvent rfl rfl rfl (by decide +kernel) ⟨Nat.le_of_ble_eq_true rfl, Nat.le_of_ble_eq_true rfl⟩) (va_recv hK hP (ci := 0) (q0 := 0) rfl rfl) rfl hl.1 rfl (Nat.le_of_ble_eq_true rfl) dX0_delete_35 ⟨Nat.zero_le _, Nat.zero_le _⟩ (fun v9 w9 H locs hR9 hw9 hP hS => ?_)
  obtain ⟨rfl, rfl⟩ := hR9
  exact W.iret hx hb hr (fun t9 ht9 _ => ⟨some (.int (nI n)), (wX q cI cJ (nI (n + 1)) (upd mk n (nI a)) (upd lt n (-1)) (upd tg n (nI x9)) (vp_updL pa n (hdX pa (kn a) n)) (vp_updL an n (kn a)) (mL la (kn a) n n) (vp_updL kn a (kn a ||| ol n)) fb fh nb te1 wt1 bh), rfl, ⟨x9, te1, wt1, hx9, rfl, rfl⟩, rfl, by rw [ht9]; exact hP, hS.F ht9⟩) hS.2.2 dX0_delete_38
