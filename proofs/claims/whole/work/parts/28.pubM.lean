-- the reference: its edits and exchange (by gen.py, specQ.py)
set_option maxHeartbeats 4000000 in
set_option maxRecDepth 100000 in
theorem c_X1_goesOn (l : Launch) (D : va_G) (cI cJ : ClassId) (q : Nat → Nat) (n : Nat) (mk lt tg : Nat → Int32) (pa an kn : Nat → Int64) (row : Nat → Int32) (len thr : Int32) (i : Nat) (hI : Inv n lt tg an kn) (hi : i < n) : eg_MR D (tyL cI cJ) l yX1_goesOn wsX1_goesOn ({ frames := 0, cells := 0, slots := 0, locals := 0 }) [.ref (q 0), .int (nI i)] (wM q cI cJ (nI n) mk lt tg pa an kn row len thr) (some (.int (eb (gB mk lt tg pa i)))) := by
  have hI1 := hI.1
  refine Met.ofW (cc := cX1_goesOn) (maxL := 3) (ret := (some .boolean)) (by decide) rfl ?_
  intro p e s m args below meth c s₁ B hml hv
  obtain ⟨rfl, hP, hK⟩ := hv
  have hx := B.exec
  have hb := B.bytes
  have hr := B.returns
  have hts := atoms_spec (ws := wsX1_goesOn) B.pre
  have hown : s.vm.findClass RX1 = some m.cls := findClass_of_methodNamed B.named
  have hlocks := B.notSynchronized
  have hin : ∀ w ∈ u_ws RX1 TX1 10, w ∈ wsX1_goesOn := by decide +kernel
  have hl := lv_entry ([.ref (q 0), .int (nI i)]) (n := 3) (Nat.le_of_ble_eq_true rfl)
  rw [lg_entry_eq]
  generalize (lg_sl ([.ref (q 0), .int (nI i)]) ++ List.replicate (3 - (lg_sl ([.ref (q 0), .int (nI i)])).length) Slot.unset).toArray = ls at hl ⊢
  have hl : lv_has ls 3 [(0, .ref (q 0)), (1, .int (nI i))] := hl
  refine lv_aload_n hx hb dX1_goesOn_0 rfl (lv_at hl 0 rfl) ?_
  refine va_get (D := D) (ci := 1) (v := .ref (q 3)) (C := RX1) (T := TX1) (N := 10) hx hb hts hin hown hK hP 0 rfl rfl 2 (by decide) (hts (.fieldLink RX1 16 "EditGraphModel" "at" "[I") (by decide +kernel)) (fun _ h9 => h9) rfl dX1_goesOn_1 ?_
  refine lv_iload_n hx hb dX1_goesOn_4 rfl (lv_at hl 1 rfl) ?_
  refine eg_iald hx hb hK hP 3 0 rfl rfl (by omega) (by decide) dX1_goesOn_5 ?_
  refine lv_istore_n (lv' := [(2, .int (tg i)), (0, .ref (q 0)), (1, .int (nI i))]) hx hb dX1_goesOn_6 rfl hl (by decide) rfl (fun ls hl => ?_)
  refine lv_aload_n hx hb dX1_goesOn_7 rfl (lv_at hl 1 rfl) ?_
  refine va_get (D := D) (ci := 1) (v := .ref (q 2)) (C := RX1) (T := TX1) (N := 10) hx hb hts hin hown hK hP 0 rfl rfl 1 (by decide) (hts (.fieldLink RX1 13 "EditGraphModel" "letter" "[I") (by decide +kernel)) (fun _ h9 => h9) rfl dX1_goesOn_8 ?_
  refine lv_iload_n hx hb dX1_goesOn_11 rfl (lv_at hl 2 rfl) ?_
  refine eg_iald hx hb hK hP 2 0 rfl rfl (by omega) (by decide) dX1_goesOn_12 ?_
  refine lv_iconst (v := (-1)) hx hb dX1_goesOn_13 (by decide +kernel) ?_
  refine lv_icmp_eq (tgt := 54) hx hb dX1_goesOn_14 (by decide) (fun c14 => ?_) (fun c14 => ?_)
  · refine lv_iconst (v := nI 0) hx hb dX1_goesOn_54 (by decide +kernel) ?_
    exact W.zret hx hb hr (by first | rfl | exact eb_nar) (fun t9 ht9 _ => ⟨congrArg (fun z => Outcome.returned (some (Value.int z))) (by first | (refine eb_z ?_; simp [gB, ins_f c14]; done) | (refine eb_z ?_; simp [gB, c19]; done) | (refine eb_z ?_; rw [gB, eT, cl_nI (show t < 2 ^ 31 by omega)]; simp [c31]; done) | (refine eb_z ?_; rw [gB, eT, cl_nI (show t < 2 ^ 31 by omega)]; simp [c47]; done) | (refine eb_1 ?_; rw [gB, ins_t c14, eT, cl_nI (show t < 2 ^ 31 by omega)]; simp [c31, c47, nI_m1 (show t < 2 ^ 31 by omega)]; done)), ht9⟩) (fun q h => nomatch h) dX1_goesOn_55
  · refine lv_iload_n hx hb dX1_goesOn_17 rfl (lv_at hl 0 rfl) ?_
    refine lv_iconst (v := (-1)) hx hb dX1_goesOn_18 (by decide +kernel) ?_
    refine lv_icmp_eq (tgt := 54) hx hb dX1_goesOn_19 (by decide) (fun c19 => ?_) (fun c19 => ?_)
    · refine lv_iconst (v := nI 0) hx hb dX1_goesOn_54 (by decide +kernel) ?_
      exact W.zret hx hb hr (by first | rfl | exact eb_nar) (fun t9 ht9 _ => ⟨congrArg (fun z => Outcome.returned (some (Value.int z))) (by first | (refine eb_z ?_; simp [gB, ins_f c14]; done) | (refine eb_z ?_; simp [gB, c19]; done) | (refine eb_z ?_; rw [gB, eT, cl_nI (show t < 2 ^ 31 by omega)]; simp [c31]; done) | (refine eb_z ?_; rw [gB, eT, cl_nI (show t < 2 ^ 31 by omega)]; simp [c47]; done) | (refine eb_1 ?_; rw [gB, ins_t c14, eT, cl_nI (show t < 2 ^ 31 by omega)]; simp [c31, c47, nI_m1 (show t < 2 ^ 31 by omega)]; done)), ht9⟩) (fun q h => nomatch h) dX1_goesOn_55
    · obtain ⟨t, htn, eT⟩ : ∃ t : Nat, t < n ∧ tg i = nI t := by
        rcases hI.2.2.2.2.2.1 i hi (ins_t c14) with h | ⟨t, h1, h2, h3⟩
        · exact absurd h c19
        · exact ⟨t, by omega, h2⟩
      have hl : lv_has ls 3 [(2, .int (nI t)), (0, .ref (q 0)), (1, .int (nI i))] := by rw [← eT]; exact hl
      refine lv_aload_n hx hb dX1_goesOn_22 rfl (lv_at hl 1 rfl) ?_
      refine va_get (D := D) (ci := 1) (v := .ref (q 4)) (C := RX1) (T := TX1) (N := 10) hx hb hts hin hown hK hP 0 rfl rfl 3 (by decide) (hts (.fieldLink RX1 19 "EditGraphModel" "parents" "[J") (by decide +kernel)) (fun _ h9 => h9) rfl dX1_goesOn_23 ?_
      refine lv_iload_n hx hb dX1_goesOn_26 rfl (lv_at hl 2 rfl) ?_
      refine eg_lald hx hb hK hP 4 1 rfl rfl (by omega) (by decide) dX1_goesOn_27 ?_
      refine lv_lconst (v := 1) hx hb dX1_goesOn_28 (by decide) ?_
      refine lv_iload_n hx hb dX1_goesOn_29 rfl (lv_at hl 0 rfl) ?_
      refine lv_lshl (v := (1 <<< ((nI t).toInt64 &&& 63))) hx hb dX1_goesOn_30 rfl ?_
      rw [ol_shl t (by omega)]
      refine eg_lcmp_ne (tgt := 54) hx hb dX1_goesOn_31 rfl dX1_goesOn_32 (by decide) (fun c31 => ?_) (fun c31 => ?_)
      · refine lv_iconst (v := nI 0) hx hb dX1_goesOn_54 (by decide +kernel) ?_
        exact W.zret hx hb hr (by first | rfl | exact eb_nar) (fun t9 ht9 _ => ⟨congrArg (fun z => Outcome.returned (some (Value.int z))) (by first | (refine eb_z ?_; simp [gB, ins_f c14]; done) | (refine eb_z ?_; simp [gB, c19]; done) | (refine eb_z ?_; rw [gB, eT, cl_nI (show t < 2 ^ 31 by omega)]; simp [c31]; done) | (refine eb_z ?_; rw [gB, eT, cl_nI (show t < 2 ^ 31 by omega)]; simp [c47]; done) | (refine eb_1 ?_; rw [gB, ins_t c14, eT, cl_nI (show t < 2 ^ 31 by omega)]; simp [c31, c47, nI_m1 (show t < 2 ^ 31 by omega)]; done)), ht9⟩) (fun q h => nomatch h) dX1_goesOn_55
      · refine lv_aload_n hx hb dX1_goesOn_35 rfl (lv_at hl 1 rfl) ?_
        refine va_get (D := D) (ci := 1) (v := .ref (q 1)) (C := RX1) (T := TX1) (N := 10) hx hb hts hin hown hK hP 0 rfl rfl 0 (by decide) (hts (.fieldLink RX1 7 "EditGraphModel" "authorOf" "[I") (by decide +kernel)) (fun _ h9 => h9) rfl dX1_goesOn_36 ?_
        refine lv_iload_n hx hb dX1_goesOn_39 rfl (lv_at hl 0 rfl) ?_
        refine eg_iald hx hb hK hP 1 0 rfl rfl (by omega) (by decide) dX1_goesOn_40 ?_
        refine lv_aload_n hx hb dX1_goesOn_41 rfl (lv_at hl 1 rfl) ?_
        refine va_get (D := D) (ci := 1) (v := .ref (q 1)) (C := RX1) (T := TX1) (N := 10) hx hb hts hin hown hK hP 0 rfl rfl 0 (by decide) (hts (.fieldLink RX1 7 "EditGraphModel" "authorOf" "[I") (by decide +kernel)) (fun _ h9 => h9) rfl dX1_goesOn_42 ?_
        refine lv_iload_n hx hb dX1_goesOn_45 rfl (lv_at hl 2 rfl) ?_
        refine eg_iald hx hb hK hP 1 0 rfl rfl (by omega) (by decide) dX1_goesOn_46 ?_
        refine lv_icmp_ne (tgt := 54) hx hb dX1_goesOn_47 (by decide) (fun c47 => ?_) (fun c47 => ?_)
        · refine lv_iconst (v := nI 0) hx hb dX1_goesOn_54 (by decide +kernel) ?_
          exact W.zret hx hb hr (by first | rfl | exact eb_nar) (fun t9 ht9 _ => ⟨congrArg (fun z => Outcome.returned (some (Value.int z))) (by first | (refine eb_z ?_; simp [gB, ins_f c14]; done) | (refine eb_z ?_; simp [gB, c19]; done) | (refine eb_z ?_; rw [gB, eT, cl_nI (show t < 2 ^ 31 by omega)]; simp [c31]; done) | (refine eb_z ?_; rw [gB, eT, cl_nI (show t < 2 ^ 31 by omega)]; simp [c47]; done) | (refine eb_1 ?_; rw [gB, ins_t c14, eT, cl_nI (show t < 2 ^ 31 by omega)]; simp [c31, c47, nI_m1 (show t < 2 ^ 31 by omega)]; done)), ht9⟩) (fun q h => nomatch h) dX1_goesOn_55
        · refine lv_iconst (v := nI 1) hx hb dX1_goesOn_50 (by decide +kernel) ?_
          refine lv_goto (tgt := 55) hx hb dX1_goesOn_51 (by decide) ?_
          exact W.zret hx hb hr (by first | rfl | exact eb_nar) (fun t9 ht9 _ => ⟨congrArg (fun z => Outcome.returned (some (Value.int z))) (by first | (refine eb_z ?_; simp [gB, ins_f c14]; done) | (refine eb_z ?_; simp [gB, c19]; done) | (refine eb_z ?_; rw [gB, eT, cl_nI (show t < 2 ^ 31 by omega)]; simp [c31]; done) | (refine eb_z ?_; rw [gB, eT, cl_nI (show t < 2 ^ 31 by omega)]; simp [c47]; done) | (refine eb_1 ?_; rw [gB, ins_t c14, eT, cl_nI (show t < 2 ^ 31 by omega)]; simp [c31, c47, nI_m1 (show t < 2 ^ 31 by omega)]; done)), ht9⟩) (fun q h => nomatch h) dX1_goesOn_55
set_option maxHeartbeats 4000000 in
set_option maxRecDepth 100000 in
theorem c_X1_insert (l : Launch) (D : va_G) (cI cJ : ClassId) (q : Nat → Nat) (n : Nat) (mk lt tg : Nat → Int32) (pa an kn : Nat → Int64) (row : Nat → Int32) (len thr : Int32) (a : Nat) (pp : Nat) (c9 : Int32) (hI : Inv n lt tg an kn) (ha : a < 4) (hp : pp ≤ (tx n lt tg (kn a)).length) (hcv : ev 26 c9 = true) (hnr : n < 60) : eg_MW D (tyL cI cJ) l yX1_insert wsX1_insert ({ frames := 3, cells := 0, slots := 0, locals := 70 }) 0 0 [.ref (q 0), .int (nI a), .int (nI pp), .int c9] (wM q cI cJ (nI n) mk lt tg pa an kn row len thr) (fun r w1 => ∃ (row' : Nat → Int32) (len' tt : Int32), ((pp = 0 ∧ tt = -1) ∨ (0 < pp ∧ ∃ x : Nat, (tx n lt tg (kn a))[pp - 1]? = some x ∧ tt = nI x)) ∧ r = some (.int (nI n)) ∧ w1 = wM q cI cJ (nI (n + 1)) (upd mk n (nI a)) (upd lt n c9) (upd tg n tt) (vp_updL pa n (hdX pa (kn a) n)) (vp_updL an n (kn a)) (vp_updL kn a (kn a ||| ol n)) row' len' (nI 0)) := by
  refine Met.ofW (cc := cX1_insert) (maxL := 5) (ret := (some .int)) (by decide) rfl ?_
  intro p e s m args below meth c s₁ B hml hv
  obtain ⟨rfl, hP, hK, hD0⟩ := hv
  have hx := B.exec
  have hb := B.bytes
  have hr := B.returns
  have hts := atoms_spec (ws := wsX1_insert) B.pre
  have hown : s.vm.findClass RX1 = some m.cls := findClass_of_methodNamed B.named
  have hlocks := B.notSynchronized
  have hD := eg_D_of hD0
  have hS : va_S (eg_A (wM q cI cJ (nI n) mk lt tg pa an kn row len thr)) s.heap s.heap [] := va_S.rf
  have hin : ∀ w ∈ u_ws RX1 TX1 10, w ∈ wsX1_insert := by decide +kernel
  have hl := lv_entry ([.ref (q 0), .int (nI a), .int (nI pp), .int c9]) (n := 5) (Nat.le_of_ble_eq_true rfl)
  rw [lg_entry_eq]
  generalize (lg_sl ([.ref (q 0), .int (nI a), .int (nI pp), .int c9]) ++ List.replicate (5 - (lg_sl ([.ref (q 0), .int (nI a), .int (nI pp), .int c9])).length) Slot.unset).toArray = ls at hl ⊢
  have hl : lv_has ls 5 [(0, .ref (q 0)), (1, .int (nI a)), (2, .int (nI pp)), (3, .int c9)] := hl
  generalize h0H : s.heap = H at hP ⊢
  have hS : va_S (eg_A (wM q cI cJ (nI n) mk lt tg pa an kn row len thr)) s.heap H [] := by rw [← h0H]; exact hS
  generalize ([] : List Loc) = locs at hS ⊢
  refine lv_aload_n hx hb dX1_insert_0 rfl (lv_at hl 0 rfl) ?_
  refine lv_iload_n hx hb dX1_insert_1 rfl (lv_at hl 1 rfl) ?_
  refine eg_callWV (As := [.int (nI a)]) (rest := []) hx hb hml hown hts hK hP hD rfl hS (c_X1_looks l D cI cJ q n mk lt tg pa an kn row len thr a hI ha) (cwV 1 hts gX1_insert_X1_looks rfl rfl rfl (by decide +kernel) ⟨Nat.le_of_ble_eq_true rfl, Nat.le_of_ble_eq_true rfl⟩) (va_recv hK hP (ci := 1) (q0 := 0) rfl rfl) rfl hl.1 rfl (Nat.le_of_ble_eq_true rfl) dX1_insert_2 ⟨Nat.zero_le _, Nat.zero_le _⟩ (fun v9 w9 H locs hR9 hw9 hP hS => ?_)
  obtain ⟨row1, rfl, rfl, hh⟩ := hR9
  have hT9 := tx_len hI (hI.vk ha)
  have hI1 := hI.1
  refine eg_ifeq_b (tgt := 24) hx hb dX1_insert_5 (by decide) (fun h => Bool.noConfusion h) (fun _ => ?_)
  refine lv_iload_n hx hb dX1_insert_8 rfl (lv_at hl 2 rfl) ?_
  refine lv_iconst (v := nI 0) hx hb dX1_insert_9 (by decide +kernel) ?_
  refine lv_aload_n hx hb dX1_insert_10 rfl (lv_at hl 0 rfl) ?_
  refine va_get (D := D) (ci := 1) (v := .int (nI ((tx n lt tg (kn a)).length))) (C := RX1) (T := TX1) (N := 10) hx hb hts hin hown hK hP 0 rfl rfl 8 (by decide) (hts (.fieldLink RX1 49 "EditGraphModel" "length" "I") (by decide +kernel)) (fun _ h9 => h9) rfl dX1_insert_11 ?_
  refine eg_callS (As := [.int (nI pp), .int (nI 0), .int (nI ((tx n lt tg (kn a)).length))]) (rest := []) hx hb hml hown hts hK (c_X1_in l D cI cJ (nI pp) (nI 0) (nI ((tx n lt tg (kn a)).length)) ) (va_cwS 3 hts gX1_insert_X1_in rfl rfl rfl (by decide +kernel) ⟨Nat.le_of_ble_eq_true rfl, Nat.le_of_ble_eq_true rfl⟩) rfl hl.1 rfl (Nat.le_of_ble_eq_true rfl) dX1_insert_14 ⟨Nat.zero_le _, Nat.zero_le _⟩ ?_
  rw [show inr (nI pp) (nI 0) (nI ((tx n lt tg (kn a)).length)) = ev ((tx n lt tg (kn a)).length + 1) (nI pp) from inr_ev _ (by omega)]
  rw [show ev ((tx n lt tg (kn a)).length + 1) (nI pp) = true from ev_nI (by omega) (by omega)]
  refine eg_ifeq_b (tgt := 24) hx hb dX1_insert_17 (by decide) (fun h => Bool.noConfusion h) (fun _ => ?_)
  refine lv_iconst (v := nI 1) hx hb dX1_insert_20 (by decide +kernel) ?_
  refine lv_goto (tgt := 25) hx hb dX1_insert_21 (by decide) ?_
  refine lv_istore (lv' := [(4, .int (nI 1)), (0, .ref (q 0)), (1, .int (nI a)), (2, .int (nI pp)), (3, .int c9)]) hx hb dX1_insert_25 hl (by decide) rfl (fun ls hl => ?_)
  refine lv_aload_n hx hb dX1_insert_27 rfl (lv_at hl 1 rfl) ?_
  refine lv_iload hx hb dX1_insert_28 (lv_at hl 0 rfl) ?_
  refine lv_iload_n hx hb dX1_insert_30 rfl (lv_at hl 4 rfl) ?_
  refine lv_iconst (v := nI 0) hx hb dX1_insert_31 (by decide +kernel) ?_
  refine lv_bipush (v := nI 25) hx hb dX1_insert_32 (by decide +kernel) ?_
  refine eg_callS (As := [.int c9, .int (nI 0), .int (nI 25)]) (rest := [.int (nI 1), .ref (q 0)]) hx hb hml hown hts hK (c_X1_in l D cI cJ c9 (nI 0) (nI 25) ) (va_cwS 3 hts gX1_insert_X1_in rfl rfl rfl (by decide +kernel) ⟨Nat.le_of_ble_eq_true rfl, Nat.le_of_ble_eq_true rfl⟩) rfl hl.1 rfl (Nat.le_of_ble_eq_true rfl) dX1_insert_34 ⟨Nat.zero_le _, Nat.zero_le _⟩ ?_
  rw [show inr c9 (nI 0) (nI 25) = ev 26 c9 from inr_ev _ (by decide)]
  rw [hcv]
  refine lv_aload_n hx hb dX1_insert_37 rfl (lv_at hl 1 rfl) ?_
  refine va_get (D := D) (ci := 1) (v := .int (nI n)) (C := RX1) (T := TX1) (N := 10) hx hb hts hin hown hK hP 0 rfl rfl 5 (by decide) (hts (.fieldLink RX1 40 "EditGraphModel" "events" "I") (by decide +kernel)) (fun _ h9 => h9) rfl dX1_insert_38 ?_
  refine lv_bipush (v := nI 60) hx hb dX1_insert_41 (by decide +kernel) ?_
  refine eg_icmp_ge (tgt := 50) hx hb dX1_insert_43 (by decide) (by omega) (by omega) (fun c43 => ?_) (fun c43 => ?_)
  · omega
  · refine lv_iconst (v := nI 1) hx hb dX1_insert_46 (by decide +kernel) ?_
    refine lv_goto (tgt := 51) hx hb dX1_insert_47 (by decide) ?_
    refine eg_callWV (As := [.int (eb true), .int (eb true), .int (eb true)]) (rest := []) hx hb hml hown hts hK hP hD rfl hS (c_X1_asked___ttt l D cI cJ q n mk lt tg pa an kn row1 (nI (tx n lt tg (kn a)).length) thr  ) (cwV 3 hts gX1_insert_X1_asked__ rfl rfl rfl (by decide +kernel) ⟨Nat.le_of_ble_eq_true rfl, Nat.le_of_ble_eq_true rfl⟩) (va_recv hK hP (ci := 1) (q0 := 0) rfl rfl) rfl hl.1 rfl (Nat.le_of_ble_eq_true rfl) dX1_insert_51 ⟨Nat.zero_le _, Nat.zero_le _⟩ (fun v9 w9 H locs hR9 hw9 hP hS => ?_)
    obtain ⟨rfl, rfl⟩ := hR9
    refine eg_ifeq_b (tgt := 82) hx hb dX1_insert_54 (by decide) (fun h => Bool.noConfusion h) (fun _ => ?_)
    refine lv_aload_n hx hb dX1_insert_57 rfl (lv_at hl 1 rfl) ?_
    refine lv_iload_n hx hb dX1_insert_58 rfl (lv_at hl 2 rfl) ?_
    refine lv_iload_n hx hb dX1_insert_59 rfl (lv_at hl 4 rfl) ?_
    refine lv_iload_n hx hb dX1_insert_60 rfl (lv_at hl 3 rfl) ?_
    refine eg_if_ne (tgt := 68) hx hb dX1_insert_61 (by decide) (by omega) (fun c61 => ?_) (fun c61 => ?_)
    · refine lv_aload_n hx hb dX1_insert_68 rfl (lv_at hl 1 rfl) ?_
      refine va_get (D := D) (ci := 1) (v := .ref (q 7)) (C := RX1) (T := TX1) (N := 10) hx hb hts hin hown hK hP 0 rfl rfl 7 (by decide) (hts (.fieldLink RX1 29 "EditGraphModel" "row" "[I") (by decide +kernel)) (fun _ h9 => h9) rfl dX1_insert_69 ?_
      refine lv_iload_n hx hb dX1_insert_72 rfl (lv_at hl 3 rfl) ?_
      refine lv_iconst (v := nI 1) hx hb dX1_insert_73 (by decide +kernel) ?_
      refine eg_isub hx hb dX1_insert_74 (by omega) ?_
      refine eg_iald hx hb hK hP 7 0 rfl rfl (by omega) (by decide) dX1_insert_75 ?_
      obtain ⟨x9, hx9⟩ := getq (L := (tx n lt tg (kn a))) (k := pp - 1) (by omega)
      rw [hh _ _ hx9]
      have hxn := (tx_mem (List.mem_of_getElem? hx9)).1
      refine eg_callWV (As := [.int (nI a), .int c9, .int (nI x9)]) (rest := []) hx hb hml hown hts hK hP hD rfl hS (c_X1_makes l D cI cJ q n mk lt tg pa an kn row1 (nI (tx n lt tg (kn a)).length) (nI 0) a c9 (nI x9) hnr ha) (cwV 3 hts gX1_insert_X1_makes rfl rfl rfl (by decide +kernel) ⟨Nat.le_of_ble_eq_true rfl, Nat.le_of_ble_eq_true rfl⟩) (va_recv hK hP (ci := 1) (q0 := 0) rfl rfl) rfl hl.1 rfl (Nat.le_of_ble_eq_true rfl) dX1_insert_76 ⟨Nat.zero_le _, Nat.zero_le _⟩ (fun v9 w9 H locs hR9 hw9 hP hS => ?_)
      obtain ⟨rfl, rfl⟩ := hR9
      refine lv_goto (tgt := 83) hx hb dX1_insert_79 (by decide) ?_
      exact W.iret hx hb hr (fun t9 ht9 _ => ⟨some (.int (nI n)), (wM q cI cJ (nI (n + 1)) (upd mk n (nI a)) (upd lt n c9) (upd tg n (nI x9)) (vp_updL pa n (hdX pa (kn a) n)) (vp_updL an n (kn a)) (vp_updL kn a (kn a ||| ol n)) row1 (nI (tx n lt tg (kn a)).length) (nI 0)), rfl, ⟨_, _, _, Or.inr ⟨c61, x9, hx9, rfl⟩, rfl, rfl⟩, rfl, by rw [ht9]; exact hP, hS.F ht9⟩) hS.2.2 dX1_insert_83
    · refine lv_iconst (v := (-1)) hx hb dX1_insert_64 (by decide +kernel) ?_
      refine lv_goto (tgt := 76) hx hb dX1_insert_65 (by decide) ?_
      refine eg_callWV (As := [.int (nI a), .int c9, .int (-1)]) (rest := []) hx hb hml hown hts hK hP hD rfl hS (c_X1_makes l D cI cJ q n mk lt tg pa an kn row1 (nI (tx n lt tg (kn a)).length) (nI 0) a c9 (-1) hnr ha) (cwV 3 hts gX1_insert_X1_makes rfl rfl rfl (by decide +kernel) ⟨Nat.le_of_ble_eq_true rfl, Nat.le_of_ble_eq_true rfl⟩) (va_recv hK hP (ci := 1) (q0 := 0) rfl rfl) rfl hl.1 rfl (Nat.le_of_ble_eq_true rfl) dX1_insert_76 ⟨Nat.zero_le _, Nat.zero_le _⟩ (fun v9 w9 H locs hR9 hw9 hP hS => ?_)
      obtain ⟨rfl, rfl⟩ := hR9
      refine lv_goto (tgt := 83) hx hb dX1_insert_79 (by decide) ?_
      exact W.iret hx hb hr (fun t9 ht9 _ => ⟨some (.int (nI n)), (wM q cI cJ (nI (n + 1)) (upd mk n (nI a)) (upd lt n c9) (upd tg n (-1)) (vp_updL pa n (hdX pa (kn a) n)) (vp_updL an n (kn a)) (vp_updL kn a (kn a ||| ol n)) row1 (nI (tx n lt tg (kn a)).length) (nI 0)), rfl, ⟨_, _, _, Or.inl ⟨c61, rfl⟩, rfl, rfl⟩, rfl, by rw [ht9]; exact hP, hS.F ht9⟩) hS.2.2 dX1_insert_83
set_option maxHeartbeats 4000000 in
set_option maxRecDepth 100000 in
theorem c_X1_insert_no1 (l : Launch) (D : va_G) (cI cJ : ClassId) (q : Nat → Nat) (n : Nat) (mk lt tg : Nat → Int32) (pa an kn : Nat → Int64) (row : Nat → Int32) (len thr : Int32) (x : Int32) (y : Int32) (c9 : Int32) (hn : n ≤ 60) (hbad : bad 4 x) : eg_MW D (tyL cI cJ) l yX1_insert wsX1_insert ({ frames := 3, cells := 0, slots := 0, locals := 64 }) 0 0 [.ref (q 0), .int x, .int y, .int c9] (wM q cI cJ (nI n) mk lt tg pa an kn row len thr) (fun r w1 => ∃ (row' : Nat → Int32) (len' : Int32), r = some (.int (nI 0)) ∧ w1 = wM q cI cJ (nI n) mk lt tg pa an kn row' len' (nI 1)) := by
  refine Met.ofW (cc := cX1_insert) (maxL := 5) (ret := (some .int)) (by decide) rfl ?_
  intro p e s m args below meth c s₁ B hml hv
  obtain ⟨rfl, hP, hK, hD0⟩ := hv
  have hx := B.exec
  have hb := B.bytes
  have hr := B.returns
  have hts := atoms_spec (ws := wsX1_insert) B.pre
  have hown : s.vm.findClass RX1 = some m.cls := findClass_of_methodNamed B.named
  have hlocks := B.notSynchronized
  have hD := eg_D_of hD0
  have hS : va_S (eg_A (wM q cI cJ (nI n) mk lt tg pa an kn row len thr)) s.heap s.heap [] := va_S.rf
  have hin : ∀ w ∈ u_ws RX1 TX1 10, w ∈ wsX1_insert := by decide +kernel
  have hl := lv_entry ([.ref (q 0), .int x, .int y, .int c9]) (n := 5) (Nat.le_of_ble_eq_true rfl)
  rw [lg_entry_eq]
  generalize (lg_sl ([.ref (q 0), .int x, .int y, .int c9]) ++ List.replicate (5 - (lg_sl ([.ref (q 0), .int x, .int y, .int c9])).length) Slot.unset).toArray = ls at hl ⊢
  have hl : lv_has ls 5 [(0, .ref (q 0)), (1, .int x), (2, .int y), (3, .int c9)] := hl
  generalize h0H : s.heap = H at hP ⊢
  have hS : va_S (eg_A (wM q cI cJ (nI n) mk lt tg pa an kn row len thr)) s.heap H [] := by rw [← h0H]; exact hS
  generalize ([] : List Loc) = locs at hS ⊢
  refine lv_aload_n hx hb dX1_insert_0 rfl (lv_at hl 0 rfl) ?_
  refine lv_iload_n hx hb dX1_insert_1 rfl (lv_at hl 1 rfl) ?_
  refine eg_callWV (As := [.int x]) (rest := []) hx hb hml hown hts hK hP hD rfl hS (c_X1_looks_no l D cI cJ q n mk lt tg pa an kn row len thr x hbad) (cwV 1 hts gX1_insert_X1_looks rfl rfl rfl (by decide +kernel) ⟨Nat.le_of_ble_eq_true rfl, Nat.le_of_ble_eq_true rfl⟩) (va_recv hK hP (ci := 1) (q0 := 0) rfl rfl) rfl hl.1 rfl (Nat.le_of_ble_eq_true rfl) dX1_insert_2 ⟨Nat.zero_le _, Nat.zero_le _⟩ (fun v9 w9 H locs hR9 hw9 hP hS => ?_)
  obtain ⟨rfl, rfl⟩ := hR9
  refine eg_ifeq_b (tgt := 24) hx hb dX1_insert_5 (by decide) (fun _ => ?_) (fun h => Bool.noConfusion h)
  refine lv_iconst (v := nI 0) hx hb dX1_insert_24 (by decide +kernel) ?_
  refine lv_istore (lv' := [(4, .int (nI 0)), (0, .ref (q 0)), (1, .int x), (2, .int y), (3, .int c9)]) hx hb dX1_insert_25 hl (by decide) rfl (fun ls hl => ?_)
  refine lv_aload_n hx hb dX1_insert_27 rfl (lv_at hl 1 rfl) ?_
  refine lv_iload hx hb dX1_insert_28 (lv_at hl 0 rfl) ?_
  refine lv_iload_n hx hb dX1_insert_30 rfl (lv_at hl 4 rfl) ?_
  refine lv_iconst (v := nI 0) hx hb dX1_insert_31 (by decide +kernel) ?_
  refine lv_bipush (v := nI 25) hx hb dX1_insert_32 (by decide +kernel) ?_
  refine eg_callS (As := [.int c9, .int (nI 0), .int (nI 25)]) (rest := [.int (nI 0), .ref (q 0)]) hx hb hml hown hts hK (c_X1_in l D cI cJ c9 (nI 0) (nI 25) ) (va_cwS 3 hts gX1_insert_X1_in rfl rfl rfl (by decide +kernel) ⟨Nat.le_of_ble_eq_true rfl, Nat.le_of_ble_eq_true rfl⟩) rfl hl.1 rfl (Nat.le_of_ble_eq_true rfl) dX1_insert_34 ⟨Nat.zero_le _, Nat.zero_le _⟩ ?_
  rw [show inr c9 (nI 0) (nI 25) = ev 26 c9 from inr_ev _ (by decide)]
  refine lv_aload_n hx hb dX1_insert_37 rfl (lv_at hl 1 rfl) ?_
  refine va_get (D := D) (ci := 1) (v := .int (nI n)) (C := RX1) (T := TX1) (N := 10) hx hb hts hin hown hK hP 0 rfl rfl 5 (by decide) (hts (.fieldLink RX1 40 "EditGraphModel" "events" "I") (by decide +kernel)) (fun _ h9 => h9) rfl dX1_insert_38 ?_
  refine lv_bipush (v := nI 60) hx hb dX1_insert_41 (by decide +kernel) ?_
  refine eg_icmp_ge (tgt := 50) hx hb dX1_insert_43 (by decide) (by omega) (by omega) (fun c43 => ?_) (fun c43 => ?_)
  · refine lv_iconst (v := nI 0) hx hb dX1_insert_50 (by decide +kernel) ?_
    refine eg_callWV (As := [.int (eb false), .int (eb (ev 26 c9)), .int (eb false)]) (rest := []) hx hb hml hown hts hK hP hD rfl hS (c_X1_asked___f l D cI cJ q n mk lt tg pa an kn row len thr (ev 26 c9) false ) (cwV 3 hts gX1_insert_X1_asked__ rfl rfl rfl (by decide +kernel) ⟨Nat.le_of_ble_eq_true rfl, Nat.le_of_ble_eq_true rfl⟩) (va_recv hK hP (ci := 1) (q0 := 0) rfl rfl) rfl hl.1 rfl (Nat.le_of_ble_eq_true rfl) dX1_insert_51 ⟨Nat.zero_le _, Nat.zero_le _⟩ (fun v9 w9 H locs hR9 hw9 hP hS => ?_)
    obtain ⟨rfl, rfl⟩ := hR9
    refine eg_ifeq_b (tgt := 82) hx hb dX1_insert_54 (by decide) (fun _ => ?_) (fun h => Bool.noConfusion h)
    refine lv_iconst (v := nI 0) hx hb dX1_insert_82 (by decide +kernel) ?_
    exact W.iret hx hb hr (fun t9 ht9 _ => ⟨some (.int (nI 0)), (wM q cI cJ (nI n) mk lt tg pa an kn row len (nI 1)), rfl, ⟨_, _, rfl, rfl⟩, rfl, by rw [ht9]; exact hP, hS.F ht9⟩) hS.2.2 dX1_insert_83
  · refine lv_iconst (v := nI 1) hx hb dX1_insert_46 (by decide +kernel) ?_
    refine lv_goto (tgt := 51) hx hb dX1_insert_47 (by decide) ?_
    refine eg_callWV (As := [.int (eb false), .int (eb (ev 26 c9)), .int (eb true)]) (rest := []) hx hb hml hown hts hK hP hD rfl hS (c_X1_asked___f l D cI cJ q n mk lt tg pa an kn row len thr (ev 26 c9) true ) (cwV 3 hts gX1_insert_X1_asked__ rfl rfl rfl (by decide +kernel) ⟨Nat.le_of_ble_eq_true rfl, Nat.le_of_ble_eq_true rfl⟩) (va_recv hK hP (ci := 1) (q0 := 0) rfl rfl) rfl hl.1 rfl (Nat.le_of_ble_eq_true rfl) dX1_insert_51 ⟨Nat.zero_le _, Nat.zero_le _⟩ (fun v9 w9 H locs hR9 hw9 hP hS => ?_)
    obtain ⟨rfl, rfl⟩ := hR9
    refine eg_ifeq_b (tgt := 82) hx hb dX1_insert_54 (by decide) (fun _ => ?_) (fun h => Bool.noConfusion h)
    refine lv_iconst (v := nI 0) hx hb dX1_insert_82 (by decide +kernel) ?_
    exact W.iret hx hb hr (fun t9 ht9 _ => ⟨some (.int (nI 0)), (wM q cI cJ (nI n) mk lt tg pa an kn row len (nI 1)), rfl, ⟨_, _, rfl, rfl⟩, rfl, by rw [ht9]; exact hP, hS.F ht9⟩) hS.2.2 dX1_insert_83
set_option maxHeartbeats 4000000 in
set_option maxRecDepth 100000 in
theorem c_X1_insert_no2 (l : Launch) (D : va_G) (cI cJ : ClassId) (q : Nat → Nat) (n : Nat) (mk lt tg : Nat → Int32) (pa an kn : Nat → Int64) (row : Nat → Int32) (len thr : Int32) (a : Nat) (y : Int32) (c9 : Int32) (hI : Inv n lt tg an kn) (ha : a < 4) (hbad : bad ((tx n lt tg (kn a)).length + 1) y) : eg_MW D (tyL cI cJ) l yX1_insert wsX1_insert ({ frames := 3, cells := 0, slots := 0, locals := 70 }) 0 0 [.ref (q 0), .int (nI a), .int y, .int c9] (wM q cI cJ (nI n) mk lt tg pa an kn row len thr) (fun r w1 => ∃ (row' : Nat → Int32) (len' : Int32), r = some (.int (nI 0)) ∧ w1 = wM q cI cJ (nI n) mk lt tg pa an kn row' len' (nI 1)) := by
  refine Met.ofW (cc := cX1_insert) (maxL := 5) (ret := (some .int)) (by decide) rfl ?_
  intro p e s m args below meth c s₁ B hml hv
  obtain ⟨rfl, hP, hK, hD0⟩ := hv
  have hx := B.exec
  have hb := B.bytes
  have hr := B.returns
  have hts := atoms_spec (ws := wsX1_insert) B.pre
  have hown : s.vm.findClass RX1 = some m.cls := findClass_of_methodNamed B.named
  have hlocks := B.notSynchronized
  have hD := eg_D_of hD0
  have hS : va_S (eg_A (wM q cI cJ (nI n) mk lt tg pa an kn row len thr)) s.heap s.heap [] := va_S.rf
  have hin : ∀ w ∈ u_ws RX1 TX1 10, w ∈ wsX1_insert := by decide +kernel
  have hl := lv_entry ([.ref (q 0), .int (nI a), .int y, .int c9]) (n := 5) (Nat.le_of_ble_eq_true rfl)
  rw [lg_entry_eq]
  generalize (lg_sl ([.ref (q 0), .int (nI a), .int y, .int c9]) ++ List.replicate (5 - (lg_sl ([.ref (q 0), .int (nI a), .int y, .int c9])).length) Slot.unset).toArray = ls at hl ⊢
  have hl : lv_has ls 5 [(0, .ref (q 0)), (1, .int (nI a)), (2, .int y), (3, .int c9)] := hl
  generalize h0H : s.heap = H at hP ⊢
  have hS : va_S (eg_A (wM q cI cJ (nI n) mk lt tg pa an kn row len thr)) s.heap H [] := by rw [← h0H]; exact hS
  generalize ([] : List Loc) = locs at hS ⊢
  refine lv_aload_n hx hb dX1_insert_0 rfl (lv_at hl 0 rfl) ?_
  refine lv_iload_n hx hb dX1_insert_1 rfl (lv_at hl 1 rfl) ?_
  refine eg_callWV (As := [.int (nI a)]) (rest := []) hx hb hml hown hts hK hP hD rfl hS (c_X1_looks l D cI cJ q n mk lt tg pa an kn row len thr a hI ha) (cwV 1 hts gX1_insert_X1_looks rfl rfl rfl (by decide +kernel) ⟨Nat.le_of_ble_eq_true rfl, Nat.le_of_ble_eq_true rfl⟩) (va_recv hK hP (ci := 1) (q0 := 0) rfl rfl) rfl hl.1 rfl (Nat.le_of_ble_eq_true rfl) dX1_insert_2 ⟨Nat.zero_le _, Nat.zero_le _⟩ (fun v9 w9 H locs hR9 hw9 hP hS => ?_)
  obtain ⟨row1, rfl, rfl, hh⟩ := hR9
  have hT9 := tx_len hI (hI.vk ha)
  have hI1 := hI.1
  refine eg_ifeq_b (tgt := 24) hx hb dX1_insert_5 (by decide) (fun h => Bool.noConfusion h) (fun _ => ?_)
  refine lv_iload_n hx hb dX1_insert_8 rfl (lv_at hl 2 rfl) ?_
  refine lv_iconst (v := nI 0) hx hb dX1_insert_9 (by decide +kernel) ?_
  refine lv_aload_n hx hb dX1_insert_10 rfl (lv_at hl 0 rfl) ?_
  refine va_get (D := D) (ci := 1) (v := .int (nI ((tx n lt tg (kn a)).length))) (C := RX1) (T := TX1) (N := 10) hx hb hts hin hown hK hP 0 rfl rfl 8 (by decide) (hts (.fieldLink RX1 49 "EditGraphModel" "length" "I") (by decide +kernel)) (fun _ h9 => h9) rfl dX1_insert_11 ?_
  refine eg_callS (As := [.int y, .int (nI 0), .int (nI ((tx n lt tg (kn a)).length))]) (rest := []) hx hb hml hown hts hK (c_X1_in l D cI cJ y (nI 0) (nI ((tx n lt tg (kn a)).length)) ) (va_cwS 3 hts gX1_insert_X1_in rfl rfl rfl (by decide +kernel) ⟨Nat.le_of_ble_eq_true rfl, Nat.le_of_ble_eq_true rfl⟩) rfl hl.1 rfl (Nat.le_of_ble_eq_true rfl) dX1_insert_14 ⟨Nat.zero_le _, Nat.zero_le _⟩ ?_
  rw [show inr y (nI 0) (nI ((tx n lt tg (kn a)).length)) = ev ((tx n lt tg (kn a)).length + 1) y from inr_ev _ (by omega)]
  rw [show ev ((tx n lt tg (kn a)).length + 1) y = false from bad_ev hbad]
  refine eg_ifeq_b (tgt := 24) hx hb dX1_insert_17 (by decide) (fun _ => ?_) (fun h => Bool.noConfusion h)
  refine lv_iconst (v := nI 0) hx hb dX1_insert_24 (by decide +kernel) ?_
  refine lv_istore (lv' := [(4, .int (nI 0)), (0, .ref (q 0)), (1, .int (nI a)), (2, .int y), (3, .int c9)]) hx hb dX1_insert_25 hl (by decide) rfl (fun ls hl => ?_)
  refine lv_aload_n hx hb dX1_insert_27 rfl (lv_at hl 1 rfl) ?_
  refine lv_iload hx hb dX1_insert_28 (lv_at hl 0 rfl) ?_
  refine lv_iload_n hx hb dX1_insert_30 rfl (lv_at hl 4 rfl) ?_
  refine lv_iconst (v := nI 0) hx hb dX1_insert_31 (by decide +kernel) ?_
  refine lv_bipush (v := nI 25) hx hb dX1_insert_32 (by decide +kernel) ?_
  refine eg_callS (As := [.int c9, .int (nI 0), .int (nI 25)]) (rest := [.int (nI 0), .ref (q 0)]) hx hb hml hown hts hK (c_X1_in l D cI cJ c9 (nI 0) (nI 25) ) (va_cwS 3 hts gX1_insert_X1_in rfl rfl rfl (by decide +kernel) ⟨Nat.le_of_ble_eq_true rfl, Nat.le_of_ble_eq_true rfl⟩) rfl hl.1 rfl (Nat.le_of_ble_eq_true rfl) dX1_insert_34 ⟨Nat.zero_le _, Nat.zero_le _⟩ ?_
  rw [show inr c9 (nI 0) (nI 25) = ev 26 c9 from inr_ev _ (by decide)]
  refine lv_aload_n hx hb dX1_insert_37 rfl (lv_at hl 1 rfl) ?_
  refine va_get (D := D) (ci := 1) (v := .int (nI n)) (C := RX1) (T := TX1) (N := 10) hx hb hts hin hown hK hP 0 rfl rfl 5 (by decide) (hts (.fieldLink RX1 40 "EditGraphModel" "events" "I") (by decide +kernel)) (fun _ h9 => h9) rfl dX1_insert_38 ?_
  refine lv_bipush (v := nI 60) hx hb dX1_insert_41 (by decide +kernel) ?_
  refine eg_icmp_ge (tgt := 50) hx hb dX1_insert_43 (by decide) (by omega) (by omega) (fun c43 => ?_) (fun c43 => ?_)
  · refine lv_iconst (v := nI 0) hx hb dX1_insert_50 (by decide +kernel) ?_
    refine eg_callWV (As := [.int (eb false), .int (eb (ev 26 c9)), .int (eb false)]) (rest := []) hx hb hml hown hts hK hP hD rfl hS (c_X1_asked___f l D cI cJ q n mk lt tg pa an kn row1 (nI (tx n lt tg (kn a)).length) thr (ev 26 c9) false ) (cwV 3 hts gX1_insert_X1_asked__ rfl rfl rfl (by decide +kernel) ⟨Nat.le_of_ble_eq_true rfl, Nat.le_of_ble_eq_true rfl⟩) (va_recv hK hP (ci := 1) (q0 := 0) rfl rfl) rfl hl.1 rfl (Nat.le_of_ble_eq_true rfl) dX1_insert_51 ⟨Nat.zero_le _, Nat.zero_le _⟩ (fun v9 w9 H locs hR9 hw9 hP hS => ?_)
    obtain ⟨rfl, rfl⟩ := hR9
    refine eg_ifeq_b (tgt := 82) hx hb dX1_insert_54 (by decide) (fun _ => ?_) (fun h => Bool.noConfusion h)
    refine lv_iconst (v := nI 0) hx hb dX1_insert_82 (by decide +kernel) ?_
    exact W.iret hx hb hr (fun t9 ht9 _ => ⟨some (.int (nI 0)), (wM q cI cJ (nI n) mk lt tg pa an kn row1 (nI (tx n lt tg (kn a)).length) (nI 1)), rfl, ⟨_, _, rfl, rfl⟩, rfl, by rw [ht9]; exact hP, hS.F ht9⟩) hS.2.2 dX1_insert_83
  · refine lv_iconst (v := nI 1) hx hb dX1_insert_46 (by decide +kernel) ?_
    refine lv_goto (tgt := 51) hx hb dX1_insert_47 (by decide) ?_
    refine eg_callWV (As := [.int (eb false), .int (eb (ev 26 c9)), .int (eb true)]) (rest := []) hx hb hml hown hts hK hP hD rfl hS (c_X1_asked___f l D cI cJ q n mk lt tg pa an kn row1 (nI (tx n lt tg (kn a)).length) thr (ev 26 c9) true ) (cwV 3 hts gX1_insert_X1_asked__ rfl rfl rfl (by decide +kernel) ⟨Nat.le_of_ble_eq_true rfl, Nat.le_of_ble_eq_true rfl⟩) (va_recv hK hP (ci := 1) (q0 := 0) rfl rfl) rfl hl.1 rfl (Nat.le_of_ble_eq_true rfl) dX1_insert_51 ⟨Nat.zero_le _, Nat.zero_le _⟩ (fun v9 w9 H locs hR9 hw9 hP hS => ?_)
    obtain ⟨rfl, rfl⟩ := hR9
    refine eg_ifeq_b (tgt := 82) hx hb dX1_insert_54 (by decide) (fun _ => ?_) (fun h => Bool.noConfusion h)
    refine lv_iconst (v := nI 0) hx hb dX1_insert_82 (by decide +kernel) ?_
    exact W.iret hx hb hr (fun t9 ht9 _ => ⟨some (.int (nI 0)), (wM q cI cJ (nI n) mk lt tg pa an kn row1 (nI (tx n lt tg (kn a)).length) (nI 1)), rfl, ⟨_, _, rfl, rfl⟩, rfl, by rw [ht9]; exact hP, hS.F ht9⟩) hS.2.2 dX1_insert_83
set_option maxHeartbeats 4000000 in
set_option maxRecDepth 100000 in
theorem c_X1_insert_no3 (l : Launch) (D : va_G) (cI cJ : ClassId) (q : Nat → Nat) (n : Nat) (mk lt tg : Nat → Int32) (pa an kn : Nat → Int64) (row : Nat → Int32) (len thr : Int32) (a : Nat) (pp : Nat) (c9 : Int32) (hI : Inv n lt tg an kn) (ha : a < 4) (hp : pp ≤ (tx n lt tg (kn a)).length) (hcx : ev 26 c9 = false) : eg_MW D (tyL cI cJ) l yX1_insert wsX1_insert ({ frames := 3, cells := 0, slots := 0, locals := 70 }) 0 0 [.ref (q 0), .int (nI a), .int (nI pp), .int c9] (wM q cI cJ (nI n) mk lt tg pa an kn row len thr) (fun r w1 => ∃ (row' : Nat → Int32) (len' : Int32), r = some (.int (nI 0)) ∧ w1 = wM q cI cJ (nI n) mk lt tg pa an kn row' len' (nI 2)) := by
  refine Met.ofW (cc := cX1_insert) (maxL := 5) (ret := (some .int)) (by decide) rfl ?_
  intro p e s m args below meth c s₁ B hml hv
  obtain ⟨rfl, hP, hK, hD0⟩ := hv
  have hx := B.exec
  have hb := B.bytes
  have hr := B.returns
  have hts := atoms_spec (ws := wsX1_insert) B.pre
  have hown : s.vm.findClass RX1 = some m.cls := findClass_of_methodNamed B.named
  have hlocks := B.notSynchronized
  have hD := eg_D_of hD0
  have hS : va_S (eg_A (wM q cI cJ (nI n) mk lt tg pa an kn row len thr)) s.heap s.heap [] := va_S.rf
  have hin : ∀ w ∈ u_ws RX1 TX1 10, w ∈ wsX1_insert := by decide +kernel
  have hl := lv_entry ([.ref (q 0), .int (nI a), .int (nI pp), .int c9]) (n := 5) (Nat.le_of_ble_eq_true rfl)
  rw [lg_entry_eq]
  generalize (lg_sl ([.ref (q 0), .int (nI a), .int (nI pp), .int c9]) ++ List.replicate (5 - (lg_sl ([.ref (q 0), .int (nI a), .int (nI pp), .int c9])).length) Slot.unset).toArray = ls at hl ⊢
  have hl : lv_has ls 5 [(0, .ref (q 0)), (1, .int (nI a)), (2, .int (nI pp)), (3, .int c9)] := hl
  generalize h0H : s.heap = H at hP ⊢
  have hS : va_S (eg_A (wM q cI cJ (nI n) mk lt tg pa an kn row len thr)) s.heap H [] := by rw [← h0H]; exact hS
  generalize ([] : List Loc) = locs at hS ⊢
  refine lv_aload_n hx hb dX1_insert_0 rfl (lv_at hl 0 rfl) ?_
  refine lv_iload_n hx hb dX1_insert_1 rfl (lv_at hl 1 rfl) ?_
  refine eg_callWV (As := [.int (nI a)]) (rest := []) hx hb hml hown hts hK hP hD rfl hS (c_X1_looks l D cI cJ q n mk lt tg pa an kn row len thr a hI ha) (cwV 1 hts gX1_insert_X1_looks rfl rfl rfl (by decide +kernel) ⟨Nat.le_of_ble_eq_true rfl, Nat.le_of_ble_eq_true rfl⟩) (va_recv hK hP (ci := 1) (q0 := 0) rfl rfl) rfl hl.1 rfl (Nat.le_of_ble_eq_true rfl) dX1_insert_2 ⟨Nat.zero_le _, Nat.zero_le _⟩ (fun v9 w9 H locs hR9 hw9 hP hS => ?_)
  obtain ⟨row1, rfl, rfl, hh⟩ := hR9
  have hT9 := tx_len hI (hI.vk ha)
  have hI1 := hI.1
  refine eg_ifeq_b (tgt := 24) hx hb dX1_insert_5 (by decide) (fun h => Bool.noConfusion h) (fun _ => ?_)
  refine lv_iload_n hx hb dX1_insert_8 rfl (lv_at hl 2 rfl) ?_
  refine lv_iconst (v := nI 0) hx hb dX1_insert_9 (by decide +kernel) ?_
  refine lv_aload_n hx hb dX1_insert_10 rfl (lv_at hl 0 rfl) ?_
  refine va_get (D := D) (ci := 1) (v := .int (nI ((tx n lt tg (kn a)).length))) (C := RX1) (T := TX1) (N := 10) hx hb hts hin hown hK hP 0 rfl rfl 8 (by decide) (hts (.fieldLink RX1 49 "EditGraphModel" "length" "I") (by decide +kernel)) (fun _ h9 => h9) rfl dX1_insert_11 ?_
  refine eg_callS (As := [.int (nI pp), .int (nI 0), .int (nI ((tx n lt tg (kn a)).length))]) (rest := []) hx hb hml hown hts hK (c_X1_in l D cI cJ (nI pp) (nI 0) (nI ((tx n lt tg (kn a)).length)) ) (va_cwS 3 hts gX1_insert_X1_in rfl rfl rfl (by decide +kernel) ⟨Nat.le_of_ble_eq_true rfl, Nat.le_of_ble_eq_true rfl⟩) rfl hl.1 rfl (Nat.le_of_ble_eq_true rfl) dX1_insert_14 ⟨Nat.zero_le _, Nat.zero_le _⟩ ?_
  rw [show inr (nI pp) (nI 0) (nI ((tx n lt tg (kn a)).length)) = ev ((tx n lt tg (kn a)).length + 1) (nI pp) from inr_ev _ (by omega)]
  rw [show ev ((tx n lt tg (kn a)).length + 1) (nI pp) = true from ev_nI (by omega) (by omega)]
  refine eg_ifeq_b (tgt := 24) hx hb dX1_insert_17 (by decide) (fun h => Bool.noConfusion h) (fun _ => ?_)
  refine lv_iconst (v := nI 1) hx hb dX1_insert_20 (by decide +kernel) ?_
  refine lv_goto (tgt := 25) hx hb dX1_insert_21 (by decide) ?_
  refine lv_istore (lv' := [(4, .int (nI 1)), (0, .ref (q 0)), (1, .int (nI a)), (2, .int (nI pp)), (3, .int c9)]) hx hb dX1_insert_25 hl (by decide) rfl (fun ls hl => ?_)
  refine lv_aload_n hx hb dX1_insert_27 rfl (lv_at hl 1 rfl) ?_
  refine lv_iload hx hb dX1_insert_28 (lv_at hl 0 rfl) ?_
  refine lv_iload_n hx hb dX1_insert_30 rfl (lv_at hl 4 rfl) ?_
  refine lv_iconst (v := nI 0) hx hb dX1_insert_31 (by decide +kernel) ?_
  refine lv_bipush (v := nI 25) hx hb dX1_insert_32 (by decide +kernel) ?_
  refine eg_callS (As := [.int c9, .int (nI 0), .int (nI 25)]) (rest := [.int (nI 1), .ref (q 0)]) hx hb hml hown hts hK (c_X1_in l D cI cJ c9 (nI 0) (nI 25) ) (va_cwS 3 hts gX1_insert_X1_in rfl rfl rfl (by decide +kernel) ⟨Nat.le_of_ble_eq_true rfl, Nat.le_of_ble_eq_true rfl⟩) rfl hl.1 rfl (Nat.le_of_ble_eq_true rfl) dX1_insert_34 ⟨Nat.zero_le _, Nat.zero_le _⟩ ?_
  rw [show inr c9 (nI 0) (nI 25) = ev 26 c9 from inr_ev _ (by decide)]
  rw [hcx]
  refine lv_aload_n hx hb dX1_insert_37 rfl (lv_at hl 1 rfl) ?_
  refine va_get (D := D) (ci := 1) (v := .int (nI n)) (C := RX1) (T := TX1) (N := 10) hx hb hts hin hown hK hP 0 rfl rfl 5 (by decide) (hts (.fieldLink RX1 40 "EditGraphModel" "events" "I") (by decide +kernel)) (fun _ h9 => h9) rfl dX1_insert_38 ?_
  refine lv_bipush (v := nI 60) hx hb dX1_insert_41 (by decide +kernel) ?_
  refine eg_icmp_ge (tgt := 50) hx hb dX1_insert_43 (by decide) (by omega) (by omega) (fun c43 => ?_) (fun c43 => ?_)
  · refine lv_iconst (v := nI 0) hx hb dX1_insert_50 (by decide +kernel) ?_
    refine eg_callWV (As := [.int (eb true), .int (eb false), .int (eb false)]) (rest := []) hx hb hml hown hts hK hP hD rfl hS (c_X1_asked___tf l D cI cJ q n mk lt tg pa an kn row1 (nI (tx n lt tg (kn a)).length) thr false ) (cwV 3 hts gX1_insert_X1_asked__ rfl rfl rfl (by decide +kernel) ⟨Nat.le_of_ble_eq_true rfl, Nat.le_of_ble_eq_true rfl⟩) (va_recv hK hP (ci := 1) (q0 := 0) rfl rfl) rfl hl.1 rfl (Nat.le_of_ble_eq_true rfl) dX1_insert_51 ⟨Nat.zero_le _, Nat.zero_le _⟩ (fun v9 w9 H locs hR9 hw9 hP hS => ?_)
    obtain ⟨rfl, rfl⟩ := hR9
    refine eg_ifeq_b (tgt := 82) hx hb dX1_insert_54 (by decide) (fun _ => ?_) (fun h => Bool.noConfusion h)
    refine lv_iconst (v := nI 0) hx hb dX1_insert_82 (by decide +kernel) ?_
    exact W.iret hx hb hr (fun t9 ht9 _ => ⟨some (.int (nI 0)), (wM q cI cJ (nI n) mk lt tg pa an kn row1 (nI (tx n lt tg (kn a)).length) (nI 2)), rfl, ⟨_, _, rfl, rfl⟩, rfl, by rw [ht9]; exact hP, hS.F ht9⟩) hS.2.2 dX1_insert_83
  · refine lv_iconst (v := nI 1) hx hb dX1_insert_46 (by decide +kernel) ?_
    refine lv_goto (tgt := 51) hx hb dX1_insert_47 (by decide) ?_
    refine eg_callWV (As := [.int (eb true), .int (eb false), .int (eb true)]) (rest := []) hx hb hml hown hts hK hP hD rfl hS (c_X1_asked___tf l D cI cJ q n mk lt tg pa an kn row1 (nI (tx n lt tg (kn a)).length) thr true ) (cwV 3 hts gX1_insert_X1_asked__ rfl rfl rfl (by decide +kernel) ⟨Nat.le_of_ble_eq_true rfl, Nat.le_of_ble_eq_true rfl⟩) (va_recv hK hP (ci := 1) (q0 := 0) rfl rfl) rfl hl.1 rfl (Nat.le_of_ble_eq_true rfl) dX1_insert_51 ⟨Nat.zero_le _, Nat.zero_le _⟩ (fun v9 w9 H locs hR9 hw9 hP hS => ?_)
    obtain ⟨rfl, rfl⟩ := hR9
    refine eg_ifeq_b (tgt := 82) hx hb dX1_insert_54 (by decide) (fun _ => ?_) (fun h => Bool.noConfusion h)
    refine lv_iconst (v := nI 0) hx hb dX1_insert_82 (by decide +kernel) ?_
    exact W.iret hx hb hr (fun t9 ht9 _ => ⟨some (.int (nI 0)), (wM q cI cJ (nI n) mk lt tg pa an kn row1 (nI (tx n lt tg (kn a)).length) (nI 2)), rfl, ⟨_, _, rfl, rfl⟩, rfl, by rw [ht9]; exact hP, hS.F ht9⟩) hS.2.2 dX1_insert_83
set_option maxHeartbeats 4000000 in
set_option maxRecDepth 100000 in
theorem c_X1_insert_no4 (l : Launch) (D : va_G) (cI cJ : ClassId) (q : Nat → Nat) (n : Nat) (mk lt tg : Nat → Int32) (pa an kn : Nat → Int64) (row : Nat → Int32) (len thr : Int32) (a : Nat) (pp : Nat) (c9 : Int32) (hI : Inv n lt tg an kn) (ha : a < 4) (hp : pp ≤ (tx n lt tg (kn a)).length) (hcv : ev 26 c9 = true) (hnr : 60 ≤ n) : eg_MW D (tyL cI cJ) l yX1_insert wsX1_insert ({ frames := 3, cells := 0, slots := 0, locals := 70 }) 0 0 [.ref (q 0), .int (nI a), .int (nI pp), .int c9] (wM q cI cJ (nI n) mk lt tg pa an kn row len thr) (fun r w1 => ∃ (row' : Nat → Int32) (len' : Int32), r = some (.int (nI 0)) ∧ w1 = wM q cI cJ (nI n) mk lt tg pa an kn row' len' (nI 3)) := by
  refine Met.ofW (cc := cX1_insert) (maxL := 5) (ret := (some .int)) (by decide) rfl ?_
  intro p e s m args below meth c s₁ B hml hv
  obtain ⟨rfl, hP, hK, hD0⟩ := hv
  have hx := B.exec
  have hb := B.bytes
  have hr := B.returns
  have hts := atoms_spec (ws := wsX1_insert) B.pre
  have hown : s.vm.findClass RX1 = some m.cls := findClass_of_methodNamed B.named
  have hlocks := B.notSynchronized
  have hD := eg_D_of hD0
  have hS : va_S (eg_A (wM q cI cJ (nI n) mk lt tg pa an kn row len thr)) s.heap s.heap [] := va_S.rf
  have hin : ∀ w ∈ u_ws RX1 TX1 10, w ∈ wsX1_insert := by decide +kernel
  have hl := lv_entry ([.ref (q 0), .int (nI a), .int (nI pp), .int c9]) (n := 5) (Nat.le_of_ble_eq_true rfl)
  rw [lg_entry_eq]
  generalize (lg_sl ([.ref (q 0), .int (nI a), .int (nI pp), .int c9]) ++ List.replicate (5 - (lg_sl ([.ref (q 0), .int (nI a), .int (nI pp), .int c9])).length) Slot.unset).toArray = ls at hl ⊢
  have hl : lv_has ls 5 [(0, .ref (q 0)), (1, .int (nI a)), (2, .int (nI pp)), (3, .int c9)] := hl
  generalize h0H : s.heap = H at hP ⊢
  have hS : va_S (eg_A (wM q cI cJ (nI n) mk lt tg pa an kn row len thr)) s.heap H [] := by rw [← h0H]; exact hS
  generalize ([] : List Loc) = locs at hS ⊢
  refine lv_aload_n hx hb dX1_insert_0 rfl (lv_at hl 0 rfl) ?_
  refine lv_iload_n hx hb dX1_insert_1 rfl (lv_at hl 1 rfl) ?_
  refine eg_callWV (As := [.int (nI a)]) (rest := []) hx hb hml hown hts hK hP hD rfl hS (c_X1_looks l D cI cJ q n mk lt tg pa an kn row len thr a hI ha) (cwV 1 hts gX1_insert_X1_looks rfl rfl rfl (by decide +kernel) ⟨Nat.le_of_ble_eq_true rfl, Nat.le_of_ble_eq_true rfl⟩) (va_recv hK hP (ci := 1) (q0 := 0) rfl rfl) rfl hl.1 rfl (Nat.le_of_ble_eq_true rfl) dX1_insert_2 ⟨Nat.zero_le _, Nat.zero_le _⟩ (fun v9 w9 H locs hR9 hw9 hP hS => ?_)
  obtain ⟨row1, rfl, rfl, hh⟩ := hR9
  have hT9 := tx_len hI (hI.vk ha)
  have hI1 := hI.1
  refine eg_ifeq_b (tgt := 24) hx hb dX1_insert_5 (by decide) (fun h => Bool.noConfusion h) (fun _ => ?_)
  refine lv_iload_n hx hb dX1_insert_8 rfl (lv_at hl 2 rfl) ?_
  refine lv_iconst (v := nI 0) hx hb dX1_insert_9 (by decide +kernel) ?_
  refine lv_aload_n hx hb dX1_insert_10 rfl (lv_at hl 0 rfl) ?_
  refine va_get (D := D) (ci := 1) (v := .int (nI ((tx n lt tg (kn a)).length))) (C := RX1) (T := TX1) (N := 10) hx hb hts hin hown hK hP 0 rfl rfl 8 (by decide) (hts (.fieldLink RX1 49 "EditGraphModel" "length" "I") (by decide +kernel)) (fun _ h9 => h9) rfl dX1_insert_11 ?_
  refine eg_callS (As := [.int (nI pp), .int (nI 0), .int (nI ((tx n lt tg (kn a)).length))]) (rest := []) hx hb hml hown hts hK (c_X1_in l D cI cJ (nI pp) (nI 0) (nI ((tx n lt tg (kn a)).length)) ) (va_cwS 3 hts gX1_insert_X1_in rfl rfl rfl (by decide +kernel) ⟨Nat.le_of_ble_eq_true rfl, Nat.le_of_ble_eq_true rfl⟩) rfl hl.1 rfl (Nat.le_of_ble_eq_true rfl) dX1_insert_14 ⟨Nat.zero_le _, Nat.zero_le _⟩ ?_
  rw [show inr (nI pp) (nI 0) (nI ((tx n lt tg (kn a)).length)) = ev ((tx n lt tg (kn a)).length + 1) (nI pp) from inr_ev _ (by omega)]
  rw [show ev ((tx n lt tg (kn a)).length + 1) (nI pp) = true from ev_nI (by omega) (by omega)]
  refine eg_ifeq_b (tgt := 24) hx hb dX1_insert_17 (by decide) (fun h => Bool.noConfusion h) (fun _ => ?_)
  refine lv_iconst (v := nI 1) hx hb dX1_insert_20 (by decide +kernel) ?_
  refine lv_goto (tgt := 25) hx hb dX1_insert_21 (by decide) ?_
  refine lv_istore (lv' := [(4, .int (nI 1)), (0, .ref (q 0)), (1, .int (nI a)), (2, .int (nI pp)), (3, .int c9)]) hx hb dX1_insert_25 hl (by decide) rfl (fun ls hl => ?_)
  refine lv_aload_n hx hb dX1_insert_27 rfl (lv_at hl 1 rfl) ?_
  refine lv_iload hx hb dX1_insert_28 (lv_at hl 0 rfl) ?_
  refine lv_iload_n hx hb dX1_insert_30 rfl (lv_at hl 4 rfl) ?_
  refine lv_iconst (v := nI 0) hx hb dX1_insert_31 (by decide +kernel) ?_
  refine lv_bipush (v := nI 25) hx hb dX1_insert_32 (by decide +kernel) ?_
  refine eg_callS (As := [.int c9, .int (nI 0), .int (nI 25)]) (rest := [.int (nI 1), .ref (q 0)]) hx hb hml hown hts hK (c_X1_in l D cI cJ c9 (nI 0) (nI 25) ) (va_cwS 3 hts gX1_insert_X1_in rfl rfl rfl (by decide +kernel) ⟨Nat.le_of_ble_eq_true rfl, Nat.le_of_ble_eq_true rfl⟩) rfl hl.1 rfl (Nat.le_of_ble_eq_true rfl) dX1_insert_34 ⟨Nat.zero_le _, Nat.zero_le _⟩ ?_
  rw [show inr c9 (nI 0) (nI 25) = ev 26 c9 from inr_ev _ (by decide)]
  rw [hcv]
  refine lv_aload_n hx hb dX1_insert_37 rfl (lv_at hl 1 rfl) ?_
  refine va_get (D := D) (ci := 1) (v := .int (nI n)) (C := RX1) (T := TX1) (N := 10) hx hb hts hin hown hK hP 0 rfl rfl 5 (by decide) (hts (.fieldLink RX1 40 "EditGraphModel" "events" "I") (by decide +kernel)) (fun _ h9 => h9) rfl dX1_insert_38 ?_
  refine lv_bipush (v := nI 60) hx hb dX1_insert_41 (by decide +kernel) ?_
  refine eg_icmp_ge (tgt := 50) hx hb dX1_insert_43 (by decide) (by omega) (by omega) (fun c43 => ?_) (fun c43 => ?_)
  · refine lv_iconst (v := nI 0) hx hb dX1_insert_50 (by decide +kernel) ?_
    refine eg_callWV (As := [.int (eb true), .int (eb true), .int (eb false)]) (rest := []) hx hb hml hown hts hK hP hD rfl hS (c_X1_asked___ttf l D cI cJ q n mk lt tg pa an kn row1 (nI (tx n lt tg (kn a)).length) thr  ) (cwV 3 hts gX1_insert_X1_asked__ rfl rfl rfl (by decide +kernel) ⟨Nat.le_of_ble_eq_true rfl, Nat.le_of_ble_eq_true rfl⟩) (va_recv hK hP (ci := 1) (q0 := 0) rfl rfl) rfl hl.1 rfl (Nat.le_of_ble_eq_true rfl) dX1_insert_51 ⟨Nat.zero_le _, Nat.zero_le _⟩ (fun v9 w9 H locs hR9 hw9 hP hS => ?_)
    obtain ⟨rfl, rfl⟩ := hR9
    refine eg_ifeq_b (tgt := 82) hx hb dX1_insert_54 (by decide) (fun _ => ?_) (fun h => Bool.noConfusion h)
    refine lv_iconst (v := nI 0) hx hb dX1_insert_82 (by decide +kernel) ?_
    exact W.iret hx hb hr (fun t9 ht9 _ => ⟨some (.int (nI 0)), (wM q cI cJ (nI n) mk lt tg pa an kn row1 (nI (tx n lt tg (kn a)).length) (nI 3)), rfl, ⟨_, _, rfl, rfl⟩, rfl, by rw [ht9]; exact hP, hS.F ht9⟩) hS.2.2 dX1_insert_83
  · omega
set_option maxHeartbeats 4000000 in
set_option maxRecDepth 100000 in
theorem c_X1_delete (l : Launch) (D : va_G) (cI cJ : ClassId) (q : Nat → Nat) (n : Nat) (mk lt tg : Nat → Int32) (pa an kn : Nat → Int64) (row : Nat → Int32) (len thr : Int32) (a : Nat) (pp : Nat) (hI : Inv n lt tg an kn) (ha : a < 4) (hp : pp < (tx n lt tg (kn a)).length) (hnr : n < 60) : eg_MW D (tyL cI cJ) l yX1_delete wsX1_delete ({ frames := 3, cells := 0, slots := 0, locals := 70 }) 0 0 [.ref (q 0), .int (nI a), .int (nI pp)] (wM q cI cJ (nI n) mk lt tg pa an kn row len thr) (fun r w1 => ∃ (row' : Nat → Int32) (len' : Int32) (x : Nat), (tx n lt tg (kn a))[pp]? = some x ∧ r = some (.int (nI n)) ∧ w1 = wM q cI cJ (nI (n + 1)) (upd mk n (nI a)) (upd lt n (-1)) (upd tg n (nI x)) (vp_updL pa n (hdX pa (kn a) n)) (vp_updL an n (kn a)) (vp_updL kn a (kn a ||| ol n)) row' len' (nI 0)) := by
  refine Met.ofW (cc := cX1_delete) (maxL := 4) (ret := (some .int)) (by decide) rfl ?_
  intro p e s m args below meth c s₁ B hml hv
  obtain ⟨rfl, hP, hK, hD0⟩ := hv
  have hx := B.exec
  have hb := B.bytes
  have hr := B.returns
  have hts := atoms_spec (ws := wsX1_delete) B.pre
  have hown : s.vm.findClass RX1 = some m.cls := findClass_of_methodNamed B.named
  have hlocks := B.notSynchronized
  have hD := eg_D_of hD0
  have hS : va_S (eg_A (wM q cI cJ (nI n) mk lt tg pa an kn row len thr)) s.heap s.heap [] := va_S.rf
  have hin : ∀ w ∈ u_ws RX1 TX1 10, w ∈ wsX1_delete := by decide +kernel
  have hl := lv_entry ([.ref (q 0), .int (nI a), .int (nI pp)]) (n := 4) (Nat.le_of_ble_eq_true rfl)
  rw [lg_entry_eq]
  generalize (lg_sl ([.ref (q 0), .int (nI a), .int (nI pp)]) ++ List.replicate (4 - (lg_sl ([.ref (q 0), .int (nI a), .int (nI pp)])).length) Slot.unset).toArray = ls at hl ⊢
  have hl : lv_has ls 4 [(0, .ref (q 0)), (1, .int (nI a)), (2, .int (nI pp))] := hl
  generalize h0H : s.heap = H at hP ⊢
  have hS : va_S (eg_A (wM q cI cJ (nI n) mk lt tg pa an kn row len thr)) s.heap H [] := by rw [← h0H]; exact hS
  generalize ([] : List Loc) = locs at hS ⊢
  refine lv_aload_n hx hb dX1_delete_0 rfl (lv_at hl 0 rfl) ?_
  refine lv_iload_n hx hb dX1_delete_1 rfl (lv_at hl 1 rfl) ?_
  refine eg_callWV (As := [.int (nI a)]) (rest := []) hx hb hml hown hts hK hP hD rfl hS (c_X1_looks l D cI cJ q n mk lt tg pa an kn row len thr a hI ha) (cwV 1 hts gX1_delete_X1_looks rfl rfl rfl (by decide +kernel) ⟨Nat.le_of_ble_eq_true rfl, Nat.le_of_ble_eq_true rfl⟩) (va_recv hK hP (ci := 1) (q0 := 0) rfl rfl) rfl hl.1 rfl (Nat.le_of_ble_eq_true rfl) dX1_delete_2 ⟨Nat.zero_le _, Nat.zero_le _⟩ (fun v9 w9 H locs hR9 hw9 hP hS => ?_)
  obtain ⟨row1, rfl, rfl, hh⟩ := hR9
  have hT9 := tx_len hI (hI.vk ha)
  have hI1 := hI.1
  refine eg_ifeq_b (tgt := 26) hx hb dX1_delete_5 (by decide) (fun h => Bool.noConfusion h) (fun _ => ?_)
  refine lv_iload_n hx hb dX1_delete_8 rfl (lv_at hl 2 rfl) ?_
  refine lv_iconst (v := nI 0) hx hb dX1_delete_9 (by decide +kernel) ?_
  refine lv_aload_n hx hb dX1_delete_10 rfl (lv_at hl 0 rfl) ?_
  refine va_get (D := D) (ci := 1) (v := .int (nI ((tx n lt tg (kn a)).length))) (C := RX1) (T := TX1) (N := 10) hx hb hts hin hown hK hP 0 rfl rfl 8 (by decide) (hts (.fieldLink RX1 49 "EditGraphModel" "length" "I") (by decide +kernel)) (fun _ h9 => h9) rfl dX1_delete_11 ?_
  refine lv_iconst (v := nI 1) hx hb dX1_delete_14 (by decide +kernel) ?_
  refine lv_isub hx hb dX1_delete_15 ?_
  refine eg_callS (As := [.int (nI pp), .int (nI 0), .int ((nI ((tx n lt tg (kn a)).length)) - (nI 1))]) (rest := []) hx hb hml hown hts hK (c_X1_in l D cI cJ (nI pp) (nI 0) ((nI ((tx n lt tg (kn a)).length)) - (nI 1)) ) (va_cwS 3 hts gX1_delete_X1_in rfl rfl rfl (by decide +kernel) ⟨Nat.le_of_ble_eq_true rfl, Nat.le_of_ble_eq_true rfl⟩) rfl hl.1 rfl (Nat.le_of_ble_eq_true rfl) dX1_delete_16 ⟨Nat.zero_le _, Nat.zero_le _⟩ ?_
  rw [inr_sub (L := ((tx n lt tg (kn a)).length)) _ (by omega)]
  rw [show ev ((tx n lt tg (kn a)).length) (nI pp) = true from ev_nI (by omega) (by omega)]
  refine eg_ifeq_b (tgt := 26) hx hb dX1_delete_19 (by decide) (fun h => Bool.noConfusion h) (fun _ => ?_)
  refine lv_iconst (v := nI 1) hx hb dX1_delete_22 (by decide +kernel) ?_
  refine lv_goto (tgt := 27) hx hb dX1_delete_23 (by decide) ?_
  refine lv_istore_n (lv' := [(3, .int (nI 1)), (0, .ref (q 0)), (1, .int (nI a)), (2, .int (nI pp))]) hx hb dX1_delete_27 rfl hl (by decide) rfl (fun ls hl => ?_)
  refine lv_aload_n hx hb dX1_delete_28 rfl (lv_at hl 1 rfl) ?_
  refine lv_iload_n hx hb dX1_delete_29 rfl (lv_at hl 0 rfl) ?_
  refine lv_aload_n hx hb dX1_delete_30 rfl (lv_at hl 1 rfl) ?_
  refine va_get (D := D) (ci := 1) (v := .int (nI n)) (C := RX1) (T := TX1) (N := 10) hx hb hts hin hown hK hP 0 rfl rfl 5 (by decide) (hts (.fieldLink RX1 40 "EditGraphModel" "events" "I") (by decide +kernel)) (fun _ h9 => h9) rfl dX1_delete_31 ?_
  refine lv_bipush (v := nI 60) hx hb dX1_delete_34 (by decide +kernel) ?_
  refine eg_icmp_ge (tgt := 43) hx hb dX1_delete_36 (by decide) (by omega) (by omega) (fun c36 => ?_) (fun c36 => ?_)
  · omega
  · refine lv_iconst (v := nI 1) hx hb dX1_delete_39 (by decide +kernel) ?_
    refine lv_goto (tgt := 44) hx hb dX1_delete_40 (by decide) ?_
    refine eg_callWV (As := [.int (eb true), .int (eb true)]) (rest := []) hx hb hml hown hts hK hP hD rfl hS (c_X1_asked__tt l D cI cJ q n mk lt tg pa an kn row1 (nI (tx n lt tg (kn a)).length) thr  ) (cwV 2 hts gX1_delete_X1_asked_ rfl rfl rfl (by decide +kernel) ⟨Nat.le_of_ble_eq_true rfl, Nat.le_of_ble_eq_true rfl⟩) (va_recv hK hP (ci := 1) (q0 := 0) rfl rfl) rfl hl.1 rfl (Nat.le_of_ble_eq_true rfl) dX1_delete_44 ⟨Nat.zero_le _, Nat.zero_le _⟩ (fun v9 w9 H locs hR9 hw9 hP hS => ?_)
    obtain ⟨rfl, rfl⟩ := hR9
    refine eg_ifeq_b (tgt := 65) hx hb dX1_delete_47 (by decide) (fun h => Bool.noConfusion h) (fun _ => ?_)
    refine lv_aload_n hx hb dX1_delete_50 rfl (lv_at hl 1 rfl) ?_
    refine lv_iload_n hx hb dX1_delete_51 rfl (lv_at hl 2 rfl) ?_
    refine lv_iconst (v := (-1)) hx hb dX1_delete_52 (by decide +kernel) ?_
    refine lv_aload_n hx hb dX1_delete_53 rfl (lv_at hl 1 rfl) ?_
    refine va_get (D := D) (ci := 1) (v := .ref (q 7)) (C := RX1) (T := TX1) (N := 10) hx hb hts hin hown hK hP 0 rfl rfl 7 (by decide) (hts (.fieldLink RX1 29 "EditGraphModel" "row" "[I") (by decide +kernel)) (fun _ h9 => h9) rfl dX1_delete_54 ?_
    refine lv_iload_n hx hb dX1_delete_57 rfl (lv_at hl 3 rfl) ?_
    refine eg_iald hx hb hK hP 7 0 rfl rfl (by omega) (by decide) dX1_delete_58 ?_
    obtain ⟨x9, hx9⟩ := getq (L := (tx n lt tg (kn a))) (k := pp) hp
    rw [hh _ _ hx9]
    have hxn := (tx_mem (List.mem_of_getElem? hx9)).1
    refine eg_callWV (As := [.int (nI a), .int (-1), .int (nI x9)]) (rest := []) hx hb hml hown hts hK hP hD rfl hS (c_X1_makes l D cI cJ q n mk lt tg pa an kn row1 (nI (tx n lt tg (kn a)).length) (nI 0) a (-1) (nI x9) hnr ha) (cwV 3 hts gX1_delete_X1_makes rfl rfl rfl (by decide +kernel) ⟨Nat.le_of_ble_eq_true rfl, Nat.le_of_ble_eq_true rfl⟩) (va_recv hK hP (ci := 1) (q0 := 0) rfl rfl) rfl hl.1 rfl (Nat.le_of_ble_eq_true rfl) dX1_delete_59 ⟨Nat.zero_le _, Nat.zero_le _⟩ (fun v9 w9 H locs hR9 hw9 hP hS => ?_)
    obtain ⟨rfl, rfl⟩ := hR9
    refine lv_goto (tgt := 66) hx hb dX1_delete_62 (by decide) ?_
    exact W.iret hx hb hr (fun t9 ht9 _ => ⟨some (.int (nI n)), (wM q cI cJ (nI (n + 1)) (upd mk n (nI a)) (upd lt n (-1)) (upd tg n (nI x9)) (vp_updL pa n (hdX pa (kn a) n)) (vp_updL an n (kn a)) (vp_updL kn a (kn a ||| ol n)) row1 (nI (tx n lt tg (kn a)).length) (nI 0)), rfl, ⟨_, _, x9, hx9, rfl, rfl⟩, rfl, by rw [ht9]; exact hP, hS.F ht9⟩) hS.2.2 dX1_delete_66
set_option maxHeartbeats 4000000 in
set_option maxRecDepth 100000 in
theorem c_X1_delete_no1 (l : Launch) (D : va_G) (cI cJ : ClassId) (q : Nat → Nat) (n : Nat) (mk lt tg : Nat → Int32) (pa an kn : Nat → Int64) (row : Nat → Int32) (len thr : Int32) (x : Int32) (y : Int32) (hn : n ≤ 60) (hbad : bad 4 x) : eg_MW D (tyL cI cJ) l yX1_delete wsX1_delete ({ frames := 3, cells := 0, slots := 0, locals := 64 }) 0 0 [.ref (q 0), .int x, .int y] (wM q cI cJ (nI n) mk lt tg pa an kn row len thr) (fun r w1 => ∃ (row' : Nat → Int32) (len' : Int32), r = some (.int (nI 0)) ∧ w1 = wM q cI cJ (nI n) mk lt tg pa an kn row' len' (nI 1)) := by
  refine Met.ofW (cc := cX1_delete) (maxL := 4) (ret := (some .int)) (by decide) rfl ?_
  intro p e s m args below meth c s₁ B hml hv
  obtain ⟨rfl, hP, hK, hD0⟩ := hv
  have hx := B.exec
  have hb := B.bytes
  have hr := B.returns
  have hts := atoms_spec (ws := wsX1_delete) B.pre
  have hown : s.vm.findClass RX1 = some m.cls := findClass_of_methodNamed B.named
  have hlocks := B.notSynchronized
  have hD := eg_D_of hD0
  have hS : va_S (eg_A (wM q cI cJ (nI n) mk lt tg pa an kn row len thr)) s.heap s.heap [] := va_S.rf
  have hin : ∀ w ∈ u_ws RX1 TX1 10, w ∈ wsX1_delete := by decide +kernel
  have hl := lv_entry ([.ref (q 0), .int x, .int y]) (n := 4) (Nat.le_of_ble_eq_true rfl)
  rw [lg_entry_eq]
  generalize (lg_sl ([.ref (q 0), .int x, .int y]) ++ List.replicate (4 - (lg_sl ([.ref (q 0), .int x, .int y])).length) Slot.unset).toArray = ls at hl ⊢
  have hl : lv_has ls 4 [(0, .ref (q 0)), (1, .int x), (2, .int y)] := hl
  generalize h0H : s.heap = H at hP ⊢
  have hS : va_S (eg_A (wM q cI cJ (nI n) mk lt tg pa an kn row len thr)) s.heap H [] := by rw [← h0H]; exact hS
  generalize ([] : List Loc) = locs at hS ⊢
  refine lv_aload_n hx hb dX1_delete_0 rfl (lv_at hl 0 rfl) ?_
  refine lv_iload_n hx hb dX1_delete_1 rfl (lv_at hl 1 rfl) ?_
  refine eg_callWV (As := [.int x]) (rest := []) hx hb hml hown hts hK hP hD rfl hS (c_X1_looks_no l D cI cJ q n mk lt tg pa an kn row len thr x hbad) (cwV 1 hts gX1_delete_X1_looks rfl rfl rfl (by decide +kernel) ⟨Nat.le_of_ble_eq_true rfl, Nat.le_of_ble_eq_true rfl⟩) (va_recv hK hP (ci := 1) (q0 := 0) rfl rfl) rfl hl.1 rfl (Nat.le_of_ble_eq_true rfl) dX1_delete_2 ⟨Nat.zero_le _, Nat.zero_le _⟩ (fun v9 w9 H locs hR9 hw9 hP hS => ?_)
  obtain ⟨rfl, rfl⟩ := hR9
  refine eg_ifeq_b (tgt := 26) hx hb dX1_delete_5 (by decide) (fun _ => ?_) (fun h => Bool.noConfusion h)
  refine lv_iconst (v := nI 0) hx hb dX1_delete_26 (by decide +kernel) ?_
  refine lv_istore_n (lv' := [(3, .int (nI 0)), (0, .ref (q 0)), (1, .int x), (2, .int y)]) hx hb dX1_delete_27 rfl hl (by decide) rfl (fun ls hl => ?_)
  refine lv_aload_n hx hb dX1_delete_28 rfl (lv_at hl 1 rfl) ?_
  refine lv_iload_n hx hb dX1_delete_29 rfl (lv_at hl 0 rfl) ?_
  refine lv_aload_n hx hb dX1_delete_30 rfl (lv_at hl 1 rfl) ?_
  refine va_get (D := D) (ci := 1) (v := .int (nI n)) (C := RX1) (T := TX1) (N := 10) hx hb hts hin hown hK hP 0 rfl rfl 5 (by decide) (hts (.fieldLink RX1 40 "EditGraphModel" "events" "I") (by decide +kernel)) (fun _ h9 => h9) rfl dX1_delete_31 ?_
  refine lv_bipush (v := nI 60) hx hb dX1_delete_34 (by decide +kernel) ?_
  refine eg_icmp_ge (tgt := 43) hx hb dX1_delete_36 (by decide) (by omega) (by omega) (fun c36 => ?_) (fun c36 => ?_)
  · refine lv_iconst (v := nI 0) hx hb dX1_delete_43 (by decide +kernel) ?_
    refine eg_callWV (As := [.int (eb false), .int (eb false)]) (rest := []) hx hb hml hown hts hK hP hD rfl hS (c_X1_asked__f l D cI cJ q n mk lt tg pa an kn row len thr false ) (cwV 2 hts gX1_delete_X1_asked_ rfl rfl rfl (by decide +kernel) ⟨Nat.le_of_ble_eq_true rfl, Nat.le_of_ble_eq_true rfl⟩) (va_recv hK hP (ci := 1) (q0 := 0) rfl rfl) rfl hl.1 rfl (Nat.le_of_ble_eq_true rfl) dX1_delete_44 ⟨Nat.zero_le _, Nat.zero_le _⟩ (fun v9 w9 H locs hR9 hw9 hP hS => ?_)
    obtain ⟨rfl, rfl⟩ := hR9
    refine eg_ifeq_b (tgt := 65) hx hb dX1_delete_47 (by decide) (fun _ => ?_) (fun h => Bool.noConfusion h)
    refine lv_iconst (v := nI 0) hx hb dX1_delete_65 (by decide +kernel) ?_
    exact W.iret hx hb hr (fun t9 ht9 _ => ⟨some (.int (nI 0)), (wM q cI cJ (nI n) mk lt tg pa an kn row len (nI 1)), rfl, ⟨_, _, rfl, rfl⟩, rfl, by rw [ht9]; exact hP, hS.F ht9⟩) hS.2.2 dX1_delete_66
  · refine lv_iconst (v := nI 1) hx hb dX1_delete_39 (by decide +kernel) ?_
    refine lv_goto (tgt := 44) hx hb dX1_delete_40 (by decide) ?_
    refine eg_callWV (As := [.int (eb false), .int (eb true)]) (rest := []) hx hb hml hown hts hK hP hD rfl hS (c_X1_asked__f l D cI cJ q n mk lt tg pa an kn row len thr true ) (cwV 2 hts gX1_delete_X1_asked_ rfl rfl rfl (by decide +kernel) ⟨Nat.le_of_ble_eq_true rfl, Nat.le_of_ble_eq_true rfl⟩) (va_recv hK hP (ci := 1) (q0 := 0) rfl rfl) rfl hl.1 rfl (Nat.le_of_ble_eq_true rfl) dX1_delete_44 ⟨Nat.zero_le _, Nat.zero_le _⟩ (fun v9 w9 H locs hR9 hw9 hP hS => ?_)
    obtain ⟨rfl, rfl⟩ := hR9
    refine eg_ifeq_b (tgt := 65) hx hb dX1_delete_47 (by decide) (fun _ => ?_) (fun h => Bool.noConfusion h)
    refine lv_iconst (v := nI 0) hx hb dX1_delete_65 (by decide +kernel) ?_
    exact W.iret hx hb hr (fun t9 ht9 _ => ⟨some (.int (nI 0)), (wM q cI cJ (nI n) mk lt tg pa an kn row len (nI 1)), rfl, ⟨_, _, rfl, rfl⟩, rfl, by rw [ht9]; exact hP, hS.F ht9⟩) hS.2.2 dX1_delete_66
set_option maxHeartbeats 4000000 in
set_option maxRecDepth 100000 in
theorem c_X1_delete_no2 (l : Launch) (D : va_G) (cI cJ : ClassId) (q : Nat → Nat) (n : Nat) (mk lt tg : Nat → Int32) (pa an kn : Nat → Int64) (row : Nat → Int32) (len thr : Int32) (a : Nat) (y : Int32) (hI : Inv n lt tg an kn) (ha : a < 4) (hbad : bad (tx n lt tg (kn a)).length y) : eg_MW D (tyL cI cJ) l yX1_delete wsX1_delete ({ frames := 3, cells := 0, slots := 0, locals := 70 }) 0 0 [.ref (q 0), .int (nI a), .int y] (wM q cI cJ (nI n) mk lt tg pa an kn row len thr) (fun r w1 => ∃ (row' : Nat → Int32) (len' : Int32), r = some (.int (nI 0)) ∧ w1 = wM q cI cJ (nI n) mk lt tg pa an kn row' len' (nI 1)) := by
  refine Met.ofW (cc := cX1_delete) (maxL := 4) (ret := (some .int)) (by decide) rfl ?_
  intro p e s m args below meth c s₁ B hml hv
  obtain ⟨rfl, hP, hK, hD0⟩ := hv
  have hx := B.exec
  have hb := B.bytes
  have hr := B.returns
  have hts := atoms_spec (ws := wsX1_delete) B.pre
  have hown : s.vm.findClass RX1 = some m.cls := findClass_of_methodNamed B.named
  have hlocks := B.notSynchronized
  have hD := eg_D_of hD0
  have hS : va_S (eg_A (wM q cI cJ (nI n) mk lt tg pa an kn row len thr)) s.heap s.heap [] := va_S.rf
  have hin : ∀ w ∈ u_ws RX1 TX1 10, w ∈ wsX1_delete := by decide +kernel
  have hl := lv_entry ([.ref (q 0), .int (nI a), .int y]) (n := 4) (Nat.le_of_ble_eq_true rfl)
  rw [lg_entry_eq]
  generalize (lg_sl ([.ref (q 0), .int (nI a), .int y]) ++ List.replicate (4 - (lg_sl ([.ref (q 0), .int (nI a), .int y])).length) Slot.unset).toArray = ls at hl ⊢
  have hl : lv_has ls 4 [(0, .ref (q 0)), (1, .int (nI a)), (2, .int y)] := hl
  generalize h0H : s.heap = H at hP ⊢
  have hS : va_S (eg_A (wM q cI cJ (nI n) mk lt tg pa an kn row len thr)) s.heap H [] := by rw [← h0H]; exact hS
  generalize ([] : List Loc) = locs at hS ⊢
  refine lv_aload_n hx hb dX1_delete_0 rfl (lv_at hl 0 rfl) ?_
  refine lv_iload_n hx hb dX1_delete_1 rfl (lv_at hl 1 rfl) ?_
  refine eg_callWV (As := [.int (nI a)]) (rest := []) hx hb hml hown hts hK hP hD rfl hS (c_X1_looks l D cI cJ q n mk lt tg pa an kn row len thr a hI ha) (cwV 1 hts gX1_delete_X1_looks rfl rfl rfl (by decide +kernel) ⟨Nat.le_of_ble_eq_true rfl, Nat.le_of_ble_eq_true rfl⟩) (va_recv hK hP (ci := 1) (q0 := 0) rfl rfl) rfl hl.1 rfl (Nat.le_of_ble_eq_true rfl) dX1_delete_2 ⟨Nat.zero_le _, Nat.zero_le _⟩ (fun v9 w9 H locs hR9 hw9 hP hS => ?_)
  obtain ⟨row1, rfl, rfl, hh⟩ := hR9
  have hT9 := tx_len hI (hI.vk ha)
  have hI1 := hI.1
  refine eg_ifeq_b (tgt := 26) hx hb dX1_delete_5 (by decide) (fun h => Bool.noConfusion h) (fun _ => ?_)
  refine lv_iload_n hx hb dX1_delete_8 rfl (lv_at hl 2 rfl) ?_
  refine lv_iconst (v := nI 0) hx hb dX1_delete_9 (by decide +kernel) ?_
  refine lv_aload_n hx hb dX1_delete_10 rfl (lv_at hl 0 rfl) ?_
  refine va_get (D := D) (ci := 1) (v := .int (nI ((tx n lt tg (kn a)).length))) (C := RX1) (T := TX1) (N := 10) hx hb hts hin hown hK hP 0 rfl rfl 8 (by decide) (hts (.fieldLink RX1 49 "EditGraphModel" "length" "I") (by decide +kernel)) (fun _ h9 => h9) rfl dX1_delete_11 ?_
  refine lv_iconst (v := nI 1) hx hb dX1_delete_14 (by decide +kernel) ?_
  refine lv_isub hx hb dX1_delete_15 ?_
  refine eg_callS (As := [.int y, .int (nI 0), .int ((nI ((tx n lt tg (kn a)).length)) - (nI 1))]) (rest := []) hx hb hml hown hts hK (c_X1_in l D cI cJ y (nI 0) ((nI ((tx n lt tg (kn a)).length)) - (nI 1)) ) (va_cwS 3 hts gX1_delete_X1_in rfl rfl rfl (by decide +kernel) ⟨Nat.le_of_ble_eq_true rfl, Nat.le_of_ble_eq_true rfl⟩) rfl hl.1 rfl (Nat.le_of_ble_eq_true rfl) dX1_delete_16 ⟨Nat.zero_le _, Nat.zero_le _⟩ ?_
  rw [inr_sub (L := ((tx n lt tg (kn a)).length)) _ (by omega)]
  rw [show ev ((tx n lt tg (kn a)).length) y = false from bad_ev hbad]
  refine eg_ifeq_b (tgt := 26) hx hb dX1_delete_19 (by decide) (fun _ => ?_) (fun h => Bool.noConfusion h)
  refine lv_iconst (v := nI 0) hx hb dX1_delete_26 (by decide +kernel) ?_
  refine lv_istore_n (lv' := [(3, .int (nI 0)), (0, .ref (q 0)), (1, .int (nI a)), (2, .int y)]) hx hb dX1_delete_27 rfl hl (by decide) rfl (fun ls hl => ?_)
  refine lv_aload_n hx hb dX1_delete_28 rfl (lv_at hl 1 rfl) ?_
  refine lv_iload_n hx hb dX1_delete_29 rfl (lv_at hl 0 rfl) ?_
  refine lv_aload_n hx hb dX1_delete_30 rfl (lv_at hl 1 rfl) ?_
  refine va_get (D := D) (ci := 1) (v := .int (nI n)) (C := RX1) (T := TX1) (N := 10) hx hb hts hin hown hK hP 0 rfl rfl 5 (by decide) (hts (.fieldLink RX1 40 "EditGraphModel" "events" "I") (by decide +kernel)) (fun _ h9 => h9) rfl dX1_delete_31 ?_
  refine lv_bipush (v := nI 60) hx hb dX1_delete_34 (by decide +kernel) ?_
  refine eg_icmp_ge (tgt := 43) hx hb dX1_delete_36 (by decide) (by omega) (by omega) (fun c36 => ?_) (fun c36 => ?_)
  · refine lv_iconst (v := nI 0) hx hb dX1_delete_43 (by decide +kernel) ?_
    refine eg_callWV (As := [.int (eb false), .int (eb false)]) (rest := []) hx hb hml hown hts hK hP hD rfl hS (c_X1_asked__f l D cI cJ q n mk lt tg pa an kn row1 (nI (tx n lt tg (kn a)).length) thr false ) (cwV 2 hts gX1_delete_X1_asked_ rfl rfl rfl (by decide +kernel) ⟨Nat.le_of_ble_eq_true rfl, Nat.le_of_ble_eq_true rfl⟩) (va_recv hK hP (ci := 1) (q0 := 0) rfl rfl) rfl hl.1 rfl (Nat.le_of_ble_eq_true rfl) dX1_delete_44 ⟨Nat.zero_le _, Nat.zero_le _⟩ (fun v9 w9 H locs hR9 hw9 hP hS => ?_)
    obtain ⟨rfl, rfl⟩ := hR9
    refine eg_ifeq_b (tgt := 65) hx hb dX1_delete_47 (by decide) (fun _ => ?_) (fun h => Bool.noConfusion h)
    refine lv_iconst (v := nI 0) hx hb dX1_delete_65 (by decide +kernel) ?_
    exact W.iret hx hb hr (fun t9 ht9 _ => ⟨some (.int (nI 0)), (wM q cI cJ (nI n) mk lt tg pa an kn row1 (nI (tx n lt tg (kn a)).length) (nI 1)), rfl, ⟨_, _, rfl, rfl⟩, rfl, by rw [ht9]; exact hP, hS.F ht9⟩) hS.2.2 dX1_delete_66
  · refine lv_iconst (v := nI 1) hx hb dX1_delete_39 (by decide +kernel) ?_
    refine lv_goto (tgt := 44) hx hb dX1_delete_40 (by decide) ?_
    refine eg_callWV (As := [.int (eb false), .int (eb true)]) (rest := []) hx hb hml hown hts hK hP hD rfl hS (c_X1_asked__f l D cI cJ q n mk lt tg pa an kn row1 (nI (tx n lt tg (kn a)).length) thr true ) (cwV 2 hts gX1_delete_X1_asked_ rfl rfl rfl (by decide +kernel) ⟨Nat.le_of_ble_eq_true rfl, Nat.le_of_ble_eq_true rfl⟩) (va_recv hK hP (ci := 1) (q0 := 0) rfl rfl) rfl hl.1 rfl (Nat.le_of_ble_eq_true rfl) dX1_delete_44 ⟨Nat.zero_le _, Nat.zero_le _⟩ (fun v9 w9 H locs hR9 hw9 hP hS => ?_)
    obtain ⟨rfl, rfl⟩ := hR9
    refine eg_ifeq_b (tgt := 65) hx hb dX1_delete_47 (by decide) (fun _ => ?_) (fun h => Bool.noConfusion h)
    refine lv_iconst (v := nI 0) hx hb dX1_delete_65 (by decide +kernel) ?_
    exact W.iret hx hb hr (fun t9 ht9 _ => ⟨some (.int (nI 0)), (wM q cI cJ (nI n) mk lt tg pa an kn row1 (nI (tx n lt tg (kn a)).length) (nI 1)), rfl, ⟨_, _, rfl, rfl⟩, rfl, by rw [ht9]; exact hP, hS.F ht9⟩) hS.2.2 dX1_delete_66
set_option maxHeartbeats 4000000 in
set_option maxRecDepth 100000 in
theorem c_X1_delete_no3 (l : Launch) (D : va_G) (cI cJ : ClassId) (q : Nat → Nat) (n : Nat) (mk lt tg : Nat → Int32) (pa an kn : Nat → Int64) (row : Nat → Int32) (len thr : Int32) (a : Nat) (pp : Nat) (hI : Inv n lt tg an kn) (ha : a < 4) (hp : pp < (tx n lt tg (kn a)).length) (hnr : 60 ≤ n) : eg_MW D (tyL cI cJ) l yX1_delete wsX1_delete ({ frames := 3, cells := 0, slots := 0, locals := 70 }) 0 0 [.ref (q 0), .int (nI a), .int (nI pp)] (wM q cI cJ (nI n) mk lt tg pa an kn row len thr) (fun r w1 => ∃ (row' : Nat → Int32) (len' : Int32), r = some (.int (nI 0)) ∧ w1 = wM q cI cJ (nI n) mk lt tg pa an kn row' len' (nI 2)) := by
  refine Met.ofW (cc := cX1_delete) (maxL := 4) (ret := (some .int)) (by decide) rfl ?_
  intro p e s m args below meth c s₁ B hml hv
  obtain ⟨rfl, hP, hK, hD0⟩ := hv
  have hx := B.exec
  have hb := B.bytes
  have hr := B.returns
  have hts := atoms_spec (ws := wsX1_delete) B.pre
  have hown : s.vm.findClass RX1 = some m.cls := findClass_of_methodNamed B.named
  have hlocks := B.notSynchronized
  have hD := eg_D_of hD0
  have hS : va_S (eg_A (wM q cI cJ (nI n) mk lt tg pa an kn row len thr)) s.heap s.heap [] := va_S.rf
  have hin : ∀ w ∈ u_ws RX1 TX1 10, w ∈ wsX1_delete := by decide +kernel
  have hl := lv_entry ([.ref (q 0), .int (nI a), .int (nI pp)]) (n := 4) (Nat.le_of_ble_eq_true rfl)
  rw [lg_entry_eq]
  generalize (lg_sl ([.ref (q 0), .int (nI a), .int (nI pp)]) ++ List.replicate (4 - (lg_sl ([.ref (q 0), .int (nI a), .int (nI pp)])).length) Slot.unset).toArray = ls at hl ⊢
  have hl : lv_has ls 4 [(0, .ref (q 0)), (1, .int (nI a)), (2, .int (nI pp))] := hl
  generalize h0H : s.heap = H at hP ⊢
  have hS : va_S (eg_A (wM q cI cJ (nI n) mk lt tg pa an kn row len thr)) s.heap H [] := by rw [← h0H]; exact hS
  generalize ([] : List Loc) = locs at hS ⊢
  refine lv_aload_n hx hb dX1_delete_0 rfl (lv_at hl 0 rfl) ?_
  refine lv_iload_n hx hb dX1_delete_1 rfl (lv_at hl 1 rfl) ?_
  refine eg_callWV (As := [.int (nI a)]) (rest := []) hx hb hml hown hts hK hP hD rfl hS (c_X1_looks l D cI cJ q n mk lt tg pa an kn row len thr a hI ha) (cwV 1 hts gX1_delete_X1_looks rfl rfl rfl (by decide +kernel) ⟨Nat.le_of_ble_eq_true rfl, Nat.le_of_ble_eq_true rfl⟩) (va_recv hK hP (ci := 1) (q0 := 0) rfl rfl) rfl hl.1 rfl (Nat.le_of_ble_eq_true rfl) dX1_delete_2 ⟨Nat.zero_le _, Nat.zero_le _⟩ (fun v9 w9 H locs hR9 hw9 hP hS => ?_)
  obtain ⟨row1, rfl, rfl, hh⟩ := hR9
  have hT9 := tx_len hI (hI.vk ha)
  have hI1 := hI.1
  refine eg_ifeq_b (tgt := 26) hx hb dX1_delete_5 (by decide) (fun h => Bool.noConfusion h) (fun _ => ?_)
  refine lv_iload_n hx hb dX1_delete_8 rfl (lv_at hl 2 rfl) ?_
  refine lv_iconst (v := nI 0) hx hb dX1_delete_9 (by decide +kernel) ?_
  refine lv_aload_n hx hb dX1_delete_10 rfl (lv_at hl 0 rfl) ?_
  refine va_get (D := D) (ci := 1) (v := .int (nI ((tx n lt tg (kn a)).length))) (C := RX1) (T := TX1) (N := 10) hx hb hts hin hown hK hP 0 rfl rfl 8 (by decide) (hts (.fieldLink RX1 49 "EditGraphModel" "length" "I") (by decide +kernel)) (fun _ h9 => h9) rfl dX1_delete_11 ?_
  refine lv_iconst (v := nI 1) hx hb dX1_delete_14 (by decide +kernel) ?_
  refine lv_isub hx hb dX1_delete_15 ?_
  refine eg_callS (As := [.int (nI pp), .int (nI 0), .int ((nI ((tx n lt tg (kn a)).length)) - (nI 1))]) (rest := []) hx hb hml hown hts hK (c_X1_in l D cI cJ (nI pp) (nI 0) ((nI ((tx n lt tg (kn a)).length)) - (nI 1)) ) (va_cwS 3 hts gX1_delete_X1_in rfl rfl rfl (by decide +kernel) ⟨Nat.le_of_ble_eq_true rfl, Nat.le_of_ble_eq_true rfl⟩) rfl hl.1 rfl (Nat.le_of_ble_eq_true rfl) dX1_delete_16 ⟨Nat.zero_le _, Nat.zero_le _⟩ ?_
  rw [inr_sub (L := ((tx n lt tg (kn a)).length)) _ (by omega)]
  rw [show ev ((tx n lt tg (kn a)).length) (nI pp) = true from ev_nI (by omega) (by omega)]
  refine eg_ifeq_b (tgt := 26) hx hb dX1_delete_19 (by decide) (fun h => Bool.noConfusion h) (fun _ => ?_)
  refine lv_iconst (v := nI 1) hx hb dX1_delete_22 (by decide +kernel) ?_
  refine lv_goto (tgt := 27) hx hb dX1_delete_23 (by decide) ?_
  refine lv_istore_n (lv' := [(3, .int (nI 1)), (0, .ref (q 0)), (1, .int (nI a)), (2, .int (nI pp))]) hx hb dX1_delete_27 rfl hl (by decide) rfl (fun ls hl => ?_)
  refine lv_aload_n hx hb dX1_delete_28 rfl (lv_at hl 1 rfl) ?_
  refine lv_iload_n hx hb dX1_delete_29 rfl (lv_at hl 0 rfl) ?_
  refine lv_aload_n hx hb dX1_delete_30 rfl (lv_at hl 1 rfl) ?_
  refine va_get (D := D) (ci := 1) (v := .int (nI n)) (C := RX1) (T := TX1) (N := 10) hx hb hts hin hown hK hP 0 rfl rfl 5 (by decide) (hts (.fieldLink RX1 40 "EditGraphModel" "events" "I") (by decide +kernel)) (fun _ h9 => h9) rfl dX1_delete_31 ?_
  refine lv_bipush (v := nI 60) hx hb dX1_delete_34 (by decide +kernel) ?_
  refine eg_icmp_ge (tgt := 43) hx hb dX1_delete_36 (by decide) (by omega) (by omega) (fun c36 => ?_) (fun c36 => ?_)
  · refine lv_iconst (v := nI 0) hx hb dX1_delete_43 (by decide +kernel) ?_
    refine eg_callWV (As := [.int (eb true), .int (eb false)]) (rest := []) hx hb hml hown hts hK hP hD rfl hS (c_X1_asked__tf l D cI cJ q n mk lt tg pa an kn row1 (nI (tx n lt tg (kn a)).length) thr  ) (cwV 2 hts gX1_delete_X1_asked_ rfl rfl rfl (by decide +kernel) ⟨Nat.le_of_ble_eq_true rfl, Nat.le_of_ble_eq_true rfl⟩) (va_recv hK hP (ci := 1) (q0 := 0) rfl rfl) rfl hl.1 rfl (Nat.le_of_ble_eq_true rfl) dX1_delete_44 ⟨Nat.zero_le _, Nat.zero_le _⟩ (fun v9 w9 H locs hR9 hw9 hP hS => ?_)
    obtain ⟨rfl, rfl⟩ := hR9
    refine eg_ifeq_b (tgt := 65) hx hb dX1_delete_47 (by decide) (fun _ => ?_) (fun h => Bool.noConfusion h)
    refine lv_iconst (v := nI 0) hx hb dX1_delete_65 (by decide +kernel) ?_
    exact W.iret hx hb hr (fun t9 ht9 _ => ⟨some (.int (nI 0)), (wM q cI cJ (nI n) mk lt tg pa an kn row1 (nI (tx n lt tg (kn a)).length) (nI 2)), rfl, ⟨_, _, rfl, rfl⟩, rfl, by rw [ht9]; exact hP, hS.F ht9⟩) hS.2.2 dX1_delete_66
  · omega
set_option maxHeartbeats 4000000 in
set_option maxRecDepth 100000 in
theorem c_X1_learn (l : Launch) (D : va_G) (cI cJ : ClassId) (q : Nat → Nat) (n : Nat) (mk lt tg : Nat → Int32) (pa an kn : Nat → Int64) (row : Nat → Int32) (len thr : Int32) (a : Nat) (b : Nat) (hI : Inv n lt tg an kn) (ha : a < 4) (hb4 : b < 4) : eg_MW D (tyL cI cJ) l yX1_learn wsX1_learn ({ frames := 3, cells := 0, slots := 0, locals := 70 }) 0 0 [.ref (q 0), .int (nI a), .int (nI b)] (wM q cI cJ (nI n) mk lt tg pa an kn row len thr) (fun r w1 => r = some (.int (nI (pc64 (kn b &&& (kn a ^^^ (-1)))))) ∧ w1 = wM q cI cJ (nI n) mk lt tg pa an (vp_updL kn a (kn a ||| kn b)) row len (nI 0)) := by
  refine Met.ofW (cc := cX1_learn) (maxL := 3) (ret := (some .int)) (by decide) rfl ?_
  intro p e s m args below meth c s₁ B hml hv
  obtain ⟨rfl, hP, hK, hD0⟩ := hv
  have hx := B.exec
  have hb := B.bytes
  have hr := B.returns
  have hts := atoms_spec (ws := wsX1_learn) B.pre
  have hown : s.vm.findClass RX1 = some m.cls := findClass_of_methodNamed B.named
  have hlocks := B.notSynchronized
  have hD := eg_D_of hD0
  have hS : va_S (eg_A (wM q cI cJ (nI n) mk lt tg pa an kn row len thr)) s.heap s.heap [] := va_S.rf
  have hin : ∀ w ∈ u_ws RX1 TX1 10, w ∈ wsX1_learn := by decide +kernel
  have hl := lv_entry ([.ref (q 0), .int (nI a), .int (nI b)]) (n := 3) (Nat.le_of_ble_eq_true rfl)
  rw [lg_entry_eq]
  generalize (lg_sl ([.ref (q 0), .int (nI a), .int (nI b)]) ++ List.replicate (3 - (lg_sl ([.ref (q 0), .int (nI a), .int (nI b)])).length) Slot.unset).toArray = ls at hl ⊢
  have hl : lv_has ls 3 [(0, .ref (q 0)), (1, .int (nI a)), (2, .int (nI b))] := hl
  generalize h0H : s.heap = H at hP ⊢
  have hS : va_S (eg_A (wM q cI cJ (nI n) mk lt tg pa an kn row len thr)) s.heap H [] := by rw [← h0H]; exact hS
  generalize ([] : List Loc) = locs at hS ⊢
  refine lv_aload_n hx hb dX1_learn_0 rfl (lv_at hl 0 rfl) ?_
  refine lv_iload_n hx hb dX1_learn_1 rfl (lv_at hl 1 rfl) ?_
  refine eg_callS (As := [.int (nI a)]) (rest := [.ref (q 0)]) hx hb hml hown hts hK (c_X1_isAuthor l D cI cJ (nI a) ) (va_cwS 1 hts gX1_learn_X1_isAuthor rfl rfl rfl (by decide +kernel) ⟨Nat.le_of_ble_eq_true rfl, Nat.le_of_ble_eq_true rfl⟩) rfl hl.1 rfl (Nat.le_of_ble_eq_true rfl) dX1_learn_2 ⟨Nat.zero_le _, Nat.zero_le _⟩ ?_
  rw [show ev 4 (nI a) = true from ev_nI (by decide) ha]
  refine eg_ifeq_b (tgt := 19) hx hb dX1_learn_5 (by decide) (fun h => Bool.noConfusion h) (fun _ => ?_)
  refine lv_iload_n hx hb dX1_learn_8 rfl (lv_at hl 2 rfl) ?_
  refine eg_callS (As := [.int (nI b)]) (rest := [.ref (q 0)]) hx hb hml hown hts hK (c_X1_isAuthor l D cI cJ (nI b) ) (va_cwS 1 hts gX1_learn_X1_isAuthor rfl rfl rfl (by decide +kernel) ⟨Nat.le_of_ble_eq_true rfl, Nat.le_of_ble_eq_true rfl⟩) rfl hl.1 rfl (Nat.le_of_ble_eq_true rfl) dX1_learn_9 ⟨Nat.zero_le _, Nat.zero_le _⟩ ?_
  rw [show ev 4 (nI b) = true from ev_nI (by decide) hb4]
  refine eg_ifeq_b (tgt := 19) hx hb dX1_learn_12 (by decide) (fun h => Bool.noConfusion h) (fun _ => ?_)
  refine lv_iconst (v := nI 1) hx hb dX1_learn_15 (by decide +kernel) ?_
  refine lv_goto (tgt := 20) hx hb dX1_learn_16 (by decide) ?_
  refine eg_callWV (As := [.int (eb true)]) (rest := []) hx hb hml hown hts hK hP hD rfl hS (c_X1_asked_t l D cI cJ q n mk lt tg pa an kn row len thr  ) (cwV 1 hts gX1_learn_X1_asked rfl rfl rfl (by decide +kernel) ⟨Nat.le_of_ble_eq_true rfl, Nat.le_of_ble_eq_true rfl⟩) (va_recv hK hP (ci := 1) (q0 := 0) rfl rfl) rfl hl.1 rfl (Nat.le_of_ble_eq_true rfl) dX1_learn_20 ⟨Nat.zero_le _, Nat.zero_le _⟩ (fun v9 w9 H locs hR9 hw9 hP hS => ?_)
  obtain ⟨rfl, rfl⟩ := hR9
  refine eg_ifeq_b (tgt := 40) hx hb dX1_learn_23 (by decide) (fun h => Bool.noConfusion h) (fun _ => ?_)
  refine lv_aload_n hx hb dX1_learn_26 rfl (lv_at hl 0 rfl) ?_
  refine lv_iload_n hx hb dX1_learn_27 rfl (lv_at hl 1 rfl) ?_
  refine lv_aload_n hx hb dX1_learn_28 rfl (lv_at hl 0 rfl) ?_
  refine va_get (D := D) (ci := 1) (v := .ref (q 6)) (C := RX1) (T := TX1) (N := 10) hx hb hts hin hown hK hP 0 rfl rfl 6 (by decide) (hts (.fieldLink RX1 26 "EditGraphModel" "knows" "[J") (by decide +kernel)) (fun _ h9 => h9) rfl dX1_learn_29 ?_
  refine lv_iload_n hx hb dX1_learn_32 rfl (lv_at hl 2 rfl) ?_
  refine eg_lald hx hb hK hP 6 1 rfl rfl (by omega) (by decide) dX1_learn_33 ?_
  refine eg_callWV (As := [.int (nI a), .long (kn b)]) (rest := []) hx hb hml hown hts hK hP hD rfl hS (c_X1_learns l D cI cJ q n mk lt tg pa an kn row len (nI 0) a (kn b) hI ha ((hI.vk hb4).1)) (cwV 2 hts gX1_learn_X1_learns rfl rfl rfl (by decide +kernel) ⟨Nat.le_of_ble_eq_true rfl, Nat.le_of_ble_eq_true rfl⟩) (va_recv hK hP (ci := 1) (q0 := 0) rfl rfl) rfl hl.1 rfl (Nat.le_of_ble_eq_true rfl) dX1_learn_34 ⟨Nat.zero_le _, Nat.zero_le _⟩ (fun v9 w9 H locs hR9 hw9 hP hS => ?_)
  obtain ⟨rfl, rfl⟩ := hR9
  refine lv_goto (tgt := 41) hx hb dX1_learn_37 (by decide) ?_
  exact W.iret hx hb hr (fun t9 ht9 _ => ⟨some (.int (nI (pc64 ((kn b) &&& (kn a ^^^ (-1)))))), (wM q cI cJ (nI n) mk lt tg pa an (vp_updL kn a (kn a ||| (kn b))) row len (nI 0)), rfl, ⟨rfl, rfl⟩, rfl, by rw [ht9]; exact hP, hS.F ht9⟩) hS.2.2 dX1_learn_41
set_option maxHeartbeats 4000000 in
set_option maxRecDepth 100000 in
theorem c_X1_learnEvent (l : Launch) (D : va_G) (cI cJ : ClassId) (q : Nat → Nat) (n : Nat) (mk lt tg : Nat → Int32) (pa an kn : Nat → Int64) (row : Nat → Int32) (len thr : Int32) (a : Nat) (e0 : Nat) (hI : Inv n lt tg an kn) (ha : a < 4) (he : e0 < n) : eg_MW D (tyL cI cJ) l yX1_learnEvent wsX1_learnEvent ({ frames := 3, cells := 0, slots := 0, locals := 70 }) 0 0 [.ref (q 0), .int (nI a), .int (nI e0)] (wM q cI cJ (nI n) mk lt tg pa an kn row len thr) (fun r w1 => r = some (.int (nI (pc64 ((an e0 ||| ol e0) &&& (kn a ^^^ (-1)))))) ∧ w1 = wM q cI cJ (nI n) mk lt tg pa an (vp_updL kn a (kn a ||| (an e0 ||| ol e0))) row len (nI 0)) := by
  have hI1 := hI.1
  refine Met.ofW (cc := cX1_learnEvent) (maxL := 3) (ret := (some .int)) (by decide) rfl ?_
  intro p e s m args below meth c s₁ B hml hv
  obtain ⟨rfl, hP, hK, hD0⟩ := hv
  have hx := B.exec
  have hb := B.bytes
  have hr := B.returns
  have hts := atoms_spec (ws := wsX1_learnEvent) B.pre
  have hown : s.vm.findClass RX1 = some m.cls := findClass_of_methodNamed B.named
  have hlocks := B.notSynchronized
  have hD := eg_D_of hD0
  have hS : va_S (eg_A (wM q cI cJ (nI n) mk lt tg pa an kn row len thr)) s.heap s.heap [] := va_S.rf
  have hl := lv_entry ([.ref (q 0), .int (nI a), .int (nI e0)]) (n := 3) (Nat.le_of_ble_eq_true rfl)
  rw [lg_entry_eq]
  generalize (lg_sl ([.ref (q 0), .int (nI a), .int (nI e0)]) ++ List.replicate (3 - (lg_sl ([.ref (q 0), .int (nI a), .int (nI e0)])).length) Slot.unset).toArray = ls at hl ⊢
  have hl : lv_has ls 3 [(0, .ref (q 0)), (1, .int (nI a)), (2, .int (nI e0))] := hl
  generalize h0H : s.heap = H at hP ⊢
  have hS : va_S (eg_A (wM q cI cJ (nI n) mk lt tg pa an kn row len thr)) s.heap H [] := by rw [← h0H]; exact hS
  generalize ([] : List Loc) = locs at hS ⊢
  refine lv_aload_n hx hb dX1_learnEvent_0 rfl (lv_at hl 0 rfl) ?_
  refine lv_iload_n hx hb dX1_learnEvent_1 rfl (lv_at hl 1 rfl) ?_
  refine eg_callS (As := [.int (nI a)]) (rest := [.ref (q 0)]) hx hb hml hown hts hK (c_X1_isAuthor l D cI cJ (nI a) ) (va_cwS 1 hts gX1_learnEvent_X1_isAuthor rfl rfl rfl (by decide +kernel) ⟨Nat.le_of_ble_eq_true rfl, Nat.le_of_ble_eq_true rfl⟩) rfl hl.1 rfl (Nat.le_of_ble_eq_true rfl) dX1_learnEvent_2 ⟨Nat.zero_le _, Nat.zero_le _⟩ ?_
  rw [show ev 4 (nI a) = true from ev_nI (by decide) ha]
  refine eg_ifeq_b (tgt := 20) hx hb dX1_learnEvent_5 (by decide) (fun h => Bool.noConfusion h) (fun _ => ?_)
  refine lv_aload_n hx hb dX1_learnEvent_8 rfl (lv_at hl 0 rfl) ?_
  refine lv_iload_n hx hb dX1_learnEvent_9 rfl (lv_at hl 2 rfl) ?_
  refine eg_callV (As := [.int (nI e0)]) (rest := [.ref (q 0)]) hx hb hml hown hts hK hP (c_X1_isEvent l D cI cJ q n mk lt tg pa an kn row len thr (nI e0) hI.1) (cwV 1 hts gX1_learnEvent_X1_isEvent rfl rfl rfl (by decide +kernel) ⟨Nat.le_of_ble_eq_true rfl, Nat.le_of_ble_eq_true rfl⟩) (va_recv hK hP (ci := 1) (q0 := 0) rfl rfl) rfl hl.1 rfl (Nat.le_of_ble_eq_true rfl) dX1_learnEvent_10 ⟨Nat.zero_le _, Nat.zero_le _⟩ ?_
  rw [show ev n (nI e0) = true from ev_nI (by have := hI.1; omega) he]
  refine eg_ifeq_b (tgt := 20) hx hb dX1_learnEvent_13 (by decide) (fun h => Bool.noConfusion h) (fun _ => ?_)
  refine lv_iconst (v := nI 1) hx hb dX1_learnEvent_16 (by decide +kernel) ?_
  refine lv_goto (tgt := 21) hx hb dX1_learnEvent_17 (by decide) ?_
  refine eg_callWV (As := [.int (eb true)]) (rest := []) hx hb hml hown hts hK hP hD rfl hS (c_X1_asked_t l D cI cJ q n mk lt tg pa an kn row len thr  ) (cwV 1 hts gX1_learnEvent_X1_asked rfl rfl rfl (by decide +kernel) ⟨Nat.le_of_ble_eq_true rfl, Nat.le_of_ble_eq_true rfl⟩) (va_recv hK hP (ci := 1) (q0 := 0) rfl rfl) rfl hl.1 rfl (Nat.le_of_ble_eq_true rfl) dX1_learnEvent_21 ⟨Nat.zero_le _, Nat.zero_le _⟩ (fun v9 w9 H locs hR9 hw9 hP hS => ?_)
  obtain ⟨rfl, rfl⟩ := hR9
  refine eg_ifeq_b (tgt := 40) hx hb dX1_learnEvent_24 (by decide) (fun h => Bool.noConfusion h) (fun _ => ?_)
  refine lv_aload_n hx hb dX1_learnEvent_27 rfl (lv_at hl 0 rfl) ?_
  refine lv_iload_n hx hb dX1_learnEvent_28 rfl (lv_at hl 1 rfl) ?_
  refine lv_aload_n hx hb dX1_learnEvent_29 rfl (lv_at hl 0 rfl) ?_
  refine lv_iload_n hx hb dX1_learnEvent_30 rfl (lv_at hl 2 rfl) ?_
  refine eg_callV (As := [.int (nI e0)]) (rest := [.int (nI a), .ref (q 0)]) hx hb hml hown hts hK hP (c_X1_versionOf l D cI cJ q n mk lt tg pa an kn row len (nI 0) e0 (by omega)) (cwV 1 hts gX1_learnEvent_X1_versionOf rfl rfl rfl (by decide +kernel) ⟨Nat.le_of_ble_eq_true rfl, Nat.le_of_ble_eq_true rfl⟩) (va_recv hK hP (ci := 1) (q0 := 0) rfl rfl) rfl hl.1 rfl (Nat.le_of_ble_eq_true rfl) dX1_learnEvent_31 ⟨Nat.zero_le _, Nat.zero_le _⟩ ?_
  refine eg_callWV (As := [.int (nI a), .long (an e0 ||| ol e0)]) (rest := []) hx hb hml hown hts hK hP hD rfl hS (c_X1_learns l D cI cJ q n mk lt tg pa an kn row len (nI 0) a (an e0 ||| ol e0) hI ha ((hI.ve he).1)) (cwV 2 hts gX1_learnEvent_X1_learns rfl rfl rfl (by decide +kernel) ⟨Nat.le_of_ble_eq_true rfl, Nat.le_of_ble_eq_true rfl⟩) (va_recv hK hP (ci := 1) (q0 := 0) rfl rfl) rfl hl.1 rfl (Nat.le_of_ble_eq_true rfl) dX1_learnEvent_34 ⟨Nat.zero_le _, Nat.zero_le _⟩ (fun v9 w9 H locs hR9 hw9 hP hS => ?_)
  obtain ⟨rfl, rfl⟩ := hR9
  refine lv_goto (tgt := 41) hx hb dX1_learnEvent_37 (by decide) ?_
  exact W.iret hx hb hr (fun t9 ht9 _ => ⟨some (.int (nI (pc64 ((an e0 ||| ol e0) &&& (kn a ^^^ (-1)))))), (wM q cI cJ (nI n) mk lt tg pa an (vp_updL kn a (kn a ||| (an e0 ||| ol e0))) row len (nI 0)), rfl, ⟨rfl, rfl⟩, rfl, by rw [ht9]; exact hP, hS.F ht9⟩) hS.2.2 dX1_learnEvent_41
set_option maxHeartbeats 4000000 in
set_option maxRecDepth 100000 in
theorem c_X1_learn_no1 (l : Launch) (D : va_G) (cI cJ : ClassId) (q : Nat → Nat) (n : Nat) (mk lt tg : Nat → Int32) (pa an kn : Nat → Int64) (row : Nat → Int32) (len thr : Int32) (x : Int32) (y : Int32) (hbad : bad 4 x) : eg_MW D (tyL cI cJ) l yX1_learn wsX1_learn ({ frames := 2, cells := 0, slots := 0, locals := 42 }) 0 0 [.ref (q 0), .int x, .int y] (wM q cI cJ (nI n) mk lt tg pa an kn row len thr) (fun r w1 => ∃ (row' : Nat → Int32) (len' : Int32), r = some (.int (nI 0)) ∧ w1 = wM q cI cJ (nI n) mk lt tg pa an kn row' len' (nI 1)) := by
  refine Met.ofW (cc := cX1_learn) (maxL := 3) (ret := (some .int)) (by decide) rfl ?_
  intro p e s m args below meth c s₁ B hml hv
  obtain ⟨rfl, hP, hK, hD0⟩ := hv
  have hx := B.exec
  have hb := B.bytes
  have hr := B.returns
  have hts := atoms_spec (ws := wsX1_learn) B.pre
  have hown : s.vm.findClass RX1 = some m.cls := findClass_of_methodNamed B.named
  have hlocks := B.notSynchronized
  have hD := eg_D_of hD0
  have hS : va_S (eg_A (wM q cI cJ (nI n) mk lt tg pa an kn row len thr)) s.heap s.heap [] := va_S.rf
  have hin : ∀ w ∈ u_ws RX1 TX1 10, w ∈ wsX1_learn := by decide +kernel
  have hl := lv_entry ([.ref (q 0), .int x, .int y]) (n := 3) (Nat.le_of_ble_eq_true rfl)
  rw [lg_entry_eq]
  generalize (lg_sl ([.ref (q 0), .int x, .int y]) ++ List.replicate (3 - (lg_sl ([.ref (q 0), .int x, .int y])).length) Slot.unset).toArray = ls at hl ⊢
  have hl : lv_has ls 3 [(0, .ref (q 0)), (1, .int x), (2, .int y)] := hl
  generalize h0H : s.heap = H at hP ⊢
  have hS : va_S (eg_A (wM q cI cJ (nI n) mk lt tg pa an kn row len thr)) s.heap H [] := by rw [← h0H]; exact hS
  generalize ([] : List Loc) = locs at hS ⊢
  refine lv_aload_n hx hb dX1_learn_0 rfl (lv_at hl 0 rfl) ?_
  refine lv_iload_n hx hb dX1_learn_1 rfl (lv_at hl 1 rfl) ?_
  refine eg_callS (As := [.int x]) (rest := [.ref (q 0)]) hx hb hml hown hts hK (c_X1_isAuthor l D cI cJ x ) (va_cwS 1 hts gX1_learn_X1_isAuthor rfl rfl rfl (by decide +kernel) ⟨Nat.le_of_ble_eq_true rfl, Nat.le_of_ble_eq_true rfl⟩) rfl hl.1 rfl (Nat.le_of_ble_eq_true rfl) dX1_learn_2 ⟨Nat.zero_le _, Nat.zero_le _⟩ ?_
  rw [show ev 4 x = false from bad_ev hbad]
  refine eg_ifeq_b (tgt := 19) hx hb dX1_learn_5 (by decide) (fun _ => ?_) (fun h => Bool.noConfusion h)
  refine lv_iconst (v := nI 0) hx hb dX1_learn_19 (by decide +kernel) ?_
  refine eg_callWV (As := [.int (eb false)]) (rest := []) hx hb hml hown hts hK hP hD rfl hS (c_X1_asked_f l D cI cJ q n mk lt tg pa an kn row len thr  ) (cwV 1 hts gX1_learn_X1_asked rfl rfl rfl (by decide +kernel) ⟨Nat.le_of_ble_eq_true rfl, Nat.le_of_ble_eq_true rfl⟩) (va_recv hK hP (ci := 1) (q0 := 0) rfl rfl) rfl hl.1 rfl (Nat.le_of_ble_eq_true rfl) dX1_learn_20 ⟨Nat.zero_le _, Nat.zero_le _⟩ (fun v9 w9 H locs hR9 hw9 hP hS => ?_)
  obtain ⟨rfl, rfl⟩ := hR9
  refine eg_ifeq_b (tgt := 40) hx hb dX1_learn_23 (by decide) (fun _ => ?_) (fun h => Bool.noConfusion h)
  refine lv_iconst (v := nI 0) hx hb dX1_learn_40 (by decide +kernel) ?_
  exact W.iret hx hb hr (fun t9 ht9 _ => ⟨some (.int (nI 0)), (wM q cI cJ (nI n) mk lt tg pa an kn row len (nI 1)), rfl, ⟨_, _, rfl, rfl⟩, rfl, by rw [ht9]; exact hP, hS.F ht9⟩) hS.2.2 dX1_learn_41
set_option maxHeartbeats 4000000 in
set_option maxRecDepth 100000 in
theorem c_X1_learnEvent_no1 (l : Launch) (D : va_G) (cI cJ : ClassId) (q : Nat → Nat) (n : Nat) (mk lt tg : Nat → Int32) (pa an kn : Nat → Int64) (row : Nat → Int32) (len thr : Int32) (x : Int32) (y : Int32) (hbad : bad 4 x) : eg_MW D (tyL cI cJ) l yX1_learnEvent wsX1_learnEvent ({ frames := 2, cells := 0, slots := 0, locals := 42 }) 0 0 [.ref (q 0), .int x, .int y] (wM q cI cJ (nI n) mk lt tg pa an kn row len thr) (fun r w1 => ∃ (row' : Nat → Int32) (len' : Int32), r = some (.int (nI 0)) ∧ w1 = wM q cI cJ (nI n) mk lt tg pa an kn row' len' (nI 1)) := by
  refine Met.ofW (cc := cX1_learnEvent) (maxL := 3) (ret := (some .int)) (by decide) rfl ?_
  intro p e s m args below meth c s₁ B hml hv
  obtain ⟨rfl, hP, hK, hD0⟩ := hv
  have hx := B.exec
  have hb := B.bytes
  have hr := B.returns
  have hts := atoms_spec (ws := wsX1_learnEvent) B.pre
  have hown : s.vm.findClass RX1 = some m.cls := findClass_of_methodNamed B.named
  have hlocks := B.notSynchronized
  have hD := eg_D_of hD0
  have hS : va_S (eg_A (wM q cI cJ (nI n) mk lt tg pa an kn row len thr)) s.heap s.heap [] := va_S.rf
  have hl := lv_entry ([.ref (q 0), .int x, .int y]) (n := 3) (Nat.le_of_ble_eq_true rfl)
  rw [lg_entry_eq]
  generalize (lg_sl ([.ref (q 0), .int x, .int y]) ++ List.replicate (3 - (lg_sl ([.ref (q 0), .int x, .int y])).length) Slot.unset).toArray = ls at hl ⊢
  have hl : lv_has ls 3 [(0, .ref (q 0)), (1, .int x), (2, .int y)] := hl
  generalize h0H : s.heap = H at hP ⊢
  have hS : va_S (eg_A (wM q cI cJ (nI n) mk lt tg pa an kn row len thr)) s.heap H [] := by rw [← h0H]; exact hS
  generalize ([] : List Loc) = locs at hS ⊢
  refine lv_aload_n hx hb dX1_learnEvent_0 rfl (lv_at hl 0 rfl) ?_
  refine lv_iload_n hx hb dX1_learnEvent_1 rfl (lv_at hl 1 rfl) ?_
  refine eg_callS (As := [.int x]) (rest := [.ref (q 0)]) hx hb hml hown hts hK (c_X1_isAuthor l D cI cJ x ) (va_cwS 1 hts gX1_learnEvent_X1_isAuthor rfl rfl rfl (by decide +kernel) ⟨Nat.le_of_ble_eq_true rfl, Nat.le_of_ble_eq_true rfl⟩) rfl hl.1 rfl (Nat.le_of_ble_eq_true rfl) dX1_learnEvent_2 ⟨Nat.zero_le _, Nat.zero_le _⟩ ?_
  rw [show ev 4 x = false from bad_ev hbad]
  refine eg_ifeq_b (tgt := 20) hx hb dX1_learnEvent_5 (by decide) (fun _ => ?_) (fun h => Bool.noConfusion h)
  refine lv_iconst (v := nI 0) hx hb dX1_learnEvent_20 (by decide +kernel) ?_
  refine eg_callWV (As := [.int (eb false)]) (rest := []) hx hb hml hown hts hK hP hD rfl hS (c_X1_asked_f l D cI cJ q n mk lt tg pa an kn row len thr  ) (cwV 1 hts gX1_learnEvent_X1_asked rfl rfl rfl (by decide +kernel) ⟨Nat.le_of_ble_eq_true rfl, Nat.le_of_ble_eq_true rfl⟩) (va_recv hK hP (ci := 1) (q0 := 0) rfl rfl) rfl hl.1 rfl (Nat.le_of_ble_eq_true rfl) dX1_learnEvent_21 ⟨Nat.zero_le _, Nat.zero_le _⟩ (fun v9 w9 H locs hR9 hw9 hP hS => ?_)
  obtain ⟨rfl, rfl⟩ := hR9
  refine eg_ifeq_b (tgt := 40) hx hb dX1_learnEvent_24 (by decide) (fun _ => ?_) (fun h => Bool.noConfusion h)
  refine lv_iconst (v := nI 0) hx hb dX1_learnEvent_40 (by decide +kernel) ?_
  exact W.iret hx hb hr (fun t9 ht9 _ => ⟨some (.int (nI 0)), (wM q cI cJ (nI n) mk lt tg pa an kn row len (nI 1)), rfl, ⟨_, _, rfl, rfl⟩, rfl, by rw [ht9]; exact hP, hS.F ht9⟩) hS.2.2 dX1_learnEvent_41
set_option maxHeartbeats 4000000 in
set_option maxRecDepth 100000 in
theorem c_X1_learn_no2 (l : Launch) (D : va_G) (cI cJ : ClassId) (q : Nat → Nat) (n : Nat) (mk lt tg : Nat → Int32) (pa an kn : Nat → Int64) (row : Nat → Int32) (len thr : Int32) (a : Nat) (y : Int32) (hI : Inv n lt tg an kn) (ha : a < 4) (hbad : bad 4 y) : eg_MW D (tyL cI cJ) l yX1_learn wsX1_learn ({ frames := 2, cells := 0, slots := 0, locals := 42 }) 0 0 [.ref (q 0), .int (nI a), .int y] (wM q cI cJ (nI n) mk lt tg pa an kn row len thr) (fun r w1 => ∃ (row' : Nat → Int32) (len' : Int32), r = some (.int (nI 0)) ∧ w1 = wM q cI cJ (nI n) mk lt tg pa an kn row' len' (nI 1)) := by
  refine Met.ofW (cc := cX1_learn) (maxL := 3) (ret := (some .int)) (by decide) rfl ?_
  intro p e s m args below meth c s₁ B hml hv
  obtain ⟨rfl, hP, hK, hD0⟩ := hv
  have hx := B.exec
  have hb := B.bytes
  have hr := B.returns
  have hts := atoms_spec (ws := wsX1_learn) B.pre
  have hown : s.vm.findClass RX1 = some m.cls := findClass_of_methodNamed B.named
  have hlocks := B.notSynchronized
  have hD := eg_D_of hD0
  have hS : va_S (eg_A (wM q cI cJ (nI n) mk lt tg pa an kn row len thr)) s.heap s.heap [] := va_S.rf
  have hin : ∀ w ∈ u_ws RX1 TX1 10, w ∈ wsX1_learn := by decide +kernel
  have hl := lv_entry ([.ref (q 0), .int (nI a), .int y]) (n := 3) (Nat.le_of_ble_eq_true rfl)
  rw [lg_entry_eq]
  generalize (lg_sl ([.ref (q 0), .int (nI a), .int y]) ++ List.replicate (3 - (lg_sl ([.ref (q 0), .int (nI a), .int y])).length) Slot.unset).toArray = ls at hl ⊢
  have hl : lv_has ls 3 [(0, .ref (q 0)), (1, .int (nI a)), (2, .int y)] := hl
  generalize h0H : s.heap = H at hP ⊢
  have hS : va_S (eg_A (wM q cI cJ (nI n) mk lt tg pa an kn row len thr)) s.heap H [] := by rw [← h0H]; exact hS
  generalize ([] : List Loc) = locs at hS ⊢
  refine lv_aload_n hx hb dX1_learn_0 rfl (lv_at hl 0 rfl) ?_
  refine lv_iload_n hx hb dX1_learn_1 rfl (lv_at hl 1 rfl) ?_
  refine eg_callS (As := [.int (nI a)]) (rest := [.ref (q 0)]) hx hb hml hown hts hK (c_X1_isAuthor l D cI cJ (nI a) ) (va_cwS 1 hts gX1_learn_X1_isAuthor rfl rfl rfl (by decide +kernel) ⟨Nat.le_of_ble_eq_true rfl, Nat.le_of_ble_eq_true rfl⟩) rfl hl.1 rfl (Nat.le_of_ble_eq_true rfl) dX1_learn_2 ⟨Nat.zero_le _, Nat.zero_le _⟩ ?_
  rw [show ev 4 (nI a) = true from ev_nI (by decide) ha]
  refine eg_ifeq_b (tgt := 19) hx hb dX1_learn_5 (by decide) (fun h => Bool.noConfusion h) (fun _ => ?_)
  refine lv_iload_n hx hb dX1_learn_8 rfl (lv_at hl 2 rfl) ?_
  refine eg_callS (As := [.int y]) (rest := [.ref (q 0)]) hx hb hml hown hts hK (c_X1_isAuthor l D cI cJ y ) (va_cwS 1 hts gX1_learn_X1_isAuthor rfl rfl rfl (by decide +kernel) ⟨Nat.le_of_ble_eq_true rfl, Nat.le_of_ble_eq_true rfl⟩) rfl hl.1 rfl (Nat.le_of_ble_eq_true rfl) dX1_learn_9 ⟨Nat.zero_le _, Nat.zero_le _⟩ ?_
  rw [show ev 4 y = false from bad_ev hbad]
  refine eg_ifeq_b (tgt := 19) hx hb dX1_learn_12 (by decide) (fun _ => ?_) (fun h => Bool.noConfusion h)
  refine lv_iconst (v := nI 0) hx hb dX1_learn_19 (by decide +kernel) ?_
  refine eg_callWV (As := [.int (eb false)]) (rest := []) hx hb hml hown hts hK hP hD rfl hS (c_X1_asked_f l D cI cJ q n mk lt tg pa an kn row len thr  ) (cwV 1 hts gX1_learn_X1_asked rfl rfl rfl (by decide +kernel) ⟨Nat.le_of_ble_eq_true rfl, Nat.le_of_ble_eq_true rfl⟩) (va_recv hK hP (ci := 1) (q0 := 0) rfl rfl) rfl hl.1 rfl (Nat.le_of_ble_eq_true rfl) dX1_learn_20 ⟨Nat.zero_le _, Nat.zero_le _⟩ (fun v9 w9 H locs hR9 hw9 hP hS => ?_)
  obtain ⟨rfl, rfl⟩ := hR9
  refine eg_ifeq_b (tgt := 40) hx hb dX1_learn_23 (by decide) (fun _ => ?_) (fun h => Bool.noConfusion h)
  refine lv_iconst (v := nI 0) hx hb dX1_learn_40 (by decide +kernel) ?_
  exact W.iret hx hb hr (fun t9 ht9 _ => ⟨some (.int (nI 0)), (wM q cI cJ (nI n) mk lt tg pa an kn row len (nI 1)), rfl, ⟨_, _, rfl, rfl⟩, rfl, by rw [ht9]; exact hP, hS.F ht9⟩) hS.2.2 dX1_learn_41
set_option maxHeartbeats 4000000 in
set_option maxRecDepth 100000 in
theorem c_X1_learnEvent_no2 (l : Launch) (D : va_G) (cI cJ : ClassId) (q : Nat → Nat) (n : Nat) (mk lt tg : Nat → Int32) (pa an kn : Nat → Int64) (row : Nat → Int32) (len thr : Int32) (a : Nat) (y : Int32) (hI : Inv n lt tg an kn) (ha : a < 4) (hbad : bad n y) : eg_MW D (tyL cI cJ) l yX1_learnEvent wsX1_learnEvent ({ frames := 2, cells := 0, slots := 0, locals := 43 }) 0 0 [.ref (q 0), .int (nI a), .int y] (wM q cI cJ (nI n) mk lt tg pa an kn row len thr) (fun r w1 => ∃ (row' : Nat → Int32) (len' : Int32), r = some (.int (nI 0)) ∧ w1 = wM q cI cJ (nI n) mk lt tg pa an kn row' len' (nI 1)) := by
  refine Met.ofW (cc := cX1_learnEvent) (maxL := 3) (ret := (some .int)) (by decide) rfl ?_
  intro p e s m args below meth c s₁ B hml hv
  obtain ⟨rfl, hP, hK, hD0⟩ := hv
  have hx := B.exec
  have hb := B.bytes
  have hr := B.returns
  have hts := atoms_spec (ws := wsX1_learnEvent) B.pre
  have hown : s.vm.findClass RX1 = some m.cls := findClass_of_methodNamed B.named
  have hlocks := B.notSynchronized
  have hD := eg_D_of hD0
  have hS : va_S (eg_A (wM q cI cJ (nI n) mk lt tg pa an kn row len thr)) s.heap s.heap [] := va_S.rf
  have hl := lv_entry ([.ref (q 0), .int (nI a), .int y]) (n := 3) (Nat.le_of_ble_eq_true rfl)
  rw [lg_entry_eq]
  generalize (lg_sl ([.ref (q 0), .int (nI a), .int y]) ++ List.replicate (3 - (lg_sl ([.ref (q 0), .int (nI a), .int y])).length) Slot.unset).toArray = ls at hl ⊢
  have hl : lv_has ls 3 [(0, .ref (q 0)), (1, .int (nI a)), (2, .int y)] := hl
  generalize h0H : s.heap = H at hP ⊢
  have hS : va_S (eg_A (wM q cI cJ (nI n) mk lt tg pa an kn row len thr)) s.heap H [] := by rw [← h0H]; exact hS
  generalize ([] : List Loc) = locs at hS ⊢
  refine lv_aload_n hx hb dX1_learnEvent_0 rfl (lv_at hl 0 rfl) ?_
  refine lv_iload_n hx hb dX1_learnEvent_1 rfl (lv_at hl 1 rfl) ?_
  refine eg_callS (As := [.int (nI a)]) (rest := [.ref (q 0)]) hx hb hml hown hts hK (c_X1_isAuthor l D cI cJ (nI a) ) (va_cwS 1 hts gX1_learnEvent_X1_isAuthor rfl rfl rfl (by decide +kernel) ⟨Nat.le_of_ble_eq_true rfl, Nat.le_of_ble_eq_true rfl⟩) rfl hl.1 rfl (Nat.le_of_ble_eq_true rfl) dX1_learnEvent_2 ⟨Nat.zero_le _, Nat.zero_le _⟩ ?_
  rw [show ev 4 (nI a) = true from ev_nI (by decide) ha]
  refine eg_ifeq_b (tgt := 20) hx hb dX1_learnEvent_5 (by decide) (fun h => Bool.noConfusion h) (fun _ => ?_)
  refine lv_aload_n hx hb dX1_learnEvent_8 rfl (lv_at hl 0 rfl) ?_
  refine lv_iload_n hx hb dX1_learnEvent_9 rfl (lv_at hl 2 rfl) ?_
  refine eg_callV (As := [.int y]) (rest := [.ref (q 0)]) hx hb hml hown hts hK hP (c_X1_isEvent l D cI cJ q n mk lt tg pa an kn row len thr y hI.1) (cwV 1 hts gX1_learnEvent_X1_isEvent rfl rfl rfl (by decide +kernel) ⟨Nat.le_of_ble_eq_true rfl, Nat.le_of_ble_eq_true rfl⟩) (va_recv hK hP (ci := 1) (q0 := 0) rfl rfl) rfl hl.1 rfl (Nat.le_of_ble_eq_true rfl) dX1_learnEvent_10 ⟨Nat.zero_le _, Nat.zero_le _⟩ ?_
  rw [show ev n y = false from bad_ev hbad]
  refine eg_ifeq_b (tgt := 20) hx hb dX1_learnEvent_13 (by decide) (fun _ => ?_) (fun h => Bool.noConfusion h)
  refine lv_iconst (v := nI 0) hx hb dX1_learnEvent_20 (by decide +kernel) ?_
  refine eg_callWV (As := [.int (eb false)]) (rest := []) hx hb hml hown hts hK hP hD rfl hS (c_X1_asked_f l D cI cJ q n mk lt tg pa an kn row len thr  ) (cwV 1 hts gX1_learnEvent_X1_asked rfl rfl rfl (by decide +kernel) ⟨Nat.le_of_ble_eq_true rfl, Nat.le_of_ble_eq_true rfl⟩) (va_recv hK hP (ci := 1) (q0 := 0) rfl rfl) rfl hl.1 rfl (Nat.le_of_ble_eq_true rfl) dX1_learnEvent_21 ⟨Nat.zero_le _, Nat.zero_le _⟩ (fun v9 w9 H locs hR9 hw9 hP hS => ?_)
  obtain ⟨rfl, rfl⟩ := hR9
  refine eg_ifeq_b (tgt := 40) hx hb dX1_learnEvent_24 (by decide) (fun _ => ?_) (fun h => Bool.noConfusion h)
  refine lv_iconst (v := nI 0) hx hb dX1_learnEvent_40 (by decide +kernel) ?_
  exact W.iret hx hb hr (fun t9 ht9 _ => ⟨some (.int (nI 0)), (wM q cI cJ (nI n) mk lt tg pa an kn row len (nI 1)), rfl, ⟨_, _, rfl, rfl⟩, rfl, by rw [ht9]; exact hP, hS.F ht9⟩) hS.2.2 dX1_learnEvent_41
