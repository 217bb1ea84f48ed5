-- the reference: reads (by gen.py, specN.py)
set_option maxHeartbeats 4000000 in
set_option maxRecDepth 100000 in
theorem c_X1_reads (l : Launch) (D : va_G) (cI cJ : ClassId) (q : Nat → Nat) (n : Nat) (mk lt tg : Nat → Int32) (pa an kn : Nat → Int64) (row : Nat → Int32) (len thr : Int32) (v : Int64) (hn : n ≤ 60) (hc : hang (vI lt v) tg n) : eg_MW D (tyL cI cJ) l yX1_reads wsX1_reads ({ frames := 1, cells := 0, slots := 0, locals := 22 }) 0 0 [.ref (q 0), .long v] (wM q cI cJ (nI n) mk lt tg pa an kn row len thr) (fun r w1 => ∃ (row' : Nat → Int32), r = none ∧ w1 = wM q cI cJ (nI n) mk lt tg pa an kn row' (nI (tx n lt tg v).length) thr ∧ holds row' (tx n lt tg v)) := by
  have hLn : (lay (vI lt v) tg n).length ≤ n := lay_len n (lay_nodup (by omega) hc)
  refine Met.ofW (cc := cX1_reads) (maxL := 7) (ret := none) (by decide) rfl ?_
  intro p e s m args below meth c s₁ B hml hv
  obtain ⟨rfl, hP, hK, hD0⟩ := hv
  have hx := B.exec
  have hb := B.bytes
  have hr := B.returns
  have hts := atoms_spec (ws := wsX1_reads) B.pre
  have hown : s.vm.findClass RX1 = some m.cls := findClass_of_methodNamed B.named
  have hlocks := B.notSynchronized
  have hD := eg_D_of hD0
  have hS : va_S (eg_A (wM q cI cJ (nI n) mk lt tg pa an kn row len thr)) s.heap s.heap [] := va_S.rf
  have hin : ∀ w ∈ u_ws RX1 TX1 10, w ∈ wsX1_reads := by decide +kernel
  have hl := lv_entry ([.ref (q 0), .long v]) (n := 7) (Nat.le_of_ble_eq_true rfl)
  rw [lg_entry_eq]
  generalize (lg_sl ([.ref (q 0), .long v]) ++ List.replicate (7 - (lg_sl ([.ref (q 0), .long v])).length) Slot.unset).toArray = ls at hl ⊢
  have hl : lv_has ls 7 [(0, .ref (q 0)), (1, .long v)] := hl
  generalize h0H : s.heap = H at hP ⊢
  have hS : va_S (eg_A (wM q cI cJ (nI n) mk lt tg pa an kn row len thr)) s.heap H [] := by rw [← h0H]; exact hS
  generalize ([] : List Loc) = locs at hS ⊢
  have loop2 : ∀ (f : Nat) (i : Nat) (row1 : Nat → Int32) (H : Heap) (locs : List Loc) (ls : Array Slot), (lay (vI lt v) tg n).length < i + f → i ≤ (lay (vI lt v) tg n).length → holds row1 (((lay (vI lt v) tg n).take i).filter (nG n lt tg v)) → (∀ m9 y9 : Nat, i ≤ m9 → (lay (vI lt v) tg n)[m9]? = some y9 → row1 m9 = nI y9) → va_P D vwCl (wM q cI cJ (nI n) mk lt tg pa an kn row1 (nI (lay (vI lt v) tg n).length) thr) H → va_S (eg_A (wM q cI cJ (nI n) mk lt tg pa an kn row len thr)) s.heap H locs → lv_has ls 7 [(0, .ref (q 0)), (1, .long v), (3, .int (nI ((((lay (vI lt v) tg n).take i).filter (nG n lt tg v)).length))), (4, .int (nI i))] → W p l e (headSpec wsX1_reads ({ frames := 1, cells := 0, slots := 0, locals := 22 })).room s m ([.ref (q 0), .long v] : List Value).toArray below meth c H locs 0 0 (MQ below (eg_Wq D (wM q cI cJ (nI n) mk lt tg pa an kn row len thr) (fun r w1 => ∃ (row' : Nat → Int32), r = none ∧ w1 = wM q cI cJ (nI n) mk lt tg pa an kn row' (nI (tx n lt tg v).length) thr ∧ holds row' (tx n lt tg v))) ([.ref (q 0), .long v] : List Value).toArray s 0 0 (eg_A (wM q cI cJ (nI n) mk lt tg pa an kn row len thr))) (F0 m 152 ls []) := by
    intro f
    induction f with
    | zero => intro i row1 H locs ls h1 h2 h3 h4 hP hS hl; omega
    | succ f ih =>
      intro i row1 H locs ls h1 h2 h3 h4 hP hS hl
      have hh := h3
      have hrow := h4
      have hkl := tk_len (n := n) (lt := lt) (tg := tg) (v := v) (L := (lay (vI lt v) tg n)) (i := i)
      refine lv_iload hx hb dX1_reads_152 (lv_at hl 3 rfl) ?_
      refine lv_aload_n hx hb dX1_reads_154 rfl (lv_at hl 0 rfl) ?_
      refine va_get (D := D) (ci := 1) (v := .int (nI ((lay (vI lt v) tg n).length))) (C := RX1) (T := TX1) (N := 10) hx hb hts hin hown hK hP 0 rfl rfl 8 (by decide) (hts (.fieldLink RX1 49 "EditGraphModel" "length" "I") (by decide +kernel)) (fun _ h9 => h9) rfl dX1_reads_155 ?_
      refine eg_icmp_ge (tgt := 263) hx hb dX1_reads_158 (by decide) (by omega) (by omega) (fun c158 => ?_) (fun c158 => ?_)
      · refine lv_aload_n hx hb dX1_reads_263 rfl (lv_at hl 0 rfl) ?_
        refine lv_iload_n hx hb dX1_reads_264 rfl (lv_at hl 2 rfl) ?_
        refine va_put (D := D) (ci := 1) (v := .int (nI ((((lay (vI lt v) tg n).take i).filter (nG n lt tg v)).length))) (ty := .int) (C := RX1) (T := TX1) (N := 10) hx hb hts hin tyX1 tyX1_ok nmX1 hown hK hP (eg_D_same hD rfl) hS 0 rfl rfl 8 (by decide) (hts (.fieldLink RX1 49 "EditGraphModel" "length" "I") (by decide +kernel)) (fun _ h9 => h9) rfl (by decide +kernel) rfl rfl (Nat.le_of_ble_eq_true rfl) dX1_reads_265 (fun H locs hP _ hS => ?_)
        have hP : va_P D vwCl (wM q cI cJ (nI n) mk lt tg pa an kn row1 (nI ((((lay (vI lt v) tg n).take i).filter (nG n lt tg v)).length)) thr) H := hP
        have ei : i = (lay (vI lt v) tg n).length := by omega
        have e9 : (((lay (vI lt v) tg n).take i).filter (nG n lt tg v)) = tx n lt tg v := by rw [ei, List.take_length]; rfl
        rw [e9] at hP hh
        exact W.vret hx hb hr (fun t9 ht9 _ => ⟨none, (wM q cI cJ (nI n) mk lt tg pa an kn row1 (nI (tx n lt tg v).length) thr), rfl, ⟨row1, rfl, rfl, hh⟩, rfl, by rw [ht9]; exact hP, hS.F ht9⟩) hS.2.2 dX1_reads_268
      · obtain ⟨x9, hx9⟩ := getq (L := (lay (vI lt v) tg n)) (k := i) (by omega)
        have hrx := hrow i x9 (Nat.le_refl _) hx9
        refine lv_iconst (v := nI 0) hx hb dX1_reads_161 (by decide +kernel) ?_
        refine lv_istore (lv' := [(5, .int (nI 0)), (0, .ref (q 0)), (1, .long v), (3, .int (nI ((((lay (vI lt v) tg n).take i).filter (nG n lt tg v)).length))), (4, .int (nI i))]) hx hb dX1_reads_162 hl (by decide) rfl (fun ls hl => ?_)
        refine lv_iconst (v := nI 0) hx hb dX1_reads_164 (by decide +kernel) ?_
        refine lv_istore (lv' := [(6, .int (nI 0)), (5, .int (nI 0)), (0, .ref (q 0)), (1, .long v), (3, .int (nI ((((lay (vI lt v) tg n).take i).filter (nG n lt tg v)).length))), (4, .int (nI i))]) hx hb dX1_reads_165 hl (by decide) rfl (fun ls hl => ?_)
        have loop3 : ∀ (f : Nat) (m9 : Nat) (ls : Array Slot), n < m9 + f → m9 ≤ n → lv_has ls 7 [(0, .ref (q 0)), (1, .long v), (3, .int (nI ((((lay (vI lt v) tg n).take i).filter (nG n lt tg v)).length))), (4, .int (nI i)), (5, .int (eb (gO lt tg v m9 (nI x9)))), (6, .int (nI m9))] → W p l e (headSpec wsX1_reads ({ frames := 1, cells := 0, slots := 0, locals := 22 })).room s m ([.ref (q 0), .long v] : List Value).toArray below meth c H locs 0 0 (MQ below (eg_Wq D (wM q cI cJ (nI n) mk lt tg pa an kn row len thr) (fun r w1 => ∃ (row' : Nat → Int32), r = none ∧ w1 = wM q cI cJ (nI n) mk lt tg pa an kn row' (nI (tx n lt tg v).length) thr ∧ holds row' (tx n lt tg v))) ([.ref (q 0), .long v] : List Value).toArray s 0 0 (eg_A (wM q cI cJ (nI n) mk lt tg pa an kn row len thr))) (F0 m 167 ls []) := by
          intro f
          induction f with
          | zero => intro m9 ls h1 h2 hl; omega
          | succ f ih3 =>
            intro m9 ls h13 h23 hl
            refine lv_iload hx hb dX1_reads_167 (lv_at hl 5 rfl) ?_
            refine lv_aload_n hx hb dX1_reads_169 rfl (lv_at hl 0 rfl) ?_
            refine va_get (D := D) (ci := 1) (v := .int (nI n)) (C := RX1) (T := TX1) (N := 10) hx hb hts hin hown hK hP 0 rfl rfl 5 (by decide) (hts (.fieldLink RX1 40 "EditGraphModel" "events" "I") (by decide +kernel)) (fun _ h9 => h9) rfl dX1_reads_170 ?_
            refine eg_icmp_ge (tgt := 231) hx hb dX1_reads_173 (by decide) (by omega) (by omega) (fun c173 => ?_) (fun c173 => ?_)
            · have em : m9 = n := by omega
              rw [em] at hl
              refine lv_aload_n hx hb dX1_reads_231 rfl (lv_at hl 0 rfl) ?_
              refine va_get (D := D) (ci := 1) (v := .ref (q 7)) (C := RX1) (T := TX1) (N := 10) hx hb hts hin hown hK hP 0 rfl rfl 7 (by decide) (hts (.fieldLink RX1 29 "EditGraphModel" "row" "[I") (by decide +kernel)) (fun _ h9 => h9) rfl dX1_reads_232 ?_
              refine lv_iload_n hx hb dX1_reads_235 rfl (lv_at hl 2 rfl) ?_
              refine lv_aload_n hx hb dX1_reads_236 rfl (lv_at hl 0 rfl) ?_
              refine va_get (D := D) (ci := 1) (v := .ref (q 7)) (C := RX1) (T := TX1) (N := 10) hx hb hts hin hown hK hP 0 rfl rfl 7 (by decide) (hts (.fieldLink RX1 29 "EditGraphModel" "row" "[I") (by decide +kernel)) (fun _ h9 => h9) rfl dX1_reads_237 ?_
              refine lv_iload hx hb dX1_reads_240 (lv_at hl 3 rfl) ?_
              refine eg_iald hx hb hK hP 7 0 rfl rfl (by omega) (by decide) dX1_reads_242 ?_
              rw [hrx]
              refine eg_iast hx hb hK hP hD rfl hS 7 0 rfl rfl (by omega) (by decide) dX1_reads_243 (w' := wM q cI cJ (nI n) mk lt tg pa an kn (upd row1 ((((lay (vI lt v) tg n).take i).filter (nG n lt tg v)).length) (nI x9)) (nI (lay (vI lt v) tg n).length) thr) rfl (fun H locs hP hS => ?_)
              refine lv_iload_n hx hb dX1_reads_244 rfl (lv_at hl 2 rfl) ?_
              refine lv_iload hx hb dX1_reads_245 (lv_at hl 4 rfl) ?_
              refine eg_ifeq_b (tgt := 254) hx hb dX1_reads_247 (by decide) (fun c247 => ?_) (fun c247 => ?_)
              · refine lv_iconst (v := nI 1) hx hb dX1_reads_254 (by decide +kernel) ?_
                refine eg_iadd hx hb dX1_reads_255 ?_
                refine lv_istore_n (lv' := [(3, .int (nI ((((lay (vI lt v) tg n).take i).filter (nG n lt tg v)).length + 1))), (0, .ref (q 0)), (1, .long v), (4, .int (nI i)), (5, .int (eb (gO lt tg v n (nI x9)))), (6, .int (nI n))]) hx hb dX1_reads_256 rfl hl (by decide) rfl (fun ls hl => ?_)
                refine lv_iinc (v := nI (i + 1)) (lv' := [(4, .int (nI (i + 1))), (3, .int (nI ((((lay (vI lt v) tg n).take i).filter (nG n lt tg v)).length + 1))), (0, .ref (q 0)), (1, .long v), (5, .int (eb (gO lt tg v n (nI x9)))), (6, .int (nI n))]) hx hb dX1_reads_257 hl (k := 3) rfl (eg_inc1 _) (by decide) rfl (fun ls hl => ?_)
                refine lv_goto (tgt := 152) hx hb dX1_reads_260 (by decide) ?_
                exact ih (i + 1) _ H locs _ (by omega) (by omega) (by rw [tk_stay hx9 c247]; exact holds_push hh) (fun m9 y9 g1 g2 => by rw [pk_un (by have := tk_len (n := n) (lt := lt) (tg := tg) (v := v) (L := (lay (vI lt v) tg n)) (i := i); omega)]; exact hrow m9 y9 (by omega) g2) hP hS (by rw [tk_stay hx9 c247, List.length_append]; exact lv_sub hl [2, 3, 1, 0] rfl)
              · refine lv_iconst (v := nI 0) hx hb dX1_reads_250 (by decide +kernel) ?_
                refine lv_goto (tgt := 255) hx hb dX1_reads_251 (by decide) ?_
                refine eg_iadd hx hb dX1_reads_255 ?_
                refine lv_istore_n (lv' := [(3, .int (nI ((((lay (vI lt v) tg n).take i).filter (nG n lt tg v)).length + 0))), (0, .ref (q 0)), (1, .long v), (4, .int (nI i)), (5, .int (eb (gO lt tg v n (nI x9)))), (6, .int (nI n))]) hx hb dX1_reads_256 rfl hl (by decide) rfl (fun ls hl => ?_)
                refine lv_iinc (v := nI (i + 1)) (lv' := [(4, .int (nI (i + 1))), (3, .int (nI ((((lay (vI lt v) tg n).take i).filter (nG n lt tg v)).length + 0))), (0, .ref (q 0)), (1, .long v), (5, .int (eb (gO lt tg v n (nI x9)))), (6, .int (nI n))]) hx hb dX1_reads_257 hl (k := 3) rfl (eg_inc1 _) (by decide) rfl (fun ls hl => ?_)
                refine lv_goto (tgt := 152) hx hb dX1_reads_260 (by decide) ?_
                exact ih (i + 1) _ H locs _ (by omega) (by omega) (by rw [tk_gone hx9 c247]; exact holds_keep hh) (fun m9 y9 g1 g2 => by rw [pk_un (by have := tk_len (n := n) (lt := lt) (tg := tg) (v := v) (L := (lay (vI lt v) tg n)) (i := i); omega)]; exact hrow m9 y9 (by omega) g2) hP hS (by rw [tk_gone hx9 c247]; exact lv_sub hl [2, 3, 1, 0] rfl)
            · refine lv_iload hx hb dX1_reads_176 (lv_at hl 4 rfl) ?_
              refine eg_ifne_b (tgt := 218) hx hb dX1_reads_178 (by decide) (fun c178 => ?_) (fun c178 => ?_)
              · refine lv_iconst (v := nI 1) hx hb dX1_reads_218 (by decide +kernel) ?_
                refine lv_goto (tgt := 223) hx hb dX1_reads_219 (by decide) ?_
                refine lv_istore (lv' := [(5, .int (nI 1)), (0, .ref (q 0)), (1, .long v), (3, .int (nI ((((lay (vI lt v) tg n).take i).filter (nG n lt tg v)).length))), (4, .int (nI i)), (6, .int (nI m9))]) hx hb dX1_reads_223 hl (by decide) rfl (fun ls hl => ?_)
                refine lv_iinc (v := nI (m9 + 1)) (lv' := [(6, .int (nI (m9 + 1))), (5, .int (nI 1)), (0, .ref (q 0)), (1, .long v), (3, .int (nI ((((lay (vI lt v) tg n).take i).filter (nG n lt tg v)).length))), (4, .int (nI i))]) hx hb dX1_reads_225 hl (k := 5) rfl (eg_inc1 _) (by decide) rfl (fun ls hl => ?_)
                refine lv_goto (tgt := 167) hx hb dX1_reads_228 (by decide) ?_
                have eA : nI 1 = eb (gO lt tg v (m9 + 1) (nI x9)) := by first | (refine eb_1 ?_; rw [gO, c178]; rfl; done) | (refine eb_1 ?_; rw [gO, c178, c187, ins_f c198, c215]; simp; done)
                exact ih3 (m9 + 1) _ (by omega) (by omega) (by rw [← eA]; exact lv_sub hl [2, 3, 4, 5, 1, 0] rfl)
              · refine lv_lload_n hx hb dX1_reads_181 rfl (lv_at hl 1 rfl) ?_
                refine lv_iload hx hb dX1_reads_182 (lv_at hl 5 rfl) ?_
                refine eg_callS (As := [.long v, .int (nI m9)]) (rest := []) hx hb hml hown hts hK (c_X1_has l D cI cJ v m9 (by omega)) (va_cwS 2 hts gX1_reads_X1_has rfl rfl rfl (by decide +kernel) ⟨Nat.le_of_ble_eq_true rfl, Nat.le_of_ble_eq_true rfl⟩) rfl hl.1 rfl (Nat.le_of_ble_eq_true rfl) dX1_reads_184 ⟨Nat.zero_le _, Nat.zero_le _⟩ ?_
                refine eg_ifeq_b (tgt := 222) hx hb dX1_reads_187 (by decide) (fun c187 => ?_) (fun c187 => ?_)
                · refine lv_iconst (v := nI 0) hx hb dX1_reads_222 (by decide +kernel) ?_
                  refine lv_istore (lv' := [(5, .int (nI 0)), (0, .ref (q 0)), (1, .long v), (3, .int (nI ((((lay (vI lt v) tg n).take i).filter (nG n lt tg v)).length))), (4, .int (nI i)), (6, .int (nI m9))]) hx hb dX1_reads_223 hl (by decide) rfl (fun ls hl => ?_)
                  refine lv_iinc (v := nI (m9 + 1)) (lv' := [(6, .int (nI (m9 + 1))), (5, .int (nI 0)), (0, .ref (q 0)), (1, .long v), (3, .int (nI ((((lay (vI lt v) tg n).take i).filter (nG n lt tg v)).length))), (4, .int (nI i))]) hx hb dX1_reads_225 hl (k := 5) rfl (eg_inc1 _) (by decide) rfl (fun ls hl => ?_)
                  refine lv_goto (tgt := 167) hx hb dX1_reads_228 (by decide) ?_
                  have eA : nI 0 = eb (gO lt tg v (m9 + 1) (nI x9)) := by first | (refine eb_z ?_; rw [gO, c178, c187]; rfl; done) | (refine eb_z ?_; rw [gO, c178, c187, ins_t c198]; rfl; done) | (refine eb_z ?_; rw [gO, c178, c187, ins_f c198]; simp [c215]; done)
                  exact ih3 (m9 + 1) _ (by omega) (by omega) (by rw [← eA]; exact lv_sub hl [2, 3, 4, 5, 1, 0] rfl)
                · refine lv_aload_n hx hb dX1_reads_190 rfl (lv_at hl 0 rfl) ?_
                  refine va_get (D := D) (ci := 1) (v := .ref (q 2)) (C := RX1) (T := TX1) (N := 10) hx hb hts hin hown hK hP 0 rfl rfl 1 (by decide) (hts (.fieldLink RX1 13 "EditGraphModel" "letter" "[I") (by decide +kernel)) (fun _ h9 => h9) rfl dX1_reads_191 ?_
                  refine lv_iload hx hb dX1_reads_194 (lv_at hl 5 rfl) ?_
                  refine eg_iald hx hb hK hP 2 0 rfl rfl (by omega) (by decide) dX1_reads_196 ?_
                  refine lv_iconst (v := (-1)) hx hb dX1_reads_197 (by decide +kernel) ?_
                  refine lv_icmp_ne (tgt := 222) hx hb dX1_reads_198 (by decide) (fun c198 => ?_) (fun c198 => ?_)
                  · refine lv_iconst (v := nI 0) hx hb dX1_reads_222 (by decide +kernel) ?_
                    refine lv_istore (lv' := [(5, .int (nI 0)), (0, .ref (q 0)), (1, .long v), (3, .int (nI ((((lay (vI lt v) tg n).take i).filter (nG n lt tg v)).length))), (4, .int (nI i)), (6, .int (nI m9))]) hx hb dX1_reads_223 hl (by decide) rfl (fun ls hl => ?_)
                    refine lv_iinc (v := nI (m9 + 1)) (lv' := [(6, .int (nI (m9 + 1))), (5, .int (nI 0)), (0, .ref (q 0)), (1, .long v), (3, .int (nI ((((lay (vI lt v) tg n).take i).filter (nG n lt tg v)).length))), (4, .int (nI i))]) hx hb dX1_reads_225 hl (k := 5) rfl (eg_inc1 _) (by decide) rfl (fun ls hl => ?_)
                    refine lv_goto (tgt := 167) hx hb dX1_reads_228 (by decide) ?_
                    have eA : nI 0 = eb (gO lt tg v (m9 + 1) (nI x9)) := by first | (refine eb_z ?_; rw [gO, c178, c187]; rfl; done) | (refine eb_z ?_; rw [gO, c178, c187, ins_t c198]; rfl; done) | (refine eb_z ?_; rw [gO, c178, c187, ins_f c198]; simp [c215]; done)
                    exact ih3 (m9 + 1) _ (by omega) (by omega) (by rw [← eA]; exact lv_sub hl [2, 3, 4, 5, 1, 0] rfl)
                  · refine lv_aload_n hx hb dX1_reads_201 rfl (lv_at hl 0 rfl) ?_
                    refine va_get (D := D) (ci := 1) (v := .ref (q 3)) (C := RX1) (T := TX1) (N := 10) hx hb hts hin hown hK hP 0 rfl rfl 2 (by decide) (hts (.fieldLink RX1 16 "EditGraphModel" "at" "[I") (by decide +kernel)) (fun _ h9 => h9) rfl dX1_reads_202 ?_
                    refine lv_iload hx hb dX1_reads_205 (lv_at hl 5 rfl) ?_
                    refine eg_iald hx hb hK hP 3 0 rfl rfl (by omega) (by decide) dX1_reads_207 ?_
                    refine lv_aload_n hx hb dX1_reads_208 rfl (lv_at hl 0 rfl) ?_
                    refine va_get (D := D) (ci := 1) (v := .ref (q 7)) (C := RX1) (T := TX1) (N := 10) hx hb hts hin hown hK hP 0 rfl rfl 7 (by decide) (hts (.fieldLink RX1 29 "EditGraphModel" "row" "[I") (by decide +kernel)) (fun _ h9 => h9) rfl dX1_reads_209 ?_
                    refine lv_iload hx hb dX1_reads_212 (lv_at hl 3 rfl) ?_
                    refine eg_iald hx hb hK hP 7 0 rfl rfl (by omega) (by decide) dX1_reads_214 ?_
                    rw [hrx]
                    refine lv_icmp_ne (tgt := 222) hx hb dX1_reads_215 (by decide) (fun c215 => ?_) (fun c215 => ?_)
                    · refine lv_iconst (v := nI 0) hx hb dX1_reads_222 (by decide +kernel) ?_
                      refine lv_istore (lv' := [(5, .int (nI 0)), (0, .ref (q 0)), (1, .long v), (3, .int (nI ((((lay (vI lt v) tg n).take i).filter (nG n lt tg v)).length))), (4, .int (nI i)), (6, .int (nI m9))]) hx hb dX1_reads_223 hl (by decide) rfl (fun ls hl => ?_)
                      refine lv_iinc (v := nI (m9 + 1)) (lv' := [(6, .int (nI (m9 + 1))), (5, .int (nI 0)), (0, .ref (q 0)), (1, .long v), (3, .int (nI ((((lay (vI lt v) tg n).take i).filter (nG n lt tg v)).length))), (4, .int (nI i))]) hx hb dX1_reads_225 hl (k := 5) rfl (eg_inc1 _) (by decide) rfl (fun ls hl => ?_)
                      refine lv_goto (tgt := 167) hx hb dX1_reads_228 (by decide) ?_
                      have eA : nI 0 = eb (gO lt tg v (m9 + 1) (nI x9)) := by first | (refine eb_z ?_; rw [gO, c178, c187]; rfl; done) | (refine eb_z ?_; rw [gO, c178, c187, ins_t c198]; rfl; done) | (refine eb_z ?_; rw [gO, c178, c187, ins_f c198]; simp [c215]; done)
                      exact ih3 (m9 + 1) _ (by omega) (by omega) (by rw [← eA]; exact lv_sub hl [2, 3, 4, 5, 1, 0] rfl)
                    · refine lv_iconst (v := nI 1) hx hb dX1_reads_218 (by decide +kernel) ?_
                      refine lv_goto (tgt := 223) hx hb dX1_reads_219 (by decide) ?_
                      refine lv_istore (lv' := [(5, .int (nI 1)), (0, .ref (q 0)), (1, .long v), (3, .int (nI ((((lay (vI lt v) tg n).take i).filter (nG n lt tg v)).length))), (4, .int (nI i)), (6, .int (nI m9))]) hx hb dX1_reads_223 hl (by decide) rfl (fun ls hl => ?_)
                      refine lv_iinc (v := nI (m9 + 1)) (lv' := [(6, .int (nI (m9 + 1))), (5, .int (nI 1)), (0, .ref (q 0)), (1, .long v), (3, .int (nI ((((lay (vI lt v) tg n).take i).filter (nG n lt tg v)).length))), (4, .int (nI i))]) hx hb dX1_reads_225 hl (k := 5) rfl (eg_inc1 _) (by decide) rfl (fun ls hl => ?_)
                      refine lv_goto (tgt := 167) hx hb dX1_reads_228 (by decide) ?_
                      have eA : nI 1 = eb (gO lt tg v (m9 + 1) (nI x9)) := by first | (refine eb_1 ?_; rw [gO, c178]; rfl; done) | (refine eb_1 ?_; rw [gO, c178, c187, ins_f c198, c215]; simp; done)
                      exact ih3 (m9 + 1) _ (by omega) (by omega) (by rw [← eA]; exact lv_sub hl [2, 3, 4, 5, 1, 0] rfl)
        exact loop3 (n + 1) 0 _ (by omega) (by omega) (lv_sub hl [2, 3, 4, 5, 1, 0] rfl)
  have loop1 : ∀ (f : Nat) (i : Nat) (row1 : Nat → Int32) (H : Heap) (locs : List Loc) (ls : Array Slot), n < i + f → i ≤ n → holds row1 (lay (vI lt v) tg i) → va_P D vwCl (wM q cI cJ (nI n) mk lt tg pa an kn row1 (nI (lay (vI lt v) tg i).length) thr) H → va_S (eg_A (wM q cI cJ (nI n) mk lt tg pa an kn row len thr)) s.heap H locs → lv_has ls 7 [(0, .ref (q 0)), (1, .long v), (3, .int (nI i))] → W p l e (headSpec wsX1_reads ({ frames := 1, cells := 0, slots := 0, locals := 22 })).room s m ([.ref (q 0), .long v] : List Value).toArray below meth c H locs 0 0 (MQ below (eg_Wq D (wM q cI cJ (nI n) mk lt tg pa an kn row len thr) (fun r w1 => ∃ (row' : Nat → Int32), r = none ∧ w1 = wM q cI cJ (nI n) mk lt tg pa an kn row' (nI (tx n lt tg v).length) thr ∧ holds row' (tx n lt tg v))) ([.ref (q 0), .long v] : List Value).toArray s 0 0 (eg_A (wM q cI cJ (nI n) mk lt tg pa an kn row len thr))) (F0 m 7 ls []) := by
    intro f
    induction f with
    | zero => intro i row1 H locs ls h1 h2 h3 hP hS hl; omega
    | succ f ih =>
      intro i row1 H locs ls h1 h2 h3 hP hS hl
      have hh := h3
      have hLi : (lay (vI lt v) tg i).length ≤ i := lay_len i (lay_nodup (by omega) (hang_le hc h2))
      refine lv_iload_n hx hb dX1_reads_7 rfl (lv_at hl 2 rfl) ?_
      refine lv_aload_n hx hb dX1_reads_8 rfl (lv_at hl 0 rfl) ?_
      refine va_get (D := D) (ci := 1) (v := .int (nI n)) (C := RX1) (T := TX1) (N := 10) hx hb hts hin hown hK hP 0 rfl rfl 5 (by decide) (hts (.fieldLink RX1 40 "EditGraphModel" "events" "I") (by decide +kernel)) (fun _ h9 => h9) rfl dX1_reads_9 ?_
      refine eg_icmp_ge (tgt := 147) hx hb dX1_reads_12 (by decide) (by omega) (by omega) (fun c12 => ?_) (fun c12 => ?_)
      · have ein : i = n := by omega
        rw [ein] at hP hh
        refine lv_iconst (v := nI 0) hx hb dX1_reads_147 (by decide +kernel) ?_
        refine lv_istore_n (lv' := [(3, .int (nI 0)), (0, .ref (q 0)), (1, .long v)]) hx hb dX1_reads_148 rfl hl (by decide) rfl (fun ls hl => ?_)
        refine lv_iconst (v := nI 0) hx hb dX1_reads_149 (by decide +kernel) ?_
        refine lv_istore (lv' := [(4, .int (nI 0)), (3, .int (nI 0)), (0, .ref (q 0)), (1, .long v)]) hx hb dX1_reads_150 hl (by decide) rfl (fun ls hl => ?_)
        exact loop2 ((lay (vI lt v) tg n).length + 1) 0 _ H locs _ (by omega) (by omega) (holds_nil _) (fun m9 y9 _ g2 => hh m9 y9 g2) hP hS (lv_sub hl [2, 3, 1, 0] rfl)
      · refine lv_lload_n hx hb dX1_reads_15 rfl (lv_at hl 1 rfl) ?_
        refine lv_iload_n hx hb dX1_reads_16 rfl (lv_at hl 2 rfl) ?_
        refine eg_callS (As := [.long v, .int (nI i)]) (rest := []) hx hb hml hown hts hK (c_X1_has l D cI cJ v i (by omega)) (va_cwS 2 hts gX1_reads_X1_has rfl rfl rfl (by decide +kernel) ⟨Nat.le_of_ble_eq_true rfl, Nat.le_of_ble_eq_true rfl⟩) rfl hl.1 rfl (Nat.le_of_ble_eq_true rfl) dX1_reads_17 ⟨Nat.zero_le _, Nat.zero_le _⟩ ?_
        refine eg_ifeq_b (tgt := 141) hx hb dX1_reads_20 (by decide) (fun c20 => ?_) (fun c20 => ?_)
        · refine lv_iinc (v := nI (i + 1)) (lv' := [(3, .int (nI (i + 1))), (0, .ref (q 0)), (1, .long v)]) hx hb dX1_reads_141 hl (k := 2) rfl (eg_inc1 _) (by decide) rfl (fun ls hl => ?_)
          refine lv_goto (tgt := 7) hx hb dX1_reads_144 (by decide) ?_
          have e9 := lay_same (lt := lt) (tg := tg) (v := v) (i := i) (by first | exact Or.inl c20 | exact Or.inr c30)
          exact ih (i + 1) row1 H locs _ (by omega) (by omega) (by rw [e9]; exact hh) (by rw [e9]; exact hP) hS (lv_sub hl [1, 2, 0] rfl)
        · refine lv_aload_n hx hb dX1_reads_23 rfl (lv_at hl 0 rfl) ?_
          refine va_get (D := D) (ci := 1) (v := .ref (q 2)) (C := RX1) (T := TX1) (N := 10) hx hb hts hin hown hK hP 0 rfl rfl 1 (by decide) (hts (.fieldLink RX1 13 "EditGraphModel" "letter" "[I") (by decide +kernel)) (fun _ h9 => h9) rfl dX1_reads_24 ?_
          refine lv_iload_n hx hb dX1_reads_27 rfl (lv_at hl 2 rfl) ?_
          refine eg_iald hx hb hK hP 2 0 rfl rfl (by omega) (by decide) dX1_reads_28 ?_
          refine lv_iconst (v := (-1)) hx hb dX1_reads_29 (by decide +kernel) ?_
          refine lv_icmp_eq (tgt := 141) hx hb dX1_reads_30 (by decide) (fun c30 => ?_) (fun c30 => ?_)
          · refine lv_iinc (v := nI (i + 1)) (lv' := [(3, .int (nI (i + 1))), (0, .ref (q 0)), (1, .long v)]) hx hb dX1_reads_141 hl (k := 2) rfl (eg_inc1 _) (by decide) rfl (fun ls hl => ?_)
            refine lv_goto (tgt := 7) hx hb dX1_reads_144 (by decide) ?_
            have e9 := lay_same (lt := lt) (tg := tg) (v := v) (i := i) (by first | exact Or.inl c20 | exact Or.inr c30)
            exact ih (i + 1) row1 H locs _ (by omega) (by omega) (by rw [e9]; exact hh) (by rw [e9]; exact hP) hS (lv_sub hl [1, 2, 0] rfl)
          · refine lv_iconst (v := nI 0) hx hb dX1_reads_33 (by decide +kernel) ?_
            refine lv_istore (lv' := [(4, .int (nI 0)), (0, .ref (q 0)), (1, .long v), (3, .int (nI i))]) hx hb dX1_reads_34 hl (by decide) rfl (fun ls hl => ?_)
            have loopW : ∀ (f : Nat) (pl : Nat) (ls : Array Slot), (lay (vI lt v) tg i).length < pl + f → pl ≤ (lay (vI lt v) tg i).length → (tg i = -1 → pl = 0) → (∀ j9 y9 : Nat, j9 < pl → (lay (vI lt v) tg i)[j9]? = some y9 → ¬ nI y9 = tg i) → lv_has ls 7 [(0, .ref (q 0)), (1, .long v), (3, .int (nI i)), (4, .int (nI pl))] → W p l e (headSpec wsX1_reads ({ frames := 1, cells := 0, slots := 0, locals := 22 })).room s m ([.ref (q 0), .long v] : List Value).toArray below meth c H locs 0 0 (MQ below (eg_Wq D (wM q cI cJ (nI n) mk lt tg pa an kn row len thr) (fun r w1 => ∃ (row' : Nat → Int32), r = none ∧ w1 = wM q cI cJ (nI n) mk lt tg pa an kn row' (nI (tx n lt tg v).length) thr ∧ holds row' (tx n lt tg v))) ([.ref (q 0), .long v] : List Value).toArray s 0 0 (eg_A (wM q cI cJ (nI n) mk lt tg pa an kn row len thr))) (F0 m 36 ls []) := by
              intro f
              induction f with
              | zero => intro pl ls g1 g2 g3 g4 hl; omega
              | succ f ihW =>
                intro pl ls g1 g2 g3 g4 hl
                refine lv_aload_n hx hb dX1_reads_36 rfl (lv_at hl 0 rfl) ?_
                refine va_get (D := D) (ci := 1) (v := .ref (q 3)) (C := RX1) (T := TX1) (N := 10) hx hb hts hin hown hK hP 0 rfl rfl 2 (by decide) (hts (.fieldLink RX1 16 "EditGraphModel" "at" "[I") (by decide +kernel)) (fun _ h9 => h9) rfl dX1_reads_37 ?_
                refine lv_iload_n hx hb dX1_reads_40 rfl (lv_at hl 2 rfl) ?_
                refine eg_iald hx hb hK hP 3 0 rfl rfl (by omega) (by decide) dX1_reads_41 ?_
                refine lv_iconst (v := (-1)) hx hb dX1_reads_42 (by decide +kernel) ?_
                refine lv_icmp_eq (tgt := 68) hx hb dX1_reads_43 (by decide) (fun c43 => ?_) (fun c43 => ?_)
                · refine lv_iload hx hb dX1_reads_68 (lv_at hl 3 rfl) ?_
                  refine lv_aload_n hx hb dX1_reads_70 rfl (lv_at hl 0 rfl) ?_
                  refine va_get (D := D) (ci := 1) (v := .ref (q 3)) (C := RX1) (T := TX1) (N := 10) hx hb hts hin hown hK hP 0 rfl rfl 2 (by decide) (hts (.fieldLink RX1 16 "EditGraphModel" "at" "[I") (by decide +kernel)) (fun _ h9 => h9) rfl dX1_reads_71 ?_
                  refine lv_iload_n hx hb dX1_reads_74 rfl (lv_at hl 2 rfl) ?_
                  refine eg_iald hx hb hK hP 3 0 rfl rfl (by omega) (by decide) dX1_reads_75 ?_
                  refine lv_iconst (v := (-1)) hx hb dX1_reads_76 (by decide +kernel) ?_
                  refine lv_icmp_ne (tgt := 84) hx hb dX1_reads_77 (by decide) (fun c77 => ?_) (fun c77 => ?_)
                  · exact absurd c43 c77
                  · refine lv_iconst (v := nI 0) hx hb dX1_reads_80 (by decide +kernel) ?_
                    refine lv_goto (tgt := 85) hx hb dX1_reads_81 (by decide) ?_
                    refine eg_iadd hx hb dX1_reads_85 ?_
                    refine lv_istore (lv' := [(4, .int (nI (pl + 0))), (0, .ref (q 0)), (1, .long v), (3, .int (nI i))]) hx hb dX1_reads_86 hl (by decide) rfl (fun ls hl => ?_)
                    obtain ⟨L1, L2, hL1, hL2, hL3⟩ := put_front (tg := tg) c20 c30 c77
                    have hpl0 := g3 c77
                    refine lv_aload_n hx hb dX1_reads_88 rfl (lv_at hl 1 rfl) ?_
                    refine va_get (D := D) (ci := 1) (v := .int (nI ((lay (vI lt v) tg i).length))) (C := RX1) (T := TX1) (N := 10) hx hb hts hin hown hK hP 0 rfl rfl 8 (by decide) (hts (.fieldLink RX1 49 "EditGraphModel" "length" "I") (by decide +kernel)) (fun _ h9 => h9) rfl dX1_reads_89 ?_
                    refine lv_istore (lv' := [(5, .int (nI ((lay (vI lt v) tg i).length))), (4, .int (nI (pl + 0))), (0, .ref (q 0)), (1, .long v), (3, .int (nI i))]) hx hb dX1_reads_92 hl (by decide) rfl (fun ls hl => ?_)
                    have hp0 : L1.length = pl + 0 := by omega
                    have hL9 : L1.length ≤ (lay (vI lt v) tg i).length := by rw [hL1, List.length_append]; omega
                    have loopS : ∀ (f : Nat) (j9 : Nat) (H : Heap) (locs : List Loc) (ls : Array Slot), j9 < f → pl + 0 ≤ j9 → j9 ≤ (lay (vI lt v) tg i).length → va_P D vwCl (wM q cI cJ (nI n) mk lt tg pa an kn (shf row1 j9 (lay (vI lt v) tg i).length) (nI (lay (vI lt v) tg i).length) thr) H → va_S (eg_A (wM q cI cJ (nI n) mk lt tg pa an kn row len thr)) s.heap H locs → lv_has ls 7 [(0, .ref (q 0)), (1, .long v), (3, .int (nI i)), (4, .int (nI (pl + 0))), (5, .int (nI j9))] → W p l e (headSpec wsX1_reads ({ frames := 1, cells := 0, slots := 0, locals := 22 })).room s m ([.ref (q 0), .long v] : List Value).toArray below meth c H locs 0 0 (MQ below (eg_Wq D (wM q cI cJ (nI n) mk lt tg pa an kn row len thr) (fun r w1 => ∃ (row' : Nat → Int32), r = none ∧ w1 = wM q cI cJ (nI n) mk lt tg pa an kn row' (nI (tx n lt tg v).length) thr ∧ holds row' (tx n lt tg v))) ([.ref (q 0), .long v] : List Value).toArray s 0 0 (eg_A (wM q cI cJ (nI n) mk lt tg pa an kn row len thr))) (F0 m 94 ls []) := by
                      intro f
                      induction f with
                      | zero => intro j9 H locs ls g1 g2 g3 hP hS hl; omega
                      | succ f ihS =>
                        intro j9 H locs ls g1 g2 g3 hP hS hl
                        refine lv_iload hx hb dX1_reads_94 (lv_at hl 4 rfl) ?_
                        refine lv_iload hx hb dX1_reads_96 (lv_at hl 3 rfl) ?_
                        refine eg_icmp_le (tgt := 123) hx hb dX1_reads_98 (by decide) (by omega) (by omega) (fun c98 => ?_) (fun c98 => ?_)
                        · have ej : j9 = L1.length := by omega
                          rw [ej, hL1] at hP
                          rw [← hp0] at hl
                          have hh2 := holds_put (i := i) (by rw [hL1] at hh; exact hh)
                          refine lv_aload_n hx hb dX1_reads_123 rfl (lv_at hl 0 rfl) ?_
                          refine va_get (D := D) (ci := 1) (v := .ref (q 7)) (C := RX1) (T := TX1) (N := 10) hx hb hts hin hown hK hP 0 rfl rfl 7 (by decide) (hts (.fieldLink RX1 29 "EditGraphModel" "row" "[I") (by decide +kernel)) (fun _ h9 => h9) rfl dX1_reads_124 ?_
                          refine lv_iload hx hb dX1_reads_127 (lv_at hl 3 rfl) ?_
                          refine lv_iload_n hx hb dX1_reads_129 rfl (lv_at hl 2 rfl) ?_
                          refine eg_iast hx hb hK hP hD rfl hS 7 0 rfl rfl (by omega) (by decide) dX1_reads_130 (w' := wM q cI cJ (nI n) mk lt tg pa an kn (upd (shf row1 L1.length (L1 ++ L2).length) L1.length (nI i)) (nI (L1 ++ L2).length) thr) rfl (fun H locs hP hS => ?_)
                          refine lv_aload_n hx hb dX1_reads_131 rfl (lv_at hl 0 rfl) ?_
                          refine lv_dup hx hb dX1_reads_132 rfl ?_
                          refine va_get (D := D) (ci := 1) (v := .int (nI ((L1 ++ L2).length))) (C := RX1) (T := TX1) (N := 10) hx hb hts hin hown hK hP 0 rfl rfl 8 (by decide) (hts (.fieldLink RX1 49 "EditGraphModel" "length" "I") (by decide +kernel)) (fun _ h9 => h9) rfl dX1_reads_133 ?_
                          refine lv_iconst (v := nI 1) hx hb dX1_reads_136 (by decide +kernel) ?_
                          refine eg_iadd hx hb dX1_reads_137 ?_
                          refine va_put (D := D) (ci := 1) (v := .int (nI ((L1 ++ L2).length + 1))) (ty := .int) (C := RX1) (T := TX1) (N := 10) hx hb hts hin tyX1 tyX1_ok nmX1 hown hK hP (eg_D_same hD rfl) hS 0 rfl rfl 8 (by decide) (hts (.fieldLink RX1 49 "EditGraphModel" "length" "I") (by decide +kernel)) (fun _ h9 => h9) rfl (by decide +kernel) rfl rfl (Nat.le_of_ble_eq_true rfl) dX1_reads_138 (fun H locs hP _ hS => ?_)
                          have hP : va_P D vwCl (wM q cI cJ (nI n) mk lt tg pa an kn (upd (shf row1 L1.length (L1 ++ L2).length) L1.length (nI i)) (nI ((L1 ++ L2).length + 1)) thr) H := hP
                          refine lv_iinc (v := nI (i + 1)) (lv' := [(3, .int (nI (i + 1))), (0, .ref (q 0)), (1, .long v), (4, .int (nI L1.length)), (5, .int (nI j9))]) hx hb dX1_reads_141 hl (k := 2) rfl (eg_inc1 _) (by decide) rfl (fun ls hl => ?_)
                          refine lv_goto (tgt := 7) hx hb dX1_reads_144 (by decide) ?_
                          have e8 : (lay (vI lt v) tg (i + 1)).length = (L1 ++ L2).length + 1 := by rw [hL3, List.length_append, List.length_append, List.length_cons]; omega
                          exact ih (i + 1) _ H locs _ (by omega) (by omega) (by rw [hL3]; exact hh2) (by rw [e8]; exact hP) hS (lv_sub hl [1, 2, 0] rfl)
                        · refine lv_aload_n hx hb dX1_reads_101 rfl (lv_at hl 0 rfl) ?_
                          refine va_get (D := D) (ci := 1) (v := .ref (q 7)) (C := RX1) (T := TX1) (N := 10) hx hb hts hin hown hK hP 0 rfl rfl 7 (by decide) (hts (.fieldLink RX1 29 "EditGraphModel" "row" "[I") (by decide +kernel)) (fun _ h9 => h9) rfl dX1_reads_102 ?_
                          refine lv_iload hx hb dX1_reads_105 (lv_at hl 4 rfl) ?_
                          refine lv_aload_n hx hb dX1_reads_107 rfl (lv_at hl 0 rfl) ?_
                          refine va_get (D := D) (ci := 1) (v := .ref (q 7)) (C := RX1) (T := TX1) (N := 10) hx hb hts hin hown hK hP 0 rfl rfl 7 (by decide) (hts (.fieldLink RX1 29 "EditGraphModel" "row" "[I") (by decide +kernel)) (fun _ h9 => h9) rfl dX1_reads_108 ?_
                          refine lv_iload hx hb dX1_reads_111 (lv_at hl 4 rfl) ?_
                          refine lv_iconst (v := nI 1) hx hb dX1_reads_113 (by decide +kernel) ?_
                          refine eg_isub hx hb dX1_reads_114 (by omega) ?_
                          refine eg_iald hx hb hK hP 7 0 rfl rfl (by omega) (by decide) dX1_reads_115 ?_
                          refine eg_iast hx hb hK hP hD rfl hS 7 0 rfl rfl (by omega) (by decide) dX1_reads_116 (w' := wM q cI cJ (nI n) mk lt tg pa an kn (upd (shf row1 j9 (lay (vI lt v) tg i).length) j9 ((shf row1 j9 (lay (vI lt v) tg i).length) (j9 - 1))) (nI (lay (vI lt v) tg i).length) thr) rfl (fun H locs hP hS => ?_)
                          refine lv_iinc (v := nI (j9 - 1)) (lv' := [(5, .int (nI (j9 - 1))), (0, .ref (q 0)), (1, .long v), (3, .int (nI i)), (4, .int (nI (pl + 0)))]) hx hb dX1_reads_117 hl (k := 4) rfl (eg_dec1 (by omega)) (by decide) rfl (fun ls hl => ?_)
                          refine lv_goto (tgt := 94) hx hb dX1_reads_120 (by decide) ?_
                          rw [shf_step (by omega) g3] at hP
                          exact ihS (j9 - 1) H locs _ (by omega) (by omega) (by omega) hP hS (lv_sub hl [1, 2, 3, 4, 0] rfl)
                    exact loopS ((lay (vI lt v) tg i).length + 1) (lay (vI lt v) tg i).length H locs _ (by omega) (by omega) (Nat.le_refl _) (by rw [shf_0]; exact hP) hS (lv_sub hl [2, 3, 4, 1, 0] rfl)
                · obtain ⟨t9, j8, ht9, hti9, hj8⟩ := put_find hn hc (by omega) c20 c30 c43
                  have hpl8 : pl ≤ j8 := Nat.le_of_not_lt (fun q1 => g4 j8 t9 q1 hj8 ht9.symm)
                  have hj8l : j8 < (lay (vI lt v) tg i).length := (List.getElem?_eq_some_iff.mp hj8).1
                  obtain ⟨x9, hx9⟩ := getq (Nat.lt_of_le_of_lt hpl8 hj8l)
                  refine lv_aload_n hx hb dX1_reads_46 rfl (lv_at hl 0 rfl) ?_
                  refine va_get (D := D) (ci := 1) (v := .ref (q 7)) (C := RX1) (T := TX1) (N := 10) hx hb hts hin hown hK hP 0 rfl rfl 7 (by decide) (hts (.fieldLink RX1 29 "EditGraphModel" "row" "[I") (by decide +kernel)) (fun _ h9 => h9) rfl dX1_reads_47 ?_
                  refine lv_iload hx hb dX1_reads_50 (lv_at hl 3 rfl) ?_
                  refine eg_iald hx hb hK hP 7 0 rfl rfl (by omega) (by decide) dX1_reads_52 ?_
                  rw [hh _ _ hx9]
                  refine lv_aload_n hx hb dX1_reads_53 rfl (lv_at hl 0 rfl) ?_
                  refine va_get (D := D) (ci := 1) (v := .ref (q 3)) (C := RX1) (T := TX1) (N := 10) hx hb hts hin hown hK hP 0 rfl rfl 2 (by decide) (hts (.fieldLink RX1 16 "EditGraphModel" "at" "[I") (by decide +kernel)) (fun _ h9 => h9) rfl dX1_reads_54 ?_
                  refine lv_iload_n hx hb dX1_reads_57 rfl (lv_at hl 2 rfl) ?_
                  refine eg_iald hx hb hK hP 3 0 rfl rfl (by omega) (by decide) dX1_reads_58 ?_
                  refine lv_icmp_eq (tgt := 68) hx hb dX1_reads_59 (by decide) (fun c59 => ?_) (fun c59 => ?_)
                  · refine lv_iload hx hb dX1_reads_68 (lv_at hl 3 rfl) ?_
                    refine lv_aload_n hx hb dX1_reads_70 rfl (lv_at hl 0 rfl) ?_
                    refine va_get (D := D) (ci := 1) (v := .ref (q 3)) (C := RX1) (T := TX1) (N := 10) hx hb hts hin hown hK hP 0 rfl rfl 2 (by decide) (hts (.fieldLink RX1 16 "EditGraphModel" "at" "[I") (by decide +kernel)) (fun _ h9 => h9) rfl dX1_reads_71 ?_
                    refine lv_iload_n hx hb dX1_reads_74 rfl (lv_at hl 2 rfl) ?_
                    refine eg_iald hx hb hK hP 3 0 rfl rfl (by omega) (by decide) dX1_reads_75 ?_
                    refine lv_iconst (v := (-1)) hx hb dX1_reads_76 (by decide +kernel) ?_
                    refine lv_icmp_ne (tgt := 84) hx hb dX1_reads_77 (by decide) (fun c77 => ?_) (fun c77 => ?_)
                    · refine lv_iconst (v := nI 1) hx hb dX1_reads_84 (by decide +kernel) ?_
                      refine eg_iadd hx hb dX1_reads_85 ?_
                      refine lv_istore (lv' := [(4, .int (nI (pl + 1))), (0, .ref (q 0)), (1, .long v), (3, .int (nI i))]) hx hb dX1_reads_86 hl (by decide) rfl (fun ls hl => ?_)
                      obtain ⟨L1, L2, hL1, hL2, hL3⟩ := put_at hn hc (show i < n by omega) c20 c30 ht9 hti9 (by rw [hx9]; rw [ht9] at c59; rw [nI_in1 (by have := (lay_mem (List.mem_of_getElem? hx9)).1; omega) (by omega) c59])
                      refine lv_aload_n hx hb dX1_reads_88 rfl (lv_at hl 1 rfl) ?_
                      refine va_get (D := D) (ci := 1) (v := .int (nI ((lay (vI lt v) tg i).length))) (C := RX1) (T := TX1) (N := 10) hx hb hts hin hown hK hP 0 rfl rfl 8 (by decide) (hts (.fieldLink RX1 49 "EditGraphModel" "length" "I") (by decide +kernel)) (fun _ h9 => h9) rfl dX1_reads_89 ?_
                      refine lv_istore (lv' := [(5, .int (nI ((lay (vI lt v) tg i).length))), (4, .int (nI (pl + 1))), (0, .ref (q 0)), (1, .long v), (3, .int (nI i))]) hx hb dX1_reads_92 hl (by decide) rfl (fun ls hl => ?_)
                      have hp0 : L1.length = pl + 1 := by omega
                      have hL9 : L1.length ≤ (lay (vI lt v) tg i).length := by rw [hL1, List.length_append]; omega
                      have loopS : ∀ (f : Nat) (j9 : Nat) (H : Heap) (locs : List Loc) (ls : Array Slot), j9 < f → pl + 1 ≤ j9 → j9 ≤ (lay (vI lt v) tg i).length → va_P D vwCl (wM q cI cJ (nI n) mk lt tg pa an kn (shf row1 j9 (lay (vI lt v) tg i).length) (nI (lay (vI lt v) tg i).length) thr) H → va_S (eg_A (wM q cI cJ (nI n) mk lt tg pa an kn row len thr)) s.heap H locs → lv_has ls 7 [(0, .ref (q 0)), (1, .long v), (3, .int (nI i)), (4, .int (nI (pl + 1))), (5, .int (nI j9))] → W p l e (headSpec wsX1_reads ({ frames := 1, cells := 0, slots := 0, locals := 22 })).room s m ([.ref (q 0), .long v] : List Value).toArray below meth c H locs 0 0 (MQ below (eg_Wq D (wM q cI cJ (nI n) mk lt tg pa an kn row len thr) (fun r w1 => ∃ (row' : Nat → Int32), r = none ∧ w1 = wM q cI cJ (nI n) mk lt tg pa an kn row' (nI (tx n lt tg v).length) thr ∧ holds row' (tx n lt tg v))) ([.ref (q 0), .long v] : List Value).toArray s 0 0 (eg_A (wM q cI cJ (nI n) mk lt tg pa an kn row len thr))) (F0 m 94 ls []) := by
                        intro f
                        induction f with
                        | zero => intro j9 H locs ls g1 g2 g3 hP hS hl; omega
                        | succ f ihS =>
                          intro j9 H locs ls g1 g2 g3 hP hS hl
                          refine lv_iload hx hb dX1_reads_94 (lv_at hl 4 rfl) ?_
                          refine lv_iload hx hb dX1_reads_96 (lv_at hl 3 rfl) ?_
                          refine eg_icmp_le (tgt := 123) hx hb dX1_reads_98 (by decide) (by omega) (by omega) (fun c98 => ?_) (fun c98 => ?_)
                          · have ej : j9 = L1.length := by omega
                            rw [ej, hL1] at hP
                            rw [← hp0] at hl
                            have hh2 := holds_put (i := i) (by rw [hL1] at hh; exact hh)
                            refine lv_aload_n hx hb dX1_reads_123 rfl (lv_at hl 0 rfl) ?_
                            refine va_get (D := D) (ci := 1) (v := .ref (q 7)) (C := RX1) (T := TX1) (N := 10) hx hb hts hin hown hK hP 0 rfl rfl 7 (by decide) (hts (.fieldLink RX1 29 "EditGraphModel" "row" "[I") (by decide +kernel)) (fun _ h9 => h9) rfl dX1_reads_124 ?_
                            refine lv_iload hx hb dX1_reads_127 (lv_at hl 3 rfl) ?_
                            refine lv_iload_n hx hb dX1_reads_129 rfl (lv_at hl 2 rfl) ?_
                            refine eg_iast hx hb hK hP hD rfl hS 7 0 rfl rfl (by omega) (by decide) dX1_reads_130 (w' := wM q cI cJ (nI n) mk lt tg pa an kn (upd (shf row1 L1.length (L1 ++ L2).length) L1.length (nI i)) (nI (L1 ++ L2).length) thr) rfl (fun H locs hP hS => ?_)
                            refine lv_aload_n hx hb dX1_reads_131 rfl (lv_at hl 0 rfl) ?_
                            refine lv_dup hx hb dX1_reads_132 rfl ?_
                            refine va_get (D := D) (ci := 1) (v := .int (nI ((L1 ++ L2).length))) (C := RX1) (T := TX1) (N := 10) hx hb hts hin hown hK hP 0 rfl rfl 8 (by decide) (hts (.fieldLink RX1 49 "EditGraphModel" "length" "I") (by decide +kernel)) (fun _ h9 => h9) rfl dX1_reads_133 ?_
                            refine lv_iconst (v := nI 1) hx hb dX1_reads_136 (by decide +kernel) ?_
                            refine eg_iadd hx hb dX1_reads_137 ?_
                            refine va_put (D := D) (ci := 1) (v := .int (nI ((L1 ++ L2).length + 1))) (ty := .int) (C := RX1) (T := TX1) (N := 10) hx hb hts hin tyX1 tyX1_ok nmX1 hown hK hP (eg_D_same hD rfl) hS 0 rfl rfl 8 (by decide) (hts (.fieldLink RX1 49 "EditGraphModel" "length" "I") (by decide +kernel)) (fun _ h9 => h9) rfl (by decide +kernel) rfl rfl (Nat.le_of_ble_eq_true rfl) dX1_reads_138 (fun H locs hP _ hS => ?_)
                            have hP : va_P D vwCl (wM q cI cJ (nI n) mk lt tg pa an kn (upd (shf row1 L1.length (L1 ++ L2).length) L1.length (nI i)) (nI ((L1 ++ L2).length + 1)) thr) H := hP
                            refine lv_iinc (v := nI (i + 1)) (lv' := [(3, .int (nI (i + 1))), (0, .ref (q 0)), (1, .long v), (4, .int (nI L1.length)), (5, .int (nI j9))]) hx hb dX1_reads_141 hl (k := 2) rfl (eg_inc1 _) (by decide) rfl (fun ls hl => ?_)
                            refine lv_goto (tgt := 7) hx hb dX1_reads_144 (by decide) ?_
                            have e8 : (lay (vI lt v) tg (i + 1)).length = (L1 ++ L2).length + 1 := by rw [hL3, List.length_append, List.length_append, List.length_cons]; omega
                            exact ih (i + 1) _ H locs _ (by omega) (by omega) (by rw [hL3]; exact hh2) (by rw [e8]; exact hP) hS (lv_sub hl [1, 2, 0] rfl)
                          · refine lv_aload_n hx hb dX1_reads_101 rfl (lv_at hl 0 rfl) ?_
                            refine va_get (D := D) (ci := 1) (v := .ref (q 7)) (C := RX1) (T := TX1) (N := 10) hx hb hts hin hown hK hP 0 rfl rfl 7 (by decide) (hts (.fieldLink RX1 29 "EditGraphModel" "row" "[I") (by decide +kernel)) (fun _ h9 => h9) rfl dX1_reads_102 ?_
                            refine lv_iload hx hb dX1_reads_105 (lv_at hl 4 rfl) ?_
                            refine lv_aload_n hx hb dX1_reads_107 rfl (lv_at hl 0 rfl) ?_
                            refine va_get (D := D) (ci := 1) (v := .ref (q 7)) (C := RX1) (T := TX1) (N := 10) hx hb hts hin hown hK hP 0 rfl rfl 7 (by decide) (hts (.fieldLink RX1 29 "EditGraphModel" "row" "[I") (by decide +kernel)) (fun _ h9 => h9) rfl dX1_reads_108 ?_
                            refine lv_iload hx hb dX1_reads_111 (lv_at hl 4 rfl) ?_
                            refine lv_iconst (v := nI 1) hx hb dX1_reads_113 (by decide +kernel) ?_
                            refine eg_isub hx hb dX1_reads_114 (by omega) ?_
                            refine eg_iald hx hb hK hP 7 0 rfl rfl (by omega) (by decide) dX1_reads_115 ?_
                            refine eg_iast hx hb hK hP hD rfl hS 7 0 rfl rfl (by omega) (by decide) dX1_reads_116 (w' := wM q cI cJ (nI n) mk lt tg pa an kn (upd (shf row1 j9 (lay (vI lt v) tg i).length) j9 ((shf row1 j9 (lay (vI lt v) tg i).length) (j9 - 1))) (nI (lay (vI lt v) tg i).length) thr) rfl (fun H locs hP hS => ?_)
                            refine lv_iinc (v := nI (j9 - 1)) (lv' := [(5, .int (nI (j9 - 1))), (0, .ref (q 0)), (1, .long v), (3, .int (nI i)), (4, .int (nI (pl + 1)))]) hx hb dX1_reads_117 hl (k := 4) rfl (eg_dec1 (by omega)) (by decide) rfl (fun ls hl => ?_)
                            refine lv_goto (tgt := 94) hx hb dX1_reads_120 (by decide) ?_
                            rw [shf_step (by omega) g3] at hP
                            exact ihS (j9 - 1) H locs _ (by omega) (by omega) (by omega) hP hS (lv_sub hl [1, 2, 3, 4, 0] rfl)
                      exact loopS ((lay (vI lt v) tg i).length + 1) (lay (vI lt v) tg i).length H locs _ (by omega) (by omega) (Nat.le_refl _) (by rw [shf_0]; exact hP) hS (lv_sub hl [2, 3, 4, 1, 0] rfl)
                    · exact absurd c77 c43
                  · refine lv_iinc (v := nI (pl + 1)) (lv' := [(4, .int (nI (pl + 1))), (0, .ref (q 0)), (1, .long v), (3, .int (nI i))]) hx hb dX1_reads_62 hl (k := 3) rfl (eg_inc1 _) (by decide) rfl (fun ls hl => ?_)
                    refine lv_goto (tgt := 36) hx hb dX1_reads_65 (by decide) ?_
                    have hpn : ∀ j9 y9 : Nat, j9 < pl + 1 → (lay (vI lt v) tg i)[j9]? = some y9 → ¬ nI y9 = tg i := by
                      intro j9 y9 q1 q2
                      rcases Nat.lt_or_ge j9 pl with q3 | q3
                      · exact g4 j9 y9 q3 q2
                      · have q4 : j9 = pl := by omega
                        subst q4
                        rw [hx9] at q2; cases q2; exact c59
                    exact ihW (pl + 1) _ (by omega) (by omega) (fun h => absurd h c43) hpn (lv_sub hl [1, 2, 3, 0] rfl)
            exact loopW ((lay (vI lt v) tg i).length + 1) 0 _ (by omega) (by omega) (fun _ => rfl) (fun j9 y9 q1 => absurd q1 (Nat.not_lt_zero _)) (lv_sub hl [1, 2, 3, 0] rfl)
  refine lv_aload_n hx hb dX1_reads_0 rfl (lv_at hl 0 rfl) ?_
  refine lv_iconst (v := nI 0) hx hb dX1_reads_1 (by decide +kernel) ?_
  refine va_put (D := D) (ci := 1) (v := .int (nI 0)) (ty := .int) (C := RX1) (T := TX1) (N := 10) hx hb hts hin tyX1 tyX1_ok nmX1 hown hK hP (eg_D_same hD rfl) hS 0 rfl rfl 8 (by decide) (hts (.fieldLink RX1 49 "EditGraphModel" "length" "I") (by decide +kernel)) (fun _ h9 => h9) rfl (by decide +kernel) rfl rfl (Nat.le_of_ble_eq_true rfl) dX1_reads_2 (fun H locs hP _ hS => ?_)
  have hP : va_P D vwCl (wM q cI cJ (nI n) mk lt tg pa an kn row (nI 0) thr) H := hP
  refine lv_iconst (v := nI 0) hx hb dX1_reads_5 (by decide +kernel) ?_
  refine lv_istore_n (lv' := [(3, .int (nI 0)), (0, .ref (q 0)), (1, .long v)]) hx hb dX1_reads_6 rfl hl (by decide) rfl (fun ls hl => ?_)
  exact loop1 (n + 1) 0 row H locs _ (by omega) (by omega) (holds_nil _) hP hS (lv_sub hl [1, 2, 0] rfl)
