-- the law, call by call (by specZ.py)
section EGW
variable {p : Program} {l : Launch} {e : Env} {s : State} {m : MethodId} {below : List Frame} {meth : Method} {c : Code} {b L : Nat} {xs : Nat → Int32} {D : va_G} {cI cJ : ClassId} {Q : State → Prop}
/-- a cell of the script -/
theorem eg_sld {H : Heap} {locs : List Loc} {cells slots pc i : Nat} {ls : Array Slot} {rest : List Value} {R : Room} {args : Array Value} (hx : p.tables.exec = Jvm.exec) (hb : c.code = code) (hX : va_X b L xs s s.heap) (hbl : b < s.heap.size) (hS : va_S (fun q => s.heap.size ≤ q) s.heap H locs) (hi : i < L) (hL : L ≤ 2048) (hdg : decode code pc = .ok (.iaload, 1))
    (kk : W p l e R s m args below meth c H locs cells slots Q (F0 m (pc + 1) ls (.int (xs i) :: rest))) : W p l e R s m args below meth c H locs cells slots Q (F0 m pc ls (.int (nI i) :: .ref b :: rest)) :=
  va_sld hx hb hX hbl (Nat.not_le.mpr hbl) hS (vp_in_nI hi (by omega)) hdg (by rw [nI_clamp (by omega)]; exact kk)
/-- what stands during the whole walk of the law -/
def LwC (p : Program) (l : Launch) (s : State) (m : MethodId) (c : Code) (b L : Nat) (xs : Nat → Int32) (D : va_G) (cI cJ : ClassId) : Prop :=
  p.tables.exec = Jvm.exec ∧ c.code = code ∧ c.maxLocals = 8 ∧ s.vm.findClass RL = some m.cls ∧ (∀ w ∈ wsL_law, w.before #[Value.ref b] s = true) ∧ va_K D vwCl (tyL cI cJ) s ∧ eg_T (fun q => s.heap.size ≤ q) s s.heap ∧ va_X b L xs s s.heap ∧ b < s.heap.size ∧ L ≤ 2048 ∧ l.stackTraces = false
/-- what stands whenever the law's loop begins anew -/
def LwS (s : State) (D : va_G) (cI cJ : ClassId) (b : Nat) (qx qm : Nat → Nat) (o i : Nat) (H : Heap) (locs : List Loc) (ls : Array Slot) : Prop :=
  ∃ (n : Nat) (mk lt tg : Nat → Int32) (pa an la kn : Nat → Int64) (fb : Int32) (fh nb te wt bh row : Nat → Int32) (len thr : Int32) (out : Nat → Int64), LI n lt tg an la kn fb fh nb ∧ va_P D vwCl ((wO o cJ out ++ wX qx cI cJ (nI n) mk lt tg pa an la kn fb fh nb te wt bh) ++ wM qm cI cJ (nI n) mk lt tg pa an kn row len thr) H ∧ va_D (fun q => s.heap.size ≤ q) ((wO o cJ out ++ wX qx cI cJ (nI n) mk lt tg pa an la kn fb fh nb te wt bh) ++ wM qm cI cJ (nI n) mk lt tg pa an kn row len thr) ∧ va_S (fun q => s.heap.size ≤ q) s.heap H locs ∧ lv_has ls 8 [(0, .ref b), (1, .ref (qx 0)), (2, .ref (qm 0)), (3, .ref o), (4, .int (nI i))]

set_option maxHeartbeats 4000000 in
set_option maxRecDepth 100000 in
theorem law_insert (hC : LwC p l s m c b L xs D cI cJ) (qx qm : Nat → Nat) (o i cells slots : Nat) (H : Heap) (locs : List Loc) (ls : Array Slot) (hi : i + 4 ≤ L) (hc : cells + 1 ≤ 1051) (hs : slots + 6 ≤ 9275) (hLS : LwS s D cI cJ b qx qm o i H locs ls)
    (kk : ∀ (H : Heap) (locs : List Loc) (ls : Array Slot), LwS s D cI cJ b qx qm o i H locs ls → W p l e room_1 s m #[Value.ref b] below meth c H locs (cells + 1) (slots + 6) Q (F0 m 1475 ls [])) : W p l e room_1 s m #[Value.ref b] below meth c H locs cells slots Q (F0 m 140 ls []) := by
  obtain ⟨hx, hb, hml, hown, hts, hK, hT, hX, hbl, hL, hfl⟩ := hC
  obtain ⟨n, mk, lt, tg, pa, an, la, kn, fb, fh, nb, te, wt, bh, row, len, thr, out, hLI, hP, hD, hS, hl⟩ := hLS
  have hR : room_1.cells = 1051 ∧ room_1.slots = 9275 := ⟨rfl, rfl⟩
  obtain ⟨k, v, rm, n1, mk1, lt1, tg1, pa1, an1, la1, kn1, hk4, hrm, hpL, hpM⟩ := pair_insert l D cI cJ qx qm n mk lt tg pa an la kn fb fh nb te wt bh row len thr o out (xs (i + 1)) (xs (i + 2)) (xs (i + 3)) hfl hLI
  refine lv_aload_n hx hb dL_law_140 rfl (lv_at hl 1 rfl) ?_
  refine lv_aload_n hx hb dL_law_141 rfl (lv_at hl 0 rfl) ?_
  refine lv_iload hx hb dL_law_142 (lv_at hl 4 rfl) ?_
  refine lv_iconst (v := nI 1) hx hb dL_law_144 (by decide +kernel) ?_
  refine eg_iadd hx hb dL_law_145 ?_
  refine eg_sld hx hb hX hbl hS (by omega) hL dL_law_146 ?_
  refine lv_aload_n hx hb dL_law_147 rfl (lv_at hl 0 rfl) ?_
  refine lv_iload hx hb dL_law_148 (lv_at hl 4 rfl) ?_
  refine lv_iconst (v := nI 2) hx hb dL_law_150 (by decide +kernel) ?_
  refine eg_iadd hx hb dL_law_151 ?_
  refine eg_sld hx hb hX hbl hS (by omega) hL dL_law_152 ?_
  refine lv_aload_n hx hb dL_law_153 rfl (lv_at hl 0 rfl) ?_
  refine lv_iload hx hb dL_law_154 (lv_at hl 4 rfl) ?_
  refine lv_iconst (v := nI 3) hx hb dL_law_156 (by decide +kernel) ?_
  refine eg_iadd hx hb dL_law_157 ?_
  refine eg_sld hx hb hX hbl hS (by omega) hL dL_law_158 ?_
  refine lv_aload_n hx hb dL_law_159 rfl (lv_at hl 3 rfl) ?_
  refine eg_callLc (wc := (wO o cJ out ++ wX qx cI cJ (nI n) mk lt tg pa an la kn fb fh nb te wt bh)) (wr := wM qm cI cJ (nI n) mk lt tg pa an kn row len thr) (As := [.ref (qx 0), .int (xs (i + 1)), .int (xs (i + 2)), .int (xs (i + 3)), .ref o]) (rest := []) hx hb hml hown hts hK hP hD hS hT [0, 1, 2, 3, 4, 5, 6, 7, 8, 9, 10, 11, 12, 13] [14, 15, 16, 17, 18, 19, 20, 21] rfl rfl (by decide) hpL (vx_cwSW 5 hts gL_law_L_insert rfl rfl rfl (by decide +kernel) ⟨Nat.le_of_ble_eq_true rfl, Nat.le_of_ble_eq_true rfl⟩) rfl hl.1 rfl (Nat.le_of_ble_eq_true rfl) dL_law_160 ⟨hc, hs⟩ (fun v9 w9 H locs hR9 hw9 hP hD hS => ?_)
  obtain ⟨rfl, fb, fh, nb, te, wt, bh, out, hLI, ho, rfl⟩ := hR9
  refine lv_istore (lv' := [(5, .int (nI k)), (0, .ref b), (1, .ref (qx 0)), (2, .ref (qm 0)), (3, .ref o), (4, .int (nI i))]) hx hb dL_law_163 hl (by decide) rfl (fun ls hl => ?_)
  refine lv_aload_n hx hb dL_law_165 rfl (lv_at hl 3 rfl) ?_
  refine lv_aload_n hx hb dL_law_166 rfl (lv_at hl 1 rfl) ?_
  refine lv_iload hx hb dL_law_167 (lv_at hl 5 rfl) ?_
  refine lv_iconst (v := nI 1) hx hb dL_law_169 (by decide +kernel) ?_
  refine eg_iadd hx hb dL_law_170 ?_
  refine eg_sld hx hb hX hbl hS (by omega) hL dL_law_171 ?_
  refine lv_aload_n hx hb dL_law_172 rfl (lv_at hl 1 rfl) ?_
  refine lv_iload hx hb dL_law_173 (lv_at hl 5 rfl) ?_
  refine lv_iconst (v := nI 2) hx hb dL_law_175 (by decide +kernel) ?_
  refine eg_iadd hx hb dL_law_176 ?_
  refine eg_sld hx hb hX hbl hS (by omega) hL dL_law_177 ?_
  refine lv_aload_n hx hb dL_law_178 rfl (lv_at hl 1 rfl) ?_
  refine lv_iload hx hb dL_law_179 (lv_at hl 5 rfl) ?_
  refine lv_iconst (v := nI 3) hx hb dL_law_181 (by decide +kernel) ?_
  refine eg_iadd hx hb dL_law_182 ?_
  refine eg_sld hx hb hX hbl hS (by omega) hL dL_law_183 ?_
  refine eg_callWVc (wc := wM qm cI cJ (nI n) mk lt tg pa an kn row len thr) (wr := wO o cJ out ++ wX qx cI cJ (nI n1) mk1 lt1 tg1 pa1 an1 la1 kn1 fb fh nb te wt bh) (As := [.int (xs (i + 1)), .int (xs (i + 2)), .int (xs (i + 3))]) (rest := []) hx hb hml hown hts hK hP hD hS [0, 1, 2, 3, 4, 5, 6, 7] [8, 9, 10, 11, 12, 13, 14, 15, 16, 17, 18, 19, 20, 21] rfl rfl (by decide) hpM (cwV 3 hts gL_law_X1_insert rfl hrm.1 hrm.2.1 (by decide +kernel) ⟨hrm.2.2.1, hrm.2.2.2⟩) (va_recv hK hP (ci := 1) (q0 := 0) rfl rfl) rfl hl.1 rfl (Nat.le_of_ble_eq_true rfl) dL_law_184 ⟨hc, hs⟩ (fun v9 w9 H locs hR9 hw9 hP hD hS => ?_)
  obtain ⟨rfl, row, len, rfl⟩ := hR9
  refine lv_istore (lv' := [(6, .int v), (5, .int (nI k)), (0, .ref b), (1, .ref (qx 0)), (2, .ref (qm 0)), (3, .ref o), (4, .int (nI i))]) hx hb dL_law_187 hl (by decide) rfl (fun ls hl => ?_)
  refine lv_aload_n hx hb dL_law_189 rfl (lv_at hl 4 rfl) ?_
  refine eg_callWVc (wc := wM qm cI cJ (nI n1) mk1 lt1 tg1 pa1 an1 kn1 row len (nI k)) (wr := wO o cJ out ++ wX qx cI cJ (nI n1) mk1 lt1 tg1 pa1 an1 la1 kn1 fb fh nb te wt bh) (As := []) (rest := []) hx hb hml hown hts hK hP hD hS [14, 15, 16, 17, 18, 19, 20, 21] [0, 1, 2, 3, 4, 5, 6, 7, 8, 9, 10, 11, 12, 13] rfl rfl (by decide) (eg_toW (c_X1_thrown l D cI cJ qm n1 mk1 lt1 tg1 pa1 an1 kn1 row len (nI k))) (cwV 0 hts gL_law_X1_thrown rfl rfl rfl (by decide +kernel) ⟨Nat.le_of_ble_eq_true rfl, Nat.le_of_ble_eq_true rfl⟩) (va_recv hK hP (ci := 1) (q0 := 14) rfl rfl) rfl hl.1 rfl (Nat.le_of_ble_eq_true rfl) dL_law_190 ⟨hc, hs⟩ (fun v9 w9 H locs hR9 hw9 hP hD hS => ?_)
  obtain ⟨rfl, rfl⟩ := hR9
  refine lv_iload hx hb dL_law_193 (lv_at hl 1 rfl) ?_
  refine lv_icmp_eq (tgt := 200) hx hb dL_law_195 (by decide) (fun _ => ?_) (fun h => absurd rfl h)
  have hend : ∀ ls : Array Slot, lv_has ls 8 [(6, .int v), (5, .int (nI k)), (0, .ref b), (1, .ref (qx 0)), (2, .ref (qm 0)), (3, .ref o), (4, .int (nI i))] → W p l e room_1 s m #[Value.ref b] below meth c H locs (cells + 1) (slots + 6) Q (F0 m 1475 ls []) := fun ls hl => kk H locs ls ⟨n1, mk1, lt1, tg1, pa1, an1, la1, kn1, fb, fh, nb, te, wt, bh, row, len, nI k, out, hLI, hP, hD, hS, lv_sub hl [2, 3, 4, 5, 6] rfl⟩
  refine lv_iload hx hb dL_law_200 (lv_at hl 1 rfl) ?_
  refine eg_if_ne (tgt := 217) hx hb dL_law_202 (by decide) (by omega) (fun _ => ?_) (fun hk => ?_)
  · exact lv_goto (tgt := 1475) hx hb dL_law_217 (by decide) (hend ls hl)
  · have ho := ho hk
    refine lv_aload_n hx hb dL_law_205 rfl (lv_at hl 5 rfl) ?_
    refine lv_iconst (v := nI 0) hx hb dL_law_206 (by decide +kernel) ?_
    refine eg_lald hx hb hK hP 0 1 rfl rfl (by decide) (by decide) dL_law_207 ?_
    refine lv_iload hx hb dL_law_208 (lv_at hl 0 rfl) ?_
    refine lv_i2l (v := v.toInt64) hx hb dL_law_210 rfl ?_
    refine eg_lcmp_eq (tgt := 217) hx hb dL_law_211 rfl dL_law_212 (by decide) (fun _ => ?_) (fun h => absurd (ho) h)
    exact lv_goto (tgt := 1475) hx hb dL_law_217 (by decide) (hend ls hl)
set_option maxHeartbeats 4000000 in
set_option maxRecDepth 100000 in
theorem law_delete (hC : LwC p l s m c b L xs D cI cJ) (qx qm : Nat → Nat) (o i cells slots : Nat) (H : Heap) (locs : List Loc) (ls : Array Slot) (hi : i + 4 ≤ L) (hc : cells + 1 ≤ 1051) (hs : slots + 6 ≤ 9275) (hLS : LwS s D cI cJ b qx qm o i H locs ls)
    (kk : ∀ (H : Heap) (locs : List Loc) (ls : Array Slot), LwS s D cI cJ b qx qm o i H locs ls → W p l e room_1 s m #[Value.ref b] below meth c H locs (cells + 1) (slots + 6) Q (F0 m 1475 ls [])) : W p l e room_1 s m #[Value.ref b] below meth c H locs cells slots Q (F0 m 220 ls []) := by
  obtain ⟨hx, hb, hml, hown, hts, hK, hT, hX, hbl, hL, hfl⟩ := hC
  obtain ⟨n, mk, lt, tg, pa, an, la, kn, fb, fh, nb, te, wt, bh, row, len, thr, out, hLI, hP, hD, hS, hl⟩ := hLS
  have hR : room_1.cells = 1051 ∧ room_1.slots = 9275 := ⟨rfl, rfl⟩
  obtain ⟨k, v, rm, n1, mk1, lt1, tg1, pa1, an1, la1, kn1, hk4, hrm, hpL, hpM⟩ := pair_delete l D cI cJ qx qm n mk lt tg pa an la kn fb fh nb te wt bh row len thr o out (xs (i + 1)) (xs (i + 2)) hfl hLI
  refine lv_aload_n hx hb dL_law_220 rfl (lv_at hl 1 rfl) ?_
  refine lv_aload_n hx hb dL_law_221 rfl (lv_at hl 0 rfl) ?_
  refine lv_iload hx hb dL_law_222 (lv_at hl 4 rfl) ?_
  refine lv_iconst (v := nI 1) hx hb dL_law_224 (by decide +kernel) ?_
  refine eg_iadd hx hb dL_law_225 ?_
  refine eg_sld hx hb hX hbl hS (by omega) hL dL_law_226 ?_
  refine lv_aload_n hx hb dL_law_227 rfl (lv_at hl 0 rfl) ?_
  refine lv_iload hx hb dL_law_228 (lv_at hl 4 rfl) ?_
  refine lv_iconst (v := nI 2) hx hb dL_law_230 (by decide +kernel) ?_
  refine eg_iadd hx hb dL_law_231 ?_
  refine eg_sld hx hb hX hbl hS (by omega) hL dL_law_232 ?_
  refine lv_aload_n hx hb dL_law_233 rfl (lv_at hl 3 rfl) ?_
  refine eg_callLc (wc := (wO o cJ out ++ wX qx cI cJ (nI n) mk lt tg pa an la kn fb fh nb te wt bh)) (wr := wM qm cI cJ (nI n) mk lt tg pa an kn row len thr) (As := [.ref (qx 0), .int (xs (i + 1)), .int (xs (i + 2)), .ref o]) (rest := []) hx hb hml hown hts hK hP hD hS hT [0, 1, 2, 3, 4, 5, 6, 7, 8, 9, 10, 11, 12, 13] [14, 15, 16, 17, 18, 19, 20, 21] rfl rfl (by decide) hpL (vx_cwSW 4 hts gL_law_L_delete rfl rfl rfl (by decide +kernel) ⟨Nat.le_of_ble_eq_true rfl, Nat.le_of_ble_eq_true rfl⟩) rfl hl.1 rfl (Nat.le_of_ble_eq_true rfl) dL_law_234 ⟨hc, hs⟩ (fun v9 w9 H locs hR9 hw9 hP hD hS => ?_)
  obtain ⟨rfl, fb, fh, nb, te, wt, bh, out, hLI, ho, rfl⟩ := hR9
  refine lv_istore (lv' := [(5, .int (nI k)), (0, .ref b), (1, .ref (qx 0)), (2, .ref (qm 0)), (3, .ref o), (4, .int (nI i))]) hx hb dL_law_237 hl (by decide) rfl (fun ls hl => ?_)
  refine lv_aload_n hx hb dL_law_239 rfl (lv_at hl 3 rfl) ?_
  refine lv_aload_n hx hb dL_law_240 rfl (lv_at hl 1 rfl) ?_
  refine lv_iload hx hb dL_law_241 (lv_at hl 5 rfl) ?_
  refine lv_iconst (v := nI 1) hx hb dL_law_243 (by decide +kernel) ?_
  refine eg_iadd hx hb dL_law_244 ?_
  refine eg_sld hx hb hX hbl hS (by omega) hL dL_law_245 ?_
  refine lv_aload_n hx hb dL_law_246 rfl (lv_at hl 1 rfl) ?_
  refine lv_iload hx hb dL_law_247 (lv_at hl 5 rfl) ?_
  refine lv_iconst (v := nI 2) hx hb dL_law_249 (by decide +kernel) ?_
  refine eg_iadd hx hb dL_law_250 ?_
  refine eg_sld hx hb hX hbl hS (by omega) hL dL_law_251 ?_
  refine eg_callWVc (wc := wM qm cI cJ (nI n) mk lt tg pa an kn row len thr) (wr := wO o cJ out ++ wX qx cI cJ (nI n1) mk1 lt1 tg1 pa1 an1 la1 kn1 fb fh nb te wt bh) (As := [.int (xs (i + 1)), .int (xs (i + 2))]) (rest := []) hx hb hml hown hts hK hP hD hS [0, 1, 2, 3, 4, 5, 6, 7] [8, 9, 10, 11, 12, 13, 14, 15, 16, 17, 18, 19, 20, 21] rfl rfl (by decide) hpM (cwV 2 hts gL_law_X1_delete rfl hrm.1 hrm.2.1 (by decide +kernel) ⟨hrm.2.2.1, hrm.2.2.2⟩) (va_recv hK hP (ci := 1) (q0 := 0) rfl rfl) rfl hl.1 rfl (Nat.le_of_ble_eq_true rfl) dL_law_252 ⟨hc, hs⟩ (fun v9 w9 H locs hR9 hw9 hP hD hS => ?_)
  obtain ⟨rfl, row, len, rfl⟩ := hR9
  refine lv_istore (lv' := [(6, .int v), (5, .int (nI k)), (0, .ref b), (1, .ref (qx 0)), (2, .ref (qm 0)), (3, .ref o), (4, .int (nI i))]) hx hb dL_law_255 hl (by decide) rfl (fun ls hl => ?_)
  refine lv_aload_n hx hb dL_law_257 rfl (lv_at hl 4 rfl) ?_
  refine eg_callWVc (wc := wM qm cI cJ (nI n1) mk1 lt1 tg1 pa1 an1 kn1 row len (nI k)) (wr := wO o cJ out ++ wX qx cI cJ (nI n1) mk1 lt1 tg1 pa1 an1 la1 kn1 fb fh nb te wt bh) (As := []) (rest := []) hx hb hml hown hts hK hP hD hS [14, 15, 16, 17, 18, 19, 20, 21] [0, 1, 2, 3, 4, 5, 6, 7, 8, 9, 10, 11, 12, 13] rfl rfl (by decide) (eg_toW (c_X1_thrown l D cI cJ qm n1 mk1 lt1 tg1 pa1 an1 kn1 row len (nI k))) (cwV 0 hts gL_law_X1_thrown rfl rfl rfl (by decide +kernel) ⟨Nat.le_of_ble_eq_true rfl, Nat.le_of_ble_eq_true rfl⟩) (va_recv hK hP (ci := 1) (q0 := 14) rfl rfl) rfl hl.1 rfl (Nat.le_of_ble_eq_true rfl) dL_law_258 ⟨hc, hs⟩ (fun v9 w9 H locs hR9 hw9 hP hD hS => ?_)
  obtain ⟨rfl, rfl⟩ := hR9
  refine lv_iload hx hb dL_law_261 (lv_at hl 1 rfl) ?_
  refine lv_icmp_eq (tgt := 268) hx hb dL_law_263 (by decide) (fun _ => ?_) (fun h => absurd rfl h)
  have hend : ∀ ls : Array Slot, lv_has ls 8 [(6, .int v), (5, .int (nI k)), (0, .ref b), (1, .ref (qx 0)), (2, .ref (qm 0)), (3, .ref o), (4, .int (nI i))] → W p l e room_1 s m #[Value.ref b] below meth c H locs (cells + 1) (slots + 6) Q (F0 m 1475 ls []) := fun ls hl => kk H locs ls ⟨n1, mk1, lt1, tg1, pa1, an1, la1, kn1, fb, fh, nb, te, wt, bh, row, len, nI k, out, hLI, hP, hD, hS, lv_sub hl [2, 3, 4, 5, 6] rfl⟩
  refine lv_iload hx hb dL_law_268 (lv_at hl 1 rfl) ?_
  refine eg_if_ne (tgt := 285) hx hb dL_law_270 (by decide) (by omega) (fun _ => ?_) (fun hk => ?_)
  · exact lv_goto (tgt := 1475) hx hb dL_law_285 (by decide) (hend ls hl)
  · have ho := ho hk
    refine lv_aload_n hx hb dL_law_273 rfl (lv_at hl 5 rfl) ?_
    refine lv_iconst (v := nI 0) hx hb dL_law_274 (by decide +kernel) ?_
    refine eg_lald hx hb hK hP 0 1 rfl rfl (by decide) (by decide) dL_law_275 ?_
    refine lv_iload hx hb dL_law_276 (lv_at hl 0 rfl) ?_
    refine lv_i2l (v := v.toInt64) hx hb dL_law_278 rfl ?_
    refine eg_lcmp_eq (tgt := 285) hx hb dL_law_279 rfl dL_law_280 (by decide) (fun _ => ?_) (fun h => absurd (ho) h)
    exact lv_goto (tgt := 1475) hx hb dL_law_285 (by decide) (hend ls hl)
set_option maxHeartbeats 4000000 in
set_option maxRecDepth 100000 in
theorem law_learn (hC : LwC p l s m c b L xs D cI cJ) (qx qm : Nat → Nat) (o i cells slots : Nat) (H : Heap) (locs : List Loc) (ls : Array Slot) (hi : i + 4 ≤ L) (hc : cells + 1 ≤ 1051) (hs : slots + 6 ≤ 9275) (hLS : LwS s D cI cJ b qx qm o i H locs ls)
    (kk : ∀ (H : Heap) (locs : List Loc) (ls : Array Slot), LwS s D cI cJ b qx qm o i H locs ls → W p l e room_1 s m #[Value.ref b] below meth c H locs (cells + 1) (slots + 6) Q (F0 m 1475 ls [])) : W p l e room_1 s m #[Value.ref b] below meth c H locs cells slots Q (F0 m 288 ls []) := by
  obtain ⟨hx, hb, hml, hown, hts, hK, hT, hX, hbl, hL, hfl⟩ := hC
  obtain ⟨n, mk, lt, tg, pa, an, la, kn, fb, fh, nb, te, wt, bh, row, len, thr, out, hLI, hP, hD, hS, hl⟩ := hLS
  have hR : room_1.cells = 1051 ∧ room_1.slots = 9275 := ⟨rfl, rfl⟩
  obtain ⟨k, v, rm, n1, mk1, lt1, tg1, pa1, an1, la1, kn1, hk4, hrm, hpL, hpM⟩ := pair_learn l D cI cJ qx qm n mk lt tg pa an la kn fb fh nb te wt bh row len thr o out (xs (i + 1)) (xs (i + 2)) hfl hLI
  refine lv_aload_n hx hb dL_law_288 rfl (lv_at hl 1 rfl) ?_
  refine lv_aload_n hx hb dL_law_289 rfl (lv_at hl 0 rfl) ?_
  refine lv_iload hx hb dL_law_290 (lv_at hl 4 rfl) ?_
  refine lv_iconst (v := nI 1) hx hb dL_law_292 (by decide +kernel) ?_
  refine eg_iadd hx hb dL_law_293 ?_
  refine eg_sld hx hb hX hbl hS (by omega) hL dL_law_294 ?_
  refine lv_aload_n hx hb dL_law_295 rfl (lv_at hl 0 rfl) ?_
  refine lv_iload hx hb dL_law_296 (lv_at hl 4 rfl) ?_
  refine lv_iconst (v := nI 2) hx hb dL_law_298 (by decide +kernel) ?_
  refine eg_iadd hx hb dL_law_299 ?_
  refine eg_sld hx hb hX hbl hS (by omega) hL dL_law_300 ?_
  refine lv_aload_n hx hb dL_law_301 rfl (lv_at hl 3 rfl) ?_
  refine eg_callLc (wc := (wO o cJ out ++ wX qx cI cJ (nI n) mk lt tg pa an la kn fb fh nb te wt bh)) (wr := wM qm cI cJ (nI n) mk lt tg pa an kn row len thr) (As := [.ref (qx 0), .int (xs (i + 1)), .int (xs (i + 2)), .ref o]) (rest := []) hx hb hml hown hts hK hP hD hS hT [0, 1, 2, 3, 4, 5, 6, 7, 8, 9, 10, 11, 12, 13] [14, 15, 16, 17, 18, 19, 20, 21] rfl rfl (by decide) hpL (vx_cwSW 4 hts gL_law_L_learn rfl rfl rfl (by decide +kernel) ⟨Nat.le_of_ble_eq_true rfl, Nat.le_of_ble_eq_true rfl⟩) rfl hl.1 rfl (Nat.le_of_ble_eq_true rfl) dL_law_302 ⟨hc, hs⟩ (fun v9 w9 H locs hR9 hw9 hP hD hS => ?_)
  obtain ⟨rfl, fb, fh, nb, te, wt, bh, out, hLI, ho, rfl⟩ := hR9
  refine lv_istore (lv' := [(5, .int (nI k)), (0, .ref b), (1, .ref (qx 0)), (2, .ref (qm 0)), (3, .ref o), (4, .int (nI i))]) hx hb dL_law_305 hl (by decide) rfl (fun ls hl => ?_)
  refine lv_aload_n hx hb dL_law_307 rfl (lv_at hl 3 rfl) ?_
  refine lv_aload_n hx hb dL_law_308 rfl (lv_at hl 1 rfl) ?_
  refine lv_iload hx hb dL_law_309 (lv_at hl 5 rfl) ?_
  refine lv_iconst (v := nI 1) hx hb dL_law_311 (by decide +kernel) ?_
  refine eg_iadd hx hb dL_law_312 ?_
  refine eg_sld hx hb hX hbl hS (by omega) hL dL_law_313 ?_
  refine lv_aload_n hx hb dL_law_314 rfl (lv_at hl 1 rfl) ?_
  refine lv_iload hx hb dL_law_315 (lv_at hl 5 rfl) ?_
  refine lv_iconst (v := nI 2) hx hb dL_law_317 (by decide +kernel) ?_
  refine eg_iadd hx hb dL_law_318 ?_
  refine eg_sld hx hb hX hbl hS (by omega) hL dL_law_319 ?_
  refine eg_callWVc (wc := wM qm cI cJ (nI n) mk lt tg pa an kn row len thr) (wr := wO o cJ out ++ wX qx cI cJ (nI n1) mk1 lt1 tg1 pa1 an1 la1 kn1 fb fh nb te wt bh) (As := [.int (xs (i + 1)), .int (xs (i + 2))]) (rest := []) hx hb hml hown hts hK hP hD hS [0, 1, 2, 3, 4, 5, 6, 7] [8, 9, 10, 11, 12, 13, 14, 15, 16, 17, 18, 19, 20, 21] rfl rfl (by decide) hpM (cwV 2 hts gL_law_X1_learn rfl hrm.1 hrm.2.1 (by decide +kernel) ⟨hrm.2.2.1, hrm.2.2.2⟩) (va_recv hK hP (ci := 1) (q0 := 0) rfl rfl) rfl hl.1 rfl (Nat.le_of_ble_eq_true rfl) dL_law_320 ⟨hc, hs⟩ (fun v9 w9 H locs hR9 hw9 hP hD hS => ?_)
  obtain ⟨rfl, row, len, rfl⟩ := hR9
  refine lv_istore (lv' := [(6, .int v), (5, .int (nI k)), (0, .ref b), (1, .ref (qx 0)), (2, .ref (qm 0)), (3, .ref o), (4, .int (nI i))]) hx hb dL_law_323 hl (by decide) rfl (fun ls hl => ?_)
  refine lv_aload_n hx hb dL_law_325 rfl (lv_at hl 4 rfl) ?_
  refine eg_callWVc (wc := wM qm cI cJ (nI n1) mk1 lt1 tg1 pa1 an1 kn1 row len (nI k)) (wr := wO o cJ out ++ wX qx cI cJ (nI n1) mk1 lt1 tg1 pa1 an1 la1 kn1 fb fh nb te wt bh) (As := []) (rest := []) hx hb hml hown hts hK hP hD hS [14, 15, 16, 17, 18, 19, 20, 21] [0, 1, 2, 3, 4, 5, 6, 7, 8, 9, 10, 11, 12, 13] rfl rfl (by decide) (eg_toW (c_X1_thrown l D cI cJ qm n1 mk1 lt1 tg1 pa1 an1 kn1 row len (nI k))) (cwV 0 hts gL_law_X1_thrown rfl rfl rfl (by decide +kernel) ⟨Nat.le_of_ble_eq_true rfl, Nat.le_of_ble_eq_true rfl⟩) (va_recv hK hP (ci := 1) (q0 := 14) rfl rfl) rfl hl.1 rfl (Nat.le_of_ble_eq_true rfl) dL_law_326 ⟨hc, hs⟩ (fun v9 w9 H locs hR9 hw9 hP hD hS => ?_)
  obtain ⟨rfl, rfl⟩ := hR9
  refine lv_iload hx hb dL_law_329 (lv_at hl 1 rfl) ?_
  refine lv_icmp_eq (tgt := 336) hx hb dL_law_331 (by decide) (fun _ => ?_) (fun h => absurd rfl h)
  have hend : ∀ ls : Array Slot, lv_has ls 8 [(6, .int v), (5, .int (nI k)), (0, .ref b), (1, .ref (qx 0)), (2, .ref (qm 0)), (3, .ref o), (4, .int (nI i))] → W p l e room_1 s m #[Value.ref b] below meth c H locs (cells + 1) (slots + 6) Q (F0 m 1475 ls []) := fun ls hl => kk H locs ls ⟨n1, mk1, lt1, tg1, pa1, an1, la1, kn1, fb, fh, nb, te, wt, bh, row, len, nI k, out, hLI, hP, hD, hS, lv_sub hl [2, 3, 4, 5, 6] rfl⟩
  refine lv_iload hx hb dL_law_336 (lv_at hl 1 rfl) ?_
  refine eg_if_ne (tgt := 353) hx hb dL_law_338 (by decide) (by omega) (fun _ => ?_) (fun hk => ?_)
  · exact lv_goto (tgt := 1475) hx hb dL_law_353 (by decide) (hend ls hl)
  · have ho := ho hk
    refine lv_aload_n hx hb dL_law_341 rfl (lv_at hl 5 rfl) ?_
    refine lv_iconst (v := nI 0) hx hb dL_law_342 (by decide +kernel) ?_
    refine eg_lald hx hb hK hP 0 1 rfl rfl (by decide) (by decide) dL_law_343 ?_
    refine lv_iload hx hb dL_law_344 (lv_at hl 0 rfl) ?_
    refine lv_i2l (v := v.toInt64) hx hb dL_law_346 rfl ?_
    refine eg_lcmp_eq (tgt := 353) hx hb dL_law_347 rfl dL_law_348 (by decide) (fun _ => ?_) (fun h => absurd (ho) h)
    exact lv_goto (tgt := 1475) hx hb dL_law_353 (by decide) (hend ls hl)
set_option maxHeartbeats 4000000 in
set_option maxRecDepth 100000 in
theorem law_learnEvent (hC : LwC p l s m c b L xs D cI cJ) (qx qm : Nat → Nat) (o i cells slots : Nat) (H : Heap) (locs : List Loc) (ls : Array Slot) (hi : i + 4 ≤ L) (hc : cells + 1 ≤ 1051) (hs : slots + 6 ≤ 9275) (hLS : LwS s D cI cJ b qx qm o i H locs ls)
    (kk : ∀ (H : Heap) (locs : List Loc) (ls : Array Slot), LwS s D cI cJ b qx qm o i H locs ls → W p l e room_1 s m #[Value.ref b] below meth c H locs (cells + 1) (slots + 6) Q (F0 m 1475 ls [])) : W p l e room_1 s m #[Value.ref b] below meth c H locs cells slots Q (F0 m 356 ls []) := by
  obtain ⟨hx, hb, hml, hown, hts, hK, hT, hX, hbl, hL, hfl⟩ := hC
  obtain ⟨n, mk, lt, tg, pa, an, la, kn, fb, fh, nb, te, wt, bh, row, len, thr, out, hLI, hP, hD, hS, hl⟩ := hLS
  have hR : room_1.cells = 1051 ∧ room_1.slots = 9275 := ⟨rfl, rfl⟩
  obtain ⟨k, v, rm, n1, mk1, lt1, tg1, pa1, an1, la1, kn1, hk4, hrm, hpL, hpM⟩ := pair_learnEvent l D cI cJ qx qm n mk lt tg pa an la kn fb fh nb te wt bh row len thr o out (xs (i + 1)) (xs (i + 2)) hfl hLI
  refine lv_aload_n hx hb dL_law_356 rfl (lv_at hl 1 rfl) ?_
  refine lv_aload_n hx hb dL_law_357 rfl (lv_at hl 0 rfl) ?_
  refine lv_iload hx hb dL_law_358 (lv_at hl 4 rfl) ?_
  refine lv_iconst (v := nI 1) hx hb dL_law_360 (by decide +kernel) ?_
  refine eg_iadd hx hb dL_law_361 ?_
  refine eg_sld hx hb hX hbl hS (by omega) hL dL_law_362 ?_
  refine lv_aload_n hx hb dL_law_363 rfl (lv_at hl 0 rfl) ?_
  refine lv_iload hx hb dL_law_364 (lv_at hl 4 rfl) ?_
  refine lv_iconst (v := nI 2) hx hb dL_law_366 (by decide +kernel) ?_
  refine eg_iadd hx hb dL_law_367 ?_
  refine eg_sld hx hb hX hbl hS (by omega) hL dL_law_368 ?_
  refine lv_aload_n hx hb dL_law_369 rfl (lv_at hl 3 rfl) ?_
  refine eg_callLc (wc := (wO o cJ out ++ wX qx cI cJ (nI n) mk lt tg pa an la kn fb fh nb te wt bh)) (wr := wM qm cI cJ (nI n) mk lt tg pa an kn row len thr) (As := [.ref (qx 0), .int (xs (i + 1)), .int (xs (i + 2)), .ref o]) (rest := []) hx hb hml hown hts hK hP hD hS hT [0, 1, 2, 3, 4, 5, 6, 7, 8, 9, 10, 11, 12, 13] [14, 15, 16, 17, 18, 19, 20, 21] rfl rfl (by decide) hpL (vx_cwSW 4 hts gL_law_L_learnEvent rfl rfl rfl (by decide +kernel) ⟨Nat.le_of_ble_eq_true rfl, Nat.le_of_ble_eq_true rfl⟩) rfl hl.1 rfl (Nat.le_of_ble_eq_true rfl) dL_law_370 ⟨hc, hs⟩ (fun v9 w9 H locs hR9 hw9 hP hD hS => ?_)
  obtain ⟨rfl, fb, fh, nb, te, wt, bh, out, hLI, ho, rfl⟩ := hR9
  refine lv_istore (lv' := [(5, .int (nI k)), (0, .ref b), (1, .ref (qx 0)), (2, .ref (qm 0)), (3, .ref o), (4, .int (nI i))]) hx hb dL_law_373 hl (by decide) rfl (fun ls hl => ?_)
  refine lv_aload_n hx hb dL_law_375 rfl (lv_at hl 3 rfl) ?_
  refine lv_aload_n hx hb dL_law_376 rfl (lv_at hl 1 rfl) ?_
  refine lv_iload hx hb dL_law_377 (lv_at hl 5 rfl) ?_
  refine lv_iconst (v := nI 1) hx hb dL_law_379 (by decide +kernel) ?_
  refine eg_iadd hx hb dL_law_380 ?_
  refine eg_sld hx hb hX hbl hS (by omega) hL dL_law_381 ?_
  refine lv_aload_n hx hb dL_law_382 rfl (lv_at hl 1 rfl) ?_
  refine lv_iload hx hb dL_law_383 (lv_at hl 5 rfl) ?_
  refine lv_iconst (v := nI 2) hx hb dL_law_385 (by decide +kernel) ?_
  refine eg_iadd hx hb dL_law_386 ?_
  refine eg_sld hx hb hX hbl hS (by omega) hL dL_law_387 ?_
  refine eg_callWVc (wc := wM qm cI cJ (nI n) mk lt tg pa an kn row len thr) (wr := wO o cJ out ++ wX qx cI cJ (nI n1) mk1 lt1 tg1 pa1 an1 la1 kn1 fb fh nb te wt bh) (As := [.int (xs (i + 1)), .int (xs (i + 2))]) (rest := []) hx hb hml hown hts hK hP hD hS [0, 1, 2, 3, 4, 5, 6, 7] [8, 9, 10, 11, 12, 13, 14, 15, 16, 17, 18, 19, 20, 21] rfl rfl (by decide) hpM (cwV 2 hts gL_law_X1_learnEvent rfl hrm.1 hrm.2.1 (by decide +kernel) ⟨hrm.2.2.1, hrm.2.2.2⟩) (va_recv hK hP (ci := 1) (q0 := 0) rfl rfl) rfl hl.1 rfl (Nat.le_of_ble_eq_true rfl) dL_law_388 ⟨hc, hs⟩ (fun v9 w9 H locs hR9 hw9 hP hD hS => ?_)
  obtain ⟨rfl, row, len, rfl⟩ := hR9
  refine lv_istore (lv' := [(6, .int v), (5, .int (nI k)), (0, .ref b), (1, .ref (qx 0)), (2, .ref (qm 0)), (3, .ref o), (4, .int (nI i))]) hx hb dL_law_391 hl (by decide) rfl (fun ls hl => ?_)
  refine lv_aload_n hx hb dL_law_393 rfl (lv_at hl 4 rfl) ?_
  refine eg_callWVc (wc := wM qm cI cJ (nI n1) mk1 lt1 tg1 pa1 an1 kn1 row len (nI k)) (wr := wO o cJ out ++ wX qx cI cJ (nI n1) mk1 lt1 tg1 pa1 an1 la1 kn1 fb fh nb te wt bh) (As := []) (rest := []) hx hb hml hown hts hK hP hD hS [14, 15, 16, 17, 18, 19, 20, 21] [0, 1, 2, 3, 4, 5, 6, 7, 8, 9, 10, 11, 12, 13] rfl rfl (by decide) (eg_toW (c_X1_thrown l D cI cJ qm n1 mk1 lt1 tg1 pa1 an1 kn1 row len (nI k))) (cwV 0 hts gL_law_X1_thrown rfl rfl rfl (by decide +kernel) ⟨Nat.le_of_ble_eq_true rfl, Nat.le_of_ble_eq_true rfl⟩) (va_recv hK hP (ci := 1) (q0 := 14) rfl rfl) rfl hl.1 rfl (Nat.le_of_ble_eq_true rfl) dL_law_394 ⟨hc, hs⟩ (fun v9 w9 H locs hR9 hw9 hP hD hS => ?_)
  obtain ⟨rfl, rfl⟩ := hR9
  refine lv_iload hx hb dL_law_397 (lv_at hl 1 rfl) ?_
  refine lv_icmp_eq (tgt := 404) hx hb dL_law_399 (by decide) (fun _ => ?_) (fun h => absurd rfl h)
  have hend : ∀ ls : Array Slot, lv_has ls 8 [(6, .int v), (5, .int (nI k)), (0, .ref b), (1, .ref (qx 0)), (2, .ref (qm 0)), (3, .ref o), (4, .int (nI i))] → W p l e room_1 s m #[Value.ref b] below meth c H locs (cells + 1) (slots + 6) Q (F0 m 1475 ls []) := fun ls hl => kk H locs ls ⟨n1, mk1, lt1, tg1, pa1, an1, la1, kn1, fb, fh, nb, te, wt, bh, row, len, nI k, out, hLI, hP, hD, hS, lv_sub hl [2, 3, 4, 5, 6] rfl⟩
  refine lv_iload hx hb dL_law_404 (lv_at hl 1 rfl) ?_
  refine eg_if_ne (tgt := 421) hx hb dL_law_406 (by decide) (by omega) (fun _ => ?_) (fun hk => ?_)
  · exact lv_goto (tgt := 1475) hx hb dL_law_421 (by decide) (hend ls hl)
  · have ho := ho hk
    refine lv_aload_n hx hb dL_law_409 rfl (lv_at hl 5 rfl) ?_
    refine lv_iconst (v := nI 0) hx hb dL_law_410 (by decide +kernel) ?_
    refine eg_lald hx hb hK hP 0 1 rfl rfl (by decide) (by decide) dL_law_411 ?_
    refine lv_iload hx hb dL_law_412 (lv_at hl 0 rfl) ?_
    refine lv_i2l (v := v.toInt64) hx hb dL_law_414 rfl ?_
    refine eg_lcmp_eq (tgt := 421) hx hb dL_law_415 rfl dL_law_416 (by decide) (fun _ => ?_) (fun h => absurd (ho) h)
    exact lv_goto (tgt := 1475) hx hb dL_law_421 (by decide) (hend ls hl)
set_option maxHeartbeats 4000000 in
set_option maxRecDepth 100000 in
theorem law_events (hC : LwC p l s m c b L xs D cI cJ) (qx qm : Nat → Nat) (o i cells slots : Nat) (H : Heap) (locs : List Loc) (ls : Array Slot) (hi : i + 4 ≤ L) (hc : cells + 1 ≤ 1051) (hs : slots + 6 ≤ 9275) (hLS : LwS s D cI cJ b qx qm o i H locs ls)
    (kk : ∀ (H : Heap) (locs : List Loc) (ls : Array Slot), LwS s D cI cJ b qx qm o i H locs ls → W p l e room_1 s m #[Value.ref b] below meth c H locs (cells + 1) (slots + 6) Q (F0 m 1475 ls [])) : W p l e room_1 s m #[Value.ref b] below meth c H locs cells slots Q (F0 m 424 ls []) := by
  obtain ⟨hx, hb, hml, hown, hts, hK, hT, hX, hbl, hL, hfl⟩ := hC
  obtain ⟨n, mk, lt, tg, pa, an, la, kn, fb, fh, nb, te, wt, bh, row, len, thr, out, hLI, hP, hD, hS, hl⟩ := hLS
  have hR : room_1.cells = 1051 ∧ room_1.slots = 9275 := ⟨rfl, rfl⟩
  refine lv_aload_n hx hb dL_law_424 rfl (lv_at hl 1 rfl) ?_
  refine eg_callWVc (wc := wX qx cI cJ (nI n) mk lt tg pa an la kn fb fh nb te wt bh) (wr := wO o cJ out ++ wM qm cI cJ (nI n) mk lt tg pa an kn row len thr) (As := []) (rest := []) hx hb hml hown hts hK hP hD hS [1, 2, 3, 4, 5, 6, 7, 8, 9, 10, 11, 12, 13] [0, 14, 15, 16, 17, 18, 19, 20, 21] rfl rfl (by decide) (eg_toW (c_X0_events l D cI cJ qx n mk lt tg pa an la kn fb fh nb te wt bh)) (cwV 0 hts gL_law_X0_events rfl rfl rfl (by decide +kernel) ⟨Nat.le_of_ble_eq_true rfl, Nat.le_of_ble_eq_true rfl⟩) (va_recv hK hP (ci := 0) (q0 := 1) rfl rfl) rfl hl.1 rfl (Nat.le_of_ble_eq_true rfl) dL_law_425 ⟨by omega, by omega⟩ (fun v9 w9 H locs hR9 hw9 hP hD hS => ?_)
  obtain ⟨rfl, rfl⟩ := hR9
  refine lv_aload_n hx hb dL_law_428 rfl (lv_at hl 2 rfl) ?_
  refine eg_callWVc (wc := wM qm cI cJ (nI n) mk lt tg pa an kn row len thr) (wr := wO o cJ out ++ wX qx cI cJ (nI n) mk lt tg pa an la kn fb fh nb te wt bh) (As := []) (rest := [.int (nI n)]) hx hb hml hown hts hK hP hD hS [1, 2, 3, 4, 5, 6, 7, 8] [0, 9, 10, 11, 12, 13, 14, 15, 16, 17, 18, 19, 20, 21] rfl rfl (by decide) (c_X1_events l D cI cJ qm n mk lt tg pa an kn row len thr) (cwV 0 hts gL_law_X1_events rfl rfl rfl (by decide +kernel) ⟨Nat.le_of_ble_eq_true rfl, Nat.le_of_ble_eq_true rfl⟩) (va_recv hK hP (ci := 1) (q0 := 1) rfl rfl) rfl hl.1 rfl (Nat.le_of_ble_eq_true rfl) dL_law_429 ⟨by omega, by omega⟩ (fun v9 w9 H locs hR9 hw9 hP hD hS => ?_)
  obtain ⟨rfl, rfl⟩ := hR9
  refine lv_icmp_eq (tgt := 1475) hx hb dL_law_432 (by decide) (fun _ => ?_) (fun h => absurd rfl h)
  exact W.widen (by omega) (by omega) (kk H locs ls ⟨n, mk, lt, tg, pa, an, la, kn, fb, fh, nb, te, wt, bh, row, len, nI 0, out, hLI, hP, hD, hS, hl⟩)
set_option maxHeartbeats 4000000 in
set_option maxRecDepth 100000 in
theorem law_length (hC : LwC p l s m c b L xs D cI cJ) (qx qm : Nat → Nat) (o i cells slots : Nat) (H : Heap) (locs : List Loc) (ls : Array Slot) (hi : i + 4 ≤ L) (hc : cells + 1 ≤ 1051) (hs : slots + 6 ≤ 9275) (hLS : LwS s D cI cJ b qx qm o i H locs ls)
    (kk : ∀ (H : Heap) (locs : List Loc) (ls : Array Slot), LwS s D cI cJ b qx qm o i H locs ls → W p l e room_1 s m #[Value.ref b] below meth c H locs (cells + 1) (slots + 6) Q (F0 m 1475 ls [])) : W p l e room_1 s m #[Value.ref b] below meth c H locs cells slots Q (F0 m 437 ls []) := by
  obtain ⟨hx, hb, hml, hown, hts, hK, hT, hX, hbl, hL, hfl⟩ := hC
  obtain ⟨n, mk, lt, tg, pa, an, la, kn, fb, fh, nb, te, wt, bh, row, len, thr, out, hLI, hP, hD, hS, hl⟩ := hLS
  have hR : room_1.cells = 1051 ∧ room_1.slots = 9275 := ⟨rfl, rfl⟩
  obtain ⟨k, v, rm, n1, mk1, lt1, tg1, pa1, an1, la1, kn1, hk4, hrm, hpL, hpM⟩ := pair_length l D cI cJ qx qm n mk lt tg pa an la kn fb fh nb te wt bh row len thr o out (xs (i + 1)) hfl hLI
  refine lv_aload_n hx hb dL_law_437 rfl (lv_at hl 1 rfl) ?_
  refine lv_aload_n hx hb dL_law_438 rfl (lv_at hl 0 rfl) ?_
  refine lv_iload hx hb dL_law_439 (lv_at hl 4 rfl) ?_
  refine lv_iconst (v := nI 1) hx hb dL_law_441 (by decide +kernel) ?_
  refine eg_iadd hx hb dL_law_442 ?_
  refine eg_sld hx hb hX hbl hS (by omega) hL dL_law_443 ?_
  refine lv_aload_n hx hb dL_law_444 rfl (lv_at hl 3 rfl) ?_
  refine eg_callLc (wc := (wO o cJ out ++ wX qx cI cJ (nI n) mk lt tg pa an la kn fb fh nb te wt bh)) (wr := wM qm cI cJ (nI n) mk lt tg pa an kn row len thr) (As := [.ref (qx 0), .int (xs (i + 1)), .ref o]) (rest := []) hx hb hml hown hts hK hP hD hS hT [0, 1, 2, 3, 4, 5, 6, 7, 8, 9, 10, 11, 12, 13] [14, 15, 16, 17, 18, 19, 20, 21] rfl rfl (by decide) hpL (vx_cwSW 3 hts gL_law_L_length rfl rfl rfl (by decide +kernel) ⟨Nat.le_of_ble_eq_true rfl, Nat.le_of_ble_eq_true rfl⟩) rfl hl.1 rfl (Nat.le_of_ble_eq_true rfl) dL_law_445 ⟨hc, hs⟩ (fun v9 w9 H locs hR9 hw9 hP hD hS => ?_)
  obtain ⟨rfl, fb, fh, nb, te, wt, bh, out, hLI, ho, rfl⟩ := hR9
  refine lv_istore (lv' := [(5, .int (nI k)), (0, .ref b), (1, .ref (qx 0)), (2, .ref (qm 0)), (3, .ref o), (4, .int (nI i))]) hx hb dL_law_448 hl (by decide) rfl (fun ls hl => ?_)
  refine lv_aload_n hx hb dL_law_450 rfl (lv_at hl 3 rfl) ?_
  refine lv_aload_n hx hb dL_law_451 rfl (lv_at hl 1 rfl) ?_
  refine lv_iload hx hb dL_law_452 (lv_at hl 5 rfl) ?_
  refine lv_iconst (v := nI 1) hx hb dL_law_454 (by decide +kernel) ?_
  refine eg_iadd hx hb dL_law_455 ?_
  refine eg_sld hx hb hX hbl hS (by omega) hL dL_law_456 ?_
  refine eg_callWVc (wc := wM qm cI cJ (nI n) mk lt tg pa an kn row len thr) (wr := wO o cJ out ++ wX qx cI cJ (nI n1) mk1 lt1 tg1 pa1 an1 la1 kn1 fb fh nb te wt bh) (As := [.int (xs (i + 1))]) (rest := []) hx hb hml hown hts hK hP hD hS [0, 1, 2, 3, 4, 5, 6, 7] [8, 9, 10, 11, 12, 13, 14, 15, 16, 17, 18, 19, 20, 21] rfl rfl (by decide) hpM (cwV 1 hts gL_law_X1_length rfl hrm.1 hrm.2.1 (by decide +kernel) ⟨hrm.2.2.1, hrm.2.2.2⟩) (va_recv hK hP (ci := 1) (q0 := 0) rfl rfl) rfl hl.1 rfl (Nat.le_of_ble_eq_true rfl) dL_law_457 ⟨hc, hs⟩ (fun v9 w9 H locs hR9 hw9 hP hD hS => ?_)
  obtain ⟨rfl, row, len, rfl⟩ := hR9
  refine lv_istore (lv' := [(6, .int v), (5, .int (nI k)), (0, .ref b), (1, .ref (qx 0)), (2, .ref (qm 0)), (3, .ref o), (4, .int (nI i))]) hx hb dL_law_460 hl (by decide) rfl (fun ls hl => ?_)
  refine lv_aload_n hx hb dL_law_462 rfl (lv_at hl 4 rfl) ?_
  refine eg_callWVc (wc := wM qm cI cJ (nI n1) mk1 lt1 tg1 pa1 an1 kn1 row len (nI k)) (wr := wO o cJ out ++ wX qx cI cJ (nI n1) mk1 lt1 tg1 pa1 an1 la1 kn1 fb fh nb te wt bh) (As := []) (rest := []) hx hb hml hown hts hK hP hD hS [14, 15, 16, 17, 18, 19, 20, 21] [0, 1, 2, 3, 4, 5, 6, 7, 8, 9, 10, 11, 12, 13] rfl rfl (by decide) (eg_toW (c_X1_thrown l D cI cJ qm n1 mk1 lt1 tg1 pa1 an1 kn1 row len (nI k))) (cwV 0 hts gL_law_X1_thrown rfl rfl rfl (by decide +kernel) ⟨Nat.le_of_ble_eq_true rfl, Nat.le_of_ble_eq_true rfl⟩) (va_recv hK hP (ci := 1) (q0 := 14) rfl rfl) rfl hl.1 rfl (Nat.le_of_ble_eq_true rfl) dL_law_463 ⟨hc, hs⟩ (fun v9 w9 H locs hR9 hw9 hP hD hS => ?_)
  obtain ⟨rfl, rfl⟩ := hR9
  refine lv_iload hx hb dL_law_466 (lv_at hl 1 rfl) ?_
  refine lv_icmp_eq (tgt := 473) hx hb dL_law_468 (by decide) (fun _ => ?_) (fun h => absurd rfl h)
  have hend : ∀ ls : Array Slot, lv_has ls 8 [(6, .int v), (5, .int (nI k)), (0, .ref b), (1, .ref (qx 0)), (2, .ref (qm 0)), (3, .ref o), (4, .int (nI i))] → W p l e room_1 s m #[Value.ref b] below meth c H locs (cells + 1) (slots + 6) Q (F0 m 1475 ls []) := fun ls hl => kk H locs ls ⟨n1, mk1, lt1, tg1, pa1, an1, la1, kn1, fb, fh, nb, te, wt, bh, row, len, nI k, out, hLI, hP, hD, hS, lv_sub hl [2, 3, 4, 5, 6] rfl⟩
  refine lv_iload hx hb dL_law_473 (lv_at hl 1 rfl) ?_
  refine eg_if_ne (tgt := 490) hx hb dL_law_475 (by decide) (by omega) (fun _ => ?_) (fun hk => ?_)
  · exact lv_goto (tgt := 1475) hx hb dL_law_490 (by decide) (hend ls hl)
  · have ho := ho hk
    refine lv_aload_n hx hb dL_law_478 rfl (lv_at hl 5 rfl) ?_
    refine lv_iconst (v := nI 0) hx hb dL_law_479 (by decide +kernel) ?_
    refine eg_lald hx hb hK hP 0 1 rfl rfl (by decide) (by decide) dL_law_480 ?_
    refine lv_iload hx hb dL_law_481 (lv_at hl 0 rfl) ?_
    refine lv_i2l (v := v.toInt64) hx hb dL_law_483 rfl ?_
    refine eg_lcmp_eq (tgt := 490) hx hb dL_law_484 rfl dL_law_485 (by decide) (fun _ => ?_) (fun h => absurd (ho) h)
    exact lv_goto (tgt := 1475) hx hb dL_law_490 (by decide) (hend ls hl)
set_option maxHeartbeats 4000000 in
set_option maxRecDepth 100000 in
theorem law_letterAt (hC : LwC p l s m c b L xs D cI cJ) (qx qm : Nat → Nat) (o i cells slots : Nat) (H : Heap) (locs : List Loc) (ls : Array Slot) (hi : i + 4 ≤ L) (hc : cells + 1 ≤ 1051) (hs : slots + 6 ≤ 9275) (hLS : LwS s D cI cJ b qx qm o i H locs ls)
    (kk : ∀ (H : Heap) (locs : List Loc) (ls : Array Slot), LwS s D cI cJ b qx qm o i H locs ls → W p l e room_1 s m #[Value.ref b] below meth c H locs (cells + 1) (slots + 6) Q (F0 m 1475 ls [])) : W p l e room_1 s m #[Value.ref b] below meth c H locs cells slots Q (F0 m 493 ls []) := by
  obtain ⟨hx, hb, hml, hown, hts, hK, hT, hX, hbl, hL, hfl⟩ := hC
  obtain ⟨n, mk, lt, tg, pa, an, la, kn, fb, fh, nb, te, wt, bh, row, len, thr, out, hLI, hP, hD, hS, hl⟩ := hLS
  have hR : room_1.cells = 1051 ∧ room_1.slots = 9275 := ⟨rfl, rfl⟩
  obtain ⟨k, v, rm, n1, mk1, lt1, tg1, pa1, an1, la1, kn1, hk4, hrm, hpL, hpM⟩ := pair_letterAt l D cI cJ qx qm n mk lt tg pa an la kn fb fh nb te wt bh row len thr o out (xs (i + 1)) (xs (i + 2)) hfl hLI
  refine lv_aload_n hx hb dL_law_493 rfl (lv_at hl 1 rfl) ?_
  refine lv_aload_n hx hb dL_law_494 rfl (lv_at hl 0 rfl) ?_
  refine lv_iload hx hb dL_law_495 (lv_at hl 4 rfl) ?_
  refine lv_iconst (v := nI 1) hx hb dL_law_497 (by decide +kernel) ?_
  refine eg_iadd hx hb dL_law_498 ?_
  refine eg_sld hx hb hX hbl hS (by omega) hL dL_law_499 ?_
  refine lv_aload_n hx hb dL_law_500 rfl (lv_at hl 0 rfl) ?_
  refine lv_iload hx hb dL_law_501 (lv_at hl 4 rfl) ?_
  refine lv_iconst (v := nI 2) hx hb dL_law_503 (by decide +kernel) ?_
  refine eg_iadd hx hb dL_law_504 ?_
  refine eg_sld hx hb hX hbl hS (by omega) hL dL_law_505 ?_
  refine lv_aload_n hx hb dL_law_506 rfl (lv_at hl 3 rfl) ?_
  refine eg_callLc (wc := (wO o cJ out ++ wX qx cI cJ (nI n) mk lt tg pa an la kn fb fh nb te wt bh)) (wr := wM qm cI cJ (nI n) mk lt tg pa an kn row len thr) (As := [.ref (qx 0), .int (xs (i + 1)), .int (xs (i + 2)), .ref o]) (rest := []) hx hb hml hown hts hK hP hD hS hT [0, 1, 2, 3, 4, 5, 6, 7, 8, 9, 10, 11, 12, 13] [14, 15, 16, 17, 18, 19, 20, 21] rfl rfl (by decide) hpL (vx_cwSW 4 hts gL_law_L_letterAt rfl rfl rfl (by decide +kernel) ⟨Nat.le_of_ble_eq_true rfl, Nat.le_of_ble_eq_true rfl⟩) rfl hl.1 rfl (Nat.le_of_ble_eq_true rfl) dL_law_507 ⟨hc, hs⟩ (fun v9 w9 H locs hR9 hw9 hP hD hS => ?_)
  obtain ⟨rfl, fb, fh, nb, te, wt, bh, out, hLI, ho, rfl⟩ := hR9
  refine lv_istore (lv' := [(5, .int (nI k)), (0, .ref b), (1, .ref (qx 0)), (2, .ref (qm 0)), (3, .ref o), (4, .int (nI i))]) hx hb dL_law_510 hl (by decide) rfl (fun ls hl => ?_)
  refine lv_aload_n hx hb dL_law_512 rfl (lv_at hl 3 rfl) ?_
  refine lv_aload_n hx hb dL_law_513 rfl (lv_at hl 1 rfl) ?_
  refine lv_iload hx hb dL_law_514 (lv_at hl 5 rfl) ?_
  refine lv_iconst (v := nI 1) hx hb dL_law_516 (by decide +kernel) ?_
  refine eg_iadd hx hb dL_law_517 ?_
  refine eg_sld hx hb hX hbl hS (by omega) hL dL_law_518 ?_
  refine lv_aload_n hx hb dL_law_519 rfl (lv_at hl 1 rfl) ?_
  refine lv_iload hx hb dL_law_520 (lv_at hl 5 rfl) ?_
  refine lv_iconst (v := nI 2) hx hb dL_law_522 (by decide +kernel) ?_
  refine eg_iadd hx hb dL_law_523 ?_
  refine eg_sld hx hb hX hbl hS (by omega) hL dL_law_524 ?_
  refine eg_callWVc (wc := wM qm cI cJ (nI n) mk lt tg pa an kn row len thr) (wr := wO o cJ out ++ wX qx cI cJ (nI n1) mk1 lt1 tg1 pa1 an1 la1 kn1 fb fh nb te wt bh) (As := [.int (xs (i + 1)), .int (xs (i + 2))]) (rest := []) hx hb hml hown hts hK hP hD hS [0, 1, 2, 3, 4, 5, 6, 7] [8, 9, 10, 11, 12, 13, 14, 15, 16, 17, 18, 19, 20, 21] rfl rfl (by decide) hpM (cwV 2 hts gL_law_X1_letterAt rfl hrm.1 hrm.2.1 (by decide +kernel) ⟨hrm.2.2.1, hrm.2.2.2⟩) (va_recv hK hP (ci := 1) (q0 := 0) rfl rfl) rfl hl.1 rfl (Nat.le_of_ble_eq_true rfl) dL_law_525 ⟨hc, hs⟩ (fun v9 w9 H locs hR9 hw9 hP hD hS => ?_)
  obtain ⟨rfl, row, len, rfl⟩ := hR9
  refine lv_istore (lv' := [(6, .int v), (5, .int (nI k)), (0, .ref b), (1, .ref (qx 0)), (2, .ref (qm 0)), (3, .ref o), (4, .int (nI i))]) hx hb dL_law_528 hl (by decide) rfl (fun ls hl => ?_)
  refine lv_aload_n hx hb dL_law_530 rfl (lv_at hl 4 rfl) ?_
  refine eg_callWVc (wc := wM qm cI cJ (nI n1) mk1 lt1 tg1 pa1 an1 kn1 row len (nI k)) (wr := wO o cJ out ++ wX qx cI cJ (nI n1) mk1 lt1 tg1 pa1 an1 la1 kn1 fb fh nb te wt bh) (As := []) (rest := []) hx hb hml hown hts hK hP hD hS [14, 15, 16, 17, 18, 19, 20, 21] [0, 1, 2, 3, 4, 5, 6, 7, 8, 9, 10, 11, 12, 13] rfl rfl (by decide) (eg_toW (c_X1_thrown l D cI cJ qm n1 mk1 lt1 tg1 pa1 an1 kn1 row len (nI k))) (cwV 0 hts gL_law_X1_thrown rfl rfl rfl (by decide +kernel) ⟨Nat.le_of_ble_eq_true rfl, Nat.le_of_ble_eq_true rfl⟩) (va_recv hK hP (ci := 1) (q0 := 14) rfl rfl) rfl hl.1 rfl (Nat.le_of_ble_eq_true rfl) dL_law_531 ⟨hc, hs⟩ (fun v9 w9 H locs hR9 hw9 hP hD hS => ?_)
  obtain ⟨rfl, rfl⟩ := hR9
  refine lv_iload hx hb dL_law_534 (lv_at hl 1 rfl) ?_
  refine lv_icmp_eq (tgt := 541) hx hb dL_law_536 (by decide) (fun _ => ?_) (fun h => absurd rfl h)
  have hend : ∀ ls : Array Slot, lv_has ls 8 [(6, .int v), (5, .int (nI k)), (0, .ref b), (1, .ref (qx 0)), (2, .ref (qm 0)), (3, .ref o), (4, .int (nI i))] → W p l e room_1 s m #[Value.ref b] below meth c H locs (cells + 1) (slots + 6) Q (F0 m 1475 ls []) := fun ls hl => kk H locs ls ⟨n1, mk1, lt1, tg1, pa1, an1, la1, kn1, fb, fh, nb, te, wt, bh, row, len, nI k, out, hLI, hP, hD, hS, lv_sub hl [2, 3, 4, 5, 6] rfl⟩
  refine lv_iload hx hb dL_law_541 (lv_at hl 1 rfl) ?_
  refine eg_if_ne (tgt := 558) hx hb dL_law_543 (by decide) (by omega) (fun _ => ?_) (fun hk => ?_)
  · exact lv_goto (tgt := 1475) hx hb dL_law_558 (by decide) (hend ls hl)
  · have ho := ho hk
    refine lv_aload_n hx hb dL_law_546 rfl (lv_at hl 5 rfl) ?_
    refine lv_iconst (v := nI 0) hx hb dL_law_547 (by decide +kernel) ?_
    refine eg_lald hx hb hK hP 0 1 rfl rfl (by decide) (by decide) dL_law_548 ?_
    refine lv_iload hx hb dL_law_549 (lv_at hl 0 rfl) ?_
    refine lv_i2l (v := v.toInt64) hx hb dL_law_551 rfl ?_
    refine eg_lcmp_eq (tgt := 558) hx hb dL_law_552 rfl dL_law_553 (by decide) (fun _ => ?_) (fun h => absurd (ho) h)
    exact lv_goto (tgt := 1475) hx hb dL_law_558 (by decide) (hend ls hl)
set_option maxHeartbeats 4000000 in
set_option maxRecDepth 100000 in
theorem law_letterByList (hC : LwC p l s m c b L xs D cI cJ) (qx qm : Nat → Nat) (o i cells slots : Nat) (H : Heap) (locs : List Loc) (ls : Array Slot) (hi : i + 4 ≤ L) (hc : cells + 1 ≤ 1051) (hs : slots + 6 ≤ 9275) (hLS : LwS s D cI cJ b qx qm o i H locs ls)
    (kk : ∀ (H : Heap) (locs : List Loc) (ls : Array Slot), LwS s D cI cJ b qx qm o i H locs ls → W p l e room_1 s m #[Value.ref b] below meth c H locs (cells + 1) (slots + 6) Q (F0 m 1475 ls [])) : W p l e room_1 s m #[Value.ref b] below meth c H locs cells slots Q (F0 m 561 ls []) := by
  obtain ⟨hx, hb, hml, hown, hts, hK, hT, hX, hbl, hL, hfl⟩ := hC
  obtain ⟨n, mk, lt, tg, pa, an, la, kn, fb, fh, nb, te, wt, bh, row, len, thr, out, hLI, hP, hD, hS, hl⟩ := hLS
  have hR : room_1.cells = 1051 ∧ room_1.slots = 9275 := ⟨rfl, rfl⟩
  obtain ⟨k, v, rm, n1, mk1, lt1, tg1, pa1, an1, la1, kn1, hk4, hrm, hpL, hpM⟩ := pair_letterByList l D cI cJ qx qm n mk lt tg pa an la kn fb fh nb te wt bh row len thr o out (xs (i + 1)) (xs (i + 2)) hfl hLI
  refine lv_aload_n hx hb dL_law_561 rfl (lv_at hl 1 rfl) ?_
  refine lv_aload_n hx hb dL_law_562 rfl (lv_at hl 0 rfl) ?_
  refine lv_iload hx hb dL_law_563 (lv_at hl 4 rfl) ?_
  refine lv_iconst (v := nI 1) hx hb dL_law_565 (by decide +kernel) ?_
  refine eg_iadd hx hb dL_law_566 ?_
  refine eg_sld hx hb hX hbl hS (by omega) hL dL_law_567 ?_
  refine lv_aload_n hx hb dL_law_568 rfl (lv_at hl 0 rfl) ?_
  refine lv_iload hx hb dL_law_569 (lv_at hl 4 rfl) ?_
  refine lv_iconst (v := nI 2) hx hb dL_law_571 (by decide +kernel) ?_
  refine eg_iadd hx hb dL_law_572 ?_
  refine eg_sld hx hb hX hbl hS (by omega) hL dL_law_573 ?_
  refine lv_aload_n hx hb dL_law_574 rfl (lv_at hl 3 rfl) ?_
  refine eg_callLc (wc := (wO o cJ out ++ wX qx cI cJ (nI n) mk lt tg pa an la kn fb fh nb te wt bh)) (wr := wM qm cI cJ (nI n) mk lt tg pa an kn row len thr) (As := [.ref (qx 0), .int (xs (i + 1)), .int (xs (i + 2)), .ref o]) (rest := []) hx hb hml hown hts hK hP hD hS hT [0, 1, 2, 3, 4, 5, 6, 7, 8, 9, 10, 11, 12, 13] [14, 15, 16, 17, 18, 19, 20, 21] rfl rfl (by decide) hpL (vx_cwSW 4 hts gL_law_L_letterByList rfl rfl rfl (by decide +kernel) ⟨Nat.le_of_ble_eq_true rfl, Nat.le_of_ble_eq_true rfl⟩) rfl hl.1 rfl (Nat.le_of_ble_eq_true rfl) dL_law_575 ⟨hc, hs⟩ (fun v9 w9 H locs hR9 hw9 hP hD hS => ?_)
  obtain ⟨rfl, fb, fh, nb, te, wt, bh, out, hLI, ho, rfl⟩ := hR9
  refine lv_istore (lv' := [(5, .int (nI k)), (0, .ref b), (1, .ref (qx 0)), (2, .ref (qm 0)), (3, .ref o), (4, .int (nI i))]) hx hb dL_law_578 hl (by decide) rfl (fun ls hl => ?_)
  refine lv_aload_n hx hb dL_law_580 rfl (lv_at hl 3 rfl) ?_
  refine lv_aload_n hx hb dL_law_581 rfl (lv_at hl 1 rfl) ?_
  refine lv_iload hx hb dL_law_582 (lv_at hl 5 rfl) ?_
  refine lv_iconst (v := nI 1) hx hb dL_law_584 (by decide +kernel) ?_
  refine eg_iadd hx hb dL_law_585 ?_
  refine eg_sld hx hb hX hbl hS (by omega) hL dL_law_586 ?_
  refine lv_aload_n hx hb dL_law_587 rfl (lv_at hl 1 rfl) ?_
  refine lv_iload hx hb dL_law_588 (lv_at hl 5 rfl) ?_
  refine lv_iconst (v := nI 2) hx hb dL_law_590 (by decide +kernel) ?_
  refine eg_iadd hx hb dL_law_591 ?_
  refine eg_sld hx hb hX hbl hS (by omega) hL dL_law_592 ?_
  refine eg_callWVc (wc := wM qm cI cJ (nI n) mk lt tg pa an kn row len thr) (wr := wO o cJ out ++ wX qx cI cJ (nI n1) mk1 lt1 tg1 pa1 an1 la1 kn1 fb fh nb te wt bh) (As := [.int (xs (i + 1)), .int (xs (i + 2))]) (rest := []) hx hb hml hown hts hK hP hD hS [0, 1, 2, 3, 4, 5, 6, 7] [8, 9, 10, 11, 12, 13, 14, 15, 16, 17, 18, 19, 20, 21] rfl rfl (by decide) hpM (cwV 2 hts gL_law_X1_letterByList rfl hrm.1 hrm.2.1 (by decide +kernel) ⟨hrm.2.2.1, hrm.2.2.2⟩) (va_recv hK hP (ci := 1) (q0 := 0) rfl rfl) rfl hl.1 rfl (Nat.le_of_ble_eq_true rfl) dL_law_593 ⟨hc, hs⟩ (fun v9 w9 H locs hR9 hw9 hP hD hS => ?_)
  obtain ⟨rfl, row, len, rfl⟩ := hR9
  refine lv_istore (lv' := [(6, .int v), (5, .int (nI k)), (0, .ref b), (1, .ref (qx 0)), (2, .ref (qm 0)), (3, .ref o), (4, .int (nI i))]) hx hb dL_law_596 hl (by decide) rfl (fun ls hl => ?_)
  refine lv_aload_n hx hb dL_law_598 rfl (lv_at hl 4 rfl) ?_
  refine eg_callWVc (wc := wM qm cI cJ (nI n1) mk1 lt1 tg1 pa1 an1 kn1 row len (nI k)) (wr := wO o cJ out ++ wX qx cI cJ (nI n1) mk1 lt1 tg1 pa1 an1 la1 kn1 fb fh nb te wt bh) (As := []) (rest := []) hx hb hml hown hts hK hP hD hS [14, 15, 16, 17, 18, 19, 20, 21] [0, 1, 2, 3, 4, 5, 6, 7, 8, 9, 10, 11, 12, 13] rfl rfl (by decide) (eg_toW (c_X1_thrown l D cI cJ qm n1 mk1 lt1 tg1 pa1 an1 kn1 row len (nI k))) (cwV 0 hts gL_law_X1_thrown rfl rfl rfl (by decide +kernel) ⟨Nat.le_of_ble_eq_true rfl, Nat.le_of_ble_eq_true rfl⟩) (va_recv hK hP (ci := 1) (q0 := 14) rfl rfl) rfl hl.1 rfl (Nat.le_of_ble_eq_true rfl) dL_law_599 ⟨hc, hs⟩ (fun v9 w9 H locs hR9 hw9 hP hD hS => ?_)
  obtain ⟨rfl, rfl⟩ := hR9
  refine lv_iload hx hb dL_law_602 (lv_at hl 1 rfl) ?_
  refine lv_icmp_eq (tgt := 609) hx hb dL_law_604 (by decide) (fun _ => ?_) (fun h => absurd rfl h)
  have hend : ∀ ls : Array Slot, lv_has ls 8 [(6, .int v), (5, .int (nI k)), (0, .ref b), (1, .ref (qx 0)), (2, .ref (qm 0)), (3, .ref o), (4, .int (nI i))] → W p l e room_1 s m #[Value.ref b] below meth c H locs (cells + 1) (slots + 6) Q (F0 m 1475 ls []) := fun ls hl => kk H locs ls ⟨n1, mk1, lt1, tg1, pa1, an1, la1, kn1, fb, fh, nb, te, wt, bh, row, len, nI k, out, hLI, hP, hD, hS, lv_sub hl [2, 3, 4, 5, 6] rfl⟩
  refine lv_iload hx hb dL_law_609 (lv_at hl 1 rfl) ?_
  refine eg_if_ne (tgt := 626) hx hb dL_law_611 (by decide) (by omega) (fun _ => ?_) (fun hk => ?_)
  · exact lv_goto (tgt := 1475) hx hb dL_law_626 (by decide) (hend ls hl)
  · have ho := ho hk
    refine lv_aload_n hx hb dL_law_614 rfl (lv_at hl 5 rfl) ?_
    refine lv_iconst (v := nI 0) hx hb dL_law_615 (by decide +kernel) ?_
    refine eg_lald hx hb hK hP 0 1 rfl rfl (by decide) (by decide) dL_law_616 ?_
    refine lv_iload hx hb dL_law_617 (lv_at hl 0 rfl) ?_
    refine lv_i2l (v := v.toInt64) hx hb dL_law_619 rfl ?_
    refine eg_lcmp_eq (tgt := 626) hx hb dL_law_620 rfl dL_law_621 (by decide) (fun _ => ?_) (fun h => absurd (ho) h)
    exact lv_goto (tgt := 1475) hx hb dL_law_626 (by decide) (hend ls hl)
set_option maxHeartbeats 4000000 in
set_option maxRecDepth 100000 in
theorem law_eventAt (hC : LwC p l s m c b L xs D cI cJ) (qx qm : Nat → Nat) (o i cells slots : Nat) (H : Heap) (locs : List Loc) (ls : Array Slot) (hi : i + 4 ≤ L) (hc : cells + 1 ≤ 1051) (hs : slots + 6 ≤ 9275) (hLS : LwS s D cI cJ b qx qm o i H locs ls)
    (kk : ∀ (H : Heap) (locs : List Loc) (ls : Array Slot), LwS s D cI cJ b qx qm o i H locs ls → W p l e room_1 s m #[Value.ref b] below meth c H locs (cells + 1) (slots + 6) Q (F0 m 1475 ls [])) : W p l e room_1 s m #[Value.ref b] below meth c H locs cells slots Q (F0 m 629 ls []) := by
  obtain ⟨hx, hb, hml, hown, hts, hK, hT, hX, hbl, hL, hfl⟩ := hC
  obtain ⟨n, mk, lt, tg, pa, an, la, kn, fb, fh, nb, te, wt, bh, row, len, thr, out, hLI, hP, hD, hS, hl⟩ := hLS
  have hR : room_1.cells = 1051 ∧ room_1.slots = 9275 := ⟨rfl, rfl⟩
  obtain ⟨k, v, rm, n1, mk1, lt1, tg1, pa1, an1, la1, kn1, hk4, hrm, hpL, hpM⟩ := pair_eventAt l D cI cJ qx qm n mk lt tg pa an la kn fb fh nb te wt bh row len thr o out (xs (i + 1)) (xs (i + 2)) hfl hLI
  refine lv_aload_n hx hb dL_law_629 rfl (lv_at hl 1 rfl) ?_
  refine lv_aload_n hx hb dL_law_630 rfl (lv_at hl 0 rfl) ?_
  refine lv_iload hx hb dL_law_631 (lv_at hl 4 rfl) ?_
  refine lv_iconst (v := nI 1) hx hb dL_law_633 (by decide +kernel) ?_
  refine eg_iadd hx hb dL_law_634 ?_
  refine eg_sld hx hb hX hbl hS (by omega) hL dL_law_635 ?_
  refine lv_aload_n hx hb dL_law_636 rfl (lv_at hl 0 rfl) ?_
  refine lv_iload hx hb dL_law_637 (lv_at hl 4 rfl) ?_
  refine lv_iconst (v := nI 2) hx hb dL_law_639 (by decide +kernel) ?_
  refine eg_iadd hx hb dL_law_640 ?_
  refine eg_sld hx hb hX hbl hS (by omega) hL dL_law_641 ?_
  refine lv_aload_n hx hb dL_law_642 rfl (lv_at hl 3 rfl) ?_
  refine eg_callLc (wc := (wO o cJ out ++ wX qx cI cJ (nI n) mk lt tg pa an la kn fb fh nb te wt bh)) (wr := wM qm cI cJ (nI n) mk lt tg pa an kn row len thr) (As := [.ref (qx 0), .int (xs (i + 1)), .int (xs (i + 2)), .ref o]) (rest := []) hx hb hml hown hts hK hP hD hS hT [0, 1, 2, 3, 4, 5, 6, 7, 8, 9, 10, 11, 12, 13] [14, 15, 16, 17, 18, 19, 20, 21] rfl rfl (by decide) hpL (vx_cwSW 4 hts gL_law_L_eventAt rfl rfl rfl (by decide +kernel) ⟨Nat.le_of_ble_eq_true rfl, Nat.le_of_ble_eq_true rfl⟩) rfl hl.1 rfl (Nat.le_of_ble_eq_true rfl) dL_law_643 ⟨hc, hs⟩ (fun v9 w9 H locs hR9 hw9 hP hD hS => ?_)
  obtain ⟨rfl, fb, fh, nb, te, wt, bh, out, hLI, ho, rfl⟩ := hR9
  refine lv_istore (lv' := [(5, .int (nI k)), (0, .ref b), (1, .ref (qx 0)), (2, .ref (qm 0)), (3, .ref o), (4, .int (nI i))]) hx hb dL_law_646 hl (by decide) rfl (fun ls hl => ?_)
  refine lv_aload_n hx hb dL_law_648 rfl (lv_at hl 3 rfl) ?_
  refine lv_aload_n hx hb dL_law_649 rfl (lv_at hl 1 rfl) ?_
  refine lv_iload hx hb dL_law_650 (lv_at hl 5 rfl) ?_
  refine lv_iconst (v := nI 1) hx hb dL_law_652 (by decide +kernel) ?_
  refine eg_iadd hx hb dL_law_653 ?_
  refine eg_sld hx hb hX hbl hS (by omega) hL dL_law_654 ?_
  refine lv_aload_n hx hb dL_law_655 rfl (lv_at hl 1 rfl) ?_
  refine lv_iload hx hb dL_law_656 (lv_at hl 5 rfl) ?_
  refine lv_iconst (v := nI 2) hx hb dL_law_658 (by decide +kernel) ?_
  refine eg_iadd hx hb dL_law_659 ?_
  refine eg_sld hx hb hX hbl hS (by omega) hL dL_law_660 ?_
  refine eg_callWVc (wc := wM qm cI cJ (nI n) mk lt tg pa an kn row len thr) (wr := wO o cJ out ++ wX qx cI cJ (nI n1) mk1 lt1 tg1 pa1 an1 la1 kn1 fb fh nb te wt bh) (As := [.int (xs (i + 1)), .int (xs (i + 2))]) (rest := []) hx hb hml hown hts hK hP hD hS [0, 1, 2, 3, 4, 5, 6, 7] [8, 9, 10, 11, 12, 13, 14, 15, 16, 17, 18, 19, 20, 21] rfl rfl (by decide) hpM (cwV 2 hts gL_law_X1_eventAt rfl hrm.1 hrm.2.1 (by decide +kernel) ⟨hrm.2.2.1, hrm.2.2.2⟩) (va_recv hK hP (ci := 1) (q0 := 0) rfl rfl) rfl hl.1 rfl (Nat.le_of_ble_eq_true rfl) dL_law_661 ⟨hc, hs⟩ (fun v9 w9 H locs hR9 hw9 hP hD hS => ?_)
  obtain ⟨rfl, row, len, rfl⟩ := hR9
  refine lv_istore (lv' := [(6, .int v), (5, .int (nI k)), (0, .ref b), (1, .ref (qx 0)), (2, .ref (qm 0)), (3, .ref o), (4, .int (nI i))]) hx hb dL_law_664 hl (by decide) rfl (fun ls hl => ?_)
  refine lv_aload_n hx hb dL_law_666 rfl (lv_at hl 4 rfl) ?_
  refine eg_callWVc (wc := wM qm cI cJ (nI n1) mk1 lt1 tg1 pa1 an1 kn1 row len (nI k)) (wr := wO o cJ out ++ wX qx cI cJ (nI n1) mk1 lt1 tg1 pa1 an1 la1 kn1 fb fh nb te wt bh) (As := []) (rest := []) hx hb hml hown hts hK hP hD hS [14, 15, 16, 17, 18, 19, 20, 21] [0, 1, 2, 3, 4, 5, 6, 7, 8, 9, 10, 11, 12, 13] rfl rfl (by decide) (eg_toW (c_X1_thrown l D cI cJ qm n1 mk1 lt1 tg1 pa1 an1 kn1 row len (nI k))) (cwV 0 hts gL_law_X1_thrown rfl rfl rfl (by decide +kernel) ⟨Nat.le_of_ble_eq_true rfl, Nat.le_of_ble_eq_true rfl⟩) (va_recv hK hP (ci := 1) (q0 := 14) rfl rfl) rfl hl.1 rfl (Nat.le_of_ble_eq_true rfl) dL_law_667 ⟨hc, hs⟩ (fun v9 w9 H locs hR9 hw9 hP hD hS => ?_)
  obtain ⟨rfl, rfl⟩ := hR9
  refine lv_iload hx hb dL_law_670 (lv_at hl 1 rfl) ?_
  refine lv_icmp_eq (tgt := 677) hx hb dL_law_672 (by decide) (fun _ => ?_) (fun h => absurd rfl h)
  have hend : ∀ ls : Array Slot, lv_has ls 8 [(6, .int v), (5, .int (nI k)), (0, .ref b), (1, .ref (qx 0)), (2, .ref (qm 0)), (3, .ref o), (4, .int (nI i))] → W p l e room_1 s m #[Value.ref b] below meth c H locs (cells + 1) (slots + 6) Q (F0 m 1475 ls []) := fun ls hl => kk H locs ls ⟨n1, mk1, lt1, tg1, pa1, an1, la1, kn1, fb, fh, nb, te, wt, bh, row, len, nI k, out, hLI, hP, hD, hS, lv_sub hl [2, 3, 4, 5, 6] rfl⟩
  refine lv_iload hx hb dL_law_677 (lv_at hl 1 rfl) ?_
  refine eg_if_ne (tgt := 694) hx hb dL_law_679 (by decide) (by omega) (fun _ => ?_) (fun hk => ?_)
  · exact lv_goto (tgt := 1475) hx hb dL_law_694 (by decide) (hend ls hl)
  · have ho := ho hk
    refine lv_aload_n hx hb dL_law_682 rfl (lv_at hl 5 rfl) ?_
    refine lv_iconst (v := nI 0) hx hb dL_law_683 (by decide +kernel) ?_
    refine eg_lald hx hb hK hP 0 1 rfl rfl (by decide) (by decide) dL_law_684 ?_
    refine lv_iload hx hb dL_law_685 (lv_at hl 0 rfl) ?_
    refine lv_i2l (v := v.toInt64) hx hb dL_law_687 rfl ?_
    refine eg_lcmp_eq (tgt := 694) hx hb dL_law_688 rfl dL_law_689 (by decide) (fun _ => ?_) (fun h => absurd (ho) h)
    exact lv_goto (tgt := 1475) hx hb dL_law_694 (by decide) (hend ls hl)
set_option maxHeartbeats 4000000 in
set_option maxRecDepth 100000 in
theorem law_lengthOf (hC : LwC p l s m c b L xs D cI cJ) (qx qm : Nat → Nat) (o i cells slots : Nat) (H : Heap) (locs : List Loc) (ls : Array Slot) (hi : i + 4 ≤ L) (hc : cells + 1 ≤ 1051) (hs : slots + 6 ≤ 9275) (hLS : LwS s D cI cJ b qx qm o i H locs ls)
    (kk : ∀ (H : Heap) (locs : List Loc) (ls : Array Slot), LwS s D cI cJ b qx qm o i H locs ls → W p l e room_1 s m #[Value.ref b] below meth c H locs (cells + 1) (slots + 6) Q (F0 m 1475 ls [])) : W p l e room_1 s m #[Value.ref b] below meth c H locs cells slots Q (F0 m 697 ls []) := by
  obtain ⟨hx, hb, hml, hown, hts, hK, hT, hX, hbl, hL, hfl⟩ := hC
  obtain ⟨n, mk, lt, tg, pa, an, la, kn, fb, fh, nb, te, wt, bh, row, len, thr, out, hLI, hP, hD, hS, hl⟩ := hLS
  have hR : room_1.cells = 1051 ∧ room_1.slots = 9275 := ⟨rfl, rfl⟩
  obtain ⟨k, v, rm, n1, mk1, lt1, tg1, pa1, an1, la1, kn1, hk4, hrm, hpL, hpM⟩ := pair_lengthOf l D cI cJ qx qm n mk lt tg pa an la kn fb fh nb te wt bh row len thr o out (xs (i + 1)) hfl hLI
  refine lv_aload_n hx hb dL_law_697 rfl (lv_at hl 1 rfl) ?_
  refine lv_aload_n hx hb dL_law_698 rfl (lv_at hl 0 rfl) ?_
  refine lv_iload hx hb dL_law_699 (lv_at hl 4 rfl) ?_
  refine lv_iconst (v := nI 1) hx hb dL_law_701 (by decide +kernel) ?_
  refine eg_iadd hx hb dL_law_702 ?_
  refine eg_sld hx hb hX hbl hS (by omega) hL dL_law_703 ?_
  refine lv_aload_n hx hb dL_law_704 rfl (lv_at hl 3 rfl) ?_
  refine eg_callLc (wc := (wO o cJ out ++ wX qx cI cJ (nI n) mk lt tg pa an la kn fb fh nb te wt bh)) (wr := wM qm cI cJ (nI n) mk lt tg pa an kn row len thr) (As := [.ref (qx 0), .int (xs (i + 1)), .ref o]) (rest := []) hx hb hml hown hts hK hP hD hS hT [0, 1, 2, 3, 4, 5, 6, 7, 8, 9, 10, 11, 12, 13] [14, 15, 16, 17, 18, 19, 20, 21] rfl rfl (by decide) hpL (vx_cwSW 3 hts gL_law_L_lengthOf rfl rfl rfl (by decide +kernel) ⟨Nat.le_of_ble_eq_true rfl, Nat.le_of_ble_eq_true rfl⟩) rfl hl.1 rfl (Nat.le_of_ble_eq_true rfl) dL_law_705 ⟨hc, hs⟩ (fun v9 w9 H locs hR9 hw9 hP hD hS => ?_)
  obtain ⟨rfl, fb, fh, nb, te, wt, bh, out, hLI, ho, rfl⟩ := hR9
  refine lv_istore (lv' := [(5, .int (nI k)), (0, .ref b), (1, .ref (qx 0)), (2, .ref (qm 0)), (3, .ref o), (4, .int (nI i))]) hx hb dL_law_708 hl (by decide) rfl (fun ls hl => ?_)
  refine lv_aload_n hx hb dL_law_710 rfl (lv_at hl 3 rfl) ?_
  refine lv_aload_n hx hb dL_law_711 rfl (lv_at hl 1 rfl) ?_
  refine lv_iload hx hb dL_law_712 (lv_at hl 5 rfl) ?_
  refine lv_iconst (v := nI 1) hx hb dL_law_714 (by decide +kernel) ?_
  refine eg_iadd hx hb dL_law_715 ?_
  refine eg_sld hx hb hX hbl hS (by omega) hL dL_law_716 ?_
  refine eg_callWVc (wc := wM qm cI cJ (nI n) mk lt tg pa an kn row len thr) (wr := wO o cJ out ++ wX qx cI cJ (nI n1) mk1 lt1 tg1 pa1 an1 la1 kn1 fb fh nb te wt bh) (As := [.int (xs (i + 1))]) (rest := []) hx hb hml hown hts hK hP hD hS [0, 1, 2, 3, 4, 5, 6, 7] [8, 9, 10, 11, 12, 13, 14, 15, 16, 17, 18, 19, 20, 21] rfl rfl (by decide) hpM (cwV 1 hts gL_law_X1_lengthOf rfl hrm.1 hrm.2.1 (by decide +kernel) ⟨hrm.2.2.1, hrm.2.2.2⟩) (va_recv hK hP (ci := 1) (q0 := 0) rfl rfl) rfl hl.1 rfl (Nat.le_of_ble_eq_true rfl) dL_law_717 ⟨hc, hs⟩ (fun v9 w9 H locs hR9 hw9 hP hD hS => ?_)
  obtain ⟨rfl, row, len, rfl⟩ := hR9
  refine lv_istore (lv' := [(6, .int v), (5, .int (nI k)), (0, .ref b), (1, .ref (qx 0)), (2, .ref (qm 0)), (3, .ref o), (4, .int (nI i))]) hx hb dL_law_720 hl (by decide) rfl (fun ls hl => ?_)
  refine lv_aload_n hx hb dL_law_722 rfl (lv_at hl 4 rfl) ?_
  refine eg_callWVc (wc := wM qm cI cJ (nI n1) mk1 lt1 tg1 pa1 an1 kn1 row len (nI k)) (wr := wO o cJ out ++ wX qx cI cJ (nI n1) mk1 lt1 tg1 pa1 an1 la1 kn1 fb fh nb te wt bh) (As := []) (rest := []) hx hb hml hown hts hK hP hD hS [14, 15, 16, 17, 18, 19, 20, 21] [0, 1, 2, 3, 4, 5, 6, 7, 8, 9, 10, 11, 12, 13] rfl rfl (by decide) (eg_toW (c_X1_thrown l D cI cJ qm n1 mk1 lt1 tg1 pa1 an1 kn1 row len (nI k))) (cwV 0 hts gL_law_X1_thrown rfl rfl rfl (by decide +kernel) ⟨Nat.le_of_ble_eq_true rfl, Nat.le_of_ble_eq_true rfl⟩) (va_recv hK hP (ci := 1) (q0 := 14) rfl rfl) rfl hl.1 rfl (Nat.le_of_ble_eq_true rfl) dL_law_723 ⟨hc, hs⟩ (fun v9 w9 H locs hR9 hw9 hP hD hS => ?_)
  obtain ⟨rfl, rfl⟩ := hR9
  refine lv_iload hx hb dL_law_726 (lv_at hl 1 rfl) ?_
  refine lv_icmp_eq (tgt := 733) hx hb dL_law_728 (by decide) (fun _ => ?_) (fun h => absurd rfl h)
  have hend : ∀ ls : Array Slot, lv_has ls 8 [(6, .int v), (5, .int (nI k)), (0, .ref b), (1, .ref (qx 0)), (2, .ref (qm 0)), (3, .ref o), (4, .int (nI i))] → W p l e room_1 s m #[Value.ref b] below meth c H locs (cells + 1) (slots + 6) Q (F0 m 1475 ls []) := fun ls hl => kk H locs ls ⟨n1, mk1, lt1, tg1, pa1, an1, la1, kn1, fb, fh, nb, te, wt, bh, row, len, nI k, out, hLI, hP, hD, hS, lv_sub hl [2, 3, 4, 5, 6] rfl⟩
  refine lv_iload hx hb dL_law_733 (lv_at hl 1 rfl) ?_
  refine eg_if_ne (tgt := 750) hx hb dL_law_735 (by decide) (by omega) (fun _ => ?_) (fun hk => ?_)
  · exact lv_goto (tgt := 1475) hx hb dL_law_750 (by decide) (hend ls hl)
  · have ho := ho hk
    refine lv_aload_n hx hb dL_law_738 rfl (lv_at hl 5 rfl) ?_
    refine lv_iconst (v := nI 0) hx hb dL_law_739 (by decide +kernel) ?_
    refine eg_lald hx hb hK hP 0 1 rfl rfl (by decide) (by decide) dL_law_740 ?_
    refine lv_iload hx hb dL_law_741 (lv_at hl 0 rfl) ?_
    refine lv_i2l (v := v.toInt64) hx hb dL_law_743 rfl ?_
    refine eg_lcmp_eq (tgt := 750) hx hb dL_law_744 rfl dL_law_745 (by decide) (fun _ => ?_) (fun h => absurd (ho) h)
    exact lv_goto (tgt := 1475) hx hb dL_law_750 (by decide) (hend ls hl)
set_option maxHeartbeats 4000000 in
set_option maxRecDepth 100000 in
theorem law_letterOf (hC : LwC p l s m c b L xs D cI cJ) (qx qm : Nat → Nat) (o i cells slots : Nat) (H : Heap) (locs : List Loc) (ls : Array Slot) (hi : i + 4 ≤ L) (hc : cells + 1 ≤ 1051) (hs : slots + 6 ≤ 9275) (hLS : LwS s D cI cJ b qx qm o i H locs ls)
    (kk : ∀ (H : Heap) (locs : List Loc) (ls : Array Slot), LwS s D cI cJ b qx qm o i H locs ls → W p l e room_1 s m #[Value.ref b] below meth c H locs (cells + 1) (slots + 6) Q (F0 m 1475 ls [])) : W p l e room_1 s m #[Value.ref b] below meth c H locs cells slots Q (F0 m 753 ls []) := by
  obtain ⟨hx, hb, hml, hown, hts, hK, hT, hX, hbl, hL, hfl⟩ := hC
  obtain ⟨n, mk, lt, tg, pa, an, la, kn, fb, fh, nb, te, wt, bh, row, len, thr, out, hLI, hP, hD, hS, hl⟩ := hLS
  have hR : room_1.cells = 1051 ∧ room_1.slots = 9275 := ⟨rfl, rfl⟩
  obtain ⟨k, v, rm, n1, mk1, lt1, tg1, pa1, an1, la1, kn1, hk4, hrm, hpL, hpM⟩ := pair_letterOf l D cI cJ qx qm n mk lt tg pa an la kn fb fh nb te wt bh row len thr o out (xs (i + 1)) (xs (i + 2)) hfl hLI
  refine lv_aload_n hx hb dL_law_753 rfl (lv_at hl 1 rfl) ?_
  refine lv_aload_n hx hb dL_law_754 rfl (lv_at hl 0 rfl) ?_
  refine lv_iload hx hb dL_law_755 (lv_at hl 4 rfl) ?_
  refine lv_iconst (v := nI 1) hx hb dL_law_757 (by decide +kernel) ?_
  refine eg_iadd hx hb dL_law_758 ?_
  refine eg_sld hx hb hX hbl hS (by omega) hL dL_law_759 ?_
  refine lv_aload_n hx hb dL_law_760 rfl (lv_at hl 0 rfl) ?_
  refine lv_iload hx hb dL_law_761 (lv_at hl 4 rfl) ?_
  refine lv_iconst (v := nI 2) hx hb dL_law_763 (by decide +kernel) ?_
  refine eg_iadd hx hb dL_law_764 ?_
  refine eg_sld hx hb hX hbl hS (by omega) hL dL_law_765 ?_
  refine lv_aload_n hx hb dL_law_766 rfl (lv_at hl 3 rfl) ?_
  refine eg_callLc (wc := (wO o cJ out ++ wX qx cI cJ (nI n) mk lt tg pa an la kn fb fh nb te wt bh)) (wr := wM qm cI cJ (nI n) mk lt tg pa an kn row len thr) (As := [.ref (qx 0), .int (xs (i + 1)), .int (xs (i + 2)), .ref o]) (rest := []) hx hb hml hown hts hK hP hD hS hT [0, 1, 2, 3, 4, 5, 6, 7, 8, 9, 10, 11, 12, 13] [14, 15, 16, 17, 18, 19, 20, 21] rfl rfl (by decide) hpL (vx_cwSW 4 hts gL_law_L_letterOf rfl rfl rfl (by decide +kernel) ⟨Nat.le_of_ble_eq_true rfl, Nat.le_of_ble_eq_true rfl⟩) rfl hl.1 rfl (Nat.le_of_ble_eq_true rfl) dL_law_767 ⟨hc, hs⟩ (fun v9 w9 H locs hR9 hw9 hP hD hS => ?_)
  obtain ⟨rfl, fb, fh, nb, te, wt, bh, out, hLI, ho, rfl⟩ := hR9
  refine lv_istore (lv' := [(5, .int (nI k)), (0, .ref b), (1, .ref (qx 0)), (2, .ref (qm 0)), (3, .ref o), (4, .int (nI i))]) hx hb dL_law_770 hl (by decide) rfl (fun ls hl => ?_)
  refine lv_aload_n hx hb dL_law_772 rfl (lv_at hl 3 rfl) ?_
  refine lv_aload_n hx hb dL_law_773 rfl (lv_at hl 1 rfl) ?_
  refine lv_iload hx hb dL_law_774 (lv_at hl 5 rfl) ?_
  refine lv_iconst (v := nI 1) hx hb dL_law_776 (by decide +kernel) ?_
  refine eg_iadd hx hb dL_law_777 ?_
  refine eg_sld hx hb hX hbl hS (by omega) hL dL_law_778 ?_
  refine lv_aload_n hx hb dL_law_779 rfl (lv_at hl 1 rfl) ?_
  refine lv_iload hx hb dL_law_780 (lv_at hl 5 rfl) ?_
  refine lv_iconst (v := nI 2) hx hb dL_law_782 (by decide +kernel) ?_
  refine eg_iadd hx hb dL_law_783 ?_
  refine eg_sld hx hb hX hbl hS (by omega) hL dL_law_784 ?_
  refine eg_callWVc (wc := wM qm cI cJ (nI n) mk lt tg pa an kn row len thr) (wr := wO o cJ out ++ wX qx cI cJ (nI n1) mk1 lt1 tg1 pa1 an1 la1 kn1 fb fh nb te wt bh) (As := [.int (xs (i + 1)), .int (xs (i + 2))]) (rest := []) hx hb hml hown hts hK hP hD hS [0, 1, 2, 3, 4, 5, 6, 7] [8, 9, 10, 11, 12, 13, 14, 15, 16, 17, 18, 19, 20, 21] rfl rfl (by decide) hpM (cwV 2 hts gL_law_X1_letterOf rfl hrm.1 hrm.2.1 (by decide +kernel) ⟨hrm.2.2.1, hrm.2.2.2⟩) (va_recv hK hP (ci := 1) (q0 := 0) rfl rfl) rfl hl.1 rfl (Nat.le_of_ble_eq_true rfl) dL_law_785 ⟨hc, hs⟩ (fun v9 w9 H locs hR9 hw9 hP hD hS => ?_)
  obtain ⟨rfl, row, len, rfl⟩ := hR9
  refine lv_istore (lv' := [(6, .int v), (5, .int (nI k)), (0, .ref b), (1, .ref (qx 0)), (2, .ref (qm 0)), (3, .ref o), (4, .int (nI i))]) hx hb dL_law_788 hl (by decide) rfl (fun ls hl => ?_)
  refine lv_aload_n hx hb dL_law_790 rfl (lv_at hl 4 rfl) ?_
  refine eg_callWVc (wc := wM qm cI cJ (nI n1) mk1 lt1 tg1 pa1 an1 kn1 row len (nI k)) (wr := wO o cJ out ++ wX qx cI cJ (nI n1) mk1 lt1 tg1 pa1 an1 la1 kn1 fb fh nb te wt bh) (As := []) (rest := []) hx hb hml hown hts hK hP hD hS [14, 15, 16, 17, 18, 19, 20, 21] [0, 1, 2, 3, 4, 5, 6, 7, 8, 9, 10, 11, 12, 13] rfl rfl (by decide) (eg_toW (c_X1_thrown l D cI cJ qm n1 mk1 lt1 tg1 pa1 an1 kn1 row len (nI k))) (cwV 0 hts gL_law_X1_thrown rfl rfl rfl (by decide +kernel) ⟨Nat.le_of_ble_eq_true rfl, Nat.le_of_ble_eq_true rfl⟩) (va_recv hK hP (ci := 1) (q0 := 14) rfl rfl) rfl hl.1 rfl (Nat.le_of_ble_eq_true rfl) dL_law_791 ⟨hc, hs⟩ (fun v9 w9 H locs hR9 hw9 hP hD hS => ?_)
  obtain ⟨rfl, rfl⟩ := hR9
  refine lv_iload hx hb dL_law_794 (lv_at hl 1 rfl) ?_
  refine lv_icmp_eq (tgt := 801) hx hb dL_law_796 (by decide) (fun _ => ?_) (fun h => absurd rfl h)
  have hend : ∀ ls : Array Slot, lv_has ls 8 [(6, .int v), (5, .int (nI k)), (0, .ref b), (1, .ref (qx 0)), (2, .ref (qm 0)), (3, .ref o), (4, .int (nI i))] → W p l e room_1 s m #[Value.ref b] below meth c H locs (cells + 1) (slots + 6) Q (F0 m 1475 ls []) := fun ls hl => kk H locs ls ⟨n1, mk1, lt1, tg1, pa1, an1, la1, kn1, fb, fh, nb, te, wt, bh, row, len, nI k, out, hLI, hP, hD, hS, lv_sub hl [2, 3, 4, 5, 6] rfl⟩
  refine lv_iload hx hb dL_law_801 (lv_at hl 1 rfl) ?_
  refine eg_if_ne (tgt := 818) hx hb dL_law_803 (by decide) (by omega) (fun _ => ?_) (fun hk => ?_)
  · exact lv_goto (tgt := 1475) hx hb dL_law_818 (by decide) (hend ls hl)
  · have ho := ho hk
    refine lv_aload_n hx hb dL_law_806 rfl (lv_at hl 5 rfl) ?_
    refine lv_iconst (v := nI 0) hx hb dL_law_807 (by decide +kernel) ?_
    refine eg_lald hx hb hK hP 0 1 rfl rfl (by decide) (by decide) dL_law_808 ?_
    refine lv_iload hx hb dL_law_809 (lv_at hl 0 rfl) ?_
    refine lv_i2l (v := v.toInt64) hx hb dL_law_811 rfl ?_
    refine eg_lcmp_eq (tgt := 818) hx hb dL_law_812 rfl dL_law_813 (by decide) (fun _ => ?_) (fun h => absurd (ho) h)
    exact lv_goto (tgt := 1475) hx hb dL_law_818 (by decide) (hend ls hl)
set_option maxHeartbeats 4000000 in
set_option maxRecDepth 100000 in
theorem law_lettersBy (hC : LwC p l s m c b L xs D cI cJ) (qx qm : Nat → Nat) (o i cells slots : Nat) (H : Heap) (locs : List Loc) (ls : Array Slot) (hi : i + 4 ≤ L) (hc : cells + 1 ≤ 1051) (hs : slots + 6 ≤ 9275) (hLS : LwS s D cI cJ b qx qm o i H locs ls)
    (kk : ∀ (H : Heap) (locs : List Loc) (ls : Array Slot), LwS s D cI cJ b qx qm o i H locs ls → W p l e room_1 s m #[Value.ref b] below meth c H locs (cells + 1) (slots + 6) Q (F0 m 1475 ls [])) : W p l e room_1 s m #[Value.ref b] below meth c H locs cells slots Q (F0 m 821 ls []) := by
  obtain ⟨hx, hb, hml, hown, hts, hK, hT, hX, hbl, hL, hfl⟩ := hC
  obtain ⟨n, mk, lt, tg, pa, an, la, kn, fb, fh, nb, te, wt, bh, row, len, thr, out, hLI, hP, hD, hS, hl⟩ := hLS
  have hR : room_1.cells = 1051 ∧ room_1.slots = 9275 := ⟨rfl, rfl⟩
  obtain ⟨k, v, rm, n1, mk1, lt1, tg1, pa1, an1, la1, kn1, hk4, hrm, hpL, hpM⟩ := pair_lettersBy l D cI cJ qx qm n mk lt tg pa an la kn fb fh nb te wt bh row len thr o out (xs (i + 1)) (xs (i + 2)) hfl hLI
  refine lv_aload_n hx hb dL_law_821 rfl (lv_at hl 1 rfl) ?_
  refine lv_aload_n hx hb dL_law_822 rfl (lv_at hl 0 rfl) ?_
  refine lv_iload hx hb dL_law_823 (lv_at hl 4 rfl) ?_
  refine lv_iconst (v := nI 1) hx hb dL_law_825 (by decide +kernel) ?_
  refine eg_iadd hx hb dL_law_826 ?_
  refine eg_sld hx hb hX hbl hS (by omega) hL dL_law_827 ?_
  refine lv_aload_n hx hb dL_law_828 rfl (lv_at hl 0 rfl) ?_
  refine lv_iload hx hb dL_law_829 (lv_at hl 4 rfl) ?_
  refine lv_iconst (v := nI 2) hx hb dL_law_831 (by decide +kernel) ?_
  refine eg_iadd hx hb dL_law_832 ?_
  refine eg_sld hx hb hX hbl hS (by omega) hL dL_law_833 ?_
  refine lv_aload_n hx hb dL_law_834 rfl (lv_at hl 3 rfl) ?_
  refine eg_callLc (wc := (wO o cJ out ++ wX qx cI cJ (nI n) mk lt tg pa an la kn fb fh nb te wt bh)) (wr := wM qm cI cJ (nI n) mk lt tg pa an kn row len thr) (As := [.ref (qx 0), .int (xs (i + 1)), .int (xs (i + 2)), .ref o]) (rest := []) hx hb hml hown hts hK hP hD hS hT [0, 1, 2, 3, 4, 5, 6, 7, 8, 9, 10, 11, 12, 13] [14, 15, 16, 17, 18, 19, 20, 21] rfl rfl (by decide) hpL (vx_cwSW 4 hts gL_law_L_lettersBy rfl rfl rfl (by decide +kernel) ⟨Nat.le_of_ble_eq_true rfl, Nat.le_of_ble_eq_true rfl⟩) rfl hl.1 rfl (Nat.le_of_ble_eq_true rfl) dL_law_835 ⟨hc, hs⟩ (fun v9 w9 H locs hR9 hw9 hP hD hS => ?_)
  obtain ⟨rfl, fb, fh, nb, te, wt, bh, out, hLI, ho, rfl⟩ := hR9
  refine lv_istore (lv' := [(5, .int (nI k)), (0, .ref b), (1, .ref (qx 0)), (2, .ref (qm 0)), (3, .ref o), (4, .int (nI i))]) hx hb dL_law_838 hl (by decide) rfl (fun ls hl => ?_)
  refine lv_aload_n hx hb dL_law_840 rfl (lv_at hl 3 rfl) ?_
  refine lv_aload_n hx hb dL_law_841 rfl (lv_at hl 1 rfl) ?_
  refine lv_iload hx hb dL_law_842 (lv_at hl 5 rfl) ?_
  refine lv_iconst (v := nI 1) hx hb dL_law_844 (by decide +kernel) ?_
  refine eg_iadd hx hb dL_law_845 ?_
  refine eg_sld hx hb hX hbl hS (by omega) hL dL_law_846 ?_
  refine lv_aload_n hx hb dL_law_847 rfl (lv_at hl 1 rfl) ?_
  refine lv_iload hx hb dL_law_848 (lv_at hl 5 rfl) ?_
  refine lv_iconst (v := nI 2) hx hb dL_law_850 (by decide +kernel) ?_
  refine eg_iadd hx hb dL_law_851 ?_
  refine eg_sld hx hb hX hbl hS (by omega) hL dL_law_852 ?_
  refine eg_callWVc (wc := wM qm cI cJ (nI n) mk lt tg pa an kn row len thr) (wr := wO o cJ out ++ wX qx cI cJ (nI n1) mk1 lt1 tg1 pa1 an1 la1 kn1 fb fh nb te wt bh) (As := [.int (xs (i + 1)), .int (xs (i + 2))]) (rest := []) hx hb hml hown hts hK hP hD hS [0, 1, 2, 3, 4, 5, 6, 7] [8, 9, 10, 11, 12, 13, 14, 15, 16, 17, 18, 19, 20, 21] rfl rfl (by decide) hpM (cwV 2 hts gL_law_X1_lettersBy rfl hrm.1 hrm.2.1 (by decide +kernel) ⟨hrm.2.2.1, hrm.2.2.2⟩) (va_recv hK hP (ci := 1) (q0 := 0) rfl rfl) rfl hl.1 rfl (Nat.le_of_ble_eq_true rfl) dL_law_853 ⟨hc, hs⟩ (fun v9 w9 H locs hR9 hw9 hP hD hS => ?_)
  obtain ⟨rfl, row, len, rfl⟩ := hR9
  refine lv_istore (lv' := [(6, .int v), (5, .int (nI k)), (0, .ref b), (1, .ref (qx 0)), (2, .ref (qm 0)), (3, .ref o), (4, .int (nI i))]) hx hb dL_law_856 hl (by decide) rfl (fun ls hl => ?_)
  refine lv_aload_n hx hb dL_law_858 rfl (lv_at hl 4 rfl) ?_
  refine eg_callWVc (wc := wM qm cI cJ (nI n1) mk1 lt1 tg1 pa1 an1 kn1 row len (nI k)) (wr := wO o cJ out ++ wX qx cI cJ (nI n1) mk1 lt1 tg1 pa1 an1 la1 kn1 fb fh nb te wt bh) (As := []) (rest := []) hx hb hml hown hts hK hP hD hS [14, 15, 16, 17, 18, 19, 20, 21] [0, 1, 2, 3, 4, 5, 6, 7, 8, 9, 10, 11, 12, 13] rfl rfl (by decide) (eg_toW (c_X1_thrown l D cI cJ qm n1 mk1 lt1 tg1 pa1 an1 kn1 row len (nI k))) (cwV 0 hts gL_law_X1_thrown rfl rfl rfl (by decide +kernel) ⟨Nat.le_of_ble_eq_true rfl, Nat.le_of_ble_eq_true rfl⟩) (va_recv hK hP (ci := 1) (q0 := 14) rfl rfl) rfl hl.1 rfl (Nat.le_of_ble_eq_true rfl) dL_law_859 ⟨hc, hs⟩ (fun v9 w9 H locs hR9 hw9 hP hD hS => ?_)
  obtain ⟨rfl, rfl⟩ := hR9
  refine lv_iload hx hb dL_law_862 (lv_at hl 1 rfl) ?_
  refine lv_icmp_eq (tgt := 869) hx hb dL_law_864 (by decide) (fun _ => ?_) (fun h => absurd rfl h)
  have hend : ∀ ls : Array Slot, lv_has ls 8 [(6, .int v), (5, .int (nI k)), (0, .ref b), (1, .ref (qx 0)), (2, .ref (qm 0)), (3, .ref o), (4, .int (nI i))] → W p l e room_1 s m #[Value.ref b] below meth c H locs (cells + 1) (slots + 6) Q (F0 m 1475 ls []) := fun ls hl => kk H locs ls ⟨n1, mk1, lt1, tg1, pa1, an1, la1, kn1, fb, fh, nb, te, wt, bh, row, len, nI k, out, hLI, hP, hD, hS, lv_sub hl [2, 3, 4, 5, 6] rfl⟩
  refine lv_iload hx hb dL_law_869 (lv_at hl 1 rfl) ?_
  refine eg_if_ne (tgt := 886) hx hb dL_law_871 (by decide) (by omega) (fun _ => ?_) (fun hk => ?_)
  · exact lv_goto (tgt := 1475) hx hb dL_law_886 (by decide) (hend ls hl)
  · have ho := ho hk
    refine lv_aload_n hx hb dL_law_874 rfl (lv_at hl 5 rfl) ?_
    refine lv_iconst (v := nI 0) hx hb dL_law_875 (by decide +kernel) ?_
    refine eg_lald hx hb hK hP 0 1 rfl rfl (by decide) (by decide) dL_law_876 ?_
    refine lv_iload hx hb dL_law_877 (lv_at hl 0 rfl) ?_
    refine lv_i2l (v := v.toInt64) hx hb dL_law_879 rfl ?_
    refine eg_lcmp_eq (tgt := 886) hx hb dL_law_880 rfl dL_law_881 (by decide) (fun _ => ?_) (fun h => absurd (ho) h)
    exact lv_goto (tgt := 1475) hx hb dL_law_886 (by decide) (hend ls hl)
set_option maxHeartbeats 4000000 in
set_option maxRecDepth 100000 in
theorem law_authorOf (hC : LwC p l s m c b L xs D cI cJ) (qx qm : Nat → Nat) (o i cells slots : Nat) (H : Heap) (locs : List Loc) (ls : Array Slot) (hi : i + 4 ≤ L) (hc : cells + 1 ≤ 1051) (hs : slots + 6 ≤ 9275) (hLS : LwS s D cI cJ b qx qm o i H locs ls)
    (kk : ∀ (H : Heap) (locs : List Loc) (ls : Array Slot), LwS s D cI cJ b qx qm o i H locs ls → W p l e room_1 s m #[Value.ref b] below meth c H locs (cells + 1) (slots + 6) Q (F0 m 1475 ls [])) : W p l e room_1 s m #[Value.ref b] below meth c H locs cells slots Q (F0 m 889 ls []) := by
  obtain ⟨hx, hb, hml, hown, hts, hK, hT, hX, hbl, hL, hfl⟩ := hC
  obtain ⟨n, mk, lt, tg, pa, an, la, kn, fb, fh, nb, te, wt, bh, row, len, thr, out, hLI, hP, hD, hS, hl⟩ := hLS
  have hR : room_1.cells = 1051 ∧ room_1.slots = 9275 := ⟨rfl, rfl⟩
  obtain ⟨k, v, rm, n1, mk1, lt1, tg1, pa1, an1, la1, kn1, hk4, hrm, hpL, hpM⟩ := pair_authorOf l D cI cJ qx qm n mk lt tg pa an la kn fb fh nb te wt bh row len thr o out (xs (i + 1)) hfl hLI
  refine lv_aload_n hx hb dL_law_889 rfl (lv_at hl 1 rfl) ?_
  refine lv_aload_n hx hb dL_law_890 rfl (lv_at hl 0 rfl) ?_
  refine lv_iload hx hb dL_law_891 (lv_at hl 4 rfl) ?_
  refine lv_iconst (v := nI 1) hx hb dL_law_893 (by decide +kernel) ?_
  refine eg_iadd hx hb dL_law_894 ?_
  refine eg_sld hx hb hX hbl hS (by omega) hL dL_law_895 ?_
  refine lv_aload_n hx hb dL_law_896 rfl (lv_at hl 3 rfl) ?_
  refine eg_callLc (wc := (wO o cJ out ++ wX qx cI cJ (nI n) mk lt tg pa an la kn fb fh nb te wt bh)) (wr := wM qm cI cJ (nI n) mk lt tg pa an kn row len thr) (As := [.ref (qx 0), .int (xs (i + 1)), .ref o]) (rest := []) hx hb hml hown hts hK hP hD hS hT [0, 1, 2, 3, 4, 5, 6, 7, 8, 9, 10, 11, 12, 13] [14, 15, 16, 17, 18, 19, 20, 21] rfl rfl (by decide) hpL (vx_cwSW 3 hts gL_law_L_authorOf rfl rfl rfl (by decide +kernel) ⟨Nat.le_of_ble_eq_true rfl, Nat.le_of_ble_eq_true rfl⟩) rfl hl.1 rfl (Nat.le_of_ble_eq_true rfl) dL_law_897 ⟨hc, hs⟩ (fun v9 w9 H locs hR9 hw9 hP hD hS => ?_)
  obtain ⟨rfl, fb, fh, nb, te, wt, bh, out, hLI, ho, rfl⟩ := hR9
  refine lv_istore (lv' := [(5, .int (nI k)), (0, .ref b), (1, .ref (qx 0)), (2, .ref (qm 0)), (3, .ref o), (4, .int (nI i))]) hx hb dL_law_900 hl (by decide) rfl (fun ls hl => ?_)
  refine lv_aload_n hx hb dL_law_902 rfl (lv_at hl 3 rfl) ?_
  refine lv_aload_n hx hb dL_law_903 rfl (lv_at hl 1 rfl) ?_
  refine lv_iload hx hb dL_law_904 (lv_at hl 5 rfl) ?_
  refine lv_iconst (v := nI 1) hx hb dL_law_906 (by decide +kernel) ?_
  refine eg_iadd hx hb dL_law_907 ?_
  refine eg_sld hx hb hX hbl hS (by omega) hL dL_law_908 ?_
  refine eg_callWVc (wc := wM qm cI cJ (nI n) mk lt tg pa an kn row len thr) (wr := wO o cJ out ++ wX qx cI cJ (nI n1) mk1 lt1 tg1 pa1 an1 la1 kn1 fb fh nb te wt bh) (As := [.int (xs (i + 1))]) (rest := []) hx hb hml hown hts hK hP hD hS [0, 1, 2, 3, 4, 5, 6, 7] [8, 9, 10, 11, 12, 13, 14, 15, 16, 17, 18, 19, 20, 21] rfl rfl (by decide) hpM (cwV 1 hts gL_law_X1_authorOf rfl hrm.1 hrm.2.1 (by decide +kernel) ⟨hrm.2.2.1, hrm.2.2.2⟩) (va_recv hK hP (ci := 1) (q0 := 0) rfl rfl) rfl hl.1 rfl (Nat.le_of_ble_eq_true rfl) dL_law_909 ⟨hc, hs⟩ (fun v9 w9 H locs hR9 hw9 hP hD hS => ?_)
  obtain ⟨rfl, row, len, rfl⟩ := hR9
  refine lv_istore (lv' := [(6, .int v), (5, .int (nI k)), (0, .ref b), (1, .ref (qx 0)), (2, .ref (qm 0)), (3, .ref o), (4, .int (nI i))]) hx hb dL_law_912 hl (by decide) rfl (fun ls hl => ?_)
  refine lv_aload_n hx hb dL_law_914 rfl (lv_at hl 4 rfl) ?_
  refine eg_callWVc (wc := wM qm cI cJ (nI n1) mk1 lt1 tg1 pa1 an1 kn1 row len (nI k)) (wr := wO o cJ out ++ wX qx cI cJ (nI n1) mk1 lt1 tg1 pa1 an1 la1 kn1 fb fh nb te wt bh) (As := []) (rest := []) hx hb hml hown hts hK hP hD hS [14, 15, 16, 17, 18, 19, 20, 21] [0, 1, 2, 3, 4, 5, 6, 7, 8, 9, 10, 11, 12, 13] rfl rfl (by decide) (eg_toW (c_X1_thrown l D cI cJ qm n1 mk1 lt1 tg1 pa1 an1 kn1 row len (nI k))) (cwV 0 hts gL_law_X1_thrown rfl rfl rfl (by decide +kernel) ⟨Nat.le_of_ble_eq_true rfl, Nat.le_of_ble_eq_true rfl⟩) (va_recv hK hP (ci := 1) (q0 := 14) rfl rfl) rfl hl.1 rfl (Nat.le_of_ble_eq_true rfl) dL_law_915 ⟨hc, hs⟩ (fun v9 w9 H locs hR9 hw9 hP hD hS => ?_)
  obtain ⟨rfl, rfl⟩ := hR9
  refine lv_iload hx hb dL_law_918 (lv_at hl 1 rfl) ?_
  refine lv_icmp_eq (tgt := 925) hx hb dL_law_920 (by decide) (fun _ => ?_) (fun h => absurd rfl h)
  have hend : ∀ ls : Array Slot, lv_has ls 8 [(6, .int v), (5, .int (nI k)), (0, .ref b), (1, .ref (qx 0)), (2, .ref (qm 0)), (3, .ref o), (4, .int (nI i))] → W p l e room_1 s m #[Value.ref b] below meth c H locs (cells + 1) (slots + 6) Q (F0 m 1475 ls []) := fun ls hl => kk H locs ls ⟨n1, mk1, lt1, tg1, pa1, an1, la1, kn1, fb, fh, nb, te, wt, bh, row, len, nI k, out, hLI, hP, hD, hS, lv_sub hl [2, 3, 4, 5, 6] rfl⟩
  refine lv_iload hx hb dL_law_925 (lv_at hl 1 rfl) ?_
  refine eg_if_ne (tgt := 942) hx hb dL_law_927 (by decide) (by omega) (fun _ => ?_) (fun hk => ?_)
  · exact lv_goto (tgt := 1475) hx hb dL_law_942 (by decide) (hend ls hl)
  · have ho := ho hk
    refine lv_aload_n hx hb dL_law_930 rfl (lv_at hl 5 rfl) ?_
    refine lv_iconst (v := nI 0) hx hb dL_law_931 (by decide +kernel) ?_
    refine eg_lald hx hb hK hP 0 1 rfl rfl (by decide) (by decide) dL_law_932 ?_
    refine lv_iload hx hb dL_law_933 (lv_at hl 0 rfl) ?_
    refine lv_i2l (v := v.toInt64) hx hb dL_law_935 rfl ?_
    refine eg_lcmp_eq (tgt := 942) hx hb dL_law_936 rfl dL_law_937 (by decide) (fun _ => ?_) (fun h => absurd (ho) h)
    exact lv_goto (tgt := 1475) hx hb dL_law_942 (by decide) (hend ls hl)
set_option maxHeartbeats 4000000 in
set_option maxRecDepth 100000 in
theorem law_parents (hC : LwC p l s m c b L xs D cI cJ) (qx qm : Nat → Nat) (o i cells slots : Nat) (H : Heap) (locs : List Loc) (ls : Array Slot) (hi : i + 4 ≤ L) (hc : cells + 1 ≤ 1051) (hs : slots + 6 ≤ 9275) (hLS : LwS s D cI cJ b qx qm o i H locs ls)
    (kk : ∀ (H : Heap) (locs : List Loc) (ls : Array Slot), LwS s D cI cJ b qx qm o i H locs ls → W p l e room_1 s m #[Value.ref b] below meth c H locs (cells + 1) (slots + 6) Q (F0 m 1475 ls [])) : W p l e room_1 s m #[Value.ref b] below meth c H locs cells slots Q (F0 m 945 ls []) := by
  obtain ⟨hx, hb, hml, hown, hts, hK, hT, hX, hbl, hL, hfl⟩ := hC
  obtain ⟨n, mk, lt, tg, pa, an, la, kn, fb, fh, nb, te, wt, bh, row, len, thr, out, hLI, hP, hD, hS, hl⟩ := hLS
  have hR : room_1.cells = 1051 ∧ room_1.slots = 9275 := ⟨rfl, rfl⟩
  obtain ⟨k, v, rm, n1, mk1, lt1, tg1, pa1, an1, la1, kn1, hk4, hrm, hpL, hpM⟩ := pair_parents l D cI cJ qx qm n mk lt tg pa an la kn fb fh nb te wt bh row len thr o out (xs (i + 1)) hfl hLI
  refine lv_aload_n hx hb dL_law_945 rfl (lv_at hl 1 rfl) ?_
  refine lv_aload_n hx hb dL_law_946 rfl (lv_at hl 0 rfl) ?_
  refine lv_iload hx hb dL_law_947 (lv_at hl 4 rfl) ?_
  refine lv_iconst (v := nI 1) hx hb dL_law_949 (by decide +kernel) ?_
  refine eg_iadd hx hb dL_law_950 ?_
  refine eg_sld hx hb hX hbl hS (by omega) hL dL_law_951 ?_
  refine lv_aload_n hx hb dL_law_952 rfl (lv_at hl 3 rfl) ?_
  refine eg_callLc (wc := (wO o cJ out ++ wX qx cI cJ (nI n) mk lt tg pa an la kn fb fh nb te wt bh)) (wr := wM qm cI cJ (nI n) mk lt tg pa an kn row len thr) (As := [.ref (qx 0), .int (xs (i + 1)), .ref o]) (rest := []) hx hb hml hown hts hK hP hD hS hT [0, 1, 2, 3, 4, 5, 6, 7, 8, 9, 10, 11, 12, 13] [14, 15, 16, 17, 18, 19, 20, 21] rfl rfl (by decide) hpL (vx_cwSW 3 hts gL_law_L_parents rfl rfl rfl (by decide +kernel) ⟨Nat.le_of_ble_eq_true rfl, Nat.le_of_ble_eq_true rfl⟩) rfl hl.1 rfl (Nat.le_of_ble_eq_true rfl) dL_law_953 ⟨hc, hs⟩ (fun v9 w9 H locs hR9 hw9 hP hD hS => ?_)
  obtain ⟨rfl, fb, fh, nb, te, wt, bh, out, hLI, ho, rfl⟩ := hR9
  refine lv_istore (lv' := [(5, .int (nI k)), (0, .ref b), (1, .ref (qx 0)), (2, .ref (qm 0)), (3, .ref o), (4, .int (nI i))]) hx hb dL_law_956 hl (by decide) rfl (fun ls hl => ?_)
  refine lv_aload_n hx hb dL_law_958 rfl (lv_at hl 3 rfl) ?_
  refine lv_aload_n hx hb dL_law_959 rfl (lv_at hl 1 rfl) ?_
  refine lv_iload hx hb dL_law_960 (lv_at hl 5 rfl) ?_
  refine lv_iconst (v := nI 1) hx hb dL_law_962 (by decide +kernel) ?_
  refine eg_iadd hx hb dL_law_963 ?_
  refine eg_sld hx hb hX hbl hS (by omega) hL dL_law_964 ?_
  refine eg_callWVc (wc := wM qm cI cJ (nI n) mk lt tg pa an kn row len thr) (wr := wO o cJ out ++ wX qx cI cJ (nI n1) mk1 lt1 tg1 pa1 an1 la1 kn1 fb fh nb te wt bh) (As := [.int (xs (i + 1))]) (rest := []) hx hb hml hown hts hK hP hD hS [0, 1, 2, 3, 4, 5, 6, 7] [8, 9, 10, 11, 12, 13, 14, 15, 16, 17, 18, 19, 20, 21] rfl rfl (by decide) hpM (cwV 1 hts gL_law_X1_parents rfl hrm.1 hrm.2.1 (by decide +kernel) ⟨hrm.2.2.1, hrm.2.2.2⟩) (va_recv hK hP (ci := 1) (q0 := 0) rfl rfl) rfl hl.1 rfl (Nat.le_of_ble_eq_true rfl) dL_law_965 ⟨hc, hs⟩ (fun v9 w9 H locs hR9 hw9 hP hD hS => ?_)
  obtain ⟨rfl, row, len, rfl⟩ := hR9
  refine lv_lstore (lv' := [(6, .long v), (5, .int (nI k)), (0, .ref b), (1, .ref (qx 0)), (2, .ref (qm 0)), (3, .ref o), (4, .int (nI i))]) hx hb dL_law_968 hl (by decide) rfl (fun ls hl => ?_)
  refine lv_aload_n hx hb dL_law_970 rfl (lv_at hl 4 rfl) ?_
  refine eg_callWVc (wc := wM qm cI cJ (nI n1) mk1 lt1 tg1 pa1 an1 kn1 row len (nI k)) (wr := wO o cJ out ++ wX qx cI cJ (nI n1) mk1 lt1 tg1 pa1 an1 la1 kn1 fb fh nb te wt bh) (As := []) (rest := []) hx hb hml hown hts hK hP hD hS [14, 15, 16, 17, 18, 19, 20, 21] [0, 1, 2, 3, 4, 5, 6, 7, 8, 9, 10, 11, 12, 13] rfl rfl (by decide) (eg_toW (c_X1_thrown l D cI cJ qm n1 mk1 lt1 tg1 pa1 an1 kn1 row len (nI k))) (cwV 0 hts gL_law_X1_thrown rfl rfl rfl (by decide +kernel) ⟨Nat.le_of_ble_eq_true rfl, Nat.le_of_ble_eq_true rfl⟩) (va_recv hK hP (ci := 1) (q0 := 14) rfl rfl) rfl hl.1 rfl (Nat.le_of_ble_eq_true rfl) dL_law_971 ⟨hc, hs⟩ (fun v9 w9 H locs hR9 hw9 hP hD hS => ?_)
  obtain ⟨rfl, rfl⟩ := hR9
  refine lv_iload hx hb dL_law_974 (lv_at hl 1 rfl) ?_
  refine lv_icmp_eq (tgt := 981) hx hb dL_law_976 (by decide) (fun _ => ?_) (fun h => absurd rfl h)
  have hend : ∀ ls : Array Slot, lv_has ls 8 [(6, .long v), (5, .int (nI k)), (0, .ref b), (1, .ref (qx 0)), (2, .ref (qm 0)), (3, .ref o), (4, .int (nI i))] → W p l e room_1 s m #[Value.ref b] below meth c H locs (cells + 1) (slots + 6) Q (F0 m 1475 ls []) := fun ls hl => kk H locs ls ⟨n1, mk1, lt1, tg1, pa1, an1, la1, kn1, fb, fh, nb, te, wt, bh, row, len, nI k, out, hLI, hP, hD, hS, lv_sub hl [2, 3, 4, 5, 6] rfl⟩
  refine lv_iload hx hb dL_law_981 (lv_at hl 1 rfl) ?_
  refine eg_if_ne (tgt := 997) hx hb dL_law_983 (by decide) (by omega) (fun _ => ?_) (fun hk => ?_)
  · exact lv_goto (tgt := 1475) hx hb dL_law_997 (by decide) (hend ls hl)
  · have ho := ho hk
    refine lv_aload_n hx hb dL_law_986 rfl (lv_at hl 5 rfl) ?_
    refine lv_iconst (v := nI 0) hx hb dL_law_987 (by decide +kernel) ?_
    refine eg_lald hx hb hK hP 0 1 rfl rfl (by decide) (by decide) dL_law_988 ?_
    refine lv_lload hx hb dL_law_989 (lv_at hl 0 rfl) ?_
    refine eg_lcmp_eq (tgt := 997) hx hb dL_law_991 rfl dL_law_992 (by decide) (fun _ => ?_) (fun h => absurd (ho) h)
    exact lv_goto (tgt := 1475) hx hb dL_law_997 (by decide) (hend ls hl)
set_option maxHeartbeats 4000000 in
set_option maxRecDepth 100000 in
theorem law_isLater (hC : LwC p l s m c b L xs D cI cJ) (qx qm : Nat → Nat) (o i cells slots : Nat) (H : Heap) (locs : List Loc) (ls : Array Slot) (hi : i + 4 ≤ L) (hc : cells + 1 ≤ 1051) (hs : slots + 6 ≤ 9275) (hLS : LwS s D cI cJ b qx qm o i H locs ls)
    (kk : ∀ (H : Heap) (locs : List Loc) (ls : Array Slot), LwS s D cI cJ b qx qm o i H locs ls → W p l e room_1 s m #[Value.ref b] below meth c H locs (cells + 1) (slots + 6) Q (F0 m 1475 ls [])) : W p l e room_1 s m #[Value.ref b] below meth c H locs cells slots Q (F0 m 1000 ls []) := by
  obtain ⟨hx, hb, hml, hown, hts, hK, hT, hX, hbl, hL, hfl⟩ := hC
  obtain ⟨n, mk, lt, tg, pa, an, la, kn, fb, fh, nb, te, wt, bh, row, len, thr, out, hLI, hP, hD, hS, hl⟩ := hLS
  have hR : room_1.cells = 1051 ∧ room_1.slots = 9275 := ⟨rfl, rfl⟩
  obtain ⟨k, v, rm, n1, mk1, lt1, tg1, pa1, an1, la1, kn1, hk4, hrm, hpL, hpM⟩ := pair_isLater l D cI cJ qx qm n mk lt tg pa an la kn fb fh nb te wt bh row len thr o out (xs (i + 1)) (xs (i + 2)) hfl hLI
  refine lv_aload_n hx hb dL_law_1000 rfl (lv_at hl 1 rfl) ?_
  refine lv_aload_n hx hb dL_law_1001 rfl (lv_at hl 0 rfl) ?_
  refine lv_iload hx hb dL_law_1002 (lv_at hl 4 rfl) ?_
  refine lv_iconst (v := nI 1) hx hb dL_law_1004 (by decide +kernel) ?_
  refine eg_iadd hx hb dL_law_1005 ?_
  refine eg_sld hx hb hX hbl hS (by omega) hL dL_law_1006 ?_
  refine lv_aload_n hx hb dL_law_1007 rfl (lv_at hl 0 rfl) ?_
  refine lv_iload hx hb dL_law_1008 (lv_at hl 4 rfl) ?_
  refine lv_iconst (v := nI 2) hx hb dL_law_1010 (by decide +kernel) ?_
  refine eg_iadd hx hb dL_law_1011 ?_
  refine eg_sld hx hb hX hbl hS (by omega) hL dL_law_1012 ?_
  refine lv_aload_n hx hb dL_law_1013 rfl (lv_at hl 3 rfl) ?_
  refine eg_callLc (wc := (wO o cJ out ++ wX qx cI cJ (nI n) mk lt tg pa an la kn fb fh nb te wt bh)) (wr := wM qm cI cJ (nI n) mk lt tg pa an kn row len thr) (As := [.ref (qx 0), .int (xs (i + 1)), .int (xs (i + 2)), .ref o]) (rest := []) hx hb hml hown hts hK hP hD hS hT [0, 1, 2, 3, 4, 5, 6, 7, 8, 9, 10, 11, 12, 13] [14, 15, 16, 17, 18, 19, 20, 21] rfl rfl (by decide) hpL (vx_cwSW 4 hts gL_law_L_isLater rfl rfl rfl (by decide +kernel) ⟨Nat.le_of_ble_eq_true rfl, Nat.le_of_ble_eq_true rfl⟩) rfl hl.1 rfl (Nat.le_of_ble_eq_true rfl) dL_law_1014 ⟨hc, hs⟩ (fun v9 w9 H locs hR9 hw9 hP hD hS => ?_)
  obtain ⟨rfl, fb, fh, nb, te, wt, bh, out, hLI, ho, rfl⟩ := hR9
  refine lv_istore (lv' := [(5, .int (nI k)), (0, .ref b), (1, .ref (qx 0)), (2, .ref (qm 0)), (3, .ref o), (4, .int (nI i))]) hx hb dL_law_1017 hl (by decide) rfl (fun ls hl => ?_)
  refine lv_aload_n hx hb dL_law_1019 rfl (lv_at hl 3 rfl) ?_
  refine lv_aload_n hx hb dL_law_1020 rfl (lv_at hl 1 rfl) ?_
  refine lv_iload hx hb dL_law_1021 (lv_at hl 5 rfl) ?_
  refine lv_iconst (v := nI 1) hx hb dL_law_1023 (by decide +kernel) ?_
  refine eg_iadd hx hb dL_law_1024 ?_
  refine eg_sld hx hb hX hbl hS (by omega) hL dL_law_1025 ?_
  refine lv_aload_n hx hb dL_law_1026 rfl (lv_at hl 1 rfl) ?_
  refine lv_iload hx hb dL_law_1027 (lv_at hl 5 rfl) ?_
  refine lv_iconst (v := nI 2) hx hb dL_law_1029 (by decide +kernel) ?_
  refine eg_iadd hx hb dL_law_1030 ?_
  refine eg_sld hx hb hX hbl hS (by omega) hL dL_law_1031 ?_
  refine eg_callWVc (wc := wM qm cI cJ (nI n) mk lt tg pa an kn row len thr) (wr := wO o cJ out ++ wX qx cI cJ (nI n1) mk1 lt1 tg1 pa1 an1 la1 kn1 fb fh nb te wt bh) (As := [.int (xs (i + 1)), .int (xs (i + 2))]) (rest := []) hx hb hml hown hts hK hP hD hS [0, 1, 2, 3, 4, 5, 6, 7] [8, 9, 10, 11, 12, 13, 14, 15, 16, 17, 18, 19, 20, 21] rfl rfl (by decide) hpM (cwV 2 hts gL_law_X1_isLater rfl hrm.1 hrm.2.1 (by decide +kernel) ⟨hrm.2.2.1, hrm.2.2.2⟩) (va_recv hK hP (ci := 1) (q0 := 0) rfl rfl) rfl hl.1 rfl (Nat.le_of_ble_eq_true rfl) dL_law_1032 ⟨hc, hs⟩ (fun v9 w9 H locs hR9 hw9 hP hD hS => ?_)
  obtain ⟨rfl, row, len, rfl⟩ := hR9
  refine lv_istore (lv' := [(6, .int (eb v)), (5, .int (nI k)), (0, .ref b), (1, .ref (qx 0)), (2, .ref (qm 0)), (3, .ref o), (4, .int (nI i))]) hx hb dL_law_1035 hl (by decide) rfl (fun ls hl => ?_)
  refine lv_aload_n hx hb dL_law_1037 rfl (lv_at hl 4 rfl) ?_
  refine eg_callWVc (wc := wM qm cI cJ (nI n1) mk1 lt1 tg1 pa1 an1 kn1 row len (nI k)) (wr := wO o cJ out ++ wX qx cI cJ (nI n1) mk1 lt1 tg1 pa1 an1 la1 kn1 fb fh nb te wt bh) (As := []) (rest := []) hx hb hml hown hts hK hP hD hS [14, 15, 16, 17, 18, 19, 20, 21] [0, 1, 2, 3, 4, 5, 6, 7, 8, 9, 10, 11, 12, 13] rfl rfl (by decide) (eg_toW (c_X1_thrown l D cI cJ qm n1 mk1 lt1 tg1 pa1 an1 kn1 row len (nI k))) (cwV 0 hts gL_law_X1_thrown rfl rfl rfl (by decide +kernel) ⟨Nat.le_of_ble_eq_true rfl, Nat.le_of_ble_eq_true rfl⟩) (va_recv hK hP (ci := 1) (q0 := 14) rfl rfl) rfl hl.1 rfl (Nat.le_of_ble_eq_true rfl) dL_law_1038 ⟨hc, hs⟩ (fun v9 w9 H locs hR9 hw9 hP hD hS => ?_)
  obtain ⟨rfl, rfl⟩ := hR9
  refine lv_iload hx hb dL_law_1041 (lv_at hl 1 rfl) ?_
  refine lv_icmp_eq (tgt := 1048) hx hb dL_law_1043 (by decide) (fun _ => ?_) (fun h => absurd rfl h)
  have hend : ∀ ls : Array Slot, lv_has ls 8 [(6, .int (eb v)), (5, .int (nI k)), (0, .ref b), (1, .ref (qx 0)), (2, .ref (qm 0)), (3, .ref o), (4, .int (nI i))] → W p l e room_1 s m #[Value.ref b] below meth c H locs (cells + 1) (slots + 6) Q (F0 m 1475 ls []) := fun ls hl => kk H locs ls ⟨n1, mk1, lt1, tg1, pa1, an1, la1, kn1, fb, fh, nb, te, wt, bh, row, len, nI k, out, hLI, hP, hD, hS, lv_sub hl [2, 3, 4, 5, 6] rfl⟩
  refine lv_iload hx hb dL_law_1048 (lv_at hl 1 rfl) ?_
  refine eg_if_ne (tgt := 1072) hx hb dL_law_1050 (by decide) (by omega) (fun _ => ?_) (fun hk => ?_)
  · exact lv_goto (tgt := 1475) hx hb dL_law_1072 (by decide) (hend ls hl)
  · have ho := ho hk
    refine lv_aload_n hx hb dL_law_1053 rfl (lv_at hl 5 rfl) ?_
    refine lv_iconst (v := nI 0) hx hb dL_law_1054 (by decide +kernel) ?_
    refine eg_lald hx hb hK hP 0 1 rfl rfl (by decide) (by decide) dL_law_1055 ?_
    refine lv_iload hx hb dL_law_1056 (lv_at hl 0 rfl) ?_
    refine eg_ifeq_b (tgt := 1065) hx hb dL_law_1058 (by decide) (fun hv => ?_) (fun hv => ?_)
    · refine lv_lconst (v := 0) hx hb dL_law_1065 (by decide) ?_
      refine eg_lcmp_eq (tgt := 1072) hx hb dL_law_1066 rfl dL_law_1067 (by decide) (fun _ => ?_) (fun h => absurd (ho.trans (by rw [hv]; rfl)) h)
      exact lv_goto (tgt := 1475) hx hb dL_law_1072 (by decide) (hend ls hl)
    · refine lv_lconst (v := 1) hx hb dL_law_1061 (by decide) ?_
      refine lv_goto (tgt := 1066) hx hb dL_law_1062 (by decide) ?_
      refine eg_lcmp_eq (tgt := 1072) hx hb dL_law_1066 rfl dL_law_1067 (by decide) (fun _ => ?_) (fun h => absurd (ho.trans (by rw [hv]; rfl)) h)
      exact lv_goto (tgt := 1475) hx hb dL_law_1072 (by decide) (hend ls hl)
set_option maxHeartbeats 4000000 in
set_option maxRecDepth 100000 in
theorem law_version (hC : LwC p l s m c b L xs D cI cJ) (qx qm : Nat → Nat) (o i cells slots : Nat) (H : Heap) (locs : List Loc) (ls : Array Slot) (hi : i + 4 ≤ L) (hc : cells + 1 ≤ 1051) (hs : slots + 6 ≤ 9275) (hLS : LwS s D cI cJ b qx qm o i H locs ls)
    (kk : ∀ (H : Heap) (locs : List Loc) (ls : Array Slot), LwS s D cI cJ b qx qm o i H locs ls → W p l e room_1 s m #[Value.ref b] below meth c H locs (cells + 1) (slots + 6) Q (F0 m 1475 ls [])) : W p l e room_1 s m #[Value.ref b] below meth c H locs cells slots Q (F0 m 1075 ls []) := by
  obtain ⟨hx, hb, hml, hown, hts, hK, hT, hX, hbl, hL, hfl⟩ := hC
  obtain ⟨n, mk, lt, tg, pa, an, la, kn, fb, fh, nb, te, wt, bh, row, len, thr, out, hLI, hP, hD, hS, hl⟩ := hLS
  have hR : room_1.cells = 1051 ∧ room_1.slots = 9275 := ⟨rfl, rfl⟩
  obtain ⟨k, v, rm, n1, mk1, lt1, tg1, pa1, an1, la1, kn1, hk4, hrm, hpL, hpM⟩ := pair_version l D cI cJ qx qm n mk lt tg pa an la kn fb fh nb te wt bh row len thr o out (xs (i + 1)) hfl hLI
  refine lv_aload_n hx hb dL_law_1075 rfl (lv_at hl 1 rfl) ?_
  refine lv_aload_n hx hb dL_law_1076 rfl (lv_at hl 0 rfl) ?_
  refine lv_iload hx hb dL_law_1077 (lv_at hl 4 rfl) ?_
  refine lv_iconst (v := nI 1) hx hb dL_law_1079 (by decide +kernel) ?_
  refine eg_iadd hx hb dL_law_1080 ?_
  refine eg_sld hx hb hX hbl hS (by omega) hL dL_law_1081 ?_
  refine lv_aload_n hx hb dL_law_1082 rfl (lv_at hl 3 rfl) ?_
  refine eg_callLc (wc := (wO o cJ out ++ wX qx cI cJ (nI n) mk lt tg pa an la kn fb fh nb te wt bh)) (wr := wM qm cI cJ (nI n) mk lt tg pa an kn row len thr) (As := [.ref (qx 0), .int (xs (i + 1)), .ref o]) (rest := []) hx hb hml hown hts hK hP hD hS hT [0, 1, 2, 3, 4, 5, 6, 7, 8, 9, 10, 11, 12, 13] [14, 15, 16, 17, 18, 19, 20, 21] rfl rfl (by decide) hpL (vx_cwSW 3 hts gL_law_L_version rfl rfl rfl (by decide +kernel) ⟨Nat.le_of_ble_eq_true rfl, Nat.le_of_ble_eq_true rfl⟩) rfl hl.1 rfl (Nat.le_of_ble_eq_true rfl) dL_law_1083 ⟨hc, hs⟩ (fun v9 w9 H locs hR9 hw9 hP hD hS => ?_)
  obtain ⟨rfl, fb, fh, nb, te, wt, bh, out, hLI, ho, rfl⟩ := hR9
  refine lv_istore (lv' := [(5, .int (nI k)), (0, .ref b), (1, .ref (qx 0)), (2, .ref (qm 0)), (3, .ref o), (4, .int (nI i))]) hx hb dL_law_1086 hl (by decide) rfl (fun ls hl => ?_)
  refine lv_aload_n hx hb dL_law_1088 rfl (lv_at hl 3 rfl) ?_
  refine lv_aload_n hx hb dL_law_1089 rfl (lv_at hl 1 rfl) ?_
  refine lv_iload hx hb dL_law_1090 (lv_at hl 5 rfl) ?_
  refine lv_iconst (v := nI 1) hx hb dL_law_1092 (by decide +kernel) ?_
  refine eg_iadd hx hb dL_law_1093 ?_
  refine eg_sld hx hb hX hbl hS (by omega) hL dL_law_1094 ?_
  refine eg_callWVc (wc := wM qm cI cJ (nI n) mk lt tg pa an kn row len thr) (wr := wO o cJ out ++ wX qx cI cJ (nI n1) mk1 lt1 tg1 pa1 an1 la1 kn1 fb fh nb te wt bh) (As := [.int (xs (i + 1))]) (rest := []) hx hb hml hown hts hK hP hD hS [0, 1, 2, 3, 4, 5, 6, 7] [8, 9, 10, 11, 12, 13, 14, 15, 16, 17, 18, 19, 20, 21] rfl rfl (by decide) hpM (cwV 1 hts gL_law_X1_version rfl hrm.1 hrm.2.1 (by decide +kernel) ⟨hrm.2.2.1, hrm.2.2.2⟩) (va_recv hK hP (ci := 1) (q0 := 0) rfl rfl) rfl hl.1 rfl (Nat.le_of_ble_eq_true rfl) dL_law_1095 ⟨hc, hs⟩ (fun v9 w9 H locs hR9 hw9 hP hD hS => ?_)
  obtain ⟨rfl, row, len, rfl⟩ := hR9
  refine lv_lstore (lv' := [(6, .long v), (5, .int (nI k)), (0, .ref b), (1, .ref (qx 0)), (2, .ref (qm 0)), (3, .ref o), (4, .int (nI i))]) hx hb dL_law_1098 hl (by decide) rfl (fun ls hl => ?_)
  refine lv_aload_n hx hb dL_law_1100 rfl (lv_at hl 4 rfl) ?_
  refine eg_callWVc (wc := wM qm cI cJ (nI n1) mk1 lt1 tg1 pa1 an1 kn1 row len (nI k)) (wr := wO o cJ out ++ wX qx cI cJ (nI n1) mk1 lt1 tg1 pa1 an1 la1 kn1 fb fh nb te wt bh) (As := []) (rest := []) hx hb hml hown hts hK hP hD hS [14, 15, 16, 17, 18, 19, 20, 21] [0, 1, 2, 3, 4, 5, 6, 7, 8, 9, 10, 11, 12, 13] rfl rfl (by decide) (eg_toW (c_X1_thrown l D cI cJ qm n1 mk1 lt1 tg1 pa1 an1 kn1 row len (nI k))) (cwV 0 hts gL_law_X1_thrown rfl rfl rfl (by decide +kernel) ⟨Nat.le_of_ble_eq_true rfl, Nat.le_of_ble_eq_true rfl⟩) (va_recv hK hP (ci := 1) (q0 := 14) rfl rfl) rfl hl.1 rfl (Nat.le_of_ble_eq_true rfl) dL_law_1101 ⟨hc, hs⟩ (fun v9 w9 H locs hR9 hw9 hP hD hS => ?_)
  obtain ⟨rfl, rfl⟩ := hR9
  refine lv_iload hx hb dL_law_1104 (lv_at hl 1 rfl) ?_
  refine lv_icmp_eq (tgt := 1111) hx hb dL_law_1106 (by decide) (fun _ => ?_) (fun h => absurd rfl h)
  have hend : ∀ ls : Array Slot, lv_has ls 8 [(6, .long v), (5, .int (nI k)), (0, .ref b), (1, .ref (qx 0)), (2, .ref (qm 0)), (3, .ref o), (4, .int (nI i))] → W p l e room_1 s m #[Value.ref b] below meth c H locs (cells + 1) (slots + 6) Q (F0 m 1475 ls []) := fun ls hl => kk H locs ls ⟨n1, mk1, lt1, tg1, pa1, an1, la1, kn1, fb, fh, nb, te, wt, bh, row, len, nI k, out, hLI, hP, hD, hS, lv_sub hl [2, 3, 4, 5, 6] rfl⟩
  refine lv_iload hx hb dL_law_1111 (lv_at hl 1 rfl) ?_
  refine eg_if_ne (tgt := 1127) hx hb dL_law_1113 (by decide) (by omega) (fun _ => ?_) (fun hk => ?_)
  · exact lv_goto (tgt := 1475) hx hb dL_law_1127 (by decide) (hend ls hl)
  · have ho := ho hk
    refine lv_aload_n hx hb dL_law_1116 rfl (lv_at hl 5 rfl) ?_
    refine lv_iconst (v := nI 0) hx hb dL_law_1117 (by decide +kernel) ?_
    refine eg_lald hx hb hK hP 0 1 rfl rfl (by decide) (by decide) dL_law_1118 ?_
    refine lv_lload hx hb dL_law_1119 (lv_at hl 0 rfl) ?_
    refine eg_lcmp_eq (tgt := 1127) hx hb dL_law_1121 rfl dL_law_1122 (by decide) (fun _ => ?_) (fun h => absurd (ho) h)
    exact lv_goto (tgt := 1475) hx hb dL_law_1127 (by decide) (hend ls hl)
set_option maxHeartbeats 4000000 in
set_option maxRecDepth 100000 in
theorem law_heads (hC : LwC p l s m c b L xs D cI cJ) (qx qm : Nat → Nat) (o i cells slots : Nat) (H : Heap) (locs : List Loc) (ls : Array Slot) (hi : i + 4 ≤ L) (hc : cells + 1 ≤ 1051) (hs : slots + 6 ≤ 9275) (hLS : LwS s D cI cJ b qx qm o i H locs ls)
    (kk : ∀ (H : Heap) (locs : List Loc) (ls : Array Slot), LwS s D cI cJ b qx qm o i H locs ls → W p l e room_1 s m #[Value.ref b] below meth c H locs (cells + 1) (slots + 6) Q (F0 m 1475 ls [])) : W p l e room_1 s m #[Value.ref b] below meth c H locs cells slots Q (F0 m 1130 ls []) := by
  obtain ⟨hx, hb, hml, hown, hts, hK, hT, hX, hbl, hL, hfl⟩ := hC
  obtain ⟨n, mk, lt, tg, pa, an, la, kn, fb, fh, nb, te, wt, bh, row, len, thr, out, hLI, hP, hD, hS, hl⟩ := hLS
  have hR : room_1.cells = 1051 ∧ room_1.slots = 9275 := ⟨rfl, rfl⟩
  obtain ⟨k, v, rm, n1, mk1, lt1, tg1, pa1, an1, la1, kn1, hk4, hrm, hpL, hpM⟩ := pair_heads l D cI cJ qx qm n mk lt tg pa an la kn fb fh nb te wt bh row len thr o out (xs (i + 1)) hfl hLI
  refine lv_aload_n hx hb dL_law_1130 rfl (lv_at hl 1 rfl) ?_
  refine lv_aload_n hx hb dL_law_1131 rfl (lv_at hl 0 rfl) ?_
  refine lv_iload hx hb dL_law_1132 (lv_at hl 4 rfl) ?_
  refine lv_iconst (v := nI 1) hx hb dL_law_1134 (by decide +kernel) ?_
  refine eg_iadd hx hb dL_law_1135 ?_
  refine eg_sld hx hb hX hbl hS (by omega) hL dL_law_1136 ?_
  refine lv_aload_n hx hb dL_law_1137 rfl (lv_at hl 3 rfl) ?_
  refine eg_callLc (wc := (wO o cJ out ++ wX qx cI cJ (nI n) mk lt tg pa an la kn fb fh nb te wt bh)) (wr := wM qm cI cJ (nI n) mk lt tg pa an kn row len thr) (As := [.ref (qx 0), .int (xs (i + 1)), .ref o]) (rest := []) hx hb hml hown hts hK hP hD hS hT [0, 1, 2, 3, 4, 5, 6, 7, 8, 9, 10, 11, 12, 13] [14, 15, 16, 17, 18, 19, 20, 21] rfl rfl (by decide) hpL (vx_cwSW 3 hts gL_law_L_heads rfl rfl rfl (by decide +kernel) ⟨Nat.le_of_ble_eq_true rfl, Nat.le_of_ble_eq_true rfl⟩) rfl hl.1 rfl (Nat.le_of_ble_eq_true rfl) dL_law_1138 ⟨hc, hs⟩ (fun v9 w9 H locs hR9 hw9 hP hD hS => ?_)
  obtain ⟨rfl, fb, fh, nb, te, wt, bh, out, hLI, ho, rfl⟩ := hR9
  refine lv_istore (lv' := [(5, .int (nI k)), (0, .ref b), (1, .ref (qx 0)), (2, .ref (qm 0)), (3, .ref o), (4, .int (nI i))]) hx hb dL_law_1141 hl (by decide) rfl (fun ls hl => ?_)
  refine lv_aload_n hx hb dL_law_1143 rfl (lv_at hl 3 rfl) ?_
  refine lv_aload_n hx hb dL_law_1144 rfl (lv_at hl 1 rfl) ?_
  refine lv_iload hx hb dL_law_1145 (lv_at hl 5 rfl) ?_
  refine lv_iconst (v := nI 1) hx hb dL_law_1147 (by decide +kernel) ?_
  refine eg_iadd hx hb dL_law_1148 ?_
  refine eg_sld hx hb hX hbl hS (by omega) hL dL_law_1149 ?_
  refine eg_callWVc (wc := wM qm cI cJ (nI n) mk lt tg pa an kn row len thr) (wr := wO o cJ out ++ wX qx cI cJ (nI n1) mk1 lt1 tg1 pa1 an1 la1 kn1 fb fh nb te wt bh) (As := [.int (xs (i + 1))]) (rest := []) hx hb hml hown hts hK hP hD hS [0, 1, 2, 3, 4, 5, 6, 7] [8, 9, 10, 11, 12, 13, 14, 15, 16, 17, 18, 19, 20, 21] rfl rfl (by decide) hpM (cwV 1 hts gL_law_X1_heads rfl hrm.1 hrm.2.1 (by decide +kernel) ⟨hrm.2.2.1, hrm.2.2.2⟩) (va_recv hK hP (ci := 1) (q0 := 0) rfl rfl) rfl hl.1 rfl (Nat.le_of_ble_eq_true rfl) dL_law_1150 ⟨hc, hs⟩ (fun v9 w9 H locs hR9 hw9 hP hD hS => ?_)
  obtain ⟨rfl, row, len, rfl⟩ := hR9
  refine lv_lstore (lv' := [(6, .long v), (5, .int (nI k)), (0, .ref b), (1, .ref (qx 0)), (2, .ref (qm 0)), (3, .ref o), (4, .int (nI i))]) hx hb dL_law_1153 hl (by decide) rfl (fun ls hl => ?_)
  refine lv_aload_n hx hb dL_law_1155 rfl (lv_at hl 4 rfl) ?_
  refine eg_callWVc (wc := wM qm cI cJ (nI n1) mk1 lt1 tg1 pa1 an1 kn1 row len (nI k)) (wr := wO o cJ out ++ wX qx cI cJ (nI n1) mk1 lt1 tg1 pa1 an1 la1 kn1 fb fh nb te wt bh) (As := []) (rest := []) hx hb hml hown hts hK hP hD hS [14, 15, 16, 17, 18, 19, 20, 21] [0, 1, 2, 3, 4, 5, 6, 7, 8, 9, 10, 11, 12, 13] rfl rfl (by decide) (eg_toW (c_X1_thrown l D cI cJ qm n1 mk1 lt1 tg1 pa1 an1 kn1 row len (nI k))) (cwV 0 hts gL_law_X1_thrown rfl rfl rfl (by decide +kernel) ⟨Nat.le_of_ble_eq_true rfl, Nat.le_of_ble_eq_true rfl⟩) (va_recv hK hP (ci := 1) (q0 := 14) rfl rfl) rfl hl.1 rfl (Nat.le_of_ble_eq_true rfl) dL_law_1156 ⟨hc, hs⟩ (fun v9 w9 H locs hR9 hw9 hP hD hS => ?_)
  obtain ⟨rfl, rfl⟩ := hR9
  refine lv_iload hx hb dL_law_1159 (lv_at hl 1 rfl) ?_
  refine lv_icmp_eq (tgt := 1166) hx hb dL_law_1161 (by decide) (fun _ => ?_) (fun h => absurd rfl h)
  have hend : ∀ ls : Array Slot, lv_has ls 8 [(6, .long v), (5, .int (nI k)), (0, .ref b), (1, .ref (qx 0)), (2, .ref (qm 0)), (3, .ref o), (4, .int (nI i))] → W p l e room_1 s m #[Value.ref b] below meth c H locs (cells + 1) (slots + 6) Q (F0 m 1475 ls []) := fun ls hl => kk H locs ls ⟨n1, mk1, lt1, tg1, pa1, an1, la1, kn1, fb, fh, nb, te, wt, bh, row, len, nI k, out, hLI, hP, hD, hS, lv_sub hl [2, 3, 4, 5, 6] rfl⟩
  refine lv_iload hx hb dL_law_1166 (lv_at hl 1 rfl) ?_
  refine eg_if_ne (tgt := 1182) hx hb dL_law_1168 (by decide) (by omega) (fun _ => ?_) (fun hk => ?_)
  · exact lv_goto (tgt := 1475) hx hb dL_law_1182 (by decide) (hend ls hl)
  · have ho := ho hk
    refine lv_aload_n hx hb dL_law_1171 rfl (lv_at hl 5 rfl) ?_
    refine lv_iconst (v := nI 0) hx hb dL_law_1172 (by decide +kernel) ?_
    refine eg_lald hx hb hK hP 0 1 rfl rfl (by decide) (by decide) dL_law_1173 ?_
    refine lv_lload hx hb dL_law_1174 (lv_at hl 0 rfl) ?_
    refine eg_lcmp_eq (tgt := 1182) hx hb dL_law_1176 rfl dL_law_1177 (by decide) (fun _ => ?_) (fun h => absurd (ho) h)
    exact lv_goto (tgt := 1475) hx hb dL_law_1182 (by decide) (hend ls hl)
set_option maxHeartbeats 4000000 in
set_option maxRecDepth 100000 in
theorem law_commonHeads (hC : LwC p l s m c b L xs D cI cJ) (qx qm : Nat → Nat) (o i cells slots : Nat) (H : Heap) (locs : List Loc) (ls : Array Slot) (hi : i + 4 ≤ L) (hc : cells + 1 ≤ 1051) (hs : slots + 6 ≤ 9275) (hLS : LwS s D cI cJ b qx qm o i H locs ls)
    (kk : ∀ (H : Heap) (locs : List Loc) (ls : Array Slot), LwS s D cI cJ b qx qm o i H locs ls → W p l e room_1 s m #[Value.ref b] below meth c H locs (cells + 1) (slots + 6) Q (F0 m 1475 ls [])) : W p l e room_1 s m #[Value.ref b] below meth c H locs cells slots Q (F0 m 1185 ls []) := by
  obtain ⟨hx, hb, hml, hown, hts, hK, hT, hX, hbl, hL, hfl⟩ := hC
  obtain ⟨n, mk, lt, tg, pa, an, la, kn, fb, fh, nb, te, wt, bh, row, len, thr, out, hLI, hP, hD, hS, hl⟩ := hLS
  have hR : room_1.cells = 1051 ∧ room_1.slots = 9275 := ⟨rfl, rfl⟩
  obtain ⟨k, v, rm, n1, mk1, lt1, tg1, pa1, an1, la1, kn1, hk4, hrm, hpL, hpM⟩ := pair_commonHeads l D cI cJ qx qm n mk lt tg pa an la kn fb fh nb te wt bh row len thr o out (xs (i + 1)) (xs (i + 2)) hfl hLI
  refine lv_aload_n hx hb dL_law_1185 rfl (lv_at hl 1 rfl) ?_
  refine lv_aload_n hx hb dL_law_1186 rfl (lv_at hl 0 rfl) ?_
  refine lv_iload hx hb dL_law_1187 (lv_at hl 4 rfl) ?_
  refine lv_iconst (v := nI 1) hx hb dL_law_1189 (by decide +kernel) ?_
  refine eg_iadd hx hb dL_law_1190 ?_
  refine eg_sld hx hb hX hbl hS (by omega) hL dL_law_1191 ?_
  refine lv_aload_n hx hb dL_law_1192 rfl (lv_at hl 0 rfl) ?_
  refine lv_iload hx hb dL_law_1193 (lv_at hl 4 rfl) ?_
  refine lv_iconst (v := nI 2) hx hb dL_law_1195 (by decide +kernel) ?_
  refine eg_iadd hx hb dL_law_1196 ?_
  refine eg_sld hx hb hX hbl hS (by omega) hL dL_law_1197 ?_
  refine lv_aload_n hx hb dL_law_1198 rfl (lv_at hl 3 rfl) ?_
  refine eg_callLc (wc := (wO o cJ out ++ wX qx cI cJ (nI n) mk lt tg pa an la kn fb fh nb te wt bh)) (wr := wM qm cI cJ (nI n) mk lt tg pa an kn row len thr) (As := [.ref (qx 0), .int (xs (i + 1)), .int (xs (i + 2)), .ref o]) (rest := []) hx hb hml hown hts hK hP hD hS hT [0, 1, 2, 3, 4, 5, 6, 7, 8, 9, 10, 11, 12, 13] [14, 15, 16, 17, 18, 19, 20, 21] rfl rfl (by decide) hpL (vx_cwSW 4 hts gL_law_L_commonHeads rfl rfl rfl (by decide +kernel) ⟨Nat.le_of_ble_eq_true rfl, Nat.le_of_ble_eq_true rfl⟩) rfl hl.1 rfl (Nat.le_of_ble_eq_true rfl) dL_law_1199 ⟨hc, hs⟩ (fun v9 w9 H locs hR9 hw9 hP hD hS => ?_)
  obtain ⟨rfl, fb, fh, nb, te, wt, bh, out, hLI, ho, rfl⟩ := hR9
  refine lv_istore (lv' := [(5, .int (nI k)), (0, .ref b), (1, .ref (qx 0)), (2, .ref (qm 0)), (3, .ref o), (4, .int (nI i))]) hx hb dL_law_1202 hl (by decide) rfl (fun ls hl => ?_)
  refine lv_aload_n hx hb dL_law_1204 rfl (lv_at hl 3 rfl) ?_
  refine lv_aload_n hx hb dL_law_1205 rfl (lv_at hl 1 rfl) ?_
  refine lv_iload hx hb dL_law_1206 (lv_at hl 5 rfl) ?_
  refine lv_iconst (v := nI 1) hx hb dL_law_1208 (by decide +kernel) ?_
  refine eg_iadd hx hb dL_law_1209 ?_
  refine eg_sld hx hb hX hbl hS (by omega) hL dL_law_1210 ?_
  refine lv_aload_n hx hb dL_law_1211 rfl (lv_at hl 1 rfl) ?_
  refine lv_iload hx hb dL_law_1212 (lv_at hl 5 rfl) ?_
  refine lv_iconst (v := nI 2) hx hb dL_law_1214 (by decide +kernel) ?_
  refine eg_iadd hx hb dL_law_1215 ?_
  refine eg_sld hx hb hX hbl hS (by omega) hL dL_law_1216 ?_
  refine eg_callWVc (wc := wM qm cI cJ (nI n) mk lt tg pa an kn row len thr) (wr := wO o cJ out ++ wX qx cI cJ (nI n1) mk1 lt1 tg1 pa1 an1 la1 kn1 fb fh nb te wt bh) (As := [.int (xs (i + 1)), .int (xs (i + 2))]) (rest := []) hx hb hml hown hts hK hP hD hS [0, 1, 2, 3, 4, 5, 6, 7] [8, 9, 10, 11, 12, 13, 14, 15, 16, 17, 18, 19, 20, 21] rfl rfl (by decide) hpM (cwV 2 hts gL_law_X1_commonHeads rfl hrm.1 hrm.2.1 (by decide +kernel) ⟨hrm.2.2.1, hrm.2.2.2⟩) (va_recv hK hP (ci := 1) (q0 := 0) rfl rfl) rfl hl.1 rfl (Nat.le_of_ble_eq_true rfl) dL_law_1217 ⟨hc, hs⟩ (fun v9 w9 H locs hR9 hw9 hP hD hS => ?_)
  obtain ⟨rfl, row, len, rfl⟩ := hR9
  refine lv_lstore (lv' := [(6, .long v), (5, .int (nI k)), (0, .ref b), (1, .ref (qx 0)), (2, .ref (qm 0)), (3, .ref o), (4, .int (nI i))]) hx hb dL_law_1220 hl (by decide) rfl (fun ls hl => ?_)
  refine lv_aload_n hx hb dL_law_1222 rfl (lv_at hl 4 rfl) ?_
  refine eg_callWVc (wc := wM qm cI cJ (nI n1) mk1 lt1 tg1 pa1 an1 kn1 row len (nI k)) (wr := wO o cJ out ++ wX qx cI cJ (nI n1) mk1 lt1 tg1 pa1 an1 la1 kn1 fb fh nb te wt bh) (As := []) (rest := []) hx hb hml hown hts hK hP hD hS [14, 15, 16, 17, 18, 19, 20, 21] [0, 1, 2, 3, 4, 5, 6, 7, 8, 9, 10, 11, 12, 13] rfl rfl (by decide) (eg_toW (c_X1_thrown l D cI cJ qm n1 mk1 lt1 tg1 pa1 an1 kn1 row len (nI k))) (cwV 0 hts gL_law_X1_thrown rfl rfl rfl (by decide +kernel) ⟨Nat.le_of_ble_eq_true rfl, Nat.le_of_ble_eq_true rfl⟩) (va_recv hK hP (ci := 1) (q0 := 14) rfl rfl) rfl hl.1 rfl (Nat.le_of_ble_eq_true rfl) dL_law_1223 ⟨hc, hs⟩ (fun v9 w9 H locs hR9 hw9 hP hD hS => ?_)
  obtain ⟨rfl, rfl⟩ := hR9
  refine lv_iload hx hb dL_law_1226 (lv_at hl 1 rfl) ?_
  refine lv_icmp_eq (tgt := 1233) hx hb dL_law_1228 (by decide) (fun _ => ?_) (fun h => absurd rfl h)
  have hend : ∀ ls : Array Slot, lv_has ls 8 [(6, .long v), (5, .int (nI k)), (0, .ref b), (1, .ref (qx 0)), (2, .ref (qm 0)), (3, .ref o), (4, .int (nI i))] → W p l e room_1 s m #[Value.ref b] below meth c H locs (cells + 1) (slots + 6) Q (F0 m 1475 ls []) := fun ls hl => kk H locs ls ⟨n1, mk1, lt1, tg1, pa1, an1, la1, kn1, fb, fh, nb, te, wt, bh, row, len, nI k, out, hLI, hP, hD, hS, lv_sub hl [2, 3, 4, 5, 6] rfl⟩
  refine lv_iload hx hb dL_law_1233 (lv_at hl 1 rfl) ?_
  refine eg_if_ne (tgt := 1249) hx hb dL_law_1235 (by decide) (by omega) (fun _ => ?_) (fun hk => ?_)
  · exact lv_goto (tgt := 1475) hx hb dL_law_1249 (by decide) (hend ls hl)
  · have ho := ho hk
    refine lv_aload_n hx hb dL_law_1238 rfl (lv_at hl 5 rfl) ?_
    refine lv_iconst (v := nI 0) hx hb dL_law_1239 (by decide +kernel) ?_
    refine eg_lald hx hb hK hP 0 1 rfl rfl (by decide) (by decide) dL_law_1240 ?_
    refine lv_lload hx hb dL_law_1241 (lv_at hl 0 rfl) ?_
    refine eg_lcmp_eq (tgt := 1249) hx hb dL_law_1243 rfl dL_law_1244 (by decide) (fun _ => ?_) (fun h => absurd (ho) h)
    exact lv_goto (tgt := 1475) hx hb dL_law_1249 (by decide) (hend ls hl)
set_option maxHeartbeats 4000000 in
set_option maxRecDepth 100000 in
theorem law_concurrent (hC : LwC p l s m c b L xs D cI cJ) (qx qm : Nat → Nat) (o i cells slots : Nat) (H : Heap) (locs : List Loc) (ls : Array Slot) (hi : i + 4 ≤ L) (hc : cells + 1 ≤ 1051) (hs : slots + 6 ≤ 9275) (hLS : LwS s D cI cJ b qx qm o i H locs ls)
    (kk : ∀ (H : Heap) (locs : List Loc) (ls : Array Slot), LwS s D cI cJ b qx qm o i H locs ls → W p l e room_1 s m #[Value.ref b] below meth c H locs (cells + 1) (slots + 6) Q (F0 m 1475 ls [])) : W p l e room_1 s m #[Value.ref b] below meth c H locs cells slots Q (F0 m 1252 ls []) := by
  obtain ⟨hx, hb, hml, hown, hts, hK, hT, hX, hbl, hL, hfl⟩ := hC
  obtain ⟨n, mk, lt, tg, pa, an, la, kn, fb, fh, nb, te, wt, bh, row, len, thr, out, hLI, hP, hD, hS, hl⟩ := hLS
  have hR : room_1.cells = 1051 ∧ room_1.slots = 9275 := ⟨rfl, rfl⟩
  obtain ⟨k, v, rm, n1, mk1, lt1, tg1, pa1, an1, la1, kn1, hk4, hrm, hpL, hpM⟩ := pair_concurrent l D cI cJ qx qm n mk lt tg pa an la kn fb fh nb te wt bh row len thr o out (xs (i + 1)) hfl hLI
  refine lv_aload_n hx hb dL_law_1252 rfl (lv_at hl 1 rfl) ?_
  refine lv_aload_n hx hb dL_law_1253 rfl (lv_at hl 0 rfl) ?_
  refine lv_iload hx hb dL_law_1254 (lv_at hl 4 rfl) ?_
  refine lv_iconst (v := nI 1) hx hb dL_law_1256 (by decide +kernel) ?_
  refine eg_iadd hx hb dL_law_1257 ?_
  refine eg_sld hx hb hX hbl hS (by omega) hL dL_law_1258 ?_
  refine lv_aload_n hx hb dL_law_1259 rfl (lv_at hl 3 rfl) ?_
  refine eg_callLc (wc := (wO o cJ out ++ wX qx cI cJ (nI n) mk lt tg pa an la kn fb fh nb te wt bh)) (wr := wM qm cI cJ (nI n) mk lt tg pa an kn row len thr) (As := [.ref (qx 0), .int (xs (i + 1)), .ref o]) (rest := []) hx hb hml hown hts hK hP hD hS hT [0, 1, 2, 3, 4, 5, 6, 7, 8, 9, 10, 11, 12, 13] [14, 15, 16, 17, 18, 19, 20, 21] rfl rfl (by decide) hpL (vx_cwSW 3 hts gL_law_L_concurrent rfl rfl rfl (by decide +kernel) ⟨Nat.le_of_ble_eq_true rfl, Nat.le_of_ble_eq_true rfl⟩) rfl hl.1 rfl (Nat.le_of_ble_eq_true rfl) dL_law_1260 ⟨hc, hs⟩ (fun v9 w9 H locs hR9 hw9 hP hD hS => ?_)
  obtain ⟨rfl, fb, fh, nb, te, wt, bh, out, hLI, ho, rfl⟩ := hR9
  refine lv_istore (lv' := [(5, .int (nI k)), (0, .ref b), (1, .ref (qx 0)), (2, .ref (qm 0)), (3, .ref o), (4, .int (nI i))]) hx hb dL_law_1263 hl (by decide) rfl (fun ls hl => ?_)
  refine lv_aload_n hx hb dL_law_1265 rfl (lv_at hl 3 rfl) ?_
  refine lv_aload_n hx hb dL_law_1266 rfl (lv_at hl 1 rfl) ?_
  refine lv_iload hx hb dL_law_1267 (lv_at hl 5 rfl) ?_
  refine lv_iconst (v := nI 1) hx hb dL_law_1269 (by decide +kernel) ?_
  refine eg_iadd hx hb dL_law_1270 ?_
  refine eg_sld hx hb hX hbl hS (by omega) hL dL_law_1271 ?_
  refine eg_callWVc (wc := wM qm cI cJ (nI n) mk lt tg pa an kn row len thr) (wr := wO o cJ out ++ wX qx cI cJ (nI n1) mk1 lt1 tg1 pa1 an1 la1 kn1 fb fh nb te wt bh) (As := [.int (xs (i + 1))]) (rest := []) hx hb hml hown hts hK hP hD hS [0, 1, 2, 3, 4, 5, 6, 7] [8, 9, 10, 11, 12, 13, 14, 15, 16, 17, 18, 19, 20, 21] rfl rfl (by decide) hpM (cwV 1 hts gL_law_X1_concurrent rfl hrm.1 hrm.2.1 (by decide +kernel) ⟨hrm.2.2.1, hrm.2.2.2⟩) (va_recv hK hP (ci := 1) (q0 := 0) rfl rfl) rfl hl.1 rfl (Nat.le_of_ble_eq_true rfl) dL_law_1272 ⟨hc, hs⟩ (fun v9 w9 H locs hR9 hw9 hP hD hS => ?_)
  obtain ⟨rfl, row, len, rfl⟩ := hR9
  refine lv_istore (lv' := [(6, .int v), (5, .int (nI k)), (0, .ref b), (1, .ref (qx 0)), (2, .ref (qm 0)), (3, .ref o), (4, .int (nI i))]) hx hb dL_law_1275 hl (by decide) rfl (fun ls hl => ?_)
  refine lv_aload_n hx hb dL_law_1277 rfl (lv_at hl 4 rfl) ?_
  refine eg_callWVc (wc := wM qm cI cJ (nI n1) mk1 lt1 tg1 pa1 an1 kn1 row len (nI k)) (wr := wO o cJ out ++ wX qx cI cJ (nI n1) mk1 lt1 tg1 pa1 an1 la1 kn1 fb fh nb te wt bh) (As := []) (rest := []) hx hb hml hown hts hK hP hD hS [14, 15, 16, 17, 18, 19, 20, 21] [0, 1, 2, 3, 4, 5, 6, 7, 8, 9, 10, 11, 12, 13] rfl rfl (by decide) (eg_toW (c_X1_thrown l D cI cJ qm n1 mk1 lt1 tg1 pa1 an1 kn1 row len (nI k))) (cwV 0 hts gL_law_X1_thrown rfl rfl rfl (by decide +kernel) ⟨Nat.le_of_ble_eq_true rfl, Nat.le_of_ble_eq_true rfl⟩) (va_recv hK hP (ci := 1) (q0 := 14) rfl rfl) rfl hl.1 rfl (Nat.le_of_ble_eq_true rfl) dL_law_1278 ⟨hc, hs⟩ (fun v9 w9 H locs hR9 hw9 hP hD hS => ?_)
  obtain ⟨rfl, rfl⟩ := hR9
  refine lv_iload hx hb dL_law_1281 (lv_at hl 1 rfl) ?_
  refine lv_icmp_eq (tgt := 1288) hx hb dL_law_1283 (by decide) (fun _ => ?_) (fun h => absurd rfl h)
  have hend : ∀ ls : Array Slot, lv_has ls 8 [(6, .int v), (5, .int (nI k)), (0, .ref b), (1, .ref (qx 0)), (2, .ref (qm 0)), (3, .ref o), (4, .int (nI i))] → W p l e room_1 s m #[Value.ref b] below meth c H locs (cells + 1) (slots + 6) Q (F0 m 1475 ls []) := fun ls hl => kk H locs ls ⟨n1, mk1, lt1, tg1, pa1, an1, la1, kn1, fb, fh, nb, te, wt, bh, row, len, nI k, out, hLI, hP, hD, hS, lv_sub hl [2, 3, 4, 5, 6] rfl⟩
  refine lv_iload hx hb dL_law_1288 (lv_at hl 1 rfl) ?_
  refine eg_if_ne (tgt := 1305) hx hb dL_law_1290 (by decide) (by omega) (fun _ => ?_) (fun hk => ?_)
  · exact lv_goto (tgt := 1475) hx hb dL_law_1305 (by decide) (hend ls hl)
  · have ho := ho hk
    refine lv_aload_n hx hb dL_law_1293 rfl (lv_at hl 5 rfl) ?_
    refine lv_iconst (v := nI 0) hx hb dL_law_1294 (by decide +kernel) ?_
    refine eg_lald hx hb hK hP 0 1 rfl rfl (by decide) (by decide) dL_law_1295 ?_
    refine lv_iload hx hb dL_law_1296 (lv_at hl 0 rfl) ?_
    refine lv_i2l (v := v.toInt64) hx hb dL_law_1298 rfl ?_
    refine eg_lcmp_eq (tgt := 1305) hx hb dL_law_1299 rfl dL_law_1300 (by decide) (fun _ => ?_) (fun h => absurd (ho) h)
    exact lv_goto (tgt := 1475) hx hb dL_law_1305 (by decide) (hend ls hl)
set_option maxHeartbeats 4000000 in
set_option maxRecDepth 100000 in
theorem law_critical (hC : LwC p l s m c b L xs D cI cJ) (qx qm : Nat → Nat) (o i cells slots : Nat) (H : Heap) (locs : List Loc) (ls : Array Slot) (hi : i + 4 ≤ L) (hc : cells + 1 ≤ 1051) (hs : slots + 6 ≤ 9275) (hLS : LwS s D cI cJ b qx qm o i H locs ls)
    (kk : ∀ (H : Heap) (locs : List Loc) (ls : Array Slot), LwS s D cI cJ b qx qm o i H locs ls → W p l e room_1 s m #[Value.ref b] below meth c H locs (cells + 1) (slots + 6) Q (F0 m 1475 ls [])) : W p l e room_1 s m #[Value.ref b] below meth c H locs cells slots Q (F0 m 1308 ls []) := by
  obtain ⟨hx, hb, hml, hown, hts, hK, hT, hX, hbl, hL, hfl⟩ := hC
  obtain ⟨n, mk, lt, tg, pa, an, la, kn, fb, fh, nb, te, wt, bh, row, len, thr, out, hLI, hP, hD, hS, hl⟩ := hLS
  have hR : room_1.cells = 1051 ∧ room_1.slots = 9275 := ⟨rfl, rfl⟩
  obtain ⟨k, v, rm, n1, mk1, lt1, tg1, pa1, an1, la1, kn1, hk4, hrm, hpL, hpM⟩ := pair_critical l D cI cJ qx qm n mk lt tg pa an la kn fb fh nb te wt bh row len thr o out (xs (i + 1)) hfl hLI
  refine lv_aload_n hx hb dL_law_1308 rfl (lv_at hl 1 rfl) ?_
  refine lv_aload_n hx hb dL_law_1309 rfl (lv_at hl 0 rfl) ?_
  refine lv_iload hx hb dL_law_1310 (lv_at hl 4 rfl) ?_
  refine lv_iconst (v := nI 1) hx hb dL_law_1312 (by decide +kernel) ?_
  refine eg_iadd hx hb dL_law_1313 ?_
  refine eg_sld hx hb hX hbl hS (by omega) hL dL_law_1314 ?_
  refine lv_aload_n hx hb dL_law_1315 rfl (lv_at hl 3 rfl) ?_
  refine eg_callLc (wc := (wO o cJ out ++ wX qx cI cJ (nI n) mk lt tg pa an la kn fb fh nb te wt bh)) (wr := wM qm cI cJ (nI n) mk lt tg pa an kn row len thr) (As := [.ref (qx 0), .int (xs (i + 1)), .ref o]) (rest := []) hx hb hml hown hts hK hP hD hS hT [0, 1, 2, 3, 4, 5, 6, 7, 8, 9, 10, 11, 12, 13] [14, 15, 16, 17, 18, 19, 20, 21] rfl rfl (by decide) hpL (vx_cwSW 3 hts gL_law_L_critical rfl rfl rfl (by decide +kernel) ⟨Nat.le_of_ble_eq_true rfl, Nat.le_of_ble_eq_true rfl⟩) rfl hl.1 rfl (Nat.le_of_ble_eq_true rfl) dL_law_1316 ⟨hc, hs⟩ (fun v9 w9 H locs hR9 hw9 hP hD hS => ?_)
  obtain ⟨rfl, fb, fh, nb, te, wt, bh, out, hLI, ho, rfl⟩ := hR9
  refine lv_istore (lv' := [(5, .int (nI k)), (0, .ref b), (1, .ref (qx 0)), (2, .ref (qm 0)), (3, .ref o), (4, .int (nI i))]) hx hb dL_law_1319 hl (by decide) rfl (fun ls hl => ?_)
  refine lv_aload_n hx hb dL_law_1321 rfl (lv_at hl 3 rfl) ?_
  refine lv_aload_n hx hb dL_law_1322 rfl (lv_at hl 1 rfl) ?_
  refine lv_iload hx hb dL_law_1323 (lv_at hl 5 rfl) ?_
  refine lv_iconst (v := nI 1) hx hb dL_law_1325 (by decide +kernel) ?_
  refine eg_iadd hx hb dL_law_1326 ?_
  refine eg_sld hx hb hX hbl hS (by omega) hL dL_law_1327 ?_
  refine eg_callWVc (wc := wM qm cI cJ (nI n) mk lt tg pa an kn row len thr) (wr := wO o cJ out ++ wX qx cI cJ (nI n1) mk1 lt1 tg1 pa1 an1 la1 kn1 fb fh nb te wt bh) (As := [.int (xs (i + 1))]) (rest := []) hx hb hml hown hts hK hP hD hS [0, 1, 2, 3, 4, 5, 6, 7] [8, 9, 10, 11, 12, 13, 14, 15, 16, 17, 18, 19, 20, 21] rfl rfl (by decide) hpM (cwV 1 hts gL_law_X1_critical rfl hrm.1 hrm.2.1 (by decide +kernel) ⟨hrm.2.2.1, hrm.2.2.2⟩) (va_recv hK hP (ci := 1) (q0 := 0) rfl rfl) rfl hl.1 rfl (Nat.le_of_ble_eq_true rfl) dL_law_1328 ⟨hc, hs⟩ (fun v9 w9 H locs hR9 hw9 hP hD hS => ?_)
  obtain ⟨rfl, row, len, rfl⟩ := hR9
  refine lv_lstore (lv' := [(6, .long v), (5, .int (nI k)), (0, .ref b), (1, .ref (qx 0)), (2, .ref (qm 0)), (3, .ref o), (4, .int (nI i))]) hx hb dL_law_1331 hl (by decide) rfl (fun ls hl => ?_)
  refine lv_aload_n hx hb dL_law_1333 rfl (lv_at hl 4 rfl) ?_
  refine eg_callWVc (wc := wM qm cI cJ (nI n1) mk1 lt1 tg1 pa1 an1 kn1 row len (nI k)) (wr := wO o cJ out ++ wX qx cI cJ (nI n1) mk1 lt1 tg1 pa1 an1 la1 kn1 fb fh nb te wt bh) (As := []) (rest := []) hx hb hml hown hts hK hP hD hS [14, 15, 16, 17, 18, 19, 20, 21] [0, 1, 2, 3, 4, 5, 6, 7, 8, 9, 10, 11, 12, 13] rfl rfl (by decide) (eg_toW (c_X1_thrown l D cI cJ qm n1 mk1 lt1 tg1 pa1 an1 kn1 row len (nI k))) (cwV 0 hts gL_law_X1_thrown rfl rfl rfl (by decide +kernel) ⟨Nat.le_of_ble_eq_true rfl, Nat.le_of_ble_eq_true rfl⟩) (va_recv hK hP (ci := 1) (q0 := 14) rfl rfl) rfl hl.1 rfl (Nat.le_of_ble_eq_true rfl) dL_law_1334 ⟨hc, hs⟩ (fun v9 w9 H locs hR9 hw9 hP hD hS => ?_)
  obtain ⟨rfl, rfl⟩ := hR9
  refine lv_iload hx hb dL_law_1337 (lv_at hl 1 rfl) ?_
  refine lv_icmp_eq (tgt := 1344) hx hb dL_law_1339 (by decide) (fun _ => ?_) (fun h => absurd rfl h)
  have hend : ∀ ls : Array Slot, lv_has ls 8 [(6, .long v), (5, .int (nI k)), (0, .ref b), (1, .ref (qx 0)), (2, .ref (qm 0)), (3, .ref o), (4, .int (nI i))] → W p l e room_1 s m #[Value.ref b] below meth c H locs (cells + 1) (slots + 6) Q (F0 m 1475 ls []) := fun ls hl => kk H locs ls ⟨n1, mk1, lt1, tg1, pa1, an1, la1, kn1, fb, fh, nb, te, wt, bh, row, len, nI k, out, hLI, hP, hD, hS, lv_sub hl [2, 3, 4, 5, 6] rfl⟩
  refine lv_iload hx hb dL_law_1344 (lv_at hl 1 rfl) ?_
  refine eg_if_ne (tgt := 1360) hx hb dL_law_1346 (by decide) (by omega) (fun _ => ?_) (fun hk => ?_)
  · exact lv_goto (tgt := 1475) hx hb dL_law_1360 (by decide) (hend ls hl)
  · have ho := ho hk
    refine lv_aload_n hx hb dL_law_1349 rfl (lv_at hl 5 rfl) ?_
    refine lv_iconst (v := nI 0) hx hb dL_law_1350 (by decide +kernel) ?_
    refine eg_lald hx hb hK hP 0 1 rfl rfl (by decide) (by decide) dL_law_1351 ?_
    refine lv_lload hx hb dL_law_1352 (lv_at hl 0 rfl) ?_
    refine eg_lcmp_eq (tgt := 1360) hx hb dL_law_1354 rfl dL_law_1355 (by decide) (fun _ => ?_) (fun h => absurd (ho) h)
    exact lv_goto (tgt := 1475) hx hb dL_law_1360 (by decide) (hend ls hl)
set_option maxHeartbeats 4000000 in
set_option maxRecDepth 100000 in
theorem law_toReplay (hC : LwC p l s m c b L xs D cI cJ) (qx qm : Nat → Nat) (o i cells slots : Nat) (H : Heap) (locs : List Loc) (ls : Array Slot) (hi : i + 4 ≤ L) (hc : cells + 1 ≤ 1051) (hs : slots + 6 ≤ 9275) (hLS : LwS s D cI cJ b qx qm o i H locs ls)
    (kk : ∀ (H : Heap) (locs : List Loc) (ls : Array Slot), LwS s D cI cJ b qx qm o i H locs ls → W p l e room_1 s m #[Value.ref b] below meth c H locs (cells + 1) (slots + 6) Q (F0 m 1475 ls [])) : W p l e room_1 s m #[Value.ref b] below meth c H locs cells slots Q (F0 m 1363 ls []) := by
  obtain ⟨hx, hb, hml, hown, hts, hK, hT, hX, hbl, hL, hfl⟩ := hC
  obtain ⟨n, mk, lt, tg, pa, an, la, kn, fb, fh, nb, te, wt, bh, row, len, thr, out, hLI, hP, hD, hS, hl⟩ := hLS
  have hR : room_1.cells = 1051 ∧ room_1.slots = 9275 := ⟨rfl, rfl⟩
  obtain ⟨k, v, rm, n1, mk1, lt1, tg1, pa1, an1, la1, kn1, hk4, hrm, hpL, hpM⟩ := pair_toReplay l D cI cJ qx qm n mk lt tg pa an la kn fb fh nb te wt bh row len thr o out (xs (i + 1)) hfl hLI
  refine lv_aload_n hx hb dL_law_1363 rfl (lv_at hl 1 rfl) ?_
  refine lv_aload_n hx hb dL_law_1364 rfl (lv_at hl 0 rfl) ?_
  refine lv_iload hx hb dL_law_1365 (lv_at hl 4 rfl) ?_
  refine lv_iconst (v := nI 1) hx hb dL_law_1367 (by decide +kernel) ?_
  refine eg_iadd hx hb dL_law_1368 ?_
  refine eg_sld hx hb hX hbl hS (by omega) hL dL_law_1369 ?_
  refine lv_aload_n hx hb dL_law_1370 rfl (lv_at hl 3 rfl) ?_
  refine eg_callLc (wc := (wO o cJ out ++ wX qx cI cJ (nI n) mk lt tg pa an la kn fb fh nb te wt bh)) (wr := wM qm cI cJ (nI n) mk lt tg pa an kn row len thr) (As := [.ref (qx 0), .int (xs (i + 1)), .ref o]) (rest := []) hx hb hml hown hts hK hP hD hS hT [0, 1, 2, 3, 4, 5, 6, 7, 8, 9, 10, 11, 12, 13] [14, 15, 16, 17, 18, 19, 20, 21] rfl rfl (by decide) hpL (vx_cwSW 3 hts gL_law_L_toReplay rfl rfl rfl (by decide +kernel) ⟨Nat.le_of_ble_eq_true rfl, Nat.le_of_ble_eq_true rfl⟩) rfl hl.1 rfl (Nat.le_of_ble_eq_true rfl) dL_law_1371 ⟨hc, hs⟩ (fun v9 w9 H locs hR9 hw9 hP hD hS => ?_)
  obtain ⟨rfl, fb, fh, nb, te, wt, bh, out, hLI, ho, rfl⟩ := hR9
  refine lv_istore (lv' := [(5, .int (nI k)), (0, .ref b), (1, .ref (qx 0)), (2, .ref (qm 0)), (3, .ref o), (4, .int (nI i))]) hx hb dL_law_1374 hl (by decide) rfl (fun ls hl => ?_)
  refine lv_aload_n hx hb dL_law_1376 rfl (lv_at hl 3 rfl) ?_
  refine lv_aload_n hx hb dL_law_1377 rfl (lv_at hl 1 rfl) ?_
  refine lv_iload hx hb dL_law_1378 (lv_at hl 5 rfl) ?_
  refine lv_iconst (v := nI 1) hx hb dL_law_1380 (by decide +kernel) ?_
  refine eg_iadd hx hb dL_law_1381 ?_
  refine eg_sld hx hb hX hbl hS (by omega) hL dL_law_1382 ?_
  refine eg_callWVc (wc := wM qm cI cJ (nI n) mk lt tg pa an kn row len thr) (wr := wO o cJ out ++ wX qx cI cJ (nI n1) mk1 lt1 tg1 pa1 an1 la1 kn1 fb fh nb te wt bh) (As := [.int (xs (i + 1))]) (rest := []) hx hb hml hown hts hK hP hD hS [0, 1, 2, 3, 4, 5, 6, 7] [8, 9, 10, 11, 12, 13, 14, 15, 16, 17, 18, 19, 20, 21] rfl rfl (by decide) hpM (cwV 1 hts gL_law_X1_toReplay rfl hrm.1 hrm.2.1 (by decide +kernel) ⟨hrm.2.2.1, hrm.2.2.2⟩) (va_recv hK hP (ci := 1) (q0 := 0) rfl rfl) rfl hl.1 rfl (Nat.le_of_ble_eq_true rfl) dL_law_1383 ⟨hc, hs⟩ (fun v9 w9 H locs hR9 hw9 hP hD hS => ?_)
  obtain ⟨rfl, row, len, rfl⟩ := hR9
  refine lv_istore (lv' := [(6, .int v), (5, .int (nI k)), (0, .ref b), (1, .ref (qx 0)), (2, .ref (qm 0)), (3, .ref o), (4, .int (nI i))]) hx hb dL_law_1386 hl (by decide) rfl (fun ls hl => ?_)
  refine lv_aload_n hx hb dL_law_1388 rfl (lv_at hl 4 rfl) ?_
  refine eg_callWVc (wc := wM qm cI cJ (nI n1) mk1 lt1 tg1 pa1 an1 kn1 row len (nI k)) (wr := wO o cJ out ++ wX qx cI cJ (nI n1) mk1 lt1 tg1 pa1 an1 la1 kn1 fb fh nb te wt bh) (As := []) (rest := []) hx hb hml hown hts hK hP hD hS [14, 15, 16, 17, 18, 19, 20, 21] [0, 1, 2, 3, 4, 5, 6, 7, 8, 9, 10, 11, 12, 13] rfl rfl (by decide) (eg_toW (c_X1_thrown l D cI cJ qm n1 mk1 lt1 tg1 pa1 an1 kn1 row len (nI k))) (cwV 0 hts gL_law_X1_thrown rfl rfl rfl (by decide +kernel) ⟨Nat.le_of_ble_eq_true rfl, Nat.le_of_ble_eq_true rfl⟩) (va_recv hK hP (ci := 1) (q0 := 14) rfl rfl) rfl hl.1 rfl (Nat.le_of_ble_eq_true rfl) dL_law_1389 ⟨hc, hs⟩ (fun v9 w9 H locs hR9 hw9 hP hD hS => ?_)
  obtain ⟨rfl, rfl⟩ := hR9
  refine lv_iload hx hb dL_law_1392 (lv_at hl 1 rfl) ?_
  refine lv_icmp_eq (tgt := 1399) hx hb dL_law_1394 (by decide) (fun _ => ?_) (fun h => absurd rfl h)
  have hend : ∀ ls : Array Slot, lv_has ls 8 [(6, .int v), (5, .int (nI k)), (0, .ref b), (1, .ref (qx 0)), (2, .ref (qm 0)), (3, .ref o), (4, .int (nI i))] → W p l e room_1 s m #[Value.ref b] below meth c H locs (cells + 1) (slots + 6) Q (F0 m 1475 ls []) := fun ls hl => kk H locs ls ⟨n1, mk1, lt1, tg1, pa1, an1, la1, kn1, fb, fh, nb, te, wt, bh, row, len, nI k, out, hLI, hP, hD, hS, lv_sub hl [2, 3, 4, 5, 6] rfl⟩
  refine lv_iload hx hb dL_law_1399 (lv_at hl 1 rfl) ?_
  refine eg_if_ne (tgt := 1416) hx hb dL_law_1401 (by decide) (by omega) (fun _ => ?_) (fun hk => ?_)
  · exact lv_goto (tgt := 1475) hx hb dL_law_1416 (by decide) (hend ls hl)
  · have ho := ho hk
    refine lv_aload_n hx hb dL_law_1404 rfl (lv_at hl 5 rfl) ?_
    refine lv_iconst (v := nI 0) hx hb dL_law_1405 (by decide +kernel) ?_
    refine eg_lald hx hb hK hP 0 1 rfl rfl (by decide) (by decide) dL_law_1406 ?_
    refine lv_iload hx hb dL_law_1407 (lv_at hl 0 rfl) ?_
    refine lv_i2l (v := v.toInt64) hx hb dL_law_1409 rfl ?_
    refine eg_lcmp_eq (tgt := 1416) hx hb dL_law_1410 rfl dL_law_1411 (by decide) (fun _ => ?_) (fun h => absurd (ho) h)
    exact lv_goto (tgt := 1475) hx hb dL_law_1416 (by decide) (hend ls hl)
set_option maxHeartbeats 4000000 in
set_option maxRecDepth 100000 in
theorem law_runs (hC : LwC p l s m c b L xs D cI cJ) (qx qm : Nat → Nat) (o i cells slots : Nat) (H : Heap) (locs : List Loc) (ls : Array Slot) (hi : i + 4 ≤ L) (hc : cells + 1 ≤ 1051) (hs : slots + 6 ≤ 9275) (hLS : LwS s D cI cJ b qx qm o i H locs ls)
    (kk : ∀ (H : Heap) (locs : List Loc) (ls : Array Slot), LwS s D cI cJ b qx qm o i H locs ls → W p l e room_1 s m #[Value.ref b] below meth c H locs (cells + 1) (slots + 6) Q (F0 m 1475 ls [])) : W p l e room_1 s m #[Value.ref b] below meth c H locs cells slots Q (F0 m 1419 ls []) := by
  obtain ⟨hx, hb, hml, hown, hts, hK, hT, hX, hbl, hL, hfl⟩ := hC
  obtain ⟨n, mk, lt, tg, pa, an, la, kn, fb, fh, nb, te, wt, bh, row, len, thr, out, hLI, hP, hD, hS, hl⟩ := hLS
  have hR : room_1.cells = 1051 ∧ room_1.slots = 9275 := ⟨rfl, rfl⟩
  obtain ⟨k, v, rm, n1, mk1, lt1, tg1, pa1, an1, la1, kn1, hk4, hrm, hpL, hpM⟩ := pair_runs l D cI cJ qx qm n mk lt tg pa an la kn fb fh nb te wt bh row len thr o out (xs (i + 1)) hfl hLI
  refine lv_aload_n hx hb dL_law_1419 rfl (lv_at hl 1 rfl) ?_
  refine lv_aload_n hx hb dL_law_1420 rfl (lv_at hl 0 rfl) ?_
  refine lv_iload hx hb dL_law_1421 (lv_at hl 4 rfl) ?_
  refine lv_iconst (v := nI 1) hx hb dL_law_1423 (by decide +kernel) ?_
  refine eg_iadd hx hb dL_law_1424 ?_
  refine eg_sld hx hb hX hbl hS (by omega) hL dL_law_1425 ?_
  refine lv_aload_n hx hb dL_law_1426 rfl (lv_at hl 3 rfl) ?_
  refine eg_callLc (wc := (wO o cJ out ++ wX qx cI cJ (nI n) mk lt tg pa an la kn fb fh nb te wt bh)) (wr := wM qm cI cJ (nI n) mk lt tg pa an kn row len thr) (As := [.ref (qx 0), .int (xs (i + 1)), .ref o]) (rest := []) hx hb hml hown hts hK hP hD hS hT [0, 1, 2, 3, 4, 5, 6, 7, 8, 9, 10, 11, 12, 13] [14, 15, 16, 17, 18, 19, 20, 21] rfl rfl (by decide) hpL (vx_cwSW 3 hts gL_law_L_runs rfl rfl rfl (by decide +kernel) ⟨Nat.le_of_ble_eq_true rfl, Nat.le_of_ble_eq_true rfl⟩) rfl hl.1 rfl (Nat.le_of_ble_eq_true rfl) dL_law_1427 ⟨hc, hs⟩ (fun v9 w9 H locs hR9 hw9 hP hD hS => ?_)
  obtain ⟨rfl, fb, fh, nb, te, wt, bh, out, hLI, ho, rfl⟩ := hR9
  refine lv_istore (lv' := [(5, .int (nI k)), (0, .ref b), (1, .ref (qx 0)), (2, .ref (qm 0)), (3, .ref o), (4, .int (nI i))]) hx hb dL_law_1430 hl (by decide) rfl (fun ls hl => ?_)
  refine lv_aload_n hx hb dL_law_1432 rfl (lv_at hl 3 rfl) ?_
  refine lv_aload_n hx hb dL_law_1433 rfl (lv_at hl 1 rfl) ?_
  refine lv_iload hx hb dL_law_1434 (lv_at hl 5 rfl) ?_
  refine lv_iconst (v := nI 1) hx hb dL_law_1436 (by decide +kernel) ?_
  refine eg_iadd hx hb dL_law_1437 ?_
  refine eg_sld hx hb hX hbl hS (by omega) hL dL_law_1438 ?_
  refine eg_callWVc (wc := wM qm cI cJ (nI n) mk lt tg pa an kn row len thr) (wr := wO o cJ out ++ wX qx cI cJ (nI n1) mk1 lt1 tg1 pa1 an1 la1 kn1 fb fh nb te wt bh) (As := [.int (xs (i + 1))]) (rest := []) hx hb hml hown hts hK hP hD hS [0, 1, 2, 3, 4, 5, 6, 7] [8, 9, 10, 11, 12, 13, 14, 15, 16, 17, 18, 19, 20, 21] rfl rfl (by decide) hpM (cwV 1 hts gL_law_X1_runs rfl hrm.1 hrm.2.1 (by decide +kernel) ⟨hrm.2.2.1, hrm.2.2.2⟩) (va_recv hK hP (ci := 1) (q0 := 0) rfl rfl) rfl hl.1 rfl (Nat.le_of_ble_eq_true rfl) dL_law_1439 ⟨hc, hs⟩ (fun v9 w9 H locs hR9 hw9 hP hD hS => ?_)
  obtain ⟨rfl, row, len, rfl⟩ := hR9
  refine lv_istore (lv' := [(6, .int v), (5, .int (nI k)), (0, .ref b), (1, .ref (qx 0)), (2, .ref (qm 0)), (3, .ref o), (4, .int (nI i))]) hx hb dL_law_1442 hl (by decide) rfl (fun ls hl => ?_)
  refine lv_aload_n hx hb dL_law_1444 rfl (lv_at hl 4 rfl) ?_
  refine eg_callWVc (wc := wM qm cI cJ (nI n1) mk1 lt1 tg1 pa1 an1 kn1 row len (nI k)) (wr := wO o cJ out ++ wX qx cI cJ (nI n1) mk1 lt1 tg1 pa1 an1 la1 kn1 fb fh nb te wt bh) (As := []) (rest := []) hx hb hml hown hts hK hP hD hS [14, 15, 16, 17, 18, 19, 20, 21] [0, 1, 2, 3, 4, 5, 6, 7, 8, 9, 10, 11, 12, 13] rfl rfl (by decide) (eg_toW (c_X1_thrown l D cI cJ qm n1 mk1 lt1 tg1 pa1 an1 kn1 row len (nI k))) (cwV 0 hts gL_law_X1_thrown rfl rfl rfl (by decide +kernel) ⟨Nat.le_of_ble_eq_true rfl, Nat.le_of_ble_eq_true rfl⟩) (va_recv hK hP (ci := 1) (q0 := 14) rfl rfl) rfl hl.1 rfl (Nat.le_of_ble_eq_true rfl) dL_law_1445 ⟨hc, hs⟩ (fun v9 w9 H locs hR9 hw9 hP hD hS => ?_)
  obtain ⟨rfl, rfl⟩ := hR9
  refine lv_iload hx hb dL_law_1448 (lv_at hl 1 rfl) ?_
  refine lv_icmp_eq (tgt := 1455) hx hb dL_law_1450 (by decide) (fun _ => ?_) (fun h => absurd rfl h)
  have hend : ∀ ls : Array Slot, lv_has ls 8 [(6, .int v), (5, .int (nI k)), (0, .ref b), (1, .ref (qx 0)), (2, .ref (qm 0)), (3, .ref o), (4, .int (nI i))] → W p l e room_1 s m #[Value.ref b] below meth c H locs (cells + 1) (slots + 6) Q (F0 m 1475 ls []) := fun ls hl => kk H locs ls ⟨n1, mk1, lt1, tg1, pa1, an1, la1, kn1, fb, fh, nb, te, wt, bh, row, len, nI k, out, hLI, hP, hD, hS, lv_sub hl [2, 3, 4, 5, 6] rfl⟩
  refine lv_iload hx hb dL_law_1455 (lv_at hl 1 rfl) ?_
  refine eg_if_ne (tgt := 1472) hx hb dL_law_1457 (by decide) (by omega) (fun _ => ?_) (fun hk => ?_)
  · exact lv_goto (tgt := 1475) hx hb dL_law_1472 (by decide) (hend ls hl)
  · have ho := ho hk
    refine lv_aload_n hx hb dL_law_1460 rfl (lv_at hl 5 rfl) ?_
    refine lv_iconst (v := nI 0) hx hb dL_law_1461 (by decide +kernel) ?_
    refine eg_lald hx hb hK hP 0 1 rfl rfl (by decide) (by decide) dL_law_1462 ?_
    refine lv_iload hx hb dL_law_1463 (lv_at hl 0 rfl) ?_
    refine lv_i2l (v := v.toInt64) hx hb dL_law_1465 rfl ?_
    refine eg_lcmp_eq (tgt := 1472) hx hb dL_law_1466 rfl dL_law_1467 (by decide) (fun _ => ?_) (fun h => absurd (ho) h)
    exact lv_goto (tgt := 1475) hx hb dL_law_1472 (by decide) (hend ls hl)
end EGW
