-- THE LAW IN GENERAL (by specR25.py): a round, all rounds
set_option maxHeartbeats 4000000 in
theorem c_L_drawn2 (l : Launch) (b L : Nat) (xs : Nat → Int32) (k : Nat) (hk : L ≤ k) (hk2 : k < 2 ^ 31) : Met l yL_drawn wsL_drawn ({ frames := 0, cells := 0, slots := 0, locals := 0 }) (va_Pc [.ref b, .int (nI k)] (fun U => va_X b L xs U U.heap)) (eg_R (some (.int ((nI 12281 * nI k + nI 5011) &&& 1073741823)))) 0 0 (fun _ => False) := by
  refine Met.ofW (cc := cL_drawn) (maxL := 3) (ret := some .int) (by decide) rfl ?_
  intro p e s m args below meth c s₁ B hml hv
  obtain ⟨rfl, hX⟩ := hv
  have hx := B.exec
  have hb := B.bytes
  have hr := B.returns
  have hts := atoms_spec (ws := wsL_drawn) B.pre
  have hown : s.vm.findClass RL = some m.cls := findClass_of_methodNamed B.named
  have hS : va_S (fun _ => False) s.heap s.heap [] := va_S.rf
  have hbl : b < s.heap.size := by
    obtain ⟨scr, h1, -⟩ := hX
    exact (Array.getElem?_eq_some_iff.mp h1).1
  have hl := lv_entry ([.ref b, .int (nI k)]) (n := 3) (Nat.le_of_ble_eq_true rfl)
  rw [lg_entry_eq]
  generalize (lg_sl ([.ref b, .int (nI k)]) ++ List.replicate (3 - (lg_sl ([.ref b, .int (nI k)])).length) Slot.unset).toArray = ls at hl ⊢
  have hl : lv_has ls 3 [(0, .ref b), (1, .int (nI k))] := hl
  refine lv_iload_n hx hb dL_drawn_0 rfl (lv_at hl 1 rfl) ?_
  refine lv_aload_n hx hb dL_drawn_1 rfl (lv_at hl 0 rfl) ?_
  refine va_slen hx hb hX hbl (fun h => h) hS dL_drawn_2 ?_
  refine eg_icmp_ge (tgt := 12) hx hb dL_drawn_3 (by decide) (by omega) (by omega) (fun _ => ?_) (fun h => by omega)
  refine lv_sipush (v := nI 12281) hx hb dL_drawn_12 (by decide +kernel) ?_
  refine lv_iload_n hx hb dL_drawn_15 rfl (lv_at hl 1 rfl) ?_
  refine lv_imul hx hb dL_drawn_16 ?_
  refine lv_sipush (v := nI 5011) hx hb dL_drawn_17 (by decide +kernel) ?_
  refine lv_iadd hx hb dL_drawn_20 ?_
  refine lv_istore_n (lv' := [(2, .int (nI 12281 * nI k + nI 5011)), (0, .ref b), (1, .int (nI k))]) hx hb dL_drawn_21 rfl hl (by decide) rfl (fun ls hl => ?_)
  refine lv_iload_n hx hb dL_drawn_22 rfl (lv_at hl 0 rfl) ?_
  refine lv_ldc hx hb hown (hts (.constant RL 7 (1073741823)) (by decide +kernel)) dL_drawn_23 ?_
  refine lv_iand hx hb dL_drawn_25 ?_
  exact W.iret hx hb hr (fun t9 ht9 _ => ⟨rfl, ht9⟩) hS.2.2 dL_drawn_26
theorem c_L_drawnG (l : Launch) (b L : Nat) (xs : Nat → Int32) (k : Nat) (hk : k < 50) (hL : L ≤ 260) : ∃ d : Nat, d < 2 ^ 30 ∧ Met l yL_drawn wsL_drawn ({ frames := 0, cells := 0, slots := 0, locals := 0 }) (va_Pc [.ref b, .int (nI k)] (fun U => va_X b L xs U U.heap)) (eg_R (some (.int (nI d)))) 0 0 (fun _ => False) := by
  by_cases h : k < L
  · obtain ⟨d, hd, e⟩ := pk_andE (xs k) (m := 1073741823) 30 (by decide +kernel)
    have h1 := c_L_drawn l b L xs k h (by omega)
    rw [e] at h1
    exact ⟨d, hd, h1⟩
  · obtain ⟨d, hd, e⟩ := pk_andE (nI 12281 * nI k + nI 5011) (m := 1073741823) 30 (by decide +kernel)
    have h1 := c_L_drawn2 l b L xs k (Nat.le_of_not_lt h) (by omega)
    rw [e] at h1
    exact ⟨d, hd, h1⟩
section EGR1
variable {p : Program} {l : Launch} {e : Env} {R : Room} {s : State} {m : MethodId} {below : List Frame} {meth : Method} {c : Code} {b L : Nat} {xs : Nat → Int32} {D : va_G} {cI cJ : ClassId} {Q : State → Prop} {m9 : Nat}
set_option maxHeartbeats 4000000 in
set_option maxRecDepth 100000 in
theorem tailG (hC : CG p l R s m c b L xs D cI cJ m9) (qa qb : Nat → Nat) (k en v au ot pl cells slots : Nat) (hk : k < 100) (hau : au < 4) (hot : ot < 4) (hpl : pl < 2 ^ 31) (hv : v < 2 ^ 31) (hcb : cells + 6 * ((k + 1) / 3 - k / 3) + 2 * ((k + 1) / 5 - k / 5) ≤ R.cells) (hsb : slots + 36 * ((k + 1) / 3 - k / 3) + 12 * ((k + 1) / 5 - k / 5) ≤ R.slots)
    (kk : ∀ (H : Heap) (locs : List Loc) (ls : Array Slot), SG s D cI cJ qa qb m9 en [(0, .ref b), (1, .ref (qa 0)), (2, .ref (qb 0)), (3, .int (nI m9)), (4, .int (nI 1)), (5, .int (nI k)), (8, .int (nI v)), (9, .int (nI au)), (10, .int (nI (per m9 au))), (11, .int (nI ot)), (12, .int (nI (per m9 ot))), (13, .int (nI en)), (14, .int (nI pl))] H locs ls → W p l e R s m #[Value.ref b] below meth c H locs (cells + 6 * ((k + 1) / 3 - k / 3) + 2 * ((k + 1) / 5 - k / 5)) (slots + 36 * ((k + 1) / 3 - k / 3) + 12 * ((k + 1) / 5 - k / 5)) Q (F0 m 528 ls []))
    (H : Heap) (locs : List Loc) (ls : Array Slot) (hW : SG s D cI cJ qa qb m9 en [(0, .ref b), (1, .ref (qa 0)), (2, .ref (qb 0)), (3, .int (nI m9)), (4, .int (nI 1)), (5, .int (nI k)), (8, .int (nI v)), (9, .int (nI au)), (10, .int (nI (per m9 au))), (11, .int (nI ot)), (12, .int (nI (per m9 ot))), (13, .int (nI en)), (14, .int (nI pl))] H locs ls) : W p l e R s m #[Value.ref b] below meth c H locs cells slots Q (F0 m 310 ls []) := by
  obtain ⟨hx, hb, hml, hown, hts, hK, hT, hX, hbl, hL260, hfl, hm4, hRf, hRl⟩ := id hC
  obtain ⟨n, mk, mk', lt, tg, pa, an, la, kn, kn', fb, fh, nb, te, wt, bh, fb2, fh2, nb2, te2, wt2, bh2, hen, hL, hL2, hR, hP, hD, hS, hl⟩ := id hW
  refine lv_iload hx hb dL_law_310 (lv_at hl 4 rfl) ?_
  refine lv_if_eq (tgt := 330) hx hb dL_law_312 (by decide) (fun h => absurd h (by decide +kernel)) (fun _ => ?_)
  refine lv_aload_n hx hb dL_law_315 rfl (lv_at hl 1 rfl) ?_
  refine eg_callV (w := wX qa cI cJ (nI n) mk lt tg pa an la kn fb fh nb te wt bh) (As := []) (rest := []) hx hb hml hown hts hK (eg_cut hP [0, 1, 2, 3, 4, 5, 6, 7, 8, 9, 10, 11, 12] rfl) (c_X0_events l D cI cJ qa n mk lt tg pa an la kn fb fh nb te wt bh) (cwV 0 hts gL_law_X0_events rfl rfl rfl (by decide +kernel) ⟨by show 0 + 1 ≤ R.frames; omega, by show 8 + (1 + 11) + 0 ≤ R.locals; omega⟩) (va_recv hK (eg_cut (wc := wX qa cI cJ (nI n) mk lt tg pa an la kn fb fh nb te wt bh) hP [0, 1, 2, 3, 4, 5, 6, 7, 8, 9, 10, 11, 12] rfl) (ci := 0) (q0 := 0) rfl rfl) rfl hl.1 rfl (Nat.le_of_ble_eq_true rfl) dL_law_316 ⟨by omega, by omega⟩ ?_
  refine lv_aload_n hx hb dL_law_319 rfl (lv_at hl 2 rfl) ?_
  refine eg_callV (w := wX qb cI cJ (nI n) mk' lt tg pa an la kn' fb2 fh2 nb2 te2 wt2 bh2) (As := []) (rest := [.int (nI n)]) hx hb hml hown hts hK (eg_cut hP [13, 14, 15, 16, 17, 18, 19, 20, 21, 22, 23, 24, 25] rfl) (c_X0_events l D cI cJ qb n mk' lt tg pa an la kn' fb2 fh2 nb2 te2 wt2 bh2) (cwV 0 hts gL_law_X0_events rfl rfl rfl (by decide +kernel) ⟨by show 0 + 1 ≤ R.frames; omega, by show 8 + (1 + 11) + 0 ≤ R.locals; omega⟩) (va_recv hK (eg_cut (wc := wX qb cI cJ (nI n) mk' lt tg pa an la kn' fb2 fh2 nb2 te2 wt2 bh2) hP [13, 14, 15, 16, 17, 18, 19, 20, 21, 22, 23, 24, 25] rfl) (ci := 0) (q0 := 0) rfl rfl) rfl hl.1 rfl (Nat.le_of_ble_eq_true rfl) dL_law_320 ⟨by omega, by omega⟩ ?_
  refine lv_icmp_ne (tgt := 330) hx hb dL_law_323 (by decide) (fun h => absurd rfl h) (fun _ => ?_)
  refine lv_iconst (v := nI 1) hx hb dL_law_326 (by decide +kernel) ?_
  refine lv_goto (tgt := 331) hx hb dL_law_327 (by decide) ?_
  refine lv_istore (lv' := [(4, .int (nI 1)), (0, .ref b), (1, .ref (qa 0)), (2, .ref (qb 0)), (3, .int (nI m9)), (5, .int (nI k)), (8, .int (nI v)), (9, .int (nI au)), (10, .int (nI (per m9 au))), (11, .int (nI ot)), (12, .int (nI (per m9 ot))), (13, .int (nI en)), (14, .int (nI pl))]) hx hb dL_law_331 hl (by decide) rfl (fun ls hl => ?_)
  refine lv_iconst (v := nI 0) hx hb dL_law_333 (by decide +kernel) ?_
  refine lv_istore (lv' := [(15, .int (nI 0)), (4, .int (nI 1)), (0, .ref b), (1, .ref (qa 0)), (2, .ref (qb 0)), (3, .int (nI m9)), (5, .int (nI k)), (8, .int (nI v)), (9, .int (nI au)), (10, .int (nI (per m9 au))), (11, .int (nI ot)), (12, .int (nI (per m9 ot))), (13, .int (nI en)), (14, .int (nI pl))]) hx hb dL_law_334 hl (by decide) rfl (fun ls hl => ?_)
  refine ofloopG hC qa qb k en v au ot pl cells slots hk hau hot hpl hv (by omega) (by omega) (fun H locs ls hW => ?_) 7 0 _ _ H locs ls rfl (by omega) (by omega) (Or.inl rfl) ⟨n, mk, mk', lt, tg, pa, an, la, kn, kn', fb, fh, nb, te, wt, bh, fb2, fh2, nb2, te2, wt2, bh2, hen, hL, hL2, hR, hP, hD, hS, lv_sub hl [2, 3, 4, 5, 1, 6, 7, 8, 9, 10, 11, 12, 13, 0] rfl⟩
  obtain ⟨n, mk, mk', lt, tg, pa, an, la, kn, kn', fb, fh, nb, te, wt, bh, fb2, fh2, nb2, te2, wt2, bh2, hen, hL, hL2, hR, hP, hD, hS, hl⟩ := id hW
  refine lv_iconst (v := nI 0) hx hb dL_law_422 (by decide +kernel) ?_
  refine lv_istore (lv' := [(15, .int (nI 0)), (0, .ref b), (1, .ref (qa 0)), (2, .ref (qb 0)), (3, .int (nI m9)), (4, .int (nI 1)), (5, .int (nI k)), (8, .int (nI v)), (9, .int (nI au)), (10, .int (nI (per m9 au))), (11, .int (nI ot)), (12, .int (nI (per m9 ot))), (13, .int (nI en)), (14, .int (nI pl))]) hx hb dL_law_423 hl (by decide) rfl (fun ls hl => ?_)
  exact byloopG hC qa qb k en v au ot pl (cells + 6 * ((k + 1) / 3 - k / 3)) (slots + 36 * ((k + 1) / 3 - k / 3)) hk hau hot hpl hv (by omega) (by omega) kk 5 0 _ _ H locs ls rfl (Or.inl ⟨by omega, by omega, by omega⟩) (Or.inl rfl) ⟨n, mk, mk', lt, tg, pa, an, la, kn, kn', fb, fh, nb, te, wt, bh, fb2, fh2, nb2, te2, wt2, bh2, hen, hL, hL2, hR, hP, hD, hS, lv_sub hl [1, 2, 3, 4, 5, 6, 7, 8, 9, 10, 11, 12, 13, 0] rfl⟩
set_option maxHeartbeats 4000000 in
set_option maxRecDepth 100000 in
theorem opG (hC : CG p l R s m c b L xs D cI cJ m9) (qa qb : Nat → Nat) (k v au ot pl kd cells slots : Nat) (hau : au < 4) (hot : ot < 4) (hpl : pl < 2 ^ 31) (hv : v < 2 ^ 31) (hkd : kd < 2 ^ 31) (hcb : cells + 2 ≤ R.cells) (hsb : slots + 12 ≤ R.slots) (n : Nat) (mk mk' lt tg : Nat → Int32) (pa an la kn kn' : Nat → Int64) (fb : Int32) (fh nb te wt bh : Nat → Int32) (fb2 : Int32) (fh2 nb2 te2 wt2 bh2 : Nat → Int32)
    (hL : LI n lt tg an la kn fb fh nb) (hL2 : LI n lt tg an la kn' fb2 fh2 nb2) (hR : Rel m9 n mk mk' kn kn') (hple : pl ≤ (tx n lt tg (kn au)).length)
    (kk : ∀ (H : Heap) (locs : List Loc) (ls : Array Slot), SG s D cI cJ qa qb m9 n [(0, .ref b), (1, .ref (qa 0)), (2, .ref (qb 0)), (3, .int (nI m9)), (4, .int (nI 1)), (5, .int (nI k)), (8, .int (nI v)), (9, .int (nI au)), (10, .int (nI (per m9 au))), (11, .int (nI ot)), (12, .int (nI (per m9 ot))), (13, .int (nI n)), (14, .int (nI pl))] H locs ls → W p l e R s m #[Value.ref b] below meth c H locs (cells + 2) (slots + 12) Q (F0 m 310 ls []))
    (H : Heap) (locs : List Loc) (ls : Array Slot) (hP : va_P D vwCl (wX qa cI cJ (nI n) mk lt tg pa an la kn fb fh nb te wt bh ++ wX qb cI cJ (nI n) mk' lt tg pa an la kn' fb2 fh2 nb2 te2 wt2 bh2) H) (hD : va_D (fun q => s.heap.size ≤ q) (wX qa cI cJ (nI n) mk lt tg pa an la kn fb fh nb te wt bh ++ wX qb cI cJ (nI n) mk' lt tg pa an la kn' fb2 fh2 nb2 te2 wt2 bh2)) (hS : va_S (fun q => s.heap.size ≤ q) s.heap H locs) (hl : lv_has ls 19 [(0, .ref b), (1, .ref (qa 0)), (2, .ref (qb 0)), (3, .int (nI m9)), (4, .int (nI 1)), (5, .int (nI k)), (8, .int (nI v)), (9, .int (nI au)), (10, .int (nI (per m9 au))), (11, .int (nI ot)), (12, .int (nI (per m9 ot))), (13, .int (nI n)), (14, .int (nI pl)), (7, .int (nI kd))]) : W p l e R s m #[Value.ref b] below meth c H locs cells slots Q (F0 m 140 ls []) := by
  obtain ⟨hx, hb, hml, hown, hts, hK, hT, hX, hbl, hL260, hfl, hm4, hRf, hRl⟩ := id hC
  have hn60 := hL.1.1
  refine lv_iload hx hb dL_law_140 (lv_at hl 13 rfl) ?_
  refine lv_bipush (v := nI 7) hx hb dL_law_142 (by decide +kernel) ?_
  refine eg_icmp_ge (tgt := 192) hx hb dL_law_144 (by decide) (by omega) (by decide) (fun hge => ?_) (fun hlt => ?_)
  · refine lv_iload hx hb dL_law_192 (lv_at hl 13 rfl) ?_
    refine lv_bipush (v := nI 9) hx hb dL_law_194 (by decide +kernel) ?_
    refine eg_icmp_ge (tgt := 230) hx hb dL_law_196 (by decide) (by omega) (by decide) (fun hge => ?_) (fun hlt => ?_)
    · refine lv_iload hx hb dL_law_230 (lv_at hl 13 rfl) ?_
      refine lv_bipush (v := nI 13) hx hb dL_law_232 (by decide +kernel) ?_
      refine eg_icmp_ge (tgt := 268) hx hb dL_law_234 (by decide) (by omega) (by decide) (fun hge => ?_) (fun hlt => ?_)
      · obtain ⟨r, n2, mk2, mk2', lt2, tg2, pa2, an2, la2, kn2, kn2', hnn, hR, cA, cB⟩ := pr_learnEvent l D cI cJ qa qb te wt bh te2 wt2 bh2 hfl hL hL2 hR (e0 := v / 4 % (n + 1)) hau (by have := Nat.mod_lt (v / 4) (show 0 < n + 1 by omega); omega)
        refine lv_aload_n hx hb dL_law_268 rfl (lv_at hl 1 rfl) ?_
        refine lv_iconst (v := nI 2) hx hb dL_law_269 (by decide +kernel) ?_
        refine lv_iload hx hb dL_law_270 (lv_at hl 7 rfl) ?_
        refine lv_iload hx hb dL_law_272 (lv_at hl 6 rfl) ?_
        refine lv_iconst (v := nI 4) hx hb dL_law_274 (by decide +kernel) ?_
        refine lv_idiv hx hb dL_law_275 (by decide +kernel) ?_
        refine eg_top (y9 := nI (v / 4)) (pk_div hv (by decide) (by decide)) ?_
        refine lv_iload hx hb dL_law_276 (lv_at hl 11 rfl) ?_
        refine lv_iconst (v := nI 1) hx hb dL_law_278 (by decide +kernel) ?_
        refine eg_iadd hx hb dL_law_279 ?_
        refine lv_irem hx hb dL_law_280 (nI_ne0 (by omega) (by omega)) ?_
        refine eg_top (y9 := nI (v / 4 % (n + 1))) (pk_rem (by omega) (by omega) (by omega)) ?_
        refine eg_callLm (wc := wX qa cI cJ (nI n) mk lt tg pa an la kn fb fh nb te wt bh) (wr := wX qb cI cJ (nI n) mk' lt tg pa an la kn' fb2 fh2 nb2 te2 wt2 bh2) (As := [.ref (qa 0), .int (nI 2), .int (nI au), .int (nI (v / 4 % (n + 1)))]) (rest := []) hx hb hml hown hts hK hP hD hS hT [0, 1, 2, 3, 4, 5, 6, 7, 8, 9, 10, 11, 12] [13, 14, 15, 16, 17, 18, 19, 20, 21, 22, 23, 24, 25] rfl rfl (by decide) (cA) (vx_cwSW 4 hts gL_law_L_does rfl rfl rfl (by decide +kernel) ⟨hRf, hRl⟩) rfl hl.1 rfl (Nat.le_of_ble_eq_true rfl) dL_law_281 ⟨by omega, by omega⟩ (fun v9 w9 H locs hR9 hw9 hP hD hS => ?_)
        obtain ⟨rfl, fb, fh, nb, te, wt, bh, hL, rfl⟩ := hR9
        refine lv_aload_n hx hb dL_law_284 rfl (lv_at hl 2 rfl) ?_
        refine lv_iconst (v := nI 2) hx hb dL_law_285 (by decide +kernel) ?_
        refine lv_iload hx hb dL_law_286 (lv_at hl 8 rfl) ?_
        refine lv_iload hx hb dL_law_288 (lv_at hl 6 rfl) ?_
        refine lv_iconst (v := nI 4) hx hb dL_law_290 (by decide +kernel) ?_
        refine lv_idiv hx hb dL_law_291 (by decide +kernel) ?_
        refine eg_top (y9 := nI (v / 4)) (pk_div hv (by decide) (by decide)) ?_
        refine lv_iload hx hb dL_law_292 (lv_at hl 11 rfl) ?_
        refine lv_iconst (v := nI 1) hx hb dL_law_294 (by decide +kernel) ?_
        refine eg_iadd hx hb dL_law_295 ?_
        refine lv_irem hx hb dL_law_296 (nI_ne0 (by omega) (by omega)) ?_
        refine eg_top (y9 := nI (v / 4 % (n + 1))) (pk_rem (by omega) (by omega) (by omega)) ?_
        refine eg_callLm (wc := wX qb cI cJ (nI n) mk' lt tg pa an la kn' fb2 fh2 nb2 te2 wt2 bh2) (wr := wX qa cI cJ (nI n2) mk2 lt2 tg2 pa2 an2 la2 kn2 fb fh nb te wt bh) (As := [.ref (qb 0), .int (nI 2), .int (nI (per m9 au)), .int (nI (v / 4 % (n + 1)))]) (rest := [.int r]) hx hb hml hown hts hK hP hD hS hT [0, 1, 2, 3, 4, 5, 6, 7, 8, 9, 10, 11, 12] [13, 14, 15, 16, 17, 18, 19, 20, 21, 22, 23, 24, 25] rfl rfl (by decide) (cB) (vx_cwSW 4 hts gL_law_L_does rfl rfl rfl (by decide +kernel) ⟨hRf, hRl⟩) rfl hl.1 rfl (Nat.le_of_ble_eq_true rfl) dL_law_297 ⟨by omega, by omega⟩ (fun v9 w9 H locs hR9 hw9 hP hD hS => ?_)
        obtain ⟨rfl, fb2, fh2, nb2, te2, wt2, bh2, hL2, rfl⟩ := hR9
        refine lv_icmp_ne (tgt := 307) hx hb dL_law_300 (by decide) (fun h => absurd rfl h) (fun _ => ?_)
        refine lv_iconst (v := nI 1) hx hb dL_law_303 (by decide +kernel) ?_
        refine lv_goto (tgt := 308) hx hb dL_law_304 (by decide) ?_
        refine lv_istore (lv' := [(4, .int (nI 1)), (0, .ref b), (1, .ref (qa 0)), (2, .ref (qb 0)), (3, .int (nI m9)), (5, .int (nI k)), (8, .int (nI v)), (9, .int (nI au)), (10, .int (nI (per m9 au))), (11, .int (nI ot)), (12, .int (nI (per m9 ot))), (13, .int (nI n)), (14, .int (nI pl)), (7, .int (nI kd))]) hx hb dL_law_308 hl (by decide) rfl (fun ls hl => ?_)
        exact W.widen (by omega) (by omega) (kk H locs ls ⟨n2, mk2, mk2', lt2, tg2, pa2, an2, la2, kn2, kn2', fb, fh, nb, te, wt, bh, fb2, fh2, nb2, te2, wt2, bh2, hnn, hL, hL2, hR, hP, hD, hS, lv_sub hl [1, 2, 3, 4, 0, 5, 6, 7, 8, 9, 10, 11, 12] rfl⟩)
      · obtain ⟨r, n2, mk2, mk2', lt2, tg2, pa2, an2, la2, kn2, kn2', hnn, hR, cA, cB⟩ := pr_learn l D cI cJ qa qb te wt bh te2 wt2 bh2 hL hL2 hR hau hot
        refine lv_aload_n hx hb dL_law_237 rfl (lv_at hl 1 rfl) ?_
        refine lv_iconst (v := nI 1) hx hb dL_law_238 (by decide +kernel) ?_
        refine lv_iload hx hb dL_law_239 (lv_at hl 7 rfl) ?_
        refine lv_iload hx hb dL_law_241 (lv_at hl 9 rfl) ?_
        refine eg_callLm (wc := wX qa cI cJ (nI n) mk lt tg pa an la kn fb fh nb te wt bh) (wr := wX qb cI cJ (nI n) mk' lt tg pa an la kn' fb2 fh2 nb2 te2 wt2 bh2) (As := [.ref (qa 0), .int (nI 1), .int (nI au), .int (nI ot)]) (rest := []) hx hb hml hown hts hK hP hD hS hT [0, 1, 2, 3, 4, 5, 6, 7, 8, 9, 10, 11, 12] [13, 14, 15, 16, 17, 18, 19, 20, 21, 22, 23, 24, 25] rfl rfl (by decide) (cA) (vx_cwSW 4 hts gL_law_L_does rfl rfl rfl (by decide +kernel) ⟨hRf, hRl⟩) rfl hl.1 rfl (Nat.le_of_ble_eq_true rfl) dL_law_243 ⟨by omega, by omega⟩ (fun v9 w9 H locs hR9 hw9 hP hD hS => ?_)
        obtain ⟨rfl, fb, fh, nb, te, wt, bh, hL, rfl⟩ := hR9
        refine lv_aload_n hx hb dL_law_246 rfl (lv_at hl 2 rfl) ?_
        refine lv_iconst (v := nI 1) hx hb dL_law_247 (by decide +kernel) ?_
        refine lv_iload hx hb dL_law_248 (lv_at hl 8 rfl) ?_
        refine lv_iload hx hb dL_law_250 (lv_at hl 10 rfl) ?_
        refine eg_callLm (wc := wX qb cI cJ (nI n) mk' lt tg pa an la kn' fb2 fh2 nb2 te2 wt2 bh2) (wr := wX qa cI cJ (nI n2) mk2 lt2 tg2 pa2 an2 la2 kn2 fb fh nb te wt bh) (As := [.ref (qb 0), .int (nI 1), .int (nI (per m9 au)), .int (nI (per m9 ot))]) (rest := [.int r]) hx hb hml hown hts hK hP hD hS hT [0, 1, 2, 3, 4, 5, 6, 7, 8, 9, 10, 11, 12] [13, 14, 15, 16, 17, 18, 19, 20, 21, 22, 23, 24, 25] rfl rfl (by decide) (cB) (vx_cwSW 4 hts gL_law_L_does rfl rfl rfl (by decide +kernel) ⟨hRf, hRl⟩) rfl hl.1 rfl (Nat.le_of_ble_eq_true rfl) dL_law_252 ⟨by omega, by omega⟩ (fun v9 w9 H locs hR9 hw9 hP hD hS => ?_)
        obtain ⟨rfl, fb2, fh2, nb2, te2, wt2, bh2, hL2, rfl⟩ := hR9
        refine lv_icmp_ne (tgt := 262) hx hb dL_law_255 (by decide) (fun h => absurd rfl h) (fun _ => ?_)
        refine lv_iconst (v := nI 1) hx hb dL_law_258 (by decide +kernel) ?_
        refine lv_goto (tgt := 263) hx hb dL_law_259 (by decide) ?_
        refine lv_istore (lv' := [(4, .int (nI 1)), (0, .ref b), (1, .ref (qa 0)), (2, .ref (qb 0)), (3, .int (nI m9)), (5, .int (nI k)), (8, .int (nI v)), (9, .int (nI au)), (10, .int (nI (per m9 au))), (11, .int (nI ot)), (12, .int (nI (per m9 ot))), (13, .int (nI n)), (14, .int (nI pl)), (7, .int (nI kd))]) hx hb dL_law_263 hl (by decide) rfl (fun ls hl => ?_)
        refine lv_goto (tgt := 310) hx hb dL_law_265 (by decide) ?_
        exact W.widen (by omega) (by omega) (kk H locs ls ⟨n2, mk2, mk2', lt2, tg2, pa2, an2, la2, kn2, kn2', fb, fh, nb, te, wt, bh, fb2, fh2, nb2, te2, wt2, bh2, hnn, hL, hL2, hR, hP, hD, hS, lv_sub hl [1, 2, 3, 4, 0, 5, 6, 7, 8, 9, 10, 11, 12] rfl⟩)
    · obtain ⟨r, n2, mk2, mk2', lt2, tg2, pa2, an2, la2, kn2, kn2', hnn, hR, cA, cB⟩ := pr_delete l D cI cJ qa qb te wt bh te2 wt2 bh2 hfl hL hL2 hR hau hpl
      refine lv_aload_n hx hb dL_law_199 rfl (lv_at hl 1 rfl) ?_
      refine lv_iconst (v := nI 0) hx hb dL_law_200 (by decide +kernel) ?_
      refine lv_iload hx hb dL_law_201 (lv_at hl 7 rfl) ?_
      refine lv_iload hx hb dL_law_203 (lv_at hl 12 rfl) ?_
      refine eg_callLm (wc := wX qa cI cJ (nI n) mk lt tg pa an la kn fb fh nb te wt bh) (wr := wX qb cI cJ (nI n) mk' lt tg pa an la kn' fb2 fh2 nb2 te2 wt2 bh2) (As := [.ref (qa 0), .int (nI 0), .int (nI au), .int (nI pl)]) (rest := []) hx hb hml hown hts hK hP hD hS hT [0, 1, 2, 3, 4, 5, 6, 7, 8, 9, 10, 11, 12] [13, 14, 15, 16, 17, 18, 19, 20, 21, 22, 23, 24, 25] rfl rfl (by decide) (cA) (vx_cwSW 4 hts gL_law_L_does rfl rfl rfl (by decide +kernel) ⟨hRf, hRl⟩) rfl hl.1 rfl (Nat.le_of_ble_eq_true rfl) dL_law_205 ⟨by omega, by omega⟩ (fun v9 w9 H locs hR9 hw9 hP hD hS => ?_)
      obtain ⟨rfl, fb, fh, nb, te, wt, bh, hL, rfl⟩ := hR9
      refine lv_aload_n hx hb dL_law_208 rfl (lv_at hl 2 rfl) ?_
      refine lv_iconst (v := nI 0) hx hb dL_law_209 (by decide +kernel) ?_
      refine lv_iload hx hb dL_law_210 (lv_at hl 8 rfl) ?_
      refine lv_iload hx hb dL_law_212 (lv_at hl 12 rfl) ?_
      refine eg_callLm (wc := wX qb cI cJ (nI n) mk' lt tg pa an la kn' fb2 fh2 nb2 te2 wt2 bh2) (wr := wX qa cI cJ (nI n2) mk2 lt2 tg2 pa2 an2 la2 kn2 fb fh nb te wt bh) (As := [.ref (qb 0), .int (nI 0), .int (nI (per m9 au)), .int (nI pl)]) (rest := [.int r]) hx hb hml hown hts hK hP hD hS hT [0, 1, 2, 3, 4, 5, 6, 7, 8, 9, 10, 11, 12] [13, 14, 15, 16, 17, 18, 19, 20, 21, 22, 23, 24, 25] rfl rfl (by decide) (cB) (vx_cwSW 4 hts gL_law_L_does rfl rfl rfl (by decide +kernel) ⟨hRf, hRl⟩) rfl hl.1 rfl (Nat.le_of_ble_eq_true rfl) dL_law_214 ⟨by omega, by omega⟩ (fun v9 w9 H locs hR9 hw9 hP hD hS => ?_)
      obtain ⟨rfl, fb2, fh2, nb2, te2, wt2, bh2, hL2, rfl⟩ := hR9
      refine lv_icmp_ne (tgt := 224) hx hb dL_law_217 (by decide) (fun h => absurd rfl h) (fun _ => ?_)
      refine lv_iconst (v := nI 1) hx hb dL_law_220 (by decide +kernel) ?_
      refine lv_goto (tgt := 225) hx hb dL_law_221 (by decide) ?_
      refine lv_istore (lv' := [(4, .int (nI 1)), (0, .ref b), (1, .ref (qa 0)), (2, .ref (qb 0)), (3, .int (nI m9)), (5, .int (nI k)), (8, .int (nI v)), (9, .int (nI au)), (10, .int (nI (per m9 au))), (11, .int (nI ot)), (12, .int (nI (per m9 ot))), (13, .int (nI n)), (14, .int (nI pl)), (7, .int (nI kd))]) hx hb dL_law_225 hl (by decide) rfl (fun ls hl => ?_)
      refine lv_goto (tgt := 310) hx hb dL_law_227 (by decide) ?_
      exact W.widen (by omega) (by omega) (kk H locs ls ⟨n2, mk2, mk2', lt2, tg2, pa2, an2, la2, kn2, kn2', fb, fh, nb, te, wt, bh, fb2, fh2, nb2, te2, wt2, bh2, hnn, hL, hL2, hR, hP, hD, hS, lv_sub hl [1, 2, 3, 4, 0, 5, 6, 7, 8, 9, 10, 11, 12] rfl⟩)
  · obtain ⟨r, n2, mk2, mk2', lt2, tg2, pa2, an2, la2, kn2, kn2', hnn, hR, cA, cB⟩ := pr_insert l D cI cJ qa qb te wt bh te2 wt2 bh2 hfl hL hL2 hR hau hple (Nat.mod_lt (v / 64) (by decide : 0 < 26))
    refine lv_aload_n hx hb dL_law_147 rfl (lv_at hl 1 rfl) ?_
    refine lv_iload hx hb dL_law_148 (lv_at hl 7 rfl) ?_
    refine lv_iload hx hb dL_law_150 (lv_at hl 12 rfl) ?_
    refine lv_iload hx hb dL_law_152 (lv_at hl 6 rfl) ?_
    refine lv_bipush (v := nI 64) hx hb dL_law_154 (by decide +kernel) ?_
    refine lv_idiv hx hb dL_law_156 (by decide +kernel) ?_
    refine eg_top (y9 := nI (v / 64)) (pk_div hv (by decide) (by decide)) ?_
    refine lv_bipush (v := nI 26) hx hb dL_law_157 (by decide +kernel) ?_
    refine lv_irem hx hb dL_law_159 (by decide +kernel) ?_
    refine eg_top (y9 := nI (v / 64 % 26)) (pk_rem (by omega) (by decide) (by decide)) ?_
    refine eg_callLm (wc := wX qa cI cJ (nI n) mk lt tg pa an la kn fb fh nb te wt bh) (wr := wX qb cI cJ (nI n) mk' lt tg pa an la kn' fb2 fh2 nb2 te2 wt2 bh2) (As := [.ref (qa 0), .int (nI au), .int (nI pl), .int (nI (v / 64 % 26))]) (rest := []) hx hb hml hown hts hK hP hD hS hT [0, 1, 2, 3, 4, 5, 6, 7, 8, 9, 10, 11, 12] [13, 14, 15, 16, 17, 18, 19, 20, 21, 22, 23, 24, 25] rfl rfl (by decide) (cA) (vx_cwSW 4 hts gL_law_L_insert rfl rfl rfl (by decide +kernel) ⟨hRf, hRl⟩) rfl hl.1 rfl (Nat.le_of_ble_eq_true rfl) dL_law_160 ⟨by omega, by omega⟩ (fun v9 w9 H locs hR9 hw9 hP hD hS => ?_)
    obtain ⟨rfl, fb, fh, nb, te, wt, bh, hL, rfl⟩ := hR9
    refine lv_aload_n hx hb dL_law_163 rfl (lv_at hl 2 rfl) ?_
    refine lv_iload hx hb dL_law_164 (lv_at hl 8 rfl) ?_
    refine lv_iload hx hb dL_law_166 (lv_at hl 12 rfl) ?_
    refine lv_iload hx hb dL_law_168 (lv_at hl 6 rfl) ?_
    refine lv_bipush (v := nI 64) hx hb dL_law_170 (by decide +kernel) ?_
    refine lv_idiv hx hb dL_law_172 (by decide +kernel) ?_
    refine eg_top (y9 := nI (v / 64)) (pk_div hv (by decide) (by decide)) ?_
    refine lv_bipush (v := nI 26) hx hb dL_law_173 (by decide +kernel) ?_
    refine lv_irem hx hb dL_law_175 (by decide +kernel) ?_
    refine eg_top (y9 := nI (v / 64 % 26)) (pk_rem (by omega) (by decide) (by decide)) ?_
    refine eg_callLm (wc := wX qb cI cJ (nI n) mk' lt tg pa an la kn' fb2 fh2 nb2 te2 wt2 bh2) (wr := wX qa cI cJ (nI n2) mk2 lt2 tg2 pa2 an2 la2 kn2 fb fh nb te wt bh) (As := [.ref (qb 0), .int (nI (per m9 au)), .int (nI pl), .int (nI (v / 64 % 26))]) (rest := [.int r]) hx hb hml hown hts hK hP hD hS hT [0, 1, 2, 3, 4, 5, 6, 7, 8, 9, 10, 11, 12] [13, 14, 15, 16, 17, 18, 19, 20, 21, 22, 23, 24, 25] rfl rfl (by decide) (cB) (vx_cwSW 4 hts gL_law_L_insert rfl rfl rfl (by decide +kernel) ⟨hRf, hRl⟩) rfl hl.1 rfl (Nat.le_of_ble_eq_true rfl) dL_law_176 ⟨by omega, by omega⟩ (fun v9 w9 H locs hR9 hw9 hP hD hS => ?_)
    obtain ⟨rfl, fb2, fh2, nb2, te2, wt2, bh2, hL2, rfl⟩ := hR9
    refine lv_icmp_ne (tgt := 186) hx hb dL_law_179 (by decide) (fun h => absurd rfl h) (fun _ => ?_)
    refine lv_iconst (v := nI 1) hx hb dL_law_182 (by decide +kernel) ?_
    refine lv_goto (tgt := 187) hx hb dL_law_183 (by decide) ?_
    refine lv_istore (lv' := [(4, .int (nI 1)), (0, .ref b), (1, .ref (qa 0)), (2, .ref (qb 0)), (3, .int (nI m9)), (5, .int (nI k)), (8, .int (nI v)), (9, .int (nI au)), (10, .int (nI (per m9 au))), (11, .int (nI ot)), (12, .int (nI (per m9 ot))), (13, .int (nI n)), (14, .int (nI pl)), (7, .int (nI kd))]) hx hb dL_law_187 hl (by decide) rfl (fun ls hl => ?_)
    refine lv_goto (tgt := 310) hx hb dL_law_189 (by decide) ?_
    exact W.widen (by omega) (by omega) (kk H locs ls ⟨n2, mk2, mk2', lt2, tg2, pa2, an2, la2, kn2, kn2', fb, fh, nb, te, wt, bh, fb2, fh2, nb2, te2, wt2, bh2, hnn, hL, hL2, hR, hP, hD, hS, lv_sub hl [1, 2, 3, 4, 0, 5, 6, 7, 8, 9, 10, 11, 12] rfl⟩)
/-- the law's own end -/
def lw_QG (cells slots : Nat) (s : State) (o : Outcome) (t : State) : Prop := o = .returned (some (.int 1)) ∧ Framed s o t [] cells slots
def lw_ZG (cells slots : Nat) (below : List Frame) (s : State) : State → Prop := fun t => ∃ o, t.status = .running ∧ Ended t below o ∧ lw_QG cells slots s o t
theorem lw_retG {cells slots : Nat} (hx : p.tables.exec = Jvm.exec) (hb : c.code = code) (hr : meth.sig.returnType = ret) (hlocks : meth.locks = false) {pc : Nat} {H : Heap} {ls : Array Slot} (hdg : decode code pc = .ok (.ireturn, 1)) : W p l e R s m #[Value.ref b] below meth c H [] cells slots (lw_ZG cells slots below s) (F0 m pc ls [.int 1]) := by
  intro T hT X
  obtain ⟨fs, hret, hrun, hended, hW, hframe⟩ := X.leave (v := some (.int 1)) (hlocks := hlocks) (fun h => by rw [hr] at h; cases h)
  have hmeth' : T.vm.method? m = some meth := X.method'
  refine ⟨T.setFrames fs, ?_, .returned (some (.int 1)), hrun, hended, rfl, ⟨_, rfl⟩, hW, hframe⟩
  jvm_step X.here [X.here.top, hx, hb, hdg, hmeth', hr, ret, narrow_b1]
  (try refine ⟨rfl, ?_⟩); (try refine ⟨rfl, ?_⟩)
  first | (intro acts; rw [hret _ acts rfl rfl rfl]) | rw [hret _ _ rfl rfl rfl]
  exact Steps.refl _
set_option maxHeartbeats 4000000 in
set_option maxRecDepth 100000 in
theorem loopG (hC : CG p l R s m c b L xs D cI cJ m9) (hr : meth.sig.returnType = ret) (hlocks : meth.locks = false) (qa qb : Nat → Nat) (hRc : 462 ≤ R.cells) (hRs : 3972 ≤ R.slots) :
    ∀ (f k : Nat) (H : Heap) (locs : List Loc) (ls : Array Slot), k + f = 100 → 1 ≤ k → SG s D cI cJ qa qb m9 0 [(0, .ref b), (1, .ref (qa 0)), (2, .ref (qb 0)), (3, .int (nI m9)), (4, .int (nI 1)), (5, .int (nI k))] H locs ls → W p l e R s m #[Value.ref b] below meth c H locs (26 + 2 * (k - 1) + 6 * (k / 3) + 2 * (k / 5)) (1356 + 12 * (k - 1) + 36 * (k / 3) + 12 * (k / 5)) (lw_ZG 462 3972 below s) (F0 m 32 ls []) := by
  intro f
  induction f with
  | zero =>
    intro k H locs ls hf h1 hW
    obtain ⟨hx, hb, hml, hown, hts, hK, hT, hX, hbl, hL260, hfl, hm4, hRf, hRl⟩ := id hC
    obtain ⟨n, mk, mk', lt, tg, pa, an, la, kn, kn', fb, fh, nb, te, wt, bh, fb2, fh2, nb2, te2, wt2, bh2, hen, hL, hL2, hR, hP, hD, hS, hl⟩ := id hW
    refine lv_iload hx hb dL_law_32 (lv_at hl 5 rfl) ?_
    refine lv_bipush (v := nI 100) hx hb dL_law_34 (by decide +kernel) ?_
    refine eg_icmp_ge (tgt := 534) hx hb dL_law_36 (by decide) (by omega) (by decide) (fun _ => ?_) (fun h => by omega)
    refine va_forget (fun q hq => hS.2.2 q hq) ?_
    refine W.widen (k := 462) (n := 3972) (by omega) (by omega) ?_
    refine lv_iload hx hb dL_law_534 (lv_at hl 4 rfl) ?_
    exact lw_retG hx hb hr hlocks dL_law_536
  | succ f ih =>
    intro k H locs ls hf h1 hW
    obtain ⟨hx, hb, hml, hown, hts, hK, hT, hX, hbl, hL260, hfl, hm4, hRf, hRl⟩ := id hC
    obtain ⟨n, mk, mk', lt, tg, pa, an, la, kn, kn', fb, fh, nb, te, wt, bh, fb2, fh2, nb2, te2, wt2, bh2, hen, hL, hL2, hR, hP, hD, hS, hl⟩ := id hW
    have hk : k < 100 := by omega
    refine lv_iload hx hb dL_law_32 (lv_at hl 5 rfl) ?_
    refine lv_bipush (v := nI 100) hx hb dL_law_34 (by decide +kernel) ?_
    refine eg_icmp_ge (tgt := 534) hx hb dL_law_36 (by decide) (by omega) (by decide) (fun h => by omega) (fun hk => ?_)
    refine lv_iload hx hb dL_law_39 (lv_at hl 4 rfl) ?_
    refine lv_if_eq (tgt := 534) hx hb dL_law_41 (by decide) (fun h => absurd h (by decide +kernel)) (fun _ => ?_)
    refine lv_aload_n hx hb dL_law_44 rfl (lv_at hl 0 rfl) ?_
    refine lv_iload hx hb dL_law_45 (lv_at hl 5 rfl) ?_
    refine lv_bipush (v := nI 50) hx hb dL_law_47 (by decide +kernel) ?_
    obtain ⟨k5, hk5_⟩ : ∃ y9 : Nat, y9 = k % 50 := ⟨_, rfl⟩
    refine lv_irem hx hb dL_law_49 (by decide +kernel) ?_
    refine eg_top (y9 := nI k5) (by rw [hk5_]; exact pk_rem (by omega) (by decide) (by decide)) ?_
    obtain ⟨d9, hd9, hMd⟩ := c_L_drawnG l b L xs k5 (by omega) hL260
    refine eg_callD (rest := []) hx hb hml hown hts (hX.kept (hS.2.1 b hbl (Nat.not_le.mpr hbl))) hMd (va_cwS 2 hts gL_law_L_drawn rfl rfl rfl (by decide +kernel) ⟨by show 0 + 1 ≤ R.frames; omega, by show 8 + (3 + 11) + 0 ≤ R.locals; omega⟩) hl.1 rfl (Nat.le_of_ble_eq_true rfl) dL_law_50 ⟨by omega, by omega⟩ ?_
    refine lv_iconst (v := nI 1) hx hb dL_law_53 (by decide +kernel) ?_
    refine lv_iload hx hb dL_law_54 (lv_at hl 5 rfl) ?_
    refine lv_bipush (v := nI 50) hx hb dL_law_56 (by decide +kernel) ?_
    obtain ⟨kq, hkq_⟩ : ∃ y9 : Nat, y9 = k / 50 := ⟨_, rfl⟩
    refine lv_idiv hx hb dL_law_58 (by decide +kernel) ?_
    refine eg_top (y9 := nI kq) (by rw [hkq_]; exact pk_div (by omega) (by decide) (by decide)) ?_
    refine eg_iadd hx hb dL_law_59 ?_
    obtain ⟨z1, hz1_⟩ : ∃ y9 : Nat, y9 = d9 / (1 + kq) := ⟨_, rfl⟩
    refine lv_idiv hx hb dL_law_60 (nI_ne0 (by omega) (by omega)) ?_
    refine eg_top (y9 := nI z1) (by rw [hz1_]; exact pk_div (by omega) (by omega) (by omega)) ?_
    refine lv_bipush (v := nI 7) hx hb dL_law_61 (by decide +kernel) ?_
    refine lv_iload hx hb dL_law_63 (lv_at hl 5 rfl) ?_
    refine lv_bipush (v := nI 50) hx hb dL_law_65 (by decide +kernel) ?_
    refine lv_idiv hx hb dL_law_67 (by decide +kernel) ?_
    refine eg_top (y9 := nI kq) (by rw [hkq_]; exact pk_div (by omega) (by decide) (by decide)) ?_
    refine lv_imul hx hb dL_law_68 ?_
    refine eg_top (y9 := nI (7 * kq)) (pk_mul 7 kq) ?_
    refine eg_iadd hx hb dL_law_69 ?_
    have hz1b : z1 ≤ d9 := by rw [hz1_]; exact Nat.div_le_self _ _
    obtain ⟨z, hz_⟩ : ∃ y9 : Nat, y9 = z1 + 7 * kq := ⟨_, rfl⟩
    rw [← hz_]
    have hzb : z < 2 ^ 31 := by omega
    refine lv_istore (lv' := [(6, .int (nI z)), (0, .ref b), (1, .ref (qa 0)), (2, .ref (qb 0)), (3, .int (nI m9)), (4, .int (nI 1)), (5, .int (nI k))]) hx hb dL_law_70 hl (by decide) rfl (fun ls hl => ?_)
    refine lv_iload hx hb dL_law_72 (lv_at hl 0 rfl) ?_
    refine lv_bipush (v := nI 14) hx hb dL_law_74 (by decide +kernel) ?_
    obtain ⟨kd, hkd_⟩ : ∃ y9 : Nat, y9 = z % 14 := ⟨_, rfl⟩
    refine lv_irem hx hb dL_law_76 (by decide +kernel) ?_
    refine eg_top (y9 := nI kd) (by rw [hkd_]; exact pk_rem hzb (by decide) (by decide)) ?_
    refine lv_istore (lv' := [(7, .int (nI kd)), (6, .int (nI z)), (0, .ref b), (1, .ref (qa 0)), (2, .ref (qb 0)), (3, .int (nI m9)), (4, .int (nI 1)), (5, .int (nI k))]) hx hb dL_law_77 hl (by decide) rfl (fun ls hl => ?_)
    refine lv_iload hx hb dL_law_79 (lv_at hl 1 rfl) ?_
    refine lv_bipush (v := nI 14) hx hb dL_law_81 (by decide +kernel) ?_
    obtain ⟨v, hv_⟩ : ∃ y9 : Nat, y9 = z / 14 := ⟨_, rfl⟩
    refine lv_idiv hx hb dL_law_83 (by decide +kernel) ?_
    refine eg_top (y9 := nI v) (by rw [hv_]; exact pk_div hzb (by decide) (by decide)) ?_
    refine lv_istore (lv' := [(8, .int (nI v)), (7, .int (nI kd)), (6, .int (nI z)), (0, .ref b), (1, .ref (qa 0)), (2, .ref (qb 0)), (3, .int (nI m9)), (4, .int (nI 1)), (5, .int (nI k))]) hx hb dL_law_84 hl (by decide) rfl (fun ls hl => ?_)
    refine lv_iload hx hb dL_law_86 (lv_at hl 0 rfl) ?_
    refine lv_iconst (v := nI 4) hx hb dL_law_88 (by decide +kernel) ?_
    have hv : v < 2 ^ 31 := by omega
    obtain ⟨au, hau_⟩ : ∃ y9 : Nat, y9 = v % 4 := ⟨_, rfl⟩
    refine lv_irem hx hb dL_law_89 (by decide +kernel) ?_
    refine eg_top (y9 := nI au) (by rw [hau_]; exact pk_rem hv (by decide) (by decide)) ?_
    have hau : au < 4 := by omega
    refine lv_istore (lv' := [(9, .int (nI au)), (8, .int (nI v)), (7, .int (nI kd)), (6, .int (nI z)), (0, .ref b), (1, .ref (qa 0)), (2, .ref (qb 0)), (3, .int (nI m9)), (4, .int (nI 1)), (5, .int (nI k))]) hx hb dL_law_90 hl (by decide) rfl (fun ls hl => ?_)
    refine lv_iload hx hb dL_law_92 (lv_at hl 0 rfl) ?_
    refine lv_iload_n hx hb dL_law_94 rfl (lv_at hl 7 rfl) ?_
    refine eg_iadd hx hb dL_law_95 ?_
    refine lv_iconst (v := nI 4) hx hb dL_law_96 (by decide +kernel) ?_
    refine lv_irem hx hb dL_law_97 (by decide +kernel) ?_
    refine eg_top (y9 := nI (per m9 au)) (pk_rem (by omega) (by decide) (by decide)) ?_
    refine lv_istore (lv' := [(10, .int (nI (per m9 au))), (9, .int (nI au)), (8, .int (nI v)), (7, .int (nI kd)), (6, .int (nI z)), (0, .ref b), (1, .ref (qa 0)), (2, .ref (qb 0)), (3, .int (nI m9)), (4, .int (nI 1)), (5, .int (nI k))]) hx hb dL_law_98 hl (by decide) rfl (fun ls hl => ?_)
    refine lv_iload hx hb dL_law_100 (lv_at hl 2 rfl) ?_
    refine lv_iconst (v := nI 4) hx hb dL_law_102 (by decide +kernel) ?_
    obtain ⟨v4, hv4_⟩ : ∃ y9 : Nat, y9 = v / 4 := ⟨_, rfl⟩
    refine lv_idiv hx hb dL_law_103 (by decide +kernel) ?_
    refine eg_top (y9 := nI v4) (by rw [hv4_]; exact pk_div hv (by decide) (by decide)) ?_
    refine lv_iconst (v := nI 4) hx hb dL_law_104 (by decide +kernel) ?_
    obtain ⟨ot, hot_⟩ : ∃ y9 : Nat, y9 = v4 % 4 := ⟨_, rfl⟩
    refine lv_irem hx hb dL_law_105 (by decide +kernel) ?_
    refine eg_top (y9 := nI ot) (by rw [hot_]; exact pk_rem (by omega) (by decide) (by decide)) ?_
    have hot : ot < 4 := by omega
    refine lv_istore (lv' := [(11, .int (nI ot)), (10, .int (nI (per m9 au))), (9, .int (nI au)), (8, .int (nI v)), (7, .int (nI kd)), (6, .int (nI z)), (0, .ref b), (1, .ref (qa 0)), (2, .ref (qb 0)), (3, .int (nI m9)), (4, .int (nI 1)), (5, .int (nI k))]) hx hb dL_law_106 hl (by decide) rfl (fun ls hl => ?_)
    refine lv_iload hx hb dL_law_108 (lv_at hl 0 rfl) ?_
    refine lv_iload_n hx hb dL_law_110 rfl (lv_at hl 9 rfl) ?_
    refine eg_iadd hx hb dL_law_111 ?_
    refine lv_iconst (v := nI 4) hx hb dL_law_112 (by decide +kernel) ?_
    refine lv_irem hx hb dL_law_113 (by decide +kernel) ?_
    refine eg_top (y9 := nI (per m9 ot)) (pk_rem (by omega) (by decide) (by decide)) ?_
    refine lv_istore (lv' := [(12, .int (nI (per m9 ot))), (11, .int (nI ot)), (10, .int (nI (per m9 au))), (9, .int (nI au)), (8, .int (nI v)), (7, .int (nI kd)), (6, .int (nI z)), (0, .ref b), (1, .ref (qa 0)), (2, .ref (qb 0)), (3, .int (nI m9)), (4, .int (nI 1)), (5, .int (nI k))]) hx hb dL_law_114 hl (by decide) rfl (fun ls hl => ?_)
    refine lv_aload_n hx hb dL_law_116 rfl (lv_at hl 8 rfl) ?_
    refine eg_callV (w := wX qa cI cJ (nI n) mk lt tg pa an la kn fb fh nb te wt bh) (As := []) (rest := []) hx hb hml hown hts hK (eg_cut hP [0, 1, 2, 3, 4, 5, 6, 7, 8, 9, 10, 11, 12] rfl) (c_X0_events l D cI cJ qa n mk lt tg pa an la kn fb fh nb te wt bh) (cwV 0 hts gL_law_X0_events rfl rfl rfl (by decide +kernel) ⟨by show 0 + 1 ≤ R.frames; omega, by show 8 + (1 + 11) + 0 ≤ R.locals; omega⟩) (va_recv hK (eg_cut (wc := wX qa cI cJ (nI n) mk lt tg pa an la kn fb fh nb te wt bh) hP [0, 1, 2, 3, 4, 5, 6, 7, 8, 9, 10, 11, 12] rfl) (ci := 0) (q0 := 0) rfl rfl) rfl hl.1 rfl (Nat.le_of_ble_eq_true rfl) dL_law_117 ⟨by omega, by omega⟩ ?_
    refine lv_istore (lv' := [(13, .int (nI n)), (12, .int (nI (per m9 ot))), (11, .int (nI ot)), (10, .int (nI (per m9 au))), (9, .int (nI au)), (8, .int (nI v)), (7, .int (nI kd)), (6, .int (nI z)), (0, .ref b), (1, .ref (qa 0)), (2, .ref (qb 0)), (3, .int (nI m9)), (4, .int (nI 1)), (5, .int (nI k))]) hx hb dL_law_120 hl (by decide) rfl (fun ls hl => ?_)
    refine lv_iload hx hb dL_law_122 (lv_at hl 5 rfl) ?_
    refine lv_bipush (v := nI 16) hx hb dL_law_124 (by decide +kernel) ?_
    obtain ⟨v16, hv16_⟩ : ∃ y9 : Nat, y9 = v / 16 := ⟨_, rfl⟩
    refine lv_idiv hx hb dL_law_126 (by decide +kernel) ?_
    refine eg_top (y9 := nI v16) (by rw [hv16_]; exact pk_div hv (by decide) (by decide)) ?_
    refine lv_aload_n hx hb dL_law_127 rfl (lv_at hl 9 rfl) ?_
    refine lv_iconst (v := nI 0) hx hb dL_law_128 (by decide +kernel) ?_
    refine lv_iload hx hb dL_law_129 (lv_at hl 4 rfl) ?_
    refine lv_iconst (v := nI 0) hx hb dL_law_131 (by decide +kernel) ?_
    have hlen := tx_len hL.1 (hL.1.vk hau)
    have hn60 := hL.1.1
    refine eg_callLm (wc := wX qa cI cJ (nI n) mk lt tg pa an la kn fb fh nb te wt bh) (wr := wX qb cI cJ (nI n) mk' lt tg pa an la kn' fb2 fh2 nb2 te2 wt2 bh2) (As := [.ref (qa 0), .int (nI 0), .int (nI au), .int (nI 0)]) (rest := [.int (nI v16)]) hx hb hml hown hts hK hP hD hS hT [0, 1, 2, 3, 4, 5, 6, 7, 8, 9, 10, 11, 12] [13, 14, 15, 16, 17, 18, 19, 20, 21, 22, 23, 24, 25] rfl rfl (by decide) (one_of_0 l D cI cJ qa mk pa te wt bh hL 0 (nI 0) hau) (vx_cwSW 4 hts gL_law_L_of rfl rfl rfl (by decide +kernel) ⟨hRf, hRl⟩) rfl hl.1 rfl (Nat.le_of_ble_eq_true rfl) dL_law_132 ⟨by omega, by omega⟩ (fun v9 w9 H locs hR9 hw9 hP hD hS => ?_)
    obtain ⟨rfl, fb, fh, nb, te, wt, bh, hL, rfl⟩ := hR9
    refine lv_iconst (v := nI 1) hx hb dL_law_135 (by decide +kernel) ?_
    refine eg_iadd hx hb dL_law_136 ?_
    obtain ⟨pl, hpl_⟩ : ∃ y9 : Nat, y9 = v16 % ((tx n lt tg (kn au)).length + 1) := ⟨_, rfl⟩
    refine lv_irem hx hb dL_law_137 (nI_ne0 (by omega) (by omega)) ?_
    refine eg_top (y9 := nI pl) (by rw [hpl_]; exact pk_rem (by omega) (by omega) (by omega)) ?_
    have hple : pl ≤ (tx n lt tg (kn au)).length := by
      have := Nat.mod_lt v16 (show 0 < (tx n lt tg (kn au)).length + 1 by omega)
      omega
    refine lv_istore (lv' := [(14, .int (nI pl)), (13, .int (nI n)), (12, .int (nI (per m9 ot))), (11, .int (nI ot)), (10, .int (nI (per m9 au))), (9, .int (nI au)), (8, .int (nI v)), (7, .int (nI kd)), (6, .int (nI z)), (0, .ref b), (1, .ref (qa 0)), (2, .ref (qb 0)), (3, .int (nI m9)), (4, .int (nI 1)), (5, .int (nI k))]) hx hb dL_law_138 hl (by decide) rfl (fun ls hl => ?_)
    have hP := hP.sub (ws' := wX qa cI cJ (nI n) mk lt tg pa an la kn fb fh nb te wt bh ++ wX qb cI cJ (nI n) mk' lt tg pa an la kn' fb2 fh2 nb2 te2 wt2 bh2) [13, 14, 15, 16, 17, 18, 19, 20, 21, 22, 23, 24, 25, 0, 1, 2, 3, 4, 5, 6, 7, 8, 9, 10, 11, 12] rfl
    have hD := hD.sub (ws' := wX qa cI cJ (nI n) mk lt tg pa an la kn fb fh nb te wt bh ++ wX qb cI cJ (nI n) mk' lt tg pa an la kn' fb2 fh2 nb2 te2 wt2 bh2) [13, 14, 15, 16, 17, 18, 19, 20, 21, 22, 23, 24, 25, 0, 1, 2, 3, 4, 5, 6, 7, 8, 9, 10, 11, 12] (by decide) rfl
    refine opG hC qa qb k v au ot pl kd _ _ hau hot (by omega) hv (by omega) (by omega) (by omega) n mk mk' lt tg pa an la kn kn' fb fh nb te wt bh fb2 fh2 nb2 te2 wt2 bh2 hL hL2 hR hple (fun H locs ls hW => ?_) H locs ls hP hD hS (lv_sub hl [9, 10, 11, 12, 13, 14, 6, 5, 4, 3, 2, 1, 0, 7] rfl)
    refine tailG hC qa qb k n v au ot pl _ _ hk hau hot (by omega) hv (by omega) (by omega) (fun H locs ls hW => ?_) H locs ls hW
    obtain ⟨n7, mk, mk', lt, tg, pa, an, la, kn, kn', fb, fh, nb, te, wt, bh, fb2, fh2, nb2, te2, wt2, bh2, hen, hL, hL2, hR, hP, hD, hS, hl⟩ := id hW
    refine lv_iinc (v := nI (k + 1)) (lv' := [(5, .int (nI (k + 1))), (0, .ref b), (1, .ref (qa 0)), (2, .ref (qb 0)), (3, .int (nI m9)), (4, .int (nI 1)), (8, .int (nI v)), (9, .int (nI au)), (10, .int (nI (per m9 au))), (11, .int (nI ot)), (12, .int (nI (per m9 ot))), (13, .int (nI n)), (14, .int (nI pl))]) hx hb dL_law_528 hl (k := 5) rfl (eg_inc1 _) (by decide) rfl (fun ls hl => ?_)
    refine lv_goto (tgt := 32) hx hb dL_law_531 (by decide) ?_
    exact W.widen (by omega) (by omega) (ih (k + 1) H locs ls (by omega) (by omega) ⟨n7, mk, mk', lt, tg, pa, an, la, kn, kn', fb, fh, nb, te, wt, bh, fb2, fh2, nb2, te2, wt2, bh2, Nat.zero_le _, hL, hL2, hR, hP, hD, hS, lv_sub hl [1, 2, 3, 4, 5, 0] rfl⟩)
end EGR1
