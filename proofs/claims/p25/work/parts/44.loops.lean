-- THE LAW IN GENERAL (by specG25.py): what stands, and its two inner loops
def CG (p : Program) (l : Launch) (R : Room) (s : State) (m : MethodId) (c : Code) (b L : Nat) (xs : Nat → Int32) (D : va_G) (cI cJ : ClassId) (m9 : Nat) : Prop :=
  p.tables.exec = Jvm.exec ∧ c.code = code ∧ c.maxLocals = 19 ∧ s.vm.findClass RL = some m.cls ∧ (∀ w ∈ wsL_law, w.before #[Value.ref b] s = true) ∧ va_K D vwCl (tyL cI cJ) s ∧ eg_T (fun q => s.heap.size ≤ q) s s.heap ∧ va_X b L xs s s.heap ∧ b < s.heap.size ∧ L ≤ 260 ∧ l.stackTraces = false ∧ m9 < 4 ∧ 10 ≤ R.frames ∧ 174 ≤ R.locals
def SG (s : State) (D : va_G) (cI cJ : ClassId) (qa qb : Nat → Nat) (m9 en : Nat) (lc : List (Nat × Value)) (H : Heap) (locs : List Loc) (ls : Array Slot) : Prop :=
  ∃ (n : Nat) (mk mk' lt tg : Nat → Int32) (pa an la kn kn' : Nat → Int64) (fb : Int32) (fh nb te wt bh : Nat → Int32) (fb2 : Int32) (fh2 nb2 te2 wt2 bh2 : Nat → Int32), en ≤ n ∧ LI n lt tg an la kn fb fh nb ∧ LI n lt tg an la kn' fb2 fh2 nb2 ∧ Rel m9 n mk mk' kn kn' ∧
    va_P D vwCl (wX qa cI cJ (nI n) mk lt tg pa an la kn fb fh nb te wt bh ++ wX qb cI cJ (nI n) mk' lt tg pa an la kn' fb2 fh2 nb2 te2 wt2 bh2) H ∧ va_D (fun q => s.heap.size ≤ q) (wX qa cI cJ (nI n) mk lt tg pa an la kn fb fh nb te wt bh ++ wX qb cI cJ (nI n) mk' lt tg pa an la kn' fb2 fh2 nb2 te2 wt2 bh2) ∧ va_S (fun q => s.heap.size ≤ q) s.heap H locs ∧ lv_has ls 19 lc
section EGL1
variable {p : Program} {l : Launch} {e : Env} {R : Room} {s : State} {m : MethodId} {below : List Frame} {meth : Method} {c : Code} {b L : Nat} {xs : Nat → Int32} {D : va_G} {cI cJ : ClassId} {Q : State → Prop} {m9 : Nat}
set_option maxHeartbeats 4000000 in
set_option maxRecDepth 100000 in
theorem ofloopG (hC : CG p l R s m c b L xs D cI cJ m9) (qa qb : Nat → Nat) (k en v au ot pl cb sb : Nat) (hk : k < 100) (hau : au < 4) (hot : ot < 4) (hpl : pl < 2 ^ 31) (hv : v < 2 ^ 31) (hcb : cb + 6 * ((k + 1) / 3 - k / 3) ≤ R.cells) (hsb : sb + 36 * ((k + 1) / 3 - k / 3) ≤ R.slots)
    (kk : ∀ (H : Heap) (locs : List Loc) (ls : Array Slot), SG s D cI cJ qa qb m9 en [(0, .ref b), (1, .ref (qa 0)), (2, .ref (qb 0)), (3, .int (nI m9)), (4, .int (nI 1)), (5, .int (nI k)), (8, .int (nI v)), (9, .int (nI au)), (10, .int (nI (per m9 au))), (11, .int (nI ot)), (12, .int (nI (per m9 ot))), (13, .int (nI en)), (14, .int (nI pl))] H locs ls → W p l e R s m #[Value.ref b] below meth c H locs (cb + 6 * ((k + 1) / 3 - k / 3)) (sb + 36 * ((k + 1) / 3 - k / 3)) Q (F0 m 422 ls [])) :
    ∀ (f j cells slots : Nat) (H : Heap) (locs : List Loc) (ls : Array Slot), j + f = 7 → cells ≤ cb + 2 * (j - 4) → slots ≤ sb + 12 * (j - 4) → (j = 0 ∨ k % 3 = 2) → SG s D cI cJ qa qb m9 en [(0, .ref b), (1, .ref (qa 0)), (2, .ref (qb 0)), (3, .int (nI m9)), (4, .int (nI 1)), (5, .int (nI k)), (8, .int (nI v)), (9, .int (nI au)), (10, .int (nI (per m9 au))), (11, .int (nI ot)), (12, .int (nI (per m9 ot))), (13, .int (nI en)), (14, .int (nI pl)), (15, .int (nI j))] H locs ls → W p l e R s m #[Value.ref b] below meth c H locs cells slots Q (F0 m 336 ls []) := by
  intro f
  induction f with
  | zero =>
    intro j cells slots H locs ls hf hc hs h3 hW
    obtain ⟨hx, hb, hml, hown, hts, hK, hT, hX, hbl, hL260, hfl, hm4, hRf, hRl⟩ := id hC
    obtain ⟨n, mk, mk', lt, tg, pa, an, la, kn, kn', fb, fh, nb, te, wt, bh, fb2, fh2, nb2, te2, wt2, bh2, hen, hL, hL2, hR, hP, hD, hS, hl⟩ := id hW
    have h3 : k % 3 = 2 := by omega
    refine lv_iload hx hb dL_law_336 (lv_at hl 13 rfl) ?_
    refine lv_bipush (v := nI 7) hx hb dL_law_338 (by decide +kernel) ?_
    refine eg_icmp_ge (tgt := 422) hx hb dL_law_340 (by decide) (by omega) (by decide) (fun h => ?_) (fun hj => by omega)
    exact W.widen (by omega) (by omega) (kk H locs ls ⟨n, mk, mk', lt, tg, pa, an, la, kn, kn', fb, fh, nb, te, wt, bh, fb2, fh2, nb2, te2, wt2, bh2, hen, hL, hL2, hR, hP, hD, hS, lv_sub hl [0, 1, 2, 3, 4, 5, 6, 7, 8, 9, 10, 11, 12] rfl⟩)
  | succ f ih =>
    intro j cells slots H locs ls hf hc hs h3 hW
    obtain ⟨hx, hb, hml, hown, hts, hK, hT, hX, hbl, hL260, hfl, hm4, hRf, hRl⟩ := id hC
    obtain ⟨n, mk, mk', lt, tg, pa, an, la, kn, kn', fb, fh, nb, te, wt, bh, fb2, fh2, nb2, te2, wt2, bh2, hen, hL, hL2, hR, hP, hD, hS, hl⟩ := id hW
    refine lv_iload hx hb dL_law_336 (lv_at hl 13 rfl) ?_
    refine lv_bipush (v := nI 7) hx hb dL_law_338 (by decide +kernel) ?_
    refine eg_icmp_ge (tgt := 422) hx hb dL_law_340 (by decide) (by omega) (by decide) (fun h => ?_) (fun hj => ?_)
    · exact W.widen (by omega) (by omega) (kk H locs ls ⟨n, mk, mk', lt, tg, pa, an, la, kn, kn', fb, fh, nb, te, wt, bh, fb2, fh2, nb2, te2, wt2, bh2, hen, hL, hL2, hR, hP, hD, hS, lv_sub hl [0, 1, 2, 3, 4, 5, 6, 7, 8, 9, 10, 11, 12] rfl⟩)
    refine lv_iload hx hb dL_law_343 (lv_at hl 4 rfl) ?_
    refine lv_if_eq (tgt := 422) hx hb dL_law_345 (by decide) (fun h => absurd h (by decide +kernel)) (fun _ => ?_)
    refine lv_iload hx hb dL_law_348 (lv_at hl 5 rfl) ?_
    refine lv_iconst (v := nI 3) hx hb dL_law_350 (by decide +kernel) ?_
    refine lv_irem hx hb dL_law_351 (by decide +kernel) ?_
    refine eg_top (pk_rem (by omega) (by decide) (by decide)) ?_
    refine lv_iconst (v := nI 2) hx hb dL_law_352 (by decide +kernel) ?_
    refine lv_icmp_ne (tgt := 422) hx hb dL_law_353 (by decide) (fun h => ?_) (fun h => ?_)
    · have h0 : j = 0 := by
        rcases h3 with q | q
        · exact q
        · exact absurd (by rw [q]) h
      exact W.widen (by omega) (by omega) (kk H locs ls ⟨n, mk, mk', lt, tg, pa, an, la, kn, kn', fb, fh, nb, te, wt, bh, fb2, fh2, nb2, te2, wt2, bh2, hen, hL, hL2, hR, hP, hD, hS, lv_sub hl [0, 1, 2, 3, 4, 5, 6, 7, 8, 9, 10, 11, 12] rfl⟩)
    have h3 : k % 3 = 2 := (nI_eq (by omega) (by decide)).mp h
    have htc := tc_at hj
    refine lv_aload_n hx hb dL_law_356 rfl (lv_at hl 1 rfl) ?_
    refine lv_iload hx hb dL_law_357 (lv_at hl 13 rfl) ?_
    refine lv_iload hx hb dL_law_359 (lv_at hl 7 rfl) ?_
    refine lv_iload hx hb dL_law_361 (lv_at hl 12 rfl) ?_
    refine eg_callLm (wc := wX qa cI cJ (nI n) mk lt tg pa an la kn fb fh nb te wt bh) (wr := wX qb cI cJ (nI n) mk' lt tg pa an la kn' fb2 fh2 nb2 te2 wt2 bh2) (As := [.ref (qa 0), .int (nI j), .int (nI au), .int (nI pl)]) (rest := []) hx hb hml hown hts hK hP hD hS hT [0, 1, 2, 3, 4, 5, 6, 7, 8, 9, 10, 11, 12] [13, 14, 15, 16, 17, 18, 19, 20, 21, 22, 23, 24, 25] rfl rfl (by decide) (one_of l D cI cJ qa mk pa te wt bh hfl hL pl hau hpl j hj) (vx_cwSW 4 hts gL_law_L_of rfl rfl rfl (by decide +kernel) ⟨hRf, hRl⟩) rfl hl.1 rfl (Nat.le_of_ble_eq_true rfl) dL_law_363 ⟨by omega, by omega⟩ (fun v9 w9 H locs hR9 hw9 hP hD hS => ?_)
    obtain ⟨rfl, fb, fh, nb, te, wt, bh, hL, rfl⟩ := hR9
    refine lv_aload_n hx hb dL_law_366 rfl (lv_at hl 2 rfl) ?_
    refine lv_iload hx hb dL_law_367 (lv_at hl 13 rfl) ?_
    refine lv_iload hx hb dL_law_369 (lv_at hl 8 rfl) ?_
    refine lv_iload hx hb dL_law_371 (lv_at hl 12 rfl) ?_
    refine eg_callLm (wc := wX qb cI cJ (nI n) mk' lt tg pa an la kn' fb2 fh2 nb2 te2 wt2 bh2) (wr := wX qa cI cJ (nI n) mk lt tg pa an la kn fb fh nb te wt bh) (As := [.ref (qb 0), .int (nI j), .int (nI (per m9 au)), .int (nI pl)]) (rest := [.int (ofV n mk lt tg pa an la (kn au) pl j)]) hx hb hml hown hts hK hP hD hS hT [0, 1, 2, 3, 4, 5, 6, 7, 8, 9, 10, 11, 12] [13, 14, 15, 16, 17, 18, 19, 20, 21, 22, 23, 24, 25] rfl rfl (by decide) (pr_of l D cI cJ qb te2 wt2 bh2 hfl hL2 hR pl hau hpl hj) (vx_cwSW 4 hts gL_law_L_of rfl rfl rfl (by decide +kernel) ⟨hRf, hRl⟩) rfl hl.1 rfl (Nat.le_of_ble_eq_true rfl) dL_law_373 ⟨by omega, by omega⟩ (fun v9 w9 H locs hR9 hw9 hP hD hS => ?_)
    obtain ⟨rfl, fb2, fh2, nb2, te2, wt2, bh2, hL2, rfl⟩ := hR9
    refine lv_icmp_ne (tgt := 413) hx hb dL_law_376 (by decide) (fun h => absurd rfl h) (fun _ => ?_)
    refine lv_iload hx hb dL_law_379 (lv_at hl 13 rfl) ?_
    refine lv_iconst (v := nI 4) hx hb dL_law_381 (by decide +kernel) ?_
    refine eg_icmp_gt (tgt := 409) hx hb dL_law_382 (by decide) (by omega) (by decide) (fun h => ?_) (fun h => ?_)
    · refine lv_iconst (v := nI 1) hx hb dL_law_409 (by decide +kernel) ?_
      refine lv_goto (tgt := 414) hx hb dL_law_410 (by decide) ?_
      refine lv_istore (lv' := [(4, .int (nI 1)), (0, .ref b), (1, .ref (qa 0)), (2, .ref (qb 0)), (3, .int (nI m9)), (5, .int (nI k)), (8, .int (nI v)), (9, .int (nI au)), (10, .int (nI (per m9 au))), (11, .int (nI ot)), (12, .int (nI (per m9 ot))), (13, .int (nI en)), (14, .int (nI pl)), (15, .int (nI j))]) hx hb dL_law_414 hl (by decide) rfl (fun ls hl => ?_)
      refine lv_iinc (v := nI (j + 1)) (lv' := [(15, .int (nI (j + 1))), (4, .int (nI 1)), (0, .ref b), (1, .ref (qa 0)), (2, .ref (qb 0)), (3, .int (nI m9)), (5, .int (nI k)), (8, .int (nI v)), (9, .int (nI au)), (10, .int (nI (per m9 au))), (11, .int (nI ot)), (12, .int (nI (per m9 ot))), (13, .int (nI en)), (14, .int (nI pl))]) hx hb dL_law_416 hl (k := 13) rfl (eg_inc1 _) (by decide) rfl (fun ls hl => ?_)
      refine lv_goto (tgt := 336) hx hb dL_law_419 (by decide) ?_
      exact ih (j + 1) _ _ H locs ls (by omega) (by omega) (by omega) (Or.inr h3) ⟨n, mk, mk', lt, tg, pa, an, la, kn, kn', fb, fh, nb, te, wt, bh, fb2, fh2, nb2, te2, wt2, bh2, hen, hL, hL2, hR, hP, hD, hS, lv_sub hl [2, 3, 4, 5, 1, 6, 7, 8, 9, 10, 11, 12, 13, 0] rfl⟩
    · refine lv_aload_n hx hb dL_law_385 rfl (lv_at hl 1 rfl) ?_
      refine lv_iload hx hb dL_law_386 (lv_at hl 13 rfl) ?_
      refine lv_iload hx hb dL_law_388 (lv_at hl 7 rfl) ?_
      refine lv_iload hx hb dL_law_390 (lv_at hl 9 rfl) ?_
      refine eg_callLm (wc := wX qa cI cJ (nI n) mk lt tg pa an la kn fb fh nb te wt bh) (wr := wX qb cI cJ (nI n) mk' lt tg pa an la kn' fb2 fh2 nb2 te2 wt2 bh2) (As := [.ref (qa 0), .int (nI j), .int (nI au), .int (nI ot)]) (rest := []) hx hb hml hown hts hK hP hD hS hT [0, 1, 2, 3, 4, 5, 6, 7, 8, 9, 10, 11, 12] [13, 14, 15, 16, 17, 18, 19, 20, 21, 22, 23, 24, 25] rfl rfl (by decide) (one_set l D cI cJ qa mk pa te wt bh hL hau hot j (by omega)) (vx_cwSW 4 hts gL_law_L_set rfl rfl rfl (by decide +kernel) ⟨hRf, hRl⟩) rfl hl.1 rfl (Nat.le_of_ble_eq_true rfl) dL_law_392 ⟨by omega, by omega⟩ (fun v9 w9 H locs hR9 hw9 hP hD hS => ?_)
      obtain ⟨rfl, fb, fh, nb, te, wt, bh, hL, rfl⟩ := hR9
      refine lv_aload_n hx hb dL_law_395 rfl (lv_at hl 2 rfl) ?_
      refine lv_iload hx hb dL_law_396 (lv_at hl 13 rfl) ?_
      refine lv_iload hx hb dL_law_398 (lv_at hl 8 rfl) ?_
      refine lv_iload hx hb dL_law_400 (lv_at hl 10 rfl) ?_
      refine eg_callLm (wc := wX qb cI cJ (nI n) mk' lt tg pa an la kn' fb2 fh2 nb2 te2 wt2 bh2) (wr := wX qa cI cJ (nI n) mk lt tg pa an la kn fb fh nb te wt bh) (As := [.ref (qb 0), .int (nI j), .int (nI (per m9 au)), .int (nI (per m9 ot))]) (rest := [.long (setV n mk lt tg pa an la (kn au) (kn ot) ot j)]) hx hb hml hown hts hK hP hD hS hT [0, 1, 2, 3, 4, 5, 6, 7, 8, 9, 10, 11, 12] [13, 14, 15, 16, 17, 18, 19, 20, 21, 22, 23, 24, 25] rfl rfl (by decide) (pr_set l D cI cJ qb te2 wt2 bh2 hL2 hR hau hot (by omega)) (vx_cwSW 4 hts gL_law_L_set rfl rfl rfl (by decide +kernel) ⟨hRf, hRl⟩) rfl hl.1 rfl (Nat.le_of_ble_eq_true rfl) dL_law_402 ⟨by omega, by omega⟩ (fun v9 w9 H locs hR9 hw9 hP hD hS => ?_)
      obtain ⟨rfl, fb2, fh2, nb2, te2, wt2, bh2, hL2, rfl⟩ := hR9
      refine eg_lcmp_ne (tgt := 413) hx hb dL_law_405 rfl dL_law_406 (by decide) (fun h => absurd rfl h) (fun _ => ?_)
      refine lv_iconst (v := nI 1) hx hb dL_law_409 (by decide +kernel) ?_
      refine lv_goto (tgt := 414) hx hb dL_law_410 (by decide) ?_
      refine lv_istore (lv' := [(4, .int (nI 1)), (0, .ref b), (1, .ref (qa 0)), (2, .ref (qb 0)), (3, .int (nI m9)), (5, .int (nI k)), (8, .int (nI v)), (9, .int (nI au)), (10, .int (nI (per m9 au))), (11, .int (nI ot)), (12, .int (nI (per m9 ot))), (13, .int (nI en)), (14, .int (nI pl)), (15, .int (nI j))]) hx hb dL_law_414 hl (by decide) rfl (fun ls hl => ?_)
      refine lv_iinc (v := nI (j + 1)) (lv' := [(15, .int (nI (j + 1))), (4, .int (nI 1)), (0, .ref b), (1, .ref (qa 0)), (2, .ref (qb 0)), (3, .int (nI m9)), (5, .int (nI k)), (8, .int (nI v)), (9, .int (nI au)), (10, .int (nI (per m9 au))), (11, .int (nI ot)), (12, .int (nI (per m9 ot))), (13, .int (nI en)), (14, .int (nI pl))]) hx hb dL_law_416 hl (k := 13) rfl (eg_inc1 _) (by decide) rfl (fun ls hl => ?_)
      refine lv_goto (tgt := 336) hx hb dL_law_419 (by decide) ?_
      exact ih (j + 1) _ _ H locs ls (by omega) (by omega) (by omega) (Or.inr h3) ⟨n, mk, mk', lt, tg, pa, an, la, kn, kn', fb, fh, nb, te, wt, bh, fb2, fh2, nb2, te2, wt2, bh2, hen, hL, hL2, hR, hP, hD, hS, lv_sub hl [2, 3, 4, 5, 1, 6, 7, 8, 9, 10, 11, 12, 13, 0] rfl⟩
set_option maxHeartbeats 4000000 in
set_option maxRecDepth 100000 in
theorem byloopG (hC : CG p l R s m c b L xs D cI cJ m9) (qa qb : Nat → Nat) (k en v au ot pl cb sb : Nat) (hk : k < 100) (hau : au < 4) (hot : ot < 4) (hpl : pl < 2 ^ 31) (hv : v < 2 ^ 31) (hcb : cb + 2 * ((k + 1) / 5 - k / 5) ≤ R.cells) (hsb : sb + 12 * ((k + 1) / 5 - k / 5) ≤ R.slots)
    (kk : ∀ (H : Heap) (locs : List Loc) (ls : Array Slot), SG s D cI cJ qa qb m9 en [(0, .ref b), (1, .ref (qa 0)), (2, .ref (qb 0)), (3, .int (nI m9)), (4, .int (nI 1)), (5, .int (nI k)), (8, .int (nI v)), (9, .int (nI au)), (10, .int (nI (per m9 au))), (11, .int (nI ot)), (12, .int (nI (per m9 ot))), (13, .int (nI en)), (14, .int (nI pl))] H locs ls → W p l e R s m #[Value.ref b] below meth c H locs (cb + 2 * ((k + 1) / 5 - k / 5)) (sb + 12 * ((k + 1) / 5 - k / 5)) Q (F0 m 528 ls [])) :
    ∀ (f j cells slots : Nat) (H : Heap) (locs : List Loc) (ls : Array Slot), j + f = 5 → ((j ≤ 2 ∧ cells ≤ cb ∧ slots ≤ sb) ∨ (2 < j ∧ cells ≤ cb + 2 ∧ slots ≤ sb + 12)) → (j = 0 ∨ (k % 5 = 4 ∧ 0 < en)) → SG s D cI cJ qa qb m9 en [(0, .ref b), (1, .ref (qa 0)), (2, .ref (qb 0)), (3, .int (nI m9)), (4, .int (nI 1)), (5, .int (nI k)), (8, .int (nI v)), (9, .int (nI au)), (10, .int (nI (per m9 au))), (11, .int (nI ot)), (12, .int (nI (per m9 ot))), (13, .int (nI en)), (14, .int (nI pl)), (15, .int (nI j))] H locs ls → W p l e R s m #[Value.ref b] below meth c H locs cells slots Q (F0 m 425 ls []) := by
  intro f
  induction f with
  | zero =>
    intro j cells slots H locs ls hf hc h5 hW
    obtain ⟨hx, hb, hml, hown, hts, hK, hT, hX, hbl, hL260, hfl, hm4, hRf, hRl⟩ := id hC
    obtain ⟨n, mk, mk', lt, tg, pa, an, la, kn, kn', fb, fh, nb, te, wt, bh, fb2, fh2, nb2, te2, wt2, bh2, hen, hL, hL2, hR, hP, hD, hS, hl⟩ := id hW
    have h5 : k % 5 = 4 := by omega
    refine lv_iload hx hb dL_law_425 (lv_at hl 13 rfl) ?_
    refine lv_iconst (v := nI 5) hx hb dL_law_427 (by decide +kernel) ?_
    refine eg_icmp_ge (tgt := 528) hx hb dL_law_428 (by decide) (by omega) (by decide) (fun h => ?_) (fun hj => by omega)
    exact W.widen (by omega) (by omega) (kk H locs ls ⟨n, mk, mk', lt, tg, pa, an, la, kn, kn', fb, fh, nb, te, wt, bh, fb2, fh2, nb2, te2, wt2, bh2, hen, hL, hL2, hR, hP, hD, hS, lv_sub hl [0, 1, 2, 3, 4, 5, 6, 7, 8, 9, 10, 11, 12] rfl⟩)
  | succ f ih =>
    intro j cells slots H locs ls hf hc h5 hW
    obtain ⟨hx, hb, hml, hown, hts, hK, hT, hX, hbl, hL260, hfl, hm4, hRf, hRl⟩ := id hC
    obtain ⟨n, mk, mk', lt, tg, pa, an, la, kn, kn', fb, fh, nb, te, wt, bh, fb2, fh2, nb2, te2, wt2, bh2, hen, hL, hL2, hR, hP, hD, hS, hl⟩ := id hW
    refine lv_iload hx hb dL_law_425 (lv_at hl 13 rfl) ?_
    refine lv_iconst (v := nI 5) hx hb dL_law_427 (by decide +kernel) ?_
    refine eg_icmp_ge (tgt := 528) hx hb dL_law_428 (by decide) (by omega) (by decide) (fun h => ?_) (fun hj => ?_)
    · exact W.widen (by omega) (by omega) (kk H locs ls ⟨n, mk, mk', lt, tg, pa, an, la, kn, kn', fb, fh, nb, te, wt, bh, fb2, fh2, nb2, te2, wt2, bh2, hen, hL, hL2, hR, hP, hD, hS, lv_sub hl [0, 1, 2, 3, 4, 5, 6, 7, 8, 9, 10, 11, 12] rfl⟩)
    refine lv_iload hx hb dL_law_431 (lv_at hl 4 rfl) ?_
    refine lv_if_eq (tgt := 528) hx hb dL_law_433 (by decide) (fun h => absurd h (by decide +kernel)) (fun _ => ?_)
    refine lv_iload hx hb dL_law_436 (lv_at hl 11 rfl) ?_
    refine eg_if_le (tgt := 528) hx hb dL_law_438 (by decide) (by have := hL.1.1; omega) (fun h => ?_) (fun he0 => ?_)
    · have h0 : j = 0 := by omega
      exact W.widen (by omega) (by omega) (kk H locs ls ⟨n, mk, mk', lt, tg, pa, an, la, kn, kn', fb, fh, nb, te, wt, bh, fb2, fh2, nb2, te2, wt2, bh2, hen, hL, hL2, hR, hP, hD, hS, lv_sub hl [0, 1, 2, 3, 4, 5, 6, 7, 8, 9, 10, 11, 12] rfl⟩)
    refine lv_iload hx hb dL_law_441 (lv_at hl 5 rfl) ?_
    refine lv_iconst (v := nI 5) hx hb dL_law_443 (by decide +kernel) ?_
    refine lv_irem hx hb dL_law_444 (by decide +kernel) ?_
    refine eg_top (pk_rem (by omega) (by decide) (by decide)) ?_
    refine lv_iconst (v := nI 4) hx hb dL_law_445 (by decide +kernel) ?_
    refine lv_icmp_ne (tgt := 528) hx hb dL_law_446 (by decide) (fun h => ?_) (fun h => ?_)
    · have h0 : j = 0 := by
        rcases h5 with q | q
        · exact q
        · exact absurd (by rw [q.1]) h
      exact W.widen (by omega) (by omega) (kk H locs ls ⟨n, mk, mk', lt, tg, pa, an, la, kn, kn', fb, fh, nb, te, wt, bh, fb2, fh2, nb2, te2, wt2, bh2, hen, hL, hL2, hR, hP, hD, hS, lv_sub hl [0, 1, 2, 3, 4, 5, 6, 7, 8, 9, 10, 11, 12] rfl⟩)
    have h5n : k % 5 = 4 ∧ 0 < en := ⟨(nI_eq (by omega) (by decide)).mp h, he0⟩
    have htb := tb_at hj
    have hn60 := hL.1.1
    obtain ⟨e0, he9⟩ : ∃ y : Nat, y = v / 9 % en := ⟨_, rfl⟩
    obtain ⟨e1, he8⟩ : ∃ y : Nat, y = v / 5 % en := ⟨_, rfl⟩
    have q0 : e0 < en := by rw [he9]; exact Nat.mod_lt _ he0
    have q1 : e1 < en := by rw [he8]; exact Nat.mod_lt _ he0
    refine lv_iload hx hb dL_law_449 (lv_at hl 6 rfl) ?_
    refine lv_bipush (v := nI 9) hx hb dL_law_451 (by decide +kernel) ?_
    refine lv_idiv hx hb dL_law_453 (by decide +kernel) ?_
    refine eg_top (y9 := nI (v / 9)) (pk_div hv (by decide) (by decide)) ?_
    refine lv_iload hx hb dL_law_454 (lv_at hl 11 rfl) ?_
    refine lv_irem hx hb dL_law_456 (nI_ne0 he0 (by omega)) ?_
    refine eg_top (y9 := nI e0) (by rw [he9]; exact pk_rem (by omega) he0 (by omega)) ?_
    refine lv_istore (lv' := [(16, .int (nI e0)), (0, .ref b), (1, .ref (qa 0)), (2, .ref (qb 0)), (3, .int (nI m9)), (4, .int (nI 1)), (5, .int (nI k)), (8, .int (nI v)), (9, .int (nI au)), (10, .int (nI (per m9 au))), (11, .int (nI ot)), (12, .int (nI (per m9 ot))), (13, .int (nI en)), (14, .int (nI pl)), (15, .int (nI j))]) hx hb dL_law_457 hl (by decide) rfl (fun ls hl => ?_)
    refine lv_aload_n hx hb dL_law_459 rfl (lv_at hl 2 rfl) ?_
    refine lv_iload hx hb dL_law_460 (lv_at hl 14 rfl) ?_
    refine lv_iload hx hb dL_law_462 (lv_at hl 0 rfl) ?_
    refine lv_iload hx hb dL_law_464 (lv_at hl 7 rfl) ?_
    refine lv_iconst (v := nI 5) hx hb dL_law_466 (by decide +kernel) ?_
    refine lv_idiv hx hb dL_law_467 (by decide +kernel) ?_
    refine eg_top (y9 := nI (v / 5)) (pk_div hv (by decide) (by decide)) ?_
    refine lv_iload hx hb dL_law_468 (lv_at hl 12 rfl) ?_
    refine lv_irem hx hb dL_law_470 (nI_ne0 he0 (by omega)) ?_
    refine eg_top (y9 := nI e1) (by rw [he8]; exact pk_rem (by omega) he0 (by omega)) ?_
    refine eg_callLm (wc := wX qa cI cJ (nI n) mk lt tg pa an la kn fb fh nb te wt bh) (wr := wX qb cI cJ (nI n) mk' lt tg pa an la kn' fb2 fh2 nb2 te2 wt2 bh2) (As := [.ref (qa 0), .int (nI j), .int (nI e0), .int (nI e1)]) (rest := []) hx hb hml hown hts hK hP hD hS hT [0, 1, 2, 3, 4, 5, 6, 7, 8, 9, 10, 11, 12] [13, 14, 15, 16, 17, 18, 19, 20, 21, 22, 23, 24, 25] rfl rfl (by decide) (one_by l D cI cJ qa mk pa te wt bh hfl hL (by omega) (by omega) j (by omega)) (vx_cwSW 4 hts gL_law_L_by rfl rfl rfl (by decide +kernel) ⟨hRf, hRl⟩) rfl hl.1 rfl (Nat.le_of_ble_eq_true rfl) dL_law_471 ⟨by omega, by omega⟩ (fun v9 w9 H locs hR9 hw9 hP hD hS => ?_)
    obtain ⟨rfl, fb, fh, nb, te, wt, bh, hL, rfl⟩ := hR9
    refine lv_lstore (lv' := [(17, .long (byV n mk lt tg pa an e0 e1 j)), (16, .int (nI e0)), (0, .ref b), (1, .ref (qa 0)), (2, .ref (qb 0)), (3, .int (nI m9)), (4, .int (nI 1)), (5, .int (nI k)), (8, .int (nI v)), (9, .int (nI au)), (10, .int (nI (per m9 au))), (11, .int (nI ot)), (12, .int (nI (per m9 ot))), (13, .int (nI en)), (14, .int (nI pl)), (15, .int (nI j))]) hx hb dL_law_474 hl (by decide) rfl (fun ls hl => ?_)
    refine lv_aload_n hx hb dL_law_476 rfl (lv_at hl 4 rfl) ?_
    refine lv_iload hx hb dL_law_477 (lv_at hl 15 rfl) ?_
    refine lv_iload hx hb dL_law_479 (lv_at hl 1 rfl) ?_
    refine lv_iload hx hb dL_law_481 (lv_at hl 8 rfl) ?_
    refine lv_iconst (v := nI 5) hx hb dL_law_483 (by decide +kernel) ?_
    refine lv_idiv hx hb dL_law_484 (by decide +kernel) ?_
    refine eg_top (y9 := nI (v / 5)) (pk_div hv (by decide) (by decide)) ?_
    refine lv_iload hx hb dL_law_485 (lv_at hl 13 rfl) ?_
    refine lv_irem hx hb dL_law_487 (nI_ne0 he0 (by omega)) ?_
    refine eg_top (y9 := nI e1) (by rw [he8]; exact pk_rem (by omega) he0 (by omega)) ?_
    by_cases hj4 : j = 4
    · subst hj4
      refine eg_callLm (wc := wX qb cI cJ (nI n) mk' lt tg pa an la kn' fb2 fh2 nb2 te2 wt2 bh2) (wr := wX qa cI cJ (nI n) mk lt tg pa an la kn fb fh nb te wt bh) (As := [.ref (qb 0), .int (nI 4), .int (nI e0), .int (nI e1)]) (rest := []) hx hb hml hown hts hK hP hD hS hT [0, 1, 2, 3, 4, 5, 6, 7, 8, 9, 10, 11, 12] [13, 14, 15, 16, 17, 18, 19, 20, 21, 22, 23, 24, 25] rfl rfl (by decide) (one_by l D cI cJ qb mk' pa te2 wt2 bh2 hfl hL2 (by omega) (by omega) 4 (by decide)) (vx_cwSW 4 hts gL_law_L_by rfl rfl rfl (by decide +kernel) ⟨hRf, hRl⟩) rfl hl.1 rfl (Nat.le_of_ble_eq_true rfl) dL_law_488 ⟨by omega, by omega⟩ (fun v9 w9 H locs hR9 hw9 hP hD hS => ?_)
      obtain ⟨rfl, fb2, fh2, nb2, te2, wt2, bh2, hL2, rfl⟩ := hR9
      refine lv_iload hx hb dL_law_491 (lv_at hl 15 rfl) ?_
      refine lv_iconst (v := nI 4) hx hb dL_law_493 (by decide +kernel) ?_
      refine lv_icmp_ne (tgt := 509) hx hb dL_law_494 (by decide) (fun h => absurd rfl h) (fun _ => ?_)
      refine lv_lload hx hb dL_law_497 (lv_at hl 0 rfl) ?_
      refine lv_iload_n hx hb dL_law_499 rfl (lv_at hl 5 rfl) ?_
      refine lv_i2l (v := (nI m9).toInt64) hx hb dL_law_500 rfl ?_
      refine lv_ladd hx hb dL_law_501 ?_
      refine lv_ldc2 hx hb hown (hts (.constantLong RL 114 4) (by decide +kernel)) dL_law_502 ?_
      refine lv_lrem hx hb dL_law_505 (by decide +kernel) ?_
      refine eg_topL (y9 := byV n mk' lt tg pa an e0 e1 4) (Rel_by4 hR hm4 (by omega)) ?_
      refine lv_goto (tgt := 511) hx hb dL_law_506 (by decide) ?_
      refine eg_lcmp_ne (tgt := 519) hx hb dL_law_511 rfl dL_law_512 (by decide) (fun h => absurd rfl h) (fun _ => ?_)
      refine lv_iconst (v := nI 1) hx hb dL_law_515 (by decide +kernel) ?_
      refine lv_goto (tgt := 520) hx hb dL_law_516 (by decide) ?_
      refine lv_istore (lv' := [(4, .int (nI 1)), (17, .long (byV n mk lt tg pa an e0 e1 4)), (16, .int (nI e0)), (0, .ref b), (1, .ref (qa 0)), (2, .ref (qb 0)), (3, .int (nI m9)), (5, .int (nI k)), (8, .int (nI v)), (9, .int (nI au)), (10, .int (nI (per m9 au))), (11, .int (nI ot)), (12, .int (nI (per m9 ot))), (13, .int (nI en)), (14, .int (nI pl)), (15, .int (nI 4))]) hx hb dL_law_520 hl (by decide) rfl (fun ls hl => ?_)
      refine lv_iinc (v := nI (4 + 1)) (lv' := [(15, .int (nI (4 + 1))), (4, .int (nI 1)), (17, .long (byV n mk lt tg pa an e0 e1 4)), (16, .int (nI e0)), (0, .ref b), (1, .ref (qa 0)), (2, .ref (qb 0)), (3, .int (nI m9)), (5, .int (nI k)), (8, .int (nI v)), (9, .int (nI au)), (10, .int (nI (per m9 au))), (11, .int (nI ot)), (12, .int (nI (per m9 ot))), (13, .int (nI en)), (14, .int (nI pl))]) hx hb dL_law_522 hl (k := 15) rfl (eg_inc1 _) (by decide) rfl (fun ls hl => ?_)
      refine lv_goto (tgt := 425) hx hb dL_law_525 (by decide) ?_
      exact ih (4 + 1) _ _ H locs ls (by omega) (by omega) (Or.inr h5n) ⟨n, mk, mk', lt, tg, pa, an, la, kn, kn', fb, fh, nb, te, wt, bh, fb2, fh2, nb2, te2, wt2, bh2, hen, hL, hL2, hR, hP, hD, hS, lv_sub hl [4, 5, 6, 7, 1, 8, 9, 10, 11, 12, 13, 14, 15, 0] rfl⟩
    · refine eg_callLm (wc := wX qb cI cJ (nI n) mk' lt tg pa an la kn' fb2 fh2 nb2 te2 wt2 bh2) (wr := wX qa cI cJ (nI n) mk lt tg pa an la kn fb fh nb te wt bh) (As := [.ref (qb 0), .int (nI j), .int (nI e0), .int (nI e1)]) (rest := []) hx hb hml hown hts hK hP hD hS hT [0, 1, 2, 3, 4, 5, 6, 7, 8, 9, 10, 11, 12] [13, 14, 15, 16, 17, 18, 19, 20, 21, 22, 23, 24, 25] rfl rfl (by decide) (pr_by (mk := mk) l D cI cJ qb te2 wt2 bh2 hfl hL2 (by omega) (by omega) (by omega)) (vx_cwSW 4 hts gL_law_L_by rfl rfl rfl (by decide +kernel) ⟨hRf, hRl⟩) rfl hl.1 rfl (Nat.le_of_ble_eq_true rfl) dL_law_488 ⟨by omega, by omega⟩ (fun v9 w9 H locs hR9 hw9 hP hD hS => ?_)
      obtain ⟨rfl, fb2, fh2, nb2, te2, wt2, bh2, hL2, rfl⟩ := hR9
      refine lv_iload hx hb dL_law_491 (lv_at hl 15 rfl) ?_
      refine lv_iconst (v := nI 4) hx hb dL_law_493 (by decide +kernel) ?_
      refine lv_icmp_ne (tgt := 509) hx hb dL_law_494 (by decide) (fun _ => ?_) (fun h => absurd ((nI_eq (by omega) (by decide)).mp h) hj4)
      refine lv_lload hx hb dL_law_509 (lv_at hl 0 rfl) ?_
      refine eg_lcmp_ne (tgt := 519) hx hb dL_law_511 rfl dL_law_512 (by decide) (fun h => absurd rfl h) (fun _ => ?_)
      refine lv_iconst (v := nI 1) hx hb dL_law_515 (by decide +kernel) ?_
      refine lv_goto (tgt := 520) hx hb dL_law_516 (by decide) ?_
      refine lv_istore (lv' := [(4, .int (nI 1)), (17, .long (byV n mk lt tg pa an e0 e1 j)), (16, .int (nI e0)), (0, .ref b), (1, .ref (qa 0)), (2, .ref (qb 0)), (3, .int (nI m9)), (5, .int (nI k)), (8, .int (nI v)), (9, .int (nI au)), (10, .int (nI (per m9 au))), (11, .int (nI ot)), (12, .int (nI (per m9 ot))), (13, .int (nI en)), (14, .int (nI pl)), (15, .int (nI j))]) hx hb dL_law_520 hl (by decide) rfl (fun ls hl => ?_)
      refine lv_iinc (v := nI (j + 1)) (lv' := [(15, .int (nI (j + 1))), (4, .int (nI 1)), (17, .long (byV n mk lt tg pa an e0 e1 j)), (16, .int (nI e0)), (0, .ref b), (1, .ref (qa 0)), (2, .ref (qb 0)), (3, .int (nI m9)), (5, .int (nI k)), (8, .int (nI v)), (9, .int (nI au)), (10, .int (nI (per m9 au))), (11, .int (nI ot)), (12, .int (nI (per m9 ot))), (13, .int (nI en)), (14, .int (nI pl))]) hx hb dL_law_522 hl (k := 15) rfl (eg_inc1 _) (by decide) rfl (fun ls hl => ?_)
      refine lv_goto (tgt := 425) hx hb dL_law_525 (by decide) ?_
      exact ih (j + 1) _ _ H locs ls (by omega) (by omega) (Or.inr h5n) ⟨n, mk, mk', lt, tg, pa, an, la, kn, kn', fb, fh, nb, te, wt, bh, fb2, fh2, nb2, te2, wt2, bh2, hen, hL, hL2, hR, hP, hD, hS, lv_sub hl [4, 5, 6, 7, 1, 8, 9, 10, 11, 12, 13, 14, 15, 0] rfl⟩
end EGL1
