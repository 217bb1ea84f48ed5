-- THE LAW over the script of fifty 13s (by spec13.py): it ends, and 198 new cells stand behind it at least
abbrev rmB : Room := { frames := 12, cells := 4000, slots := 30000, locals := 434 }
def lw_Q13 (s : State) (o : Outcome) (t : State) : Prop := o = .returned (some (.int 1)) ∧ s.heap.size + 198 ≤ t.heap.size
def lw_Z13 (below : List Frame) (s : State) : State → Prop := fun t => ∃ o, t.status = .running ∧ Ended t below o ∧ lw_Q13 s o t
theorem km50 : ∀ k, k < 100 → nI k - nI k / nI 50 * nI 50 = nI (k % 50) := by decide +kernel
theorem kd50 : ∀ k, k < 100 → nI k / nI 50 = nI (k / 50) := by decide +kernel
theorem km3 : ∀ k, k < 100 → nI k - nI k / nI 3 * nI 3 = nI (k % 3) := by decide +kernel
theorem kz0 : ∀ k, k < 100 → nI 1 + nI (k / 50) = nI (1 + k / 50) := by decide +kernel
theorem kz1 : ∀ k, k < 100 → nI 13 / nI (1 + k / 50) = nI (13 / (1 + k / 50)) := by decide +kernel
theorem kz2 : ∀ k, k < 100 → nI 7 * nI (k / 50) = nI (7 * (k / 50)) := by decide +kernel
theorem kz3 : ∀ k, k < 100 → nI (13 / (1 + k / 50)) + nI (7 * (k / 50)) = nI 13 := by decide +kernel
theorem kn0 : ∀ k, k < 100 → ¬ nI (1 + k / 50) = 0 := by decide +kernel
section EG13
variable {p : Program} {l : Launch} {e : Env} {s : State} {m : MethodId} {below : List Frame} {meth : Method} {c : Code} {b : Nat} {xs : Nat → Int32} {D : va_G} {cI cJ : ClassId} {Q : State → Prop}
/-- the law's own end -/
theorem lw_ret13 (hx : p.tables.exec = Jvm.exec) (hb : c.code = code) (hr : meth.sig.returnType = ret) (hlocks : meth.locks = false) {pc : Nat} {H : Heap} {ls : Array Slot} {locs : List Loc} {cells slots : Nat} {R : Room} (hdg : decode code pc = .ok (.ireturn, 1)) (hz : s.heap.size + 198 ≤ H.size) : W p l e R s m #[Value.ref b] below meth c H locs cells slots (lw_Z13 below s) (F0 m pc ls [.int 1]) := by
  intro T hT X
  obtain ⟨fs, hret, hrun, hended, hW, hframe⟩ := X.leave (v := some (.int 1)) (hlocks := hlocks) (fun h => by rw [hr] at h; cases h)
  have hmeth' : T.vm.method? m = some meth := X.method'
  have hz' : s.heap.size + 198 ≤ (T.setFrames fs).heap.size := by
    show s.heap.size + 198 ≤ T.heap.size
    rw [hT]; exact hz
  refine ⟨T.setFrames fs, ?_, .returned (some (.int 1)), hrun, hended, rfl, hz'⟩
  jvm_step X.here [X.here.top, hx, hb, hdg, hmeth', hr, ret, narrow_b1]
  (try refine ⟨rfl, ?_⟩); (try refine ⟨rfl, ?_⟩)
  first | (intro acts; rw [hret _ acts rfl rfl rfl]) | rw [hret _ _ rfl rfl rfl]
  exact Steps.refl _
/-- what stands during the whole walk -/
def C13 (p : Program) (l : Launch) (s : State) (m : MethodId) (c : Code) (b : Nat) (xs : Nat → Int32) (D : va_G) (cI cJ : ClassId) : Prop :=
  p.tables.exec = Jvm.exec ∧ c.code = code ∧ c.maxLocals = 19 ∧ s.vm.findClass RL = some m.cls ∧ (∀ w ∈ wsL_law, w.before #[Value.ref b] s = true) ∧ va_K D vwCl (tyL cI cJ) s ∧ eg_T (fun q => s.heap.size ≤ q) s s.heap ∧ va_X b 50 xs s s.heap ∧ b < s.heap.size ∧ (∀ j, j < 50 → xs j = nI 13) ∧ l.stackTraces = false
def S13 (s : State) (D : va_G) (cI cJ : ClassId) (qa qb : Nat → Nat) (G : Nat) (lc : List (Nat × Value)) (H : Heap) (locs : List Loc) (ls : Array Slot) : Prop :=
  ∃ te wt bh te2 wt2 bh2 : Nat → Int32, va_P D vwCl (w0 qa cI cJ te wt bh ++ w0 qb cI cJ te2 wt2 bh2) H ∧ va_D (fun q => s.heap.size ≤ q) (w0 qa cI cJ te wt bh ++ w0 qb cI cJ te2 wt2 bh2) ∧ va_S (fun q => s.heap.size ≤ q) s.heap H locs ∧ s.heap.size + G ≤ H.size ∧ lv_has ls 19 lc
set_option maxHeartbeats 4000000 in
set_option maxRecDepth 100000 in
theorem ofloop13 (hC : C13 p l s m c b xs D cI cJ) (qa qb : Nat → Nat) (k G cb sb : Nat) (hk : k < 100) (hcb : cb + 28 ≤ 4000) (hsb : sb + 168 ≤ 30000)
    (kk : ∀ (H : Heap) (locs : List Loc) (ls : Array Slot), S13 s D cI cJ qa qb G [(0, .ref b), (1, .ref (qa 0)), (2, .ref (qb 0)), (3, .int (nI 2)), (4, .int (nI 1)), (5, .int (nI k)), (8, .int (nI 0)), (9, .int (nI 0)), (10, .int (nI 2)), (11, .int (nI 0)), (12, .int (nI 2)), (13, .int (nI 0)), (14, .int (nI 0))] H locs ls → W p l e rmB s m #[Value.ref b] below meth c H locs (cb + 28) (sb + 168) Q (F0 m 422 ls [])) :
    ∀ (f j cells slots : Nat) (H : Heap) (locs : List Loc) (ls : Array Slot), j + f = 7 → cells ≤ cb + 4 * j → slots ≤ sb + 24 * j → S13 s D cI cJ qa qb G [(0, .ref b), (1, .ref (qa 0)), (2, .ref (qb 0)), (3, .int (nI 2)), (4, .int (nI 1)), (5, .int (nI k)), (8, .int (nI 0)), (9, .int (nI 0)), (10, .int (nI 2)), (11, .int (nI 0)), (12, .int (nI 2)), (13, .int (nI 0)), (14, .int (nI 0)), (15, .int (nI j))] H locs ls → W p l e rmB s m #[Value.ref b] below meth c H locs cells slots Q (F0 m 336 ls []) := by
  intro f
  induction f with
  | zero =>
    intro j cells slots H locs ls hf hc hs hW
    obtain ⟨hx, hb, hml, hown, hts, hK, hT, hX, hbl, hxs, hfl⟩ := id hC
    obtain ⟨te, wt, bh, te2, wt2, bh2, hP, hD, hS, hz, hl⟩ := id hW
    refine lv_iload hx hb dL_law_336 (lv_at hl 13 rfl) ?_
    refine lv_bipush (v := nI 7) hx hb dL_law_338 (by decide +kernel) ?_
    refine eg_icmp_ge (tgt := 422) hx hb dL_law_340 (by decide) (by omega) (by decide) (fun h => ?_) (fun hj => by omega)
    exact W.widen (by omega) (by omega) (kk H locs ls ⟨te, wt, bh, te2, wt2, bh2, hP, hD, hS, by omega, lv_sub hl [0, 1, 2, 3, 4, 5, 6, 7, 8, 9, 10, 11, 12] rfl⟩)
  | succ f ih =>
    intro j cells slots H locs ls hf hc hs hW
    obtain ⟨hx, hb, hml, hown, hts, hK, hT, hX, hbl, hxs, hfl⟩ := id hC
    obtain ⟨te, wt, bh, te2, wt2, bh2, hP, hD, hS, hz, hl⟩ := id hW
    refine lv_iload hx hb dL_law_336 (lv_at hl 13 rfl) ?_
    refine lv_bipush (v := nI 7) hx hb dL_law_338 (by decide +kernel) ?_
    refine eg_icmp_ge (tgt := 422) hx hb dL_law_340 (by decide) (by omega) (by decide) (fun h => ?_) (fun hj => ?_)
    · exact W.widen (by omega) (by omega) (kk H locs ls ⟨te, wt, bh, te2, wt2, bh2, hP, hD, hS, by omega, lv_sub hl [0, 1, 2, 3, 4, 5, 6, 7, 8, 9, 10, 11, 12] rfl⟩)
    refine lv_iload hx hb dL_law_343 (lv_at hl 4 rfl) ?_
    refine lv_if_eq (tgt := 422) hx hb dL_law_345 (by decide) (fun h => absurd h (by decide +kernel)) (fun _ => ?_)
    refine lv_iload hx hb dL_law_348 (lv_at hl 5 rfl) ?_
    refine lv_iconst (v := nI 3) hx hb dL_law_350 (by decide +kernel) ?_
    refine lv_irem hx hb dL_law_351 (by decide +kernel) ?_
    refine eg_top (km3 k hk) ?_
    refine lv_iconst (v := nI 2) hx hb dL_law_352 (by decide +kernel) ?_
    refine lv_icmp_ne (tgt := 422) hx hb dL_law_353 (by decide) (fun h => ?_) (fun _ => ?_)
    · exact W.widen (by omega) (by omega) (kk H locs ls ⟨te, wt, bh, te2, wt2, bh2, hP, hD, hS, by omega, lv_sub hl [0, 1, 2, 3, 4, 5, 6, 7, 8, 9, 10, 11, 12] rfl⟩)
    refine lv_aload_n hx hb dL_law_356 rfl (lv_at hl 1 rfl) ?_
    refine lv_iload hx hb dL_law_357 (lv_at hl 13 rfl) ?_
    refine lv_iload hx hb dL_law_359 (lv_at hl 7 rfl) ?_
    refine lv_iload hx hb dL_law_361 (lv_at hl 12 rfl) ?_
    refine eg_callLg (wc := w0 qa cI cJ te wt bh) (wr := w0 qb cI cJ te2 wt2 bh2) (As := [.ref (qa 0), .int (nI j), .int (nI 0), .int (nI 0)]) (rest := []) hx hb hml hown hts hK hP hD hS hT [0, 1, 2, 3, 4, 5, 6, 7, 8, 9, 10, 11, 12] [13, 14, 15, 16, 17, 18, 19, 20, 21, 22, 23, 24, 25] rfl rfl (by decide) (of0 l D cI cJ qa te wt bh hfl (a := 0) (by decide) j (by omega)) (vx_cwSW 4 hts gL_law_L_of rfl rfl rfl (by decide +kernel) ⟨Nat.le_of_ble_eq_true rfl, Nat.le_of_ble_eq_true rfl⟩) rfl hl.1 rfl (Nat.le_of_ble_eq_true rfl) dL_law_363 ⟨by show _ ≤ 4000; omega, by show _ ≤ 30000; omega⟩ (fun v9 w9 H locs hg9 hR9 hw9 hP hD hS => ?_)
    obtain ⟨rfl, te, wt, bh, rfl⟩ := hR9
    have hz : s.heap.size + (G + 0) ≤ H.size := by omega
    refine lv_aload_n hx hb dL_law_366 rfl (lv_at hl 2 rfl) ?_
    refine lv_iload hx hb dL_law_367 (lv_at hl 13 rfl) ?_
    refine lv_iload hx hb dL_law_369 (lv_at hl 8 rfl) ?_
    refine lv_iload hx hb dL_law_371 (lv_at hl 12 rfl) ?_
    refine eg_callLg (wc := w0 qb cI cJ te2 wt2 bh2) (wr := w0 qa cI cJ te wt bh) (As := [.ref (qb 0), .int (nI j), .int (nI 2), .int (nI 0)]) (rest := [.int (rO j)]) hx hb hml hown hts hK hP hD hS hT [0, 1, 2, 3, 4, 5, 6, 7, 8, 9, 10, 11, 12] [13, 14, 15, 16, 17, 18, 19, 20, 21, 22, 23, 24, 25] rfl rfl (by decide) (of0 l D cI cJ qb te2 wt2 bh2 hfl (a := 2) (by decide) j (by omega)) (vx_cwSW 4 hts gL_law_L_of rfl rfl rfl (by decide +kernel) ⟨Nat.le_of_ble_eq_true rfl, Nat.le_of_ble_eq_true rfl⟩) rfl hl.1 rfl (Nat.le_of_ble_eq_true rfl) dL_law_373 ⟨by show _ ≤ 4000; omega, by show _ ≤ 30000; omega⟩ (fun v9 w9 H locs hg9 hR9 hw9 hP hD hS => ?_)
    obtain ⟨rfl, te2, wt2, bh2, rfl⟩ := hR9
    have hz : s.heap.size + (G + 0) ≤ H.size := by omega
    refine lv_icmp_ne (tgt := 413) hx hb dL_law_376 (by decide) (fun h => absurd rfl h) (fun _ => ?_)
    refine lv_iload hx hb dL_law_379 (lv_at hl 13 rfl) ?_
    refine lv_iconst (v := nI 4) hx hb dL_law_381 (by decide +kernel) ?_
    refine eg_icmp_gt (tgt := 409) hx hb dL_law_382 (by decide) (by omega) (by decide) (fun h => ?_) (fun h => ?_)
    · refine lv_iconst (v := nI 1) hx hb dL_law_409 (by decide +kernel) ?_
      refine lv_goto (tgt := 414) hx hb dL_law_410 (by decide) ?_
      refine lv_istore (lv' := [(4, .int (nI 1)), (0, .ref b), (1, .ref (qa 0)), (2, .ref (qb 0)), (3, .int (nI 2)), (5, .int (nI k)), (8, .int (nI 0)), (9, .int (nI 0)), (10, .int (nI 2)), (11, .int (nI 0)), (12, .int (nI 2)), (13, .int (nI 0)), (14, .int (nI 0)), (15, .int (nI j))]) hx hb dL_law_414 hl (by decide) rfl (fun ls hl => ?_)
      refine lv_iinc (v := nI (j + 1)) (lv' := [(15, .int (nI (j + 1))), (4, .int (nI 1)), (0, .ref b), (1, .ref (qa 0)), (2, .ref (qb 0)), (3, .int (nI 2)), (5, .int (nI k)), (8, .int (nI 0)), (9, .int (nI 0)), (10, .int (nI 2)), (11, .int (nI 0)), (12, .int (nI 2)), (13, .int (nI 0)), (14, .int (nI 0))]) hx hb dL_law_416 hl (k := 13) rfl (eg_inc1 _) (by decide) rfl (fun ls hl => ?_)
      refine lv_goto (tgt := 336) hx hb dL_law_419 (by decide) ?_
      exact ih (j + 1) _ _ H locs ls (by omega) (by omega) (by omega) ⟨te, wt, bh, te2, wt2, bh2, hP, hD, hS, by omega, lv_sub hl [2, 3, 4, 5, 1, 6, 7, 8, 9, 10, 11, 12, 13, 0] rfl⟩
    · refine lv_aload_n hx hb dL_law_385 rfl (lv_at hl 1 rfl) ?_
      refine lv_iload hx hb dL_law_386 (lv_at hl 13 rfl) ?_
      refine lv_iload hx hb dL_law_388 (lv_at hl 7 rfl) ?_
      refine lv_iload hx hb dL_law_390 (lv_at hl 9 rfl) ?_
      refine eg_callLg (wc := w0 qa cI cJ te wt bh) (wr := w0 qb cI cJ te2 wt2 bh2) (As := [.ref (qa 0), .int (nI j), .int (nI 0), .int (nI 0)]) (rest := []) hx hb hml hown hts hK hP hD hS hT [0, 1, 2, 3, 4, 5, 6, 7, 8, 9, 10, 11, 12] [13, 14, 15, 16, 17, 18, 19, 20, 21, 22, 23, 24, 25] rfl rfl (by decide) (set0 l D cI cJ qa te wt bh (a := 0) (b := 0) (by decide) (by decide) j (by omega)) (vx_cwSW 4 hts gL_law_L_set rfl rfl rfl (by decide +kernel) ⟨Nat.le_of_ble_eq_true rfl, Nat.le_of_ble_eq_true rfl⟩) rfl hl.1 rfl (Nat.le_of_ble_eq_true rfl) dL_law_392 ⟨by show _ ≤ 4000; omega, by show _ ≤ 30000; omega⟩ (fun v9 w9 H locs hg9 hR9 hw9 hP hD hS => ?_)
      obtain ⟨rfl, te, wt, bh, rfl⟩ := hR9
      have hz : s.heap.size + (G + 0) ≤ H.size := by omega
      refine lv_aload_n hx hb dL_law_395 rfl (lv_at hl 2 rfl) ?_
      refine lv_iload hx hb dL_law_396 (lv_at hl 13 rfl) ?_
      refine lv_iload hx hb dL_law_398 (lv_at hl 8 rfl) ?_
      refine lv_iload hx hb dL_law_400 (lv_at hl 10 rfl) ?_
      refine eg_callLg (wc := w0 qb cI cJ te2 wt2 bh2) (wr := w0 qa cI cJ te wt bh) (As := [.ref (qb 0), .int (nI j), .int (nI 2), .int (nI 2)]) (rest := [.long (rS j)]) hx hb hml hown hts hK hP hD hS hT [0, 1, 2, 3, 4, 5, 6, 7, 8, 9, 10, 11, 12] [13, 14, 15, 16, 17, 18, 19, 20, 21, 22, 23, 24, 25] rfl rfl (by decide) (set0 l D cI cJ qb te2 wt2 bh2 (a := 2) (b := 2) (by decide) (by decide) j (by omega)) (vx_cwSW 4 hts gL_law_L_set rfl rfl rfl (by decide +kernel) ⟨Nat.le_of_ble_eq_true rfl, Nat.le_of_ble_eq_true rfl⟩) rfl hl.1 rfl (Nat.le_of_ble_eq_true rfl) dL_law_402 ⟨by show _ ≤ 4000; omega, by show _ ≤ 30000; omega⟩ (fun v9 w9 H locs hg9 hR9 hw9 hP hD hS => ?_)
      obtain ⟨rfl, te2, wt2, bh2, rfl⟩ := hR9
      have hz : s.heap.size + (G + 0) ≤ H.size := by omega
      refine eg_lcmp_ne (tgt := 413) hx hb dL_law_405 rfl dL_law_406 (by decide) (fun h => absurd rfl h) (fun _ => ?_)
      refine lv_iconst (v := nI 1) hx hb dL_law_409 (by decide +kernel) ?_
      refine lv_goto (tgt := 414) hx hb dL_law_410 (by decide) ?_
      refine lv_istore (lv' := [(4, .int (nI 1)), (0, .ref b), (1, .ref (qa 0)), (2, .ref (qb 0)), (3, .int (nI 2)), (5, .int (nI k)), (8, .int (nI 0)), (9, .int (nI 0)), (10, .int (nI 2)), (11, .int (nI 0)), (12, .int (nI 2)), (13, .int (nI 0)), (14, .int (nI 0)), (15, .int (nI j))]) hx hb dL_law_414 hl (by decide) rfl (fun ls hl => ?_)
      refine lv_iinc (v := nI (j + 1)) (lv' := [(15, .int (nI (j + 1))), (4, .int (nI 1)), (0, .ref b), (1, .ref (qa 0)), (2, .ref (qb 0)), (3, .int (nI 2)), (5, .int (nI k)), (8, .int (nI 0)), (9, .int (nI 0)), (10, .int (nI 2)), (11, .int (nI 0)), (12, .int (nI 2)), (13, .int (nI 0)), (14, .int (nI 0))]) hx hb dL_law_416 hl (k := 13) rfl (eg_inc1 _) (by decide) rfl (fun ls hl => ?_)
      refine lv_goto (tgt := 336) hx hb dL_law_419 (by decide) ?_
      exact ih (j + 1) _ _ H locs ls (by omega) (by omega) (by omega) ⟨te, wt, bh, te2, wt2, bh2, hP, hD, hS, by omega, lv_sub hl [2, 3, 4, 5, 1, 6, 7, 8, 9, 10, 11, 12, 13, 0] rfl⟩
set_option maxHeartbeats 4000000 in
set_option maxRecDepth 100000 in
theorem loop13 (hC : C13 p l s m c b xs D cI cJ) (hr : meth.sig.returnType = ret) (hlocks : meth.locks = false) (qa qb : Nat → Nat) :
    ∀ (f k : Nat) (H : Heap) (locs : List Loc) (ls : Array Slot), k + f = 100 → 1 ≤ k → S13 s D cI cJ qa qb (2 * (k - 1)) [(0, .ref b), (1, .ref (qa 0)), (2, .ref (qb 0)), (3, .int (nI 2)), (4, .int (nI 1)), (5, .int (nI k))] H locs ls → W p l e rmB s m #[Value.ref b] below meth c H locs (26 + 31 * (k - 1)) (1356 + 186 * (k - 1)) (lw_Z13 below s) (F0 m 32 ls []) := by
  intro f
  induction f with
  | zero =>
    intro k H locs ls hf h1 hW
    obtain ⟨hx, hb, hml, hown, hts, hK, hT, hX, hbl, hxs, hfl⟩ := id hC
    obtain ⟨te, wt, bh, te2, wt2, bh2, hP, hD, hS, hz, hl⟩ := id hW
    refine lv_iload hx hb dL_law_32 (lv_at hl 5 rfl) ?_
    refine lv_bipush (v := nI 100) hx hb dL_law_34 (by decide +kernel) ?_
    refine eg_icmp_ge (tgt := 534) hx hb dL_law_36 (by decide) (by omega) (by decide) (fun _ => ?_) (fun h => by omega)
    refine lv_iload hx hb dL_law_534 (lv_at hl 4 rfl) ?_
    exact lw_ret13 hx hb hr hlocks dL_law_536 (by omega)
  | succ f ih =>
    intro k H locs ls hf h1 hW
    obtain ⟨hx, hb, hml, hown, hts, hK, hT, hX, hbl, hxs, hfl⟩ := id hC
    obtain ⟨te, wt, bh, te2, wt2, bh2, hP, hD, hS, hz, hl⟩ := id hW
    have hk : k < 100 := by omega
    refine lv_iload hx hb dL_law_32 (lv_at hl 5 rfl) ?_
    refine lv_bipush (v := nI 100) hx hb dL_law_34 (by decide +kernel) ?_
    refine eg_icmp_ge (tgt := 534) hx hb dL_law_36 (by decide) (by omega) (by decide) (fun h => by omega) (fun hk => ?_)
    refine lv_iload hx hb dL_law_39 (lv_at hl 4 rfl) ?_
    refine lv_if_eq (tgt := 534) hx hb dL_law_41 (by decide) (fun h => absurd h (by decide +kernel)) (fun _ => ?_)
    refine lv_aload_n hx hb dL_law_44 rfl (lv_at hl 0 rfl) ?_
    refine lv_iload hx hb dL_law_45 (lv_at hl 5 rfl) ?_
    refine lv_bipush (v := nI 50) hx hb dL_law_47 (by decide +kernel) ?_
    refine lv_irem hx hb dL_law_49 (by decide +kernel) ?_
    refine eg_top (km50 k hk) ?_
    refine eg_callD (rest := []) hx hb hml hown hts (hX.kept (hS.2.1 b hbl (Nat.not_le.mpr hbl))) (c_L_drawn l b 50 xs (k % 50) (Nat.mod_lt _ (by decide)) (by decide)) (va_cwS 2 hts gL_law_L_drawn rfl rfl rfl (by decide +kernel) ⟨Nat.le_of_ble_eq_true rfl, Nat.le_of_ble_eq_true rfl⟩) hl.1 rfl (Nat.le_of_ble_eq_true rfl) dL_law_50 ⟨by show _ ≤ 4000; omega, by show _ ≤ 30000; omega⟩ ?_
    refine eg_top (y9 := nI 13) (by rw [hxs (k % 50) (Nat.mod_lt _ (by decide))]; decide +kernel) ?_
    refine lv_iconst (v := nI 1) hx hb dL_law_53 (by decide +kernel) ?_
    refine lv_iload hx hb dL_law_54 (lv_at hl 5 rfl) ?_
    refine lv_bipush (v := nI 50) hx hb dL_law_56 (by decide +kernel) ?_
    refine lv_idiv hx hb dL_law_58 (by decide +kernel) ?_
    refine eg_top (kd50 k hk) ?_
    refine lv_iadd hx hb dL_law_59 ?_
    refine eg_top (kz0 k hk) ?_
    refine lv_idiv hx hb dL_law_60 (kn0 k hk) ?_
    refine eg_top (kz1 k hk) ?_
    refine lv_bipush (v := nI 7) hx hb dL_law_61 (by decide +kernel) ?_
    refine lv_iload hx hb dL_law_63 (lv_at hl 5 rfl) ?_
    refine lv_bipush (v := nI 50) hx hb dL_law_65 (by decide +kernel) ?_
    refine lv_idiv hx hb dL_law_67 (by decide +kernel) ?_
    refine eg_top (kd50 k hk) ?_
    refine lv_imul hx hb dL_law_68 ?_
    refine eg_top (kz2 k hk) ?_
    refine lv_iadd hx hb dL_law_69 ?_
    refine eg_top (kz3 k hk) ?_
    refine lv_istore (lv' := [(6, .int (nI 13)), (0, .ref b), (1, .ref (qa 0)), (2, .ref (qb 0)), (3, .int (nI 2)), (4, .int (nI 1)), (5, .int (nI k))]) hx hb dL_law_70 hl (by decide) rfl (fun ls hl => ?_)
    refine lv_iload hx hb dL_law_72 (lv_at hl 0 rfl) ?_
    refine lv_bipush (v := nI 14) hx hb dL_law_74 (by decide +kernel) ?_
    refine lv_irem hx hb dL_law_76 (by decide +kernel) ?_
    refine eg_top (y9 := nI 13) (by decide +kernel) ?_
    refine lv_istore (lv' := [(7, .int (nI 13)), (6, .int (nI 13)), (0, .ref b), (1, .ref (qa 0)), (2, .ref (qb 0)), (3, .int (nI 2)), (4, .int (nI 1)), (5, .int (nI k))]) hx hb dL_law_77 hl (by decide) rfl (fun ls hl => ?_)
    refine lv_iload hx hb dL_law_79 (lv_at hl 1 rfl) ?_
    refine lv_bipush (v := nI 14) hx hb dL_law_81 (by decide +kernel) ?_
    refine lv_idiv hx hb dL_law_83 (by decide +kernel) ?_
    refine eg_top (y9 := nI 0) (by decide +kernel) ?_
    refine lv_istore (lv' := [(8, .int (nI 0)), (7, .int (nI 13)), (6, .int (nI 13)), (0, .ref b), (1, .ref (qa 0)), (2, .ref (qb 0)), (3, .int (nI 2)), (4, .int (nI 1)), (5, .int (nI k))]) hx hb dL_law_84 hl (by decide) rfl (fun ls hl => ?_)
    refine lv_iload hx hb dL_law_86 (lv_at hl 0 rfl) ?_
    refine lv_iconst (v := nI 4) hx hb dL_law_88 (by decide +kernel) ?_
    refine lv_irem hx hb dL_law_89 (by decide +kernel) ?_
    refine eg_top (y9 := nI 0) (by decide +kernel) ?_
    refine lv_istore (lv' := [(9, .int (nI 0)), (8, .int (nI 0)), (7, .int (nI 13)), (6, .int (nI 13)), (0, .ref b), (1, .ref (qa 0)), (2, .ref (qb 0)), (3, .int (nI 2)), (4, .int (nI 1)), (5, .int (nI k))]) hx hb dL_law_90 hl (by decide) rfl (fun ls hl => ?_)
    refine lv_iload hx hb dL_law_92 (lv_at hl 0 rfl) ?_
    refine lv_iload_n hx hb dL_law_94 rfl (lv_at hl 7 rfl) ?_
    refine lv_iadd hx hb dL_law_95 ?_
    refine eg_top (y9 := nI 2) (by decide +kernel) ?_
    refine lv_iconst (v := nI 4) hx hb dL_law_96 (by decide +kernel) ?_
    refine lv_irem hx hb dL_law_97 (by decide +kernel) ?_
    refine eg_top (y9 := nI 2) (by decide +kernel) ?_
    refine lv_istore (lv' := [(10, .int (nI 2)), (9, .int (nI 0)), (8, .int (nI 0)), (7, .int (nI 13)), (6, .int (nI 13)), (0, .ref b), (1, .ref (qa 0)), (2, .ref (qb 0)), (3, .int (nI 2)), (4, .int (nI 1)), (5, .int (nI k))]) hx hb dL_law_98 hl (by decide) rfl (fun ls hl => ?_)
    refine lv_iload hx hb dL_law_100 (lv_at hl 2 rfl) ?_
    refine lv_iconst (v := nI 4) hx hb dL_law_102 (by decide +kernel) ?_
    refine lv_idiv hx hb dL_law_103 (by decide +kernel) ?_
    refine eg_top (y9 := nI 0) (by decide +kernel) ?_
    refine lv_iconst (v := nI 4) hx hb dL_law_104 (by decide +kernel) ?_
    refine lv_irem hx hb dL_law_105 (by decide +kernel) ?_
    refine eg_top (y9 := nI 0) (by decide +kernel) ?_
    refine lv_istore (lv' := [(11, .int (nI 0)), (10, .int (nI 2)), (9, .int (nI 0)), (8, .int (nI 0)), (7, .int (nI 13)), (6, .int (nI 13)), (0, .ref b), (1, .ref (qa 0)), (2, .ref (qb 0)), (3, .int (nI 2)), (4, .int (nI 1)), (5, .int (nI k))]) hx hb dL_law_106 hl (by decide) rfl (fun ls hl => ?_)
    refine lv_iload hx hb dL_law_108 (lv_at hl 0 rfl) ?_
    refine lv_iload_n hx hb dL_law_110 rfl (lv_at hl 9 rfl) ?_
    refine lv_iadd hx hb dL_law_111 ?_
    refine eg_top (y9 := nI 2) (by decide +kernel) ?_
    refine lv_iconst (v := nI 4) hx hb dL_law_112 (by decide +kernel) ?_
    refine lv_irem hx hb dL_law_113 (by decide +kernel) ?_
    refine eg_top (y9 := nI 2) (by decide +kernel) ?_
    refine lv_istore (lv' := [(12, .int (nI 2)), (11, .int (nI 0)), (10, .int (nI 2)), (9, .int (nI 0)), (8, .int (nI 0)), (7, .int (nI 13)), (6, .int (nI 13)), (0, .ref b), (1, .ref (qa 0)), (2, .ref (qb 0)), (3, .int (nI 2)), (4, .int (nI 1)), (5, .int (nI k))]) hx hb dL_law_114 hl (by decide) rfl (fun ls hl => ?_)
    refine lv_aload_n hx hb dL_law_116 rfl (lv_at hl 8 rfl) ?_
    refine eg_callV (w := w0 qa cI cJ te wt bh) (As := []) (rest := []) hx hb hml hown hts hK (eg_cut hP [0, 1, 2, 3, 4, 5, 6, 7, 8, 9, 10, 11, 12] rfl) (c_X0_events l D cI cJ qa 0 z0 z0 z0 zl zl zl zl (-1) z0 z0 te wt bh) (cwV 0 hts gL_law_X0_events rfl rfl rfl (by decide +kernel) ⟨Nat.le_of_ble_eq_true rfl, Nat.le_of_ble_eq_true rfl⟩) (va_recv hK (eg_cut (wc := w0 qa cI cJ te wt bh) hP [0, 1, 2, 3, 4, 5, 6, 7, 8, 9, 10, 11, 12] rfl) (ci := 0) (q0 := 0) rfl rfl) rfl hl.1 rfl (Nat.le_of_ble_eq_true rfl) dL_law_117 ⟨by show _ ≤ 4000; omega, by show _ ≤ 30000; omega⟩ ?_
    refine lv_istore (lv' := [(13, .int (nI 0)), (12, .int (nI 2)), (11, .int (nI 0)), (10, .int (nI 2)), (9, .int (nI 0)), (8, .int (nI 0)), (7, .int (nI 13)), (6, .int (nI 13)), (0, .ref b), (1, .ref (qa 0)), (2, .ref (qb 0)), (3, .int (nI 2)), (4, .int (nI 1)), (5, .int (nI k))]) hx hb dL_law_120 hl (by decide) rfl (fun ls hl => ?_)
    refine lv_iload hx hb dL_law_122 (lv_at hl 5 rfl) ?_
    refine lv_bipush (v := nI 16) hx hb dL_law_124 (by decide +kernel) ?_
    refine lv_idiv hx hb dL_law_126 (by decide +kernel) ?_
    refine eg_top (y9 := nI 0) (by decide +kernel) ?_
    refine lv_aload_n hx hb dL_law_127 rfl (lv_at hl 9 rfl) ?_
    refine lv_iconst (v := nI 0) hx hb dL_law_128 (by decide +kernel) ?_
    refine lv_iload hx hb dL_law_129 (lv_at hl 4 rfl) ?_
    refine lv_iconst (v := nI 0) hx hb dL_law_131 (by decide +kernel) ?_
    refine eg_callLg (wc := w0 qa cI cJ te wt bh) (wr := w0 qb cI cJ te2 wt2 bh2) (As := [.ref (qa 0), .int (nI 0), .int (nI 0), .int (nI 0)]) (rest := [.int (nI 0)]) hx hb hml hown hts hK hP hD hS hT [0, 1, 2, 3, 4, 5, 6, 7, 8, 9, 10, 11, 12] [13, 14, 15, 16, 17, 18, 19, 20, 21, 22, 23, 24, 25] rfl rfl (by decide) (of0 l D cI cJ qa te wt bh hfl (a := 0) (by decide) 0 (by omega)) (vx_cwSW 4 hts gL_law_L_of rfl rfl rfl (by decide +kernel) ⟨Nat.le_of_ble_eq_true rfl, Nat.le_of_ble_eq_true rfl⟩) rfl hl.1 rfl (Nat.le_of_ble_eq_true rfl) dL_law_132 ⟨by show _ ≤ 4000; omega, by show _ ≤ 30000; omega⟩ (fun v9 w9 H locs hg9 hR9 hw9 hP hD hS => ?_)
    obtain ⟨rfl, te, wt, bh, rfl⟩ := hR9
    have hz : s.heap.size + (2 * (k - 1) + 0) ≤ H.size := by omega
    refine lv_iconst (v := nI 1) hx hb dL_law_135 (by decide +kernel) ?_
    refine lv_iadd hx hb dL_law_136 ?_
    refine eg_top (y9 := nI 1) (by decide +kernel) ?_
    refine lv_irem hx hb dL_law_137 (by decide +kernel) ?_
    refine eg_top (y9 := nI 0) (by decide +kernel) ?_
    refine lv_istore (lv' := [(14, .int (nI 0)), (13, .int (nI 0)), (12, .int (nI 2)), (11, .int (nI 0)), (10, .int (nI 2)), (9, .int (nI 0)), (8, .int (nI 0)), (7, .int (nI 13)), (6, .int (nI 13)), (0, .ref b), (1, .ref (qa 0)), (2, .ref (qb 0)), (3, .int (nI 2)), (4, .int (nI 1)), (5, .int (nI k))]) hx hb dL_law_138 hl (by decide) rfl (fun ls hl => ?_)
    refine lv_iload hx hb dL_law_140 (lv_at hl 7 rfl) ?_
    refine lv_bipush (v := nI 7) hx hb dL_law_142 (by decide +kernel) ?_
    refine lv_icmp_ge (tgt := 192) hx hb dL_law_144 (by decide) (fun _ => ?_) (fun h => absurd (by decide +kernel) h)
    refine lv_iload hx hb dL_law_192 (lv_at hl 7 rfl) ?_
    refine lv_bipush (v := nI 9) hx hb dL_law_194 (by decide +kernel) ?_
    refine lv_icmp_ge (tgt := 230) hx hb dL_law_196 (by decide) (fun _ => ?_) (fun h => absurd (by decide +kernel) h)
    refine lv_iload hx hb dL_law_230 (lv_at hl 7 rfl) ?_
    refine lv_bipush (v := nI 13) hx hb dL_law_232 (by decide +kernel) ?_
    refine lv_icmp_ge (tgt := 268) hx hb dL_law_234 (by decide) (fun _ => ?_) (fun h => absurd (by decide +kernel) h)
    refine lv_aload_n hx hb dL_law_268 rfl (lv_at hl 10 rfl) ?_
    refine lv_iconst (v := nI 2) hx hb dL_law_269 (by decide +kernel) ?_
    refine lv_iload hx hb dL_law_270 (lv_at hl 5 rfl) ?_
    refine lv_iload hx hb dL_law_272 (lv_at hl 6 rfl) ?_
    refine lv_iconst (v := nI 4) hx hb dL_law_274 (by decide +kernel) ?_
    refine lv_idiv hx hb dL_law_275 (by decide +kernel) ?_
    refine eg_top (y9 := nI 0) (by decide +kernel) ?_
    refine lv_iload hx hb dL_law_276 (lv_at hl 1 rfl) ?_
    refine lv_iconst (v := nI 1) hx hb dL_law_278 (by decide +kernel) ?_
    refine lv_iadd hx hb dL_law_279 ?_
    refine eg_top (y9 := nI 1) (by decide +kernel) ?_
    refine lv_irem hx hb dL_law_280 (by decide +kernel) ?_
    refine eg_top (y9 := nI 0) (by decide +kernel) ?_
    refine eg_callLg (wc := w0 qa cI cJ te wt bh) (wr := w0 qb cI cJ te2 wt2 bh2) (As := [.ref (qa 0), .int (nI 2), .int (nI 0), .int (nI 0)]) (rest := []) hx hb hml hown hts hK hP hD hS hT [13, 14, 15, 16, 17, 18, 19, 20, 21, 22, 23, 24, 25] [0, 1, 2, 3, 4, 5, 6, 7, 8, 9, 10, 11, 12] rfl rfl (by decide) (does0 l D cI cJ qa te wt bh hfl (a := 0) (by decide)) (vx_cwSW 4 hts gL_law_L_does rfl rfl rfl (by decide +kernel) ⟨Nat.le_of_ble_eq_true rfl, Nat.le_of_ble_eq_true rfl⟩) rfl hl.1 rfl (Nat.le_of_ble_eq_true rfl) dL_law_281 ⟨by show _ ≤ 4000; omega, by show _ ≤ 30000; omega⟩ (fun v9 w9 H locs hg9 hR9 hw9 hP hD hS => ?_)
    obtain ⟨rfl, te, wt, bh, rfl⟩ := hR9
    have hz : s.heap.size + (2 * (k - 1) + 1) ≤ H.size := by omega
    refine lv_aload_n hx hb dL_law_284 rfl (lv_at hl 11 rfl) ?_
    refine lv_iconst (v := nI 2) hx hb dL_law_285 (by decide +kernel) ?_
    refine lv_iload hx hb dL_law_286 (lv_at hl 4 rfl) ?_
    refine lv_iload hx hb dL_law_288 (lv_at hl 6 rfl) ?_
    refine lv_iconst (v := nI 4) hx hb dL_law_290 (by decide +kernel) ?_
    refine lv_idiv hx hb dL_law_291 (by decide +kernel) ?_
    refine eg_top (y9 := nI 0) (by decide +kernel) ?_
    refine lv_iload hx hb dL_law_292 (lv_at hl 1 rfl) ?_
    refine lv_iconst (v := nI 1) hx hb dL_law_294 (by decide +kernel) ?_
    refine lv_iadd hx hb dL_law_295 ?_
    refine eg_top (y9 := nI 1) (by decide +kernel) ?_
    refine lv_irem hx hb dL_law_296 (by decide +kernel) ?_
    refine eg_top (y9 := nI 0) (by decide +kernel) ?_
    refine eg_callLg (wc := w0 qb cI cJ te2 wt2 bh2) (wr := w0 qa cI cJ te wt bh) (As := [.ref (qb 0), .int (nI 2), .int (nI 2), .int (nI 0)]) (rest := [.int (-8)]) hx hb hml hown hts hK hP hD hS hT [0, 1, 2, 3, 4, 5, 6, 7, 8, 9, 10, 11, 12] [13, 14, 15, 16, 17, 18, 19, 20, 21, 22, 23, 24, 25] rfl rfl (by decide) (does0 l D cI cJ qb te2 wt2 bh2 hfl (a := 2) (by decide)) (vx_cwSW 4 hts gL_law_L_does rfl rfl rfl (by decide +kernel) ⟨Nat.le_of_ble_eq_true rfl, Nat.le_of_ble_eq_true rfl⟩) rfl hl.1 rfl (Nat.le_of_ble_eq_true rfl) dL_law_297 ⟨by show _ ≤ 4000; omega, by show _ ≤ 30000; omega⟩ (fun v9 w9 H locs hg9 hR9 hw9 hP hD hS => ?_)
    obtain ⟨rfl, te2, wt2, bh2, rfl⟩ := hR9
    have hz : s.heap.size + (2 * (k - 1) + 2) ≤ H.size := by omega
    refine lv_icmp_ne (tgt := 307) hx hb dL_law_300 (by decide) (fun h => absurd rfl h) (fun _ => ?_)
    refine lv_iconst (v := nI 1) hx hb dL_law_303 (by decide +kernel) ?_
    refine lv_goto (tgt := 308) hx hb dL_law_304 (by decide) ?_
    refine lv_istore (lv' := [(4, .int (nI 1)), (14, .int (nI 0)), (13, .int (nI 0)), (12, .int (nI 2)), (11, .int (nI 0)), (10, .int (nI 2)), (9, .int (nI 0)), (8, .int (nI 0)), (7, .int (nI 13)), (6, .int (nI 13)), (0, .ref b), (1, .ref (qa 0)), (2, .ref (qb 0)), (3, .int (nI 2)), (5, .int (nI k))]) hx hb dL_law_308 hl (by decide) rfl (fun ls hl => ?_)
    refine lv_iload hx hb dL_law_310 (lv_at hl 0 rfl) ?_
    refine lv_if_eq (tgt := 330) hx hb dL_law_312 (by decide) (fun h => absurd h (by decide +kernel)) (fun _ => ?_)
    refine lv_aload_n hx hb dL_law_315 rfl (lv_at hl 11 rfl) ?_
    refine eg_callV (w := w0 qa cI cJ te wt bh) (As := []) (rest := []) hx hb hml hown hts hK (eg_cut hP [0, 1, 2, 3, 4, 5, 6, 7, 8, 9, 10, 11, 12] rfl) (c_X0_events l D cI cJ qa 0 z0 z0 z0 zl zl zl zl (-1) z0 z0 te wt bh) (cwV 0 hts gL_law_X0_events rfl rfl rfl (by decide +kernel) ⟨Nat.le_of_ble_eq_true rfl, Nat.le_of_ble_eq_true rfl⟩) (va_recv hK (eg_cut (wc := w0 qa cI cJ te wt bh) hP [0, 1, 2, 3, 4, 5, 6, 7, 8, 9, 10, 11, 12] rfl) (ci := 0) (q0 := 0) rfl rfl) rfl hl.1 rfl (Nat.le_of_ble_eq_true rfl) dL_law_316 ⟨by show _ ≤ 4000; omega, by show _ ≤ 30000; omega⟩ ?_
    refine lv_aload_n hx hb dL_law_319 rfl (lv_at hl 12 rfl) ?_
    refine eg_callV (w := w0 qb cI cJ te2 wt2 bh2) (As := []) (rest := [.int (nI 0)]) hx hb hml hown hts hK (eg_cut hP [13, 14, 15, 16, 17, 18, 19, 20, 21, 22, 23, 24, 25] rfl) (c_X0_events l D cI cJ qb 0 z0 z0 z0 zl zl zl zl (-1) z0 z0 te2 wt2 bh2) (cwV 0 hts gL_law_X0_events rfl rfl rfl (by decide +kernel) ⟨Nat.le_of_ble_eq_true rfl, Nat.le_of_ble_eq_true rfl⟩) (va_recv hK (eg_cut (wc := w0 qb cI cJ te2 wt2 bh2) hP [13, 14, 15, 16, 17, 18, 19, 20, 21, 22, 23, 24, 25] rfl) (ci := 0) (q0 := 0) rfl rfl) rfl hl.1 rfl (Nat.le_of_ble_eq_true rfl) dL_law_320 ⟨by show _ ≤ 4000; omega, by show _ ≤ 30000; omega⟩ ?_
    refine lv_icmp_ne (tgt := 330) hx hb dL_law_323 (by decide) (fun h => absurd h (by decide +kernel)) (fun _ => ?_)
    refine lv_iconst (v := nI 1) hx hb dL_law_326 (by decide +kernel) ?_
    refine lv_goto (tgt := 331) hx hb dL_law_327 (by decide) ?_
    refine lv_istore (lv' := [(4, .int (nI 1)), (14, .int (nI 0)), (13, .int (nI 0)), (12, .int (nI 2)), (11, .int (nI 0)), (10, .int (nI 2)), (9, .int (nI 0)), (8, .int (nI 0)), (7, .int (nI 13)), (6, .int (nI 13)), (0, .ref b), (1, .ref (qa 0)), (2, .ref (qb 0)), (3, .int (nI 2)), (5, .int (nI k))]) hx hb dL_law_331 hl (by decide) rfl (fun ls hl => ?_)
    refine lv_iconst (v := nI 0) hx hb dL_law_333 (by decide +kernel) ?_
    refine lv_istore (lv' := [(15, .int (nI 0)), (4, .int (nI 1)), (14, .int (nI 0)), (13, .int (nI 0)), (12, .int (nI 2)), (11, .int (nI 0)), (10, .int (nI 2)), (9, .int (nI 0)), (8, .int (nI 0)), (7, .int (nI 13)), (6, .int (nI 13)), (0, .ref b), (1, .ref (qa 0)), (2, .ref (qb 0)), (3, .int (nI 2)), (5, .int (nI k))]) hx hb dL_law_334 hl (by decide) rfl (fun ls hl => ?_)
    refine ofloop13 hC qa qb k (2 * (k - 1) + 2) (26 + 31 * (k - 1) + 3) (1356 + 186 * (k - 1) + 18) hk (by omega) (by omega) (fun H locs ls hW => ?_) 7 0 _ _ H locs ls rfl (by omega) (by omega) ⟨te, wt, bh, te2, wt2, bh2, hP, hD, hS, by omega, lv_sub hl [11, 12, 13, 14, 1, 15, 8, 7, 6, 5, 4, 3, 2, 0] rfl⟩
    obtain ⟨te, wt, bh, te2, wt2, bh2, hP, hD, hS, hz, hl⟩ := id hW
    refine lv_iconst (v := nI 0) hx hb dL_law_422 (by decide +kernel) ?_
    refine lv_istore (lv' := [(15, .int (nI 0)), (0, .ref b), (1, .ref (qa 0)), (2, .ref (qb 0)), (3, .int (nI 2)), (4, .int (nI 1)), (5, .int (nI k)), (8, .int (nI 0)), (9, .int (nI 0)), (10, .int (nI 2)), (11, .int (nI 0)), (12, .int (nI 2)), (13, .int (nI 0)), (14, .int (nI 0))]) hx hb dL_law_423 hl (by decide) rfl (fun ls hl => ?_)
    refine lv_iload hx hb dL_law_425 (lv_at hl 0 rfl) ?_
    refine lv_iconst (v := nI 5) hx hb dL_law_427 (by decide +kernel) ?_
    refine lv_icmp_ge (tgt := 528) hx hb dL_law_428 (by decide) (fun h => absurd h (by decide +kernel)) (fun _ => ?_)
    refine lv_iload hx hb dL_law_431 (lv_at hl 5 rfl) ?_
    refine lv_if_eq (tgt := 528) hx hb dL_law_433 (by decide) (fun h => absurd h (by decide +kernel)) (fun _ => ?_)
    refine lv_iload hx hb dL_law_436 (lv_at hl 12 rfl) ?_
    refine lv_if_le (tgt := 528) hx hb dL_law_438 (by decide) (fun _ => ?_) (fun h => absurd (by decide +kernel) h)
    refine lv_iinc (v := nI (k + 1)) (lv' := [(5, .int (nI (k + 1))), (15, .int (nI 0)), (0, .ref b), (1, .ref (qa 0)), (2, .ref (qb 0)), (3, .int (nI 2)), (4, .int (nI 1)), (8, .int (nI 0)), (9, .int (nI 0)), (10, .int (nI 2)), (11, .int (nI 0)), (12, .int (nI 2)), (13, .int (nI 0)), (14, .int (nI 0))]) hx hb dL_law_528 hl (k := 6) rfl (eg_inc1 _) (by decide) rfl (fun ls hl => ?_)
    refine lv_goto (tgt := 32) hx hb dL_law_531 (by decide) ?_
    exact W.widen (by omega) (by omega) (ih (k + 1) H locs ls (by omega) (by omega) ⟨te, wt, bh, te2, wt2, bh2, hP, hD, hS, by omega, lv_sub hl [2, 3, 4, 5, 6, 0] rfl⟩)
end EG13
