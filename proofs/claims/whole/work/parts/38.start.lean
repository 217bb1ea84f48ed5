-- the law's loop, and its start (by specS.py)
theorem scr_go {i L : Nat} (hL : L ≤ 2048) (hi : i ≤ L) (h : ¬ Int32.ofNat L - nI 4 < nI i) : i + 4 ≤ L := by
  have h1 : (nI L - nI 4).toInt = (L : Int) - 4 := pk_sub_toInt (by omega) (by omega)
  have h2 : ¬ nI L - nI 4 < nI i := h
  rw [Int32.lt_iff_toInt_lt, h1, nI_toInt (by omega)] at h2
  omega
theorem sw_cases {z : Int32} : (z.toInt < 0 ∨ 21 < z.toInt) ∨ ∃ j : Nat, j < 22 ∧ z = nI j := by
  by_cases h : z.toInt < 0 ∨ 21 < z.toInt
  · exact Or.inl h
  · exact Or.inr (vp_in_of (vp_in_iff.mpr ⟨by omega, by omega⟩) (by omega))
section EGS
variable {p : Program} {l : Launch} {e : Env} {s : State} {m : MethodId} {below : List Frame} {meth : Method} {c : Code} {b L : Nat} {xs : Nat → Int32} {D : va_G} {cI cJ : ClassId}
set_option maxHeartbeats 4000000 in
set_option maxRecDepth 100000 in
theorem law_loop (hC : LwC p l s m c b L xs D cI cJ) (hr : meth.sig.returnType = ret) (hlocks : meth.locks = false) (qx qm : Nat → Nat) (o : Nat) : ∀ (f j : Nat) (H : Heap) (locs : List Loc) (ls : Array Slot), L < 4 * j + 4 * f → 4 * j ≤ L → LwS s D cI cJ b qx qm o (4 * j) H locs ls → W p l e room_1 s m #[Value.ref b] below meth c H locs (22 + j) (1053 + 6 * j) (lw_Z below #[Value.ref b] s) (F0 m 23 ls []) := by
  intro f
  induction f with
  | zero => intro j H locs ls h1 h2; omega
  | succ f ih =>
    intro j H locs ls h1 h2 hW
    obtain ⟨hx, hb, hml, hown, hts, hK, hT, hX, hbl, hL, hfl⟩ := id hC
    obtain ⟨n, mk, lt, tg, pa, an, la, kn, fb, fh, nb, te, wt, bh, row, len, thr, out, hLI, hP, hD, hS, hl⟩ := id hW
    refine lv_iload hx hb dL_law_23 (lv_at hl 4 rfl) ?_
    refine lv_aload_n hx hb dL_law_25 rfl (lv_at hl 0 rfl) ?_
    refine va_slen hx hb hX hbl (Nat.not_le.mpr hbl) hS dL_law_26 ?_
    refine lv_iconst (v := nI 4) hx hb dL_law_27 (by decide +kernel) ?_
    refine lv_isub hx hb dL_law_28 ?_
    refine lv_icmp_gt (tgt := 1481) hx hb dL_law_29 (by decide) (fun _ => ?_) (fun c29 => ?_)
    · refine va_forget (fun q hq => hS.2.2 q hq) ?_
      refine W.widen (k := 1051) (n := 9275) (by omega) (by omega) ?_
      refine lv_iconst (v := 1) hx hb dL_law_1481 (by decide +kernel) ?_
      exact lw_ret hx hb hr hlocks dL_law_1482
    · have hi := scr_go hL h2 c29
      have hback : ∀ (H : Heap) (locs : List Loc) (ls : Array Slot), LwS s D cI cJ b qx qm o (4 * j) H locs ls → W p l e room_1 s m #[Value.ref b] below meth c H locs (22 + j + 1) (1053 + 6 * j + 6) (lw_Z below #[Value.ref b] s) (F0 m 1475 ls []) := by
        intro H locs ls hW
        obtain ⟨n, mk, lt, tg, pa, an, la, kn, fb, fh, nb, te, wt, bh, row, len, thr, out, hLI, hP, hD, hS, hl⟩ := hW
        refine lv_iinc (v := nI (4 * j + 4)) (lv' := [(4, .int (nI (4 * j + 4))), (0, .ref b), (1, .ref (qx 0)), (2, .ref (qm 0)), (3, .ref o)]) hx hb dL_law_1475 hl (k := 4) rfl (eg_inc4 _) (by decide) rfl (fun ls hl => ?_)
        refine lv_goto (tgt := 23) hx hb dL_law_1478 (by decide) ?_
        exact ih (j + 1) H locs ls (by omega) (by omega) ⟨n, mk, lt, tg, pa, an, la, kn, fb, fh, nb, te, wt, bh, row, len, thr, out, hLI, hP, hD, hS, lv_sub hl [1, 2, 3, 4, 0] rfl⟩
      refine lv_aload_n hx hb dL_law_32 rfl (lv_at hl 0 rfl) ?_
      refine lv_iload hx hb dL_law_33 (lv_at hl 4 rfl) ?_
      refine eg_sld hx hb hX hbl hS (by omega) hL dL_law_35 ?_
      refine lv_bipush (v := nI 31) hx hb dL_law_36 (by decide +kernel) ?_
      refine lv_iand hx hb dL_law_38 ?_
      generalize xs (4 * j) &&& nI 31 = z
      rcases sw_cases (z := z) with hz | ⟨k, hk, rfl⟩
      · exact lv_tableOut (tgt := 1475) hx hb dL_law_39 hz (by decide) (W.widen (by omega) (by omega) (hback H locs ls hW))
      · have hc : 22 + j + 1 ≤ 1051 := by omega
        have hs : 1053 + 6 * j + 6 ≤ 9275 := by omega
        obtain rfl | rfl | rfl | rfl | rfl | rfl | rfl | rfl | rfl | rfl | rfl | rfl | rfl | rfl | rfl | rfl | rfl | rfl | rfl | rfl | rfl | rfl : k = 0 ∨ k = 1 ∨ k = 2 ∨ k = 3 ∨ k = 4 ∨ k = 5 ∨ k = 6 ∨ k = 7 ∨ k = 8 ∨ k = 9 ∨ k = 10 ∨ k = 11 ∨ k = 12 ∨ k = 13 ∨ k = 14 ∨ k = 15 ∨ k = 16 ∨ k = 17 ∨ k = 18 ∨ k = 19 ∨ k = 20 ∨ k = 21 := by omega
        · exact lv_tableIn (off := 101) (tgt := 140) hx hb dL_law_39 (by decide +kernel) (by decide +kernel) (by decide +kernel) (by decide) (law_insert hC qx qm o (4 * j) _ _ H locs ls hi hc hs hW hback)
        · exact lv_tableIn (off := 181) (tgt := 220) hx hb dL_law_39 (by decide +kernel) (by decide +kernel) (by decide +kernel) (by decide) (law_delete hC qx qm o (4 * j) _ _ H locs ls hi hc hs hW hback)
        · exact lv_tableIn (off := 249) (tgt := 288) hx hb dL_law_39 (by decide +kernel) (by decide +kernel) (by decide +kernel) (by decide) (law_learn hC qx qm o (4 * j) _ _ H locs ls hi hc hs hW hback)
        · exact lv_tableIn (off := 317) (tgt := 356) hx hb dL_law_39 (by decide +kernel) (by decide +kernel) (by decide +kernel) (by decide) (law_learnEvent hC qx qm o (4 * j) _ _ H locs ls hi hc hs hW hback)
        · exact lv_tableIn (off := 385) (tgt := 424) hx hb dL_law_39 (by decide +kernel) (by decide +kernel) (by decide +kernel) (by decide) (law_events hC qx qm o (4 * j) _ _ H locs ls hi hc hs hW hback)
        · exact lv_tableIn (off := 398) (tgt := 437) hx hb dL_law_39 (by decide +kernel) (by decide +kernel) (by decide +kernel) (by decide) (law_length hC qx qm o (4 * j) _ _ H locs ls hi hc hs hW hback)
        · exact lv_tableIn (off := 454) (tgt := 493) hx hb dL_law_39 (by decide +kernel) (by decide +kernel) (by decide +kernel) (by decide) (law_letterAt hC qx qm o (4 * j) _ _ H locs ls hi hc hs hW hback)
        · exact lv_tableIn (off := 522) (tgt := 561) hx hb dL_law_39 (by decide +kernel) (by decide +kernel) (by decide +kernel) (by decide) (law_letterByList hC qx qm o (4 * j) _ _ H locs ls hi hc hs hW hback)
        · exact lv_tableIn (off := 590) (tgt := 629) hx hb dL_law_39 (by decide +kernel) (by decide +kernel) (by decide +kernel) (by decide) (law_eventAt hC qx qm o (4 * j) _ _ H locs ls hi hc hs hW hback)
        · exact lv_tableIn (off := 658) (tgt := 697) hx hb dL_law_39 (by decide +kernel) (by decide +kernel) (by decide +kernel) (by decide) (law_lengthOf hC qx qm o (4 * j) _ _ H locs ls hi hc hs hW hback)
        · exact lv_tableIn (off := 714) (tgt := 753) hx hb dL_law_39 (by decide +kernel) (by decide +kernel) (by decide +kernel) (by decide) (law_letterOf hC qx qm o (4 * j) _ _ H locs ls hi hc hs hW hback)
        · exact lv_tableIn (off := 782) (tgt := 821) hx hb dL_law_39 (by decide +kernel) (by decide +kernel) (by decide +kernel) (by decide) (law_lettersBy hC qx qm o (4 * j) _ _ H locs ls hi hc hs hW hback)
        · exact lv_tableIn (off := 850) (tgt := 889) hx hb dL_law_39 (by decide +kernel) (by decide +kernel) (by decide +kernel) (by decide) (law_authorOf hC qx qm o (4 * j) _ _ H locs ls hi hc hs hW hback)
        · exact lv_tableIn (off := 906) (tgt := 945) hx hb dL_law_39 (by decide +kernel) (by decide +kernel) (by decide +kernel) (by decide) (law_parents hC qx qm o (4 * j) _ _ H locs ls hi hc hs hW hback)
        · exact lv_tableIn (off := 961) (tgt := 1000) hx hb dL_law_39 (by decide +kernel) (by decide +kernel) (by decide +kernel) (by decide) (law_isLater hC qx qm o (4 * j) _ _ H locs ls hi hc hs hW hback)
        · exact lv_tableIn (off := 1036) (tgt := 1075) hx hb dL_law_39 (by decide +kernel) (by decide +kernel) (by decide +kernel) (by decide) (law_version hC qx qm o (4 * j) _ _ H locs ls hi hc hs hW hback)
        · exact lv_tableIn (off := 1091) (tgt := 1130) hx hb dL_law_39 (by decide +kernel) (by decide +kernel) (by decide +kernel) (by decide) (law_heads hC qx qm o (4 * j) _ _ H locs ls hi hc hs hW hback)
        · exact lv_tableIn (off := 1146) (tgt := 1185) hx hb dL_law_39 (by decide +kernel) (by decide +kernel) (by decide +kernel) (by decide) (law_commonHeads hC qx qm o (4 * j) _ _ H locs ls hi hc hs hW hback)
        · exact lv_tableIn (off := 1213) (tgt := 1252) hx hb dL_law_39 (by decide +kernel) (by decide +kernel) (by decide +kernel) (by decide) (law_concurrent hC qx qm o (4 * j) _ _ H locs ls hi hc hs hW hback)
        · exact lv_tableIn (off := 1269) (tgt := 1308) hx hb dL_law_39 (by decide +kernel) (by decide +kernel) (by decide +kernel) (by decide) (law_critical hC qx qm o (4 * j) _ _ H locs ls hi hc hs hW hback)
        · exact lv_tableIn (off := 1324) (tgt := 1363) hx hb dL_law_39 (by decide +kernel) (by decide +kernel) (by decide +kernel) (by decide) (law_toReplay hC qx qm o (4 * j) _ _ H locs ls hi hc hs hW hback)
        · exact lv_tableIn (off := 1380) (tgt := 1419) hx hb dL_law_39 (by decide +kernel) (by decide +kernel) (by decide +kernel) (by decide) (law_runs hC qx qm o (4 * j) _ _ H locs ls hi hc hs hW hback)
end EGS
theorem stk_off {l : Launch} (h : l.flags = flags0) : l.stackTraces = false := by
  unfold Launch.stackTraces
  rw [h]
  simp [flags0]
theorem hgX0 : ∀ w ∈ u_ws RX0 TX0 14, w ∈ wsX00 := by decide +kernel
theorem hgX1 : ∀ w ∈ u_ws RX1 TX1 10, w ∈ wsX10 := by decide +kernel
/-- what throws need, out of the premises -/
theorem start_T {s : State} {b : Nat} (htb : ∀ w ∈ lw_tbl, w.before #[Value.ref b] s = true) (hgv : (Jvm.Cond.and given_1 narrow_1).before #[Value.ref b] s = true) : eg_T (fun q => s.heap.size ≤ q) s s.heap := by
  have hq := flat_of_before _ hgv
  have hn : ∀ a : Nat, a < s.heap.size → ¬ s.heap.size ≤ a := fun a h => Nat.not_le.mpr h
  have hz : ∀ (k : Nat) (tx : String), (Cond.stringRef RX0 k tx).before #[Value.ref b] s = true → (Cond.exactly (.string RX0 k) "java/lang/String").before #[Value.ref b] s = true → ∃ a, vk_R RX0 k tx a s := by
    intro k tx h1 h2
    obtain ⟨a, _, _, _, ha, -⟩ := Cond.exactly_spec h2
    exact ⟨a, vk_R.of h1 ha⟩
  refine ⟨⟨⟨vx_Zqof (htb (.laysStatic Bundle.tN "UNASSIGNED_STACK" Bundle.steD) (by decide +kernel)) (htb (.initialized Bundle.tN) (by decide +kernel)) (hq (.isRef (.static Bundle.tN "UNASSIGNED_STACK" Bundle.steD)) (by decide +kernel)) hn,
    vx_Zqof (htb (.laysStatic Bundle.tN "SUPPRESSED_SENTINEL" Bundle.listD) (by decide +kernel)) (htb (.initialized Bundle.tN) (by decide +kernel)) (hq (.isRef (.static Bundle.tN "SUPPRESSED_SENTINEL" Bundle.listD)) (by decide +kernel)) hn⟩, ?_⟩, ?_, ?_, ?_, ?_, ?_⟩
  · exact ⟨va_Nw.of rfl (htb (.declares ⟨"java/lang/RuntimeException", "<init>", "(Ljava/lang/String;)V"⟩) (by decide +kernel)), va_Nw.of rfl (htb (.declares ⟨"java/lang/Exception", "<init>", "(Ljava/lang/String;)V"⟩) (by decide +kernel)), va_Nw.of rfl (htb (.declares ⟨"java/lang/Throwable", "<init>", "(Ljava/lang/String;)V"⟩) (by decide +kernel)), va_Nw.of rfl (htb (.castable "java/lang/IndexOutOfBoundsException" "java/lang/IndexOutOfBoundsException") (by decide +kernel)), va_Nw.of rfl (htb (.castable "java/lang/IllegalArgumentException" "java/lang/IllegalArgumentException") (by decide +kernel)), va_Nw.of rfl (htb (.castable "java/lang/IllegalStateException" "java/lang/IllegalStateException") (by decide +kernel)), va_Nc.of (hq (.not (.castable "java/lang/IllegalArgumentException" "java/lang/IndexOutOfBoundsException")) (by decide +kernel)), va_Nc.of (hq (.not (.castable "java/lang/IllegalStateException" "java/lang/IndexOutOfBoundsException")) (by decide +kernel)), va_Nc.of (hq (.not (.castable "java/lang/IllegalStateException" "java/lang/IllegalArgumentException")) (by decide +kernel))⟩
  · exact hz 128 "no such author" (htb _ (by decide +kernel)) (hq _ (by decide +kernel))
  · exact hz 134 "no such event" (htb _ (by decide +kernel)) (hq _ (by decide +kernel))
  · exact hz 136 "no such place" (htb _ (by decide +kernel)) (hq _ (by decide +kernel))
  · exact hz 140 "no room for one more event" (htb _ (by decide +kernel)) (hq _ (by decide +kernel))
  · exact hz 68 "no such letter" (htb _ (by decide +kernel)) (hq _ (by decide +kernel))
theorem arr_K {s : State} {args : Array Value} {ty : FieldType} (h : (Cond.arrayClass ty).before args s = true) (hp : ∀ cA : ClassId, s.vm.findClass ("[" ++ ty.toString) = some cA → va_RA s cA ty) : ∃ cA : ClassId, ArrOfT s cA ty ∧ va_RA s cA ty := by
  obtain ⟨cA, kA, comp, h1, h2, h3⟩ := Cond.arrayClass_spec h
  exact ⟨cA, fun n z => ⟨fun k h => (by cases h), kA, h2, comp, h3⟩, hp cA h1⟩
set_option maxHeartbeats 4000000 in
set_option maxRecDepth 100000 in
theorem whole_start {p : Program} {e : Env} {s : State} {m : MethodId} {below : List Frame} {meth : Method} {c : Code} (l : Launch) (hflags : l.flags = flags0) {b L : Nat} {xs : Nat → Int32} (hL : L ≤ 2048) (C0 : lw_At p s m meth c b L xs) : W p l e room_1 s m #[Value.ref b] below meth c s.heap [] 0 0 (lw_Z below #[Value.ref b] s) (entryFrame m ([Value.ref b] : List Value).toArray 8) := by
  obtain ⟨hx, hb, hr, hml, hown, htb, hX, hbl, hlocks, hgv⟩ := id C0
  have hfl := stk_off hflags
  have hts : ∀ w ∈ wsL_law, w.before #[Value.ref b] s = true := fun w h => htb w (wsL_law_in w h)
  have hA : ∀ q : Nat, s.heap.size ≤ q → (fun q : Nat => s.heap.size ≤ q) q := fun _ h => h
  obtain ⟨c0, iS0, hKn0⟩ := u_known (C := RX0) (T := TX0) (N := 14) (n := 14) htb (fun w h => inX0 w (hgX0 w h)) (htb (.instantiable RX0 14) (by decide +kernel))
  obtain ⟨c1, iS1, hKn1⟩ := u_known (C := RX1) (T := TX1) (N := 10) (n := 10) htb (fun w h => inX1 w (hgX1 w h)) (htb (.instantiable RX1 10) (by decide +kernel))
  obtain ⟨D, hKc⟩ : ∃ D : va_G, ∀ (k : Nat) (q : vw_C), vwCl[k]? = some q → u_Kn s q.1 q.2.1 q.2.2 (D.1 k) (D.2 k) := by
    refine ⟨(fun k => if k = 0 then c0 else c1, fun k => if k = 0 then iS0 else iS1), ?_⟩
    intro k q hq
    match k, hq with
    | 0, hq => cases hq; exact hKn0
    | 1, hq => cases hq; exact hKn1
    | k + 2, hq => simp [vwCl] at hq
  obtain ⟨cI, hI1, hI2⟩ := arr_K (ty := .int) (htb (.arrayClass .int) (by decide +kernel)) (fun _ h => h)
  obtain ⟨cJ, hJ1, hJ2⟩ := arr_K (ty := .long) (htb (.arrayClass .long) (by decide +kernel)) (fun _ h => h)
  have hK : va_K D vwCl (tyL cI cJ) s := by
    refine ⟨hKc, fun k q hq => ?_⟩
    match k, hq with
    | 0, hq => cases hq; exact ⟨hI1, hI2⟩
    | 1, hq => cases hq; exact ⟨hJ1, hJ2⟩
    | k + 2, hq => simp [tyL] at hq
  have hT := start_T htb hgv
  have hS : va_S (fun q : Nat => s.heap.size ≤ q) s.heap s.heap [] := va_S.rf
  have hP : va_P D vwCl [] s.heap := fun k q h => by simp at h
  have hD : va_D (fun q : Nat => s.heap.size ≤ q) [] := ⟨fun i j p q h => by simp at h, fun k q h => by simp at h⟩
  have hl := lv_entry ([.ref b]) (n := 8) (Nat.le_of_ble_eq_true rfl)
  rw [lg_entry_eq]
  generalize (lg_sl ([.ref b]) ++ List.replicate (8 - (lg_sl ([.ref b])).length) Slot.unset).toArray = ls at hl ⊢
  have hl : lv_has ls 8 [(0, .ref b)] := hl
  refine va_new (ci := 0) (fs := [.int 0, .null, .null, .null, .null, .null, .null, .null, .int 0, .null, .null, .null, .null, .null]) (C := RX0) (T := TX0) (N := 14) hx hb htb (fun w h => inX0 w (hgX0 w h)) tyX0 tyX0_ok hown (hts (.classLink RL 8 RX0) (by decide +kernel)) (htb (.instantiable RX0 14) (by decide +kernel)) (hts (.initialized RX0) (by decide +kernel)) hK hP hD hS hA rfl (fun j hj => by obtain rfl | rfl | rfl | rfl | rfl | rfl | rfl | rfl | rfl | rfl | rfl | rfl | rfl | rfl : j = 0 ∨ j = 1 ∨ j = 2 ∨ j = 3 ∨ j = 4 ∨ j = 5 ∨ j = 6 ∨ j = 7 ∨ j = 8 ∨ j = 9 ∨ j = 10 ∨ j = 11 ∨ j = 12 ∨ j = 13 := (by omega) <;> rfl) (Nat.le_of_ble_eq_true rfl) (Nat.le_of_ble_eq_true rfl) dL_law_0 (fun q0 H hP hD hS => ?_)
  have hP : va_P D vwCl [(q0, .inr (0, [.int 0, .null, .null, .null, .null, .null, .null, .null, .int 0, .null, .null, .null, .null, .null]))] H := hP
  have hD : va_D (fun q : Nat => s.heap.size ≤ q) [(q0, .inr (0, [.int 0, .null, .null, .null, .null, .null, .null, .null, .int 0, .null, .null, .null, .null, .null]))] := hD
  refine W.widen (k := 1) (n := 14) (by omega) (by omega) ?_
  refine lv_dup hx hb dL_law_3 rfl ?_
  have hPc := hP.sub (ws' := [(q0, .inr (0, [.int 0, .null, .null, .null, .null, .null, .null, .null, .int 0, .null, .null, .null, .null, .null]))]) [0] rfl
  have hDc := hD.sub (ws' := [(q0, .inr (0, [.int 0, .null, .null, .null, .null, .null, .null, .null, .int 0, .null, .null, .null, .null, .null]))]) [0] (by decide) rfl
  have hFc := va_free (wc := [(q0, .inr (0, [.int 0, .null, .null, .null, .null, .null, .null, .null, .int 0, .null, .null, .null, .null, .null]))]) hD hS hA [0] rfl
  refine va_callv (va_runI (As := []) (rest := [.ref q0]) ⟨hx, hb, hml, hown, hts⟩ (c_X0_init l D cI cJ _ H.size) (cwI 0 hts gL_law_X0_init rfl rfl rfl (hts (.initialized RX0) (by decide +kernel)) (hts (.methodLink RL 84 yX0_init) (by decide +kernel)) (hts (.instanceMethod yX0_init) (by decide +kernel)) rfl (by decide +kernel) ⟨Nat.le_of_ble_eq_true rfl, Nat.le_of_ble_eq_true rfl⟩) ⟨fun a U g mk q => by obtain ⟨q0, q1, qP, qK, qD⟩ := q; exact ⟨q0, q1, qP, va_K.moved (u := U) (U := U.calling g mk a) (Vm.Alike.refl U.vm) qK, qD⟩, fun U hU hW => ⟨rfl, by rw [hU], by rw [hU]; exact hPc, va_K.moved hW.alike hK, hDc.weaken (fun _ _ _ _ => trivial)⟩⟩ rfl rfl hl.1 rfl (lv_room (Nat.le_of_ble_eq_true rfl)) dL_law_4 ⟨Nat.le_of_ble_eq_true rfl, Nat.le_of_ble_eq_true rfl⟩) hS (fun q _ h => hFc q h) hFc (fun qx t H1 locs ht hvm hw hB hz1 hk1 hS => ?_)
  cases hw
  obtain ⟨hP1, hD1⟩ := hB
  rw [ht] at hP1
  obtain ⟨hP, hD⟩ := va_join (wr := []) hP hD [0] [] rfl rfl (by decide) (by decide) hk1 hFc hP1 hD1
  generalize H1 = H at hP hS ⊢
  have hP : va_P D vwCl (wX qx cI cJ (nI 0) (fun _ => 0) (fun _ => 0) (fun _ => 0) (fun _ => 0) (fun _ => 0) (fun _ => 0) (fun _ => 0) (-1) (fun _ => 0) (fun _ => 0) (fun _ => 0) (fun _ => 0) (fun _ => 0)) H := hP
  have hD : va_D (fun q : Nat => s.heap.size ≤ q) (wX qx cI cJ (nI 0) (fun _ => 0) (fun _ => 0) (fun _ => 0) (fun _ => 0) (fun _ => 0) (fun _ => 0) (fun _ => 0) (-1) (fun _ => 0) (fun _ => 0) (fun _ => 0) (fun _ => 0) (fun _ => 0)) := hD
  refine W.widen (k := 13) (n := 678) (by omega) (by omega) ?_
  refine lv_astore_n (lv' := [(1, .ref (qx 0)), (0, .ref b)]) hx hb dL_law_7 rfl hl (by decide) rfl (fun ls hl => ?_)
  refine va_new (ci := 1) (fs := [.null, .null, .null, .null, .null, .int 0, .null, .null, .int 0, .int 0]) (C := RX1) (T := TX1) (N := 10) hx hb htb (fun w h => inX1 w (hgX1 w h)) tyX1 tyX1_ok hown (hts (.classLink RL 85 RX1) (by decide +kernel)) (htb (.instantiable RX1 10) (by decide +kernel)) (hts (.initialized RX1) (by decide +kernel)) hK hP hD hS hA rfl (fun j hj => by obtain rfl | rfl | rfl | rfl | rfl | rfl | rfl | rfl | rfl | rfl : j = 0 ∨ j = 1 ∨ j = 2 ∨ j = 3 ∨ j = 4 ∨ j = 5 ∨ j = 6 ∨ j = 7 ∨ j = 8 ∨ j = 9 := (by omega) <;> rfl) (Nat.le_of_ble_eq_true rfl) (Nat.le_of_ble_eq_true rfl) dL_law_8 (fun q1 H hP hD hS => ?_)
  refine W.widen (k := 14) (n := 688) (by omega) (by omega) ?_
  refine lv_dup hx hb dL_law_11 rfl ?_
  have hPc := hP.sub (ws' := [(q1, .inr (1, [.null, .null, .null, .null, .null, .int 0, .null, .null, .int 0, .int 0]))]) [13] rfl
  have hDc := hD.sub (ws' := [(q1, .inr (1, [.null, .null, .null, .null, .null, .int 0, .null, .null, .int 0, .int 0]))]) [13] (by decide) rfl
  have hFc := va_free (wc := [(q1, .inr (1, [.null, .null, .null, .null, .null, .int 0, .null, .null, .int 0, .int 0]))]) hD hS hA [13] rfl
  refine va_callv (va_runI (As := []) (rest := [.ref q1]) ⟨hx, hb, hml, hown, hts⟩ (c_X1_init l D cI cJ _ H.size) (cwI 0 hts gL_law_X1_init rfl rfl rfl (hts (.initialized RX1) (by decide +kernel)) (hts (.methodLink RL 87 yX1_init) (by decide +kernel)) (hts (.instanceMethod yX1_init) (by decide +kernel)) rfl (by decide +kernel) ⟨Nat.le_of_ble_eq_true rfl, Nat.le_of_ble_eq_true rfl⟩) ⟨fun a U g mk q => by obtain ⟨q0, q1, qP, qK, qD⟩ := q; exact ⟨q0, q1, qP, va_K.moved (u := U) (U := U.calling g mk a) (Vm.Alike.refl U.vm) qK, qD⟩, fun U hU hW => ⟨rfl, by rw [hU], by rw [hU]; exact hPc, va_K.moved hW.alike hK, hDc.weaken (fun _ _ _ _ => trivial)⟩⟩ rfl rfl hl.1 rfl (lv_room (Nat.le_of_ble_eq_true rfl)) dL_law_12 ⟨Nat.le_of_ble_eq_true rfl, Nat.le_of_ble_eq_true rfl⟩) hS (fun q _ h => hFc q h) hFc (fun qm t H1 locs ht hvm hw hB hz1 hk1 hS => ?_)
  cases hw
  obtain ⟨hP1, hD1⟩ := hB
  rw [ht] at hP1
  obtain ⟨hP, hD⟩ := va_join (wr := wX qx cI cJ (nI 0) (fun _ => 0) (fun _ => 0) (fun _ => 0) (fun _ => 0) (fun _ => 0) (fun _ => 0) (fun _ => 0) (-1) (fun _ => 0) (fun _ => 0) (fun _ => 0) (fun _ => 0) (fun _ => 0)) hP hD [13] [0, 1, 2, 3, 4, 5, 6, 7, 8, 9, 10, 11, 12] rfl rfl (by decide) (by decide) hk1 hFc hP1 hD1
  generalize H1 = H at hP hS ⊢
  refine W.widen (k := 21) (n := 1052) (by omega) (by omega) ?_
  refine lv_astore_n (lv' := [(2, .ref (qm 0)), (1, .ref (qx 0)), (0, .ref b)]) hx hb dL_law_15 rfl hl (by decide) rfl (fun ls hl => ?_)
  refine lv_iconst (v := nI 1) hx hb dL_law_16 (by decide +kernel) ?_
  refine eg_newJ hx hb (hts (.arrayClass .long) (by decide +kernel)) hK hP hD hS hA (by decide) (Nat.le_of_ble_eq_true rfl) (Nat.le_of_ble_eq_true rfl) dL_law_17 (fun o H hP hD hS => ?_)
  have hP := hP.sub (ws' := (wO o cJ (fun _ => 0) ++ wX qx cI cJ (nI 0) (fun _ => 0) (fun _ => 0) (fun _ => 0) (fun _ => 0) (fun _ => 0) (fun _ => 0) (fun _ => 0) (-1) (fun _ => 0) (fun _ => 0) (fun _ => 0) (fun _ => 0) (fun _ => 0)) ++ wM qm cI cJ (nI 0) (fun _ => 0) (fun _ => 0) (fun _ => 0) (fun _ => 0) (fun _ => 0) (fun _ => 0) (fun _ => 0) 0 0) [21, 0, 1, 2, 3, 4, 5, 6, 7, 8, 9, 10, 11, 12, 13, 14, 15, 16, 17, 18, 19, 20] rfl
  have hD := hD.sub (ws' := (wO o cJ (fun _ => 0) ++ wX qx cI cJ (nI 0) (fun _ => 0) (fun _ => 0) (fun _ => 0) (fun _ => 0) (fun _ => 0) (fun _ => 0) (fun _ => 0) (-1) (fun _ => 0) (fun _ => 0) (fun _ => 0) (fun _ => 0) (fun _ => 0)) ++ wM qm cI cJ (nI 0) (fun _ => 0) (fun _ => 0) (fun _ => 0) (fun _ => 0) (fun _ => 0) (fun _ => 0) (fun _ => 0) 0 0) [21, 0, 1, 2, 3, 4, 5, 6, 7, 8, 9, 10, 11, 12, 13, 14, 15, 16, 17, 18, 19, 20] (by decide) rfl
  refine W.widen (k := 22) (n := 1053) (by omega) (by omega) ?_
  refine lv_astore_n (lv' := [(3, .ref o), (2, .ref (qm 0)), (1, .ref (qx 0)), (0, .ref b)]) hx hb dL_law_19 rfl hl (by decide) rfl (fun ls hl => ?_)
  refine lv_iconst (v := nI 0) hx hb dL_law_20 (by decide +kernel) ?_
  refine lv_istore (lv' := [(4, .int (nI 0)), (3, .ref o), (2, .ref (qm 0)), (1, .ref (qx 0)), (0, .ref b)]) hx hb dL_law_21 hl (by decide) rfl (fun ls hl => ?_)
  exact law_loop ⟨hx, hb, hml, hown, hts, hK, hT, hX, hbl, hL, hfl⟩ hr hlocks qx qm o (L + 1) 0 H locs ls (by omega) (by omega) ⟨0, _, _, _, _, _, _, _, (-1), _, _, _, _, _, _, _, _, _, LI_0, hP, hD, hS, lv_sub hl [4, 3, 2, 1, 0] rfl⟩
