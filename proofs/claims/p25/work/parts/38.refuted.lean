-- THE CLAIM IS FALSE AS PRINTED: on the script of fifty 13s the law ends, and 198 new cells stand behind it at least: the claim allows 161
def lw_P (b : Addr) (xs : List Int32) (args : Array Value) (s : State) : Prop := args = #[.ref b] ∧ s.IntsAt b xs ∧ xs.length ≤ 260 ∧ (Jvm.Cond.and given_1 narrow_1).before args s = true
theorem lw_pre_spec {args : Array Value} {s : State} (h : (Jvm.Cond.and given_1 narrow_1).before args s = true) (hr : rest_1_c.before args s = true) : ∃ (b : Addr) (xs : List Int32), lw_P b xs args s := by
  have hs := flat_of_before _ h
  have hq := flat_of_before _ hr
  have hc : (Cond.count 1).before args s = true := hs _ (by decide +kernel)
  have harr : (Cond.arrayOf (.arg 0) .int).before args s = true := hs _ (by decide +kernel)
  have hle : (Cond.le (.length (.arg 0)) (.int 260)).before args s = true := hs _ (by decide +kernel)
  have hlen : (Cond.isInt (.length (.arg 0))).before args s = true := hq _ (by decide +kernel)
  have hall : (Cond.all (.arg 0) (.isInt (.elem (.arg 0) (.index 0)))).before args s = true := hq _ (by decide +kernel)
  obtain ⟨b, xs, hb, hx⟩ := State.ints_of_pre rfl harr hlen hall
  have hsm : xs.length < 2 ^ 31 := hx.choose_spec.2.2.2
  have hev : (Term.length (.arg 0)).eval args s none [] s = some (.int xs.length.toInt32) := hx.length_eval hb
  have hv := Cond.le_ints hev (show (Term.int 260).eval args s none [] s = some (.int 260) from rfl)
  have hd : xs.length.toInt32 ≤ 260 := by
    simpa [Cond.before, Cond.holds, hv] using hle
  have hN : xs.length ≤ 260 := (Int32.ofNat_le_ofNat hsm (by decide)).mp (show Int32.ofNat xs.length ≤ Int32.ofNat 260 from hd)
  exact ⟨b, xs, Cond.one_arg hc (show args[0]? = some (.ref b) from hb), hx, hN, h⟩
def cells13 : Array Value := (List.replicate 50 (.int 13)).toArray
def about13 : State := start1.aboutOf cells13
theorem code13 {w : Cond} (hc : su_isCode w = true) (h : w.before start1.args0 start1.about = true) : w.before start1.args0 about13 = true := by
  cases w <;> first | exact h | (exact absurd hc (by decide)) | (simp [su_isCode] at hc)
set_option maxRecDepth 16384 in
theorem o13_1_0 : (tables_1_1.take 40).all (fun c => su_isCode c || c.before start1.args0 about13) = true := by decide +kernel
set_option maxRecDepth 16384 in
theorem o13_1_1 : ((tables_1_1.drop 40).take 40).all (fun c => su_isCode c || c.before start1.args0 about13) = true := by decide +kernel
set_option maxRecDepth 16384 in
theorem o13_1_2 : (((tables_1_1.drop 40).drop 40).take 40).all (fun c => su_isCode c || c.before start1.args0 about13) = true := by decide +kernel
set_option maxRecDepth 16384 in
theorem o13_1_3 : ((((tables_1_1.drop 40).drop 40).drop 40).take 40).all (fun c => su_isCode c || c.before start1.args0 about13) = true := by decide +kernel
set_option maxRecDepth 16384 in
theorem o13_1_4 : (((((tables_1_1.drop 40).drop 40).drop 40).drop 40).take 40).all (fun c => su_isCode c || c.before start1.args0 about13) = true := by decide +kernel
set_option maxRecDepth 16384 in
theorem o13_1_5 : (((((tables_1_1.drop 40).drop 40).drop 40).drop 40).drop 40).all (fun c => su_isCode c || c.before start1.args0 about13) = true := by decide +kernel
set_option maxRecDepth 16384 in
theorem o13_2_0 : (tables_1_2.take 40).all (fun c => su_isCode c || c.before start1.args0 about13) = true := by decide +kernel
set_option maxRecDepth 16384 in
theorem o13_2_1 : ((tables_1_2.drop 40).take 40).all (fun c => su_isCode c || c.before start1.args0 about13) = true := by decide +kernel
set_option maxRecDepth 16384 in
theorem o13_2_2 : (((tables_1_2.drop 40).drop 40).take 40).all (fun c => su_isCode c || c.before start1.args0 about13) = true := by decide +kernel
set_option maxRecDepth 16384 in
theorem o13_2_3 : (((tables_1_2.drop 40).drop 40).drop 40).all (fun c => su_isCode c || c.before start1.args0 about13) = true := by decide +kernel
theorem o13_1 : tables_1_1.all (fun c => su_isCode c || c.before start1.args0 about13) = true := start1.su_all_split _ 40 tables_1_1 o13_1_0 (start1.su_all_split _ 40 (tables_1_1.drop 40) o13_1_1 (start1.su_all_split _ 40 ((tables_1_1.drop 40).drop 40) o13_1_2 (start1.su_all_split _ 40 (((tables_1_1.drop 40).drop 40).drop 40) o13_1_3 (start1.su_all_split _ 40 ((((tables_1_1.drop 40).drop 40).drop 40).drop 40) o13_1_4 o13_1_5))))
theorem o13_2 : tables_1_2.all (fun c => su_isCode c || c.before start1.args0 about13) = true := start1.su_all_split _ 40 tables_1_2 o13_2_0 (start1.su_all_split _ 40 (tables_1_2.drop 40) o13_2_1 (start1.su_all_split _ 40 ((tables_1_2.drop 40).drop 40) o13_2_2 o13_2_3))
theorem words13_1 : ∀ c ∈ tables_1_1, c.before start1.args0 about13 = true := fun c h => su_words o13_1 (fun w hw => code13 (List.mem_filter.mp hw).2 (start1.codes_hold_1 w hw)) c h
theorem words13_2 : ∀ c ∈ tables_1_2, c.before start1.args0 about13 = true := fun c h => su_words o13_2 (fun w hw => code13 (List.mem_filter.mp hw).2 (start1.codes_hold_2 w hw)) c h
theorem words13 : ∀ c ∈ (Cond.code x code maxLocals ret :: tables_1), c.before start1.args0 about13 = true := by
  intro c hc
  rcases List.mem_cons.mp hc with h | h
  · rw [h]; exact code13 rfl start1.word_code
  · have h1 : c ∈ tables_1_1 ++ tables_1_2 := h
    rcases List.mem_append.mp h1 with h2 | h1
    · exact words13_1 c h2
    · exact words13_2 c h1
theorem given13 : (Cond.and given_1 narrow_1).before start1.args0 about13 = true := by decide +kernel
theorem rest13 : rest_1_c.before start1.args0 about13 = true := by decide +kernel
theorem fit13 : argsFit about13.vm ⟨0, 0⟩ start1.args0 = true := by decide +kernel
theorem heap13 : heapFits about13 = true := by decide +kernel
set_option maxRecDepth 16384 in
theorem at13 : AtStart classFile x code maxLocals ret World_1 tables_1 room_1 Calls_1 rest_1 Pre_1 launch0 start1.p0 start1.e0 about13 ⟨0, 0⟩ start1.args0 Lib.HandBits.below0 :=
  ⟨lists_1, trivial, launch0.admits_env _ _ _, launch0.least_env, fairChoices_fair.cas, fairChoices_fair.clock, rfl, fit13, heap13,
    (Spec.applies_iff rfl).mpr ⟨rfl, rfl, rfl, by decide +kernel, by decide +kernel, by decide +kernel, launch0.hasRoom_least _ room_1 (by decide +kernel) (by decide +kernel) (by decide +kernel) (by decide +kernel) (by decide +kernel) (by decide +kernel), atoms_intro words13⟩,
    trivial, rest13, given13⟩
set_option maxRecDepth 16384 in
theorem room13 : (headSpec (Cond.code x code maxLocals ret :: tables_1) rmB).applies x start1.e0.platform about13 = true :=
  (Spec.applies_iff rfl).mpr ⟨rfl, rfl, rfl, by decide +kernel, by decide +kernel, by decide +kernel, launch0.hasRoom_least _ rmB (by decide +kernel) (by decide +kernel) (by decide +kernel) (by decide +kernel) (by decide +kernel) (by decide +kernel), atoms_intro words13⟩
theorem X13 : va_X 0 50 (fun _ => 13) about13 about13.heap := by
  obtain ⟨b, xs, hb, ⟨scr, harrAt, hlist, hof, hsmall⟩, hlen, -⟩ := lw_pre_spec given13 rest13
  have hb0 : b = 0 := by
    have h : (#[Value.ref 0] : Array Value) = #[Value.ref b] := hb
    injection h with h
    injection h with h
    injection h with h
    exact h.symm
  subst hb0
  obtain ⟨hcb, hkn, -, -⟩ := State.arrayAt?_spec harrAt
  have he : about13.heap[0]? = some { cls := 12, slots := cells13, vm := .none } := rfl
  have hs : scr = { cls := 12, slots := cells13, vm := .none } := Option.some.inj (hcb.symm.trans he)
  refine ⟨scr, hcb, hof, hkn, by rw [hs]; rfl, fun j hj => ?_⟩
  rw [hs]
  show (List.replicate 50 (Value.int 13)).toArray[j]? = some (.int 13)
  rw [List.getElem?_toArray, List.getElem?_replicate, if_pos hj]
/-- **THE CLAIM IS FALSE AS PRINTED** -/
theorem p25_refuted : ¬ Claimed_1_1 := by
  intro h
  obtain ⟨aL, aW, aA, -, aC, aK, aF, aG, aH, aS, aQ, aR, aP⟩ := at13
  obtain ⟨n, o, h1, h2, h3, hP⟩ := h launch0 rfl aL aW start1.p0 start1.e0 aA aC aK about13 ⟨0, 0⟩ start1.args0 Lib.HandBits.below0 aF aG aH aS ⟨aQ, aR, aP⟩
  obtain ⟨n', o', k1, k2, k3, hQ⟩ := walk13 launch0 rfl 0 (fun _ => 13) (fun _ _ => by decide +kernel) start1.p0 start1.e0 aA aC aK about13 ⟨0, 0⟩ start1.args0 Lib.HandBits.below0 aF ((Spec.applies_iff_loose aF).mp room13).1 ⟨rfl, X13, by decide +kernel, given13⟩ trivial
  obtain ⟨rfl, rfl⟩ := the_end_unique h1 h3 k1 k3
  have e1 := hP.2.2.2.2.2.1
  have e2 : about13.heap.size + 198 ≤ (stepsAlone start1.p0.tables start1.e0 n about13).heap.size := hQ.2
  have e3 : (stepsAlone start1.p0.tables start1.e0 n about13).heap.size ≤ about13.heap.size + 161 := e1
  omega
theorem p25_refuted_both : ¬ (Claimed_1_1 ∧ Claimed_1_2) := fun h => p25_refuted h.1
