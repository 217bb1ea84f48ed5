-- calls that catch: growth
section EGG
variable {l : Launch} {D : va_G} {tys : List (ClassId × FieldType)} {y : MethodName} {ws : List Cond} {rm : Room} {av : List Value} {w : va_W}
/-- a writer's end behind which d new cells stand at least -/
def eg_Wg (D : va_G) (w0 : va_W) (Rq : Option Value → va_W → Prop) (d : Nat) : Array Value → State → Outcome → State → Prop := fun a st oc t => eg_Wq D w0 Rq a st oc t ∧ st.heap.size + d ≤ t.heap.size
abbrev eg_MLg (D : va_G) (tys : List (ClassId × FieldType)) (l : Launch) (y : MethodName) (ws : List Cond) (rm : Room) (av : List Value) (w0 : va_W) (Rq : Option Value → va_W → Prop) (d : Nat) : Prop :=
  Met l y ws rm (va_Pc av (fun U => va_P D vwCl w0 U.heap ∧ va_K D vwCl tys U ∧ va_D (fun _ => True) w0 ∧ eg_T (eg_A w0) U U.heap)) (eg_Wg D w0 Rq d) 1 6 (eg_A w0)
theorem eg_Lg {Rq Rq' : Option Value → va_W → Prop} (h : eg_ML D tys l y ws rm av w Rq) (hR : ∀ v w1, Rq v w1 → Rq' v w1) : eg_MLg D tys l y ws rm av w Rq' 0 :=
  Jvm.Free.MetFree.mono h (fun a s hp => hp) (fun _ _ _ _ _ h => h) (fun a s o s' hp hq => by
    obtain ⟨⟨v, w1, h1, h2, h3, h5, h6⟩, h4⟩ := hq
    exact ⟨⟨⟨v, w1, h1, hR v w1 h2, h3, h5, h6⟩, h6.1⟩, h4⟩)
theorem eg_monoG {d d' : Nat} {Rq Rq' : Option Value → va_W → Prop} (h : eg_MLg D tys l y ws rm av w Rq d) (hd : d' ≤ d) (hR : ∀ v w1, Rq v w1 → Rq' v w1) : eg_MLg D tys l y ws rm av w Rq' d' :=
  Jvm.Free.MetFree.mono h (fun a s hp => hp) (fun _ _ _ _ _ h => h) (fun a s o s' hp hq => by
    obtain ⟨⟨⟨v, w1, h1, h2, h3⟩, h6⟩, h4⟩ := hq
    exact ⟨⟨⟨v, w1, h1, hR v w1 h2, h3⟩, Nat.le_trans (Nat.add_le_add_left hd _) h6⟩, h4⟩)
end EGG
section EGGC
variable {p : Program} {l : Launch} {e : Env} {R : Room} {s : State} {m : MethodId} {args : Array Value} {below : List Frame} {meth : Method} {c : Code} {H : Heap} {locs : List Loc} {cells slots : Nat} {Q : State → Prop}
variable {cc : ByteArray} {pc : Nat} {ls : Array Slot} {rest st0 : List Value} {D : va_G} {tys : List (ClassId × FieldType)} {w wc wr : va_W} {A : Nat → Prop}
variable {y : MethodName} {bytes : ByteArray} {maxL nL n index : Nat} {ret : Option FieldType} {hh : List (Nat × Nat × Nat × Nat)} {ws Ts : List Cond} {rm : Room} {own : String} {As : List Value} {Rq : Option Value → va_W → Prop}
theorem eg_callLg {d : Nat} (hx : p.tables.exec = Jvm.exec) (hb : c.code = cc) (hml : c.maxLocals = nL) (hown : s.vm.findClass own = some m.cls) (hts : ∀ w ∈ Ts, w.before args s = true) (hK : va_K D vwCl tys s) (hP : va_P D vwCl w H) (hD : va_D A w) (hS : va_S A s.heap H locs) (hT9 : eg_T A s s.heap) (isC isR : List Nat) (hC : isC.map (fun i => w[i]?) = wc.map some) (hR : isR.map (fun i => w[i]?) = wr.map some) (hnd : va_nd (isR ++ isC) = true)
    (hM : eg_MLg D tys l y ws rm As wc Rq d) (cw : vx_CSW R s args own index y bytes maxL ret hh ws rm 1 6 n)
    (hn : As.length = n) (hsize : ls.size = nL) (hst : st0 = As.reverse ++ rest) (hroom : (rest.map fun v => v.category).sum ≤ 8) (hdg : decode cc pc = .ok (.invokestatic index, 3)) (hf : cells + 1 ≤ R.cells ∧ slots + 6 ≤ R.slots)
    (kk : ∀ (v : Option Value) (w1 : va_W) (H1 : Heap) (locs1 : List Loc), H.size + d ≤ H1.size → Rq v w1 → w1.map Prod.fst = wc.map Prod.fst → va_P D vwCl (wr ++ w1) H1 → va_D A (wr ++ w1) → va_S A s.heap H1 locs1 → W p l e R s m args below meth c H1 locs1 (cells + 1) (slots + 6) Q (F0 m (pc + 3) ls (v.toList ++ rest))) : W p l e R s m args below meth c H locs cells slots Q (F0 m pc ls st0) := by
  have hD2 : va_D A wc := hD.sub isC (eg_nd_r _ _ hnd) hC
  have hr := vx_runSW (g := F0 m pc ls st0) (H := H) (locs := locs) (cells := cells) (slots := slots) (e := e) (below := below) (meth := meth) (rest := rest) ⟨hx, hb, hml, hown, hts⟩ hM cw ⟨fun a U g mk q => by obtain ⟨q0, qP, qK, qD, qT⟩ := q; exact ⟨q0, qP, va_K.moved (u := U) (U := U.calling g mk a) (Vm.Alike.refl U.vm) qK, qD, qT.calling⟩, fun U hU hW => ⟨rfl, by rw [hU]; exact eg_cut hP isC hC, va_K.moved hW.alike hK, hD2.weaken (fun _ _ _ _ => trivial), hT9.at hS (fun q h => eg_D_in hD2 h) hU hW⟩⟩ rfl hn hsize hst (lv_room hroom) hdg hf
  intro T hT X
  obtain ⟨v', st₀, t, T', L, h0, X', hL, e1, e2, ⟨⟨v, w1, hv, hR2, hw1, hP1, hF⟩, hg9⟩, st⟩ := hr T hT X
  cases hv
  obtain ⟨-, k2, k3⟩ := vx_keep h0 e1 hS (fun q _ h => eg_D_in hD2 h) (fun q h => eg_D_in hD2 h) hL hF
  obtain ⟨j1, j2⟩ := eg_join hP hD isC isR hC hR hnd k2 hw1 (by rw [e1]; exact hP1)
  obtain ⟨t2, a1, b1⟩ := kk v' w1 T'.heap (locs ++ L) (by rw [e1, ← h0]; exact hg9) hR2 hw1 j1 j2 k3 T' rfl X'
  exact ⟨t2, st t2 a1, b1⟩
/-- a static call that reads the script alone -/
theorem eg_callD {b L : Nat} {xs : Nat → Int32} {i : Int32} {v : Option Value} (hx : p.tables.exec = Jvm.exec) (hb : c.code = cc) (hml : c.maxLocals = nL) (hown : s.vm.findClass own = some m.cls) (hts : ∀ w ∈ Ts, w.before args s = true) (hX : va_X b L xs s H)
    (hM : Met l y ws rm (va_Pc [.ref b, .int i] (fun U => va_X b L xs U U.heap)) (eg_R v) 0 0 (fun _ => False)) (cw : CallB R s args own index y bytes maxL ret ws rm 0 0 2 ∧ (Cond.static y).before args s = true)
    (hsize : ls.size = nL) (hst : st0 = [.int i, .ref b] ++ rest) (hroom : (rest.map fun v => v.category).sum ≤ 8) (hdg : decode cc pc = .ok (.invokestatic index, 3)) (hf : cells ≤ R.cells ∧ slots ≤ R.slots)
    (kk : W p l e R s m args below meth c H locs cells slots Q (F0 m (pc + 3) ls (v.toList ++ rest))) : W p l e R s m args below meth c H locs cells slots Q (F0 m pc ls st0) := by
  have hr := W.runS (g := F0 m pc ls st0) (H := H) (locs := locs) (cells := cells) (slots := slots) (e := e) (below := below) (meth := meth) (As := [.ref b, .int i]) (rest := rest) ⟨hx, hb, hml, hown, hts⟩ hM cw ⟨fun a U g mk q => by obtain ⟨q0, qX⟩ := q; exact ⟨q0, va_X.moved (u := U) (U := U.calling g mk a) (Vm.Alike.refl U.vm) qX⟩, fun U hU hW => ⟨rfl, by show va_X b L xs U U.heap; rw [hU]; exact va_X.moved hW.alike hX⟩⟩ rfl rfl hsize hst (lv_room hroom) hdg ⟨hf.1, hf.2⟩
  intro T hT X
  obtain ⟨v', st₀, t, T', L, h0, X', hL, e1, ⟨hv, hh⟩, st⟩ := hr T hT X
  cases hv
  obtain ⟨t2, a1, b1⟩ := kk T' (by rw [e1, hh, h0]) (Stand.forget X' (fun q h => (hL q h).elim))
  exact ⟨t2, st t2 a1, b1⟩
/-- the value on top by another name -/
theorem eg_top {x y9 : Int32} (h : x = y9) (kk : W p l e R s m args below meth c H locs cells slots Q (F0 m pc ls (.int y9 :: rest))) : W p l e R s m args below meth c H locs cells slots Q (F0 m pc ls (.int x :: rest)) := by
  subst h; exact kk
end EGGC
