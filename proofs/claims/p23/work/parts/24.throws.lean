/-! calls that throw -/
section ZT
variable {D : va_G} {ks : Nat → ClassId} {ad : Nat → Nat} {np ng : Nat} {G : Nat → Nat} {MI : Nat → Nat → Int32} {MJ : Nat → Nat → Int64} {XI : Nat → Nat → Int32} {XJ : Nat → Nat → Int64} {Rs : List Nat}
abbrev xNm : List String := ["java/lang/RuntimeException", "java/lang/Exception"]
def xDs : List String := ["java/lang/RuntimeException", "java/lang/Exception", "java/lang/Throwable"]
def xStr : List (Nat × String) := [(57, "term, premium or sum is out of range"), (67, "there are 30 policies"), (183, "there is no such policy"), (190, "the policy has not been in force for a year, or is not any more"), (93, "bonus or charge is out of range"), (95, "scale, step or floor is out of range"), (99, "amount is out of range"), (108, "rate is out of range"), (113, "it is the year 40"), (156, "year or term is out of range"), (167, "term is out of range")]
def zZ (U : State) : Prop := (∀ q ∈ xStr, ∃ a, vk_R RX3 q.1 q.2 a U) ∧ (va_Nw (.castable "java/lang/IllegalArgumentException" "java/lang/IllegalArgumentException") U ∧ va_Nw (.castable "java/lang/IllegalStateException" "java/lang/IllegalStateException") U ∧ va_Nw (.castable "java/lang/IndexOutOfBoundsException" "java/lang/IndexOutOfBoundsException") U) ∧ (True ∧ True) ∧ ∀ Y ∈ xDs, va_Nw (.declares (Bundle.initS Y)) U
def zUn (A : Nat → Prop) (U : State) (H : Heap) : Prop := vx_Zq Bundle.tN "UNASSIGNED_STACK" Bundle.steD A U H ∧ vx_Zq Bundle.tN "SUPPRESSED_SENTINEL" Bundle.listD A U H
def zX (D : va_G) (ks : Nat → ClassId) (U : State) : Prop := zK D ks U ∧ zZ U ∧ zUn (fun q => U.heap.size ≤ q) U U.heap
theorem zZ.calling {U : State} {g : JFrame} {mk : MethodId} {a : Array Value} (h : zZ U) : zZ (U.calling g mk a) := by
  obtain ⟨h1, ⟨h2, h3, h4⟩, ⟨h5, h6⟩, h7⟩ := h
  refine ⟨fun q hq => ?_, ⟨va_Nw.same (u := U) rfl rfl h2, va_Nw.same (u := U) rfl rfl h3, va_Nw.same (u := U) rfl rfl h4⟩, ⟨h5, h6⟩, fun Y hY => va_Nw.same (u := U) rfl rfl (h7 Y hY)⟩
  obtain ⟨a, ha⟩ := h1 q hq
  exact ⟨a, vk_R.same (u := U) rfl ha⟩
theorem zZ.warm {s U : State} (hW : s.WarmedH U.vm) (h : zZ s) : zZ U := by
  obtain ⟨h1, ⟨h2, h3, h4⟩, ⟨h5, h6⟩, h7⟩ := h
  refine ⟨fun q hq => ?_, ⟨va_Nw.warmC hW h2, va_Nw.warmC hW h3, va_Nw.warmC hW h4⟩, ⟨h5, h6⟩, fun Y hY => va_Nw.warmD hW (h7 Y hY)⟩
  obtain ⟨a, ha⟩ := h1 q hq
  exact ⟨a, vk_R.warm hW ha⟩
theorem zUn.moved {A : Nat → Prop} {u U : State} {H : Heap} (hvm : u.vm.Alike U.vm) (h : zUn A u H) : zUn A U H := ⟨vx_Zq.moved hvm h.1, vx_Zq.moved hvm h.2⟩
theorem zUn.kept {A : Nat → Prop} {U : State} {H H1 : Heap} (h : zUn A U H) (hq : ∀ a : Nat, a < H.size → ¬ A a → H1[a]? = H[a]?) : zUn A U H1 := ⟨vx_Zq.kept h.1 hq, vx_Zq.kept h.2 hq⟩
theorem zUn.narrow {A B : Nat → Prop} {U : State} {H : Heap} (h : zUn A U H) (hAB : ∀ q, B q → A q) : zUn B U H := ⟨vx_Zq.narrow h.1 hAB, vx_Zq.narrow h.2 hAB⟩
theorem zX.calling {D : va_G} {ks : Nat → ClassId} {U : State} {g : JFrame} {mk : MethodId} {a : Array Value} (h : zX D ks U) : zX D ks (U.calling g mk a) := ⟨h.1.calling, h.2.1.calling, zUn.moved (u := U) (U := U.calling g mk a) (Vm.Alike.refl U.vm) h.2.2⟩
theorem zX.warm {D : va_G} {ks : Nat → ClassId} {s U : State} (hW : s.WarmedH U.vm) (hh : U.heap = s.heap) (h : zX D ks s) : zX D ks U := ⟨h.1.warm hW, h.2.1.warm hW, by rw [hh]; exact zUn.moved hW.alike h.2.2⟩
def zQF : Array Value → State → Outcome → State → Prop := fun _ _ _ _ => False
def zXC (E : String) : String → State → State → Prop := fun E' st t => E' = E ∧ st.heap.size ≤ t.heap.size ∧ ∀ q : Nat, q < st.heap.size → t.heap[q]? = st.heap[q]?
def zPX (D : va_G) (ks : Nat → ClassId) (As : List Value) (P : Heap → Prop) : Array Value → State → Prop := va_Pc As (fun U => P U.heap ∧ zX D ks U)
theorem zPX.blind {D : va_G} {ks : Nat → ClassId} {As : List Value} {P : Heap → Prop} : FrameBlind (zPX D ks As P) := fun a U g mk q => ⟨q.1, q.2.1, q.2.2.calling⟩
/-- a call that throws E, and changes nothing -/
def zMX (l : Launch) (y : MethodName) (cc : ByteArray) (n : Nat) (ret : Option FieldType) (fr lo : Nat) (D : va_G) (ks : Nat → ClassId) (As : List Value) (P : Heap → Prop) (E : String) : Prop :=
  vx_Met l y (Cond.code y cc n ret :: WS) (zRm fr lo 1 6) (zPX D ks As P) zQF (zXC E) 1 6 (fun _ => False)
theorem zMX.of {l : Launch} {y : MethodName} {cc : ByteArray} {n : Nat} {ret : Option FieldType} {fr lo : Nat} {As : List Value} {P : Heap → Prop} {E : String} (hy : plainName y.cls = true) (hn : (lg_sl As).length ≤ n)
    (body : ∀ (p : Program) (e : Env) (s : State) (m : MethodId) (below : List Frame) (meth : Method) (c : Code) (ls : Array Slot), p.tables.exec = Jvm.exec → c.code = cc → meth.sig.returnType = ret → c.maxLocals = n → s.vm.findClass y.cls = some m.cls → meth.locks = false → (∀ w ∈ WS, w.before As.toArray s = true) → P s.heap → zX D ks s → (∀ x ∈ c.exceptionTable.toList, False) → lv_has ls n (lv_args 0 As) →
      W p l e (zRm fr lo 1 6) s m As.toArray below meth c s.heap [] 0 0 (vx_MQ below zQF (zXC E) As.toArray s 1 6 (fun _ => False)) (F0 m 0 ls [])) : zMX l y cc n ret fr lo D ks As P E := by
  refine vx_ofW (cc := cc) (maxL := n) (ret := ret) hy rfl ?_
  intro p e s m args below meth c s₁ B hml hex hv
  obtain ⟨rfl, hP, hK⟩ := hv
  rw [lg_entry_eq]
  exact body p e s m below meth c _ B.exec B.bytes B.returns hml (findClass_of_methodNamed B.named) B.notSynchronized (fun w hw => atoms_spec (ws := Cond.code y cc n ret :: WS) B.pre w (List.mem_cons_of_mem _ hw)) hP hK hex (lv_entry As hn)
theorem at_a_good : ∀ w ∈ (vx_atS RX3 59 "java/lang/IllegalArgumentException" xNm).filter goodWord, w ∈ WS := by
  intro w hw
  refine ws_in ?_ (List.mem_filter.mp hw).2
  revert w
  decide +kernel
theorem at_a_rest : ∀ w ∈ (vx_atS RX3 59 "java/lang/IllegalArgumentException" xNm).filter (fun w => !goodWord w), w ∈ Cond.castable "java/lang/IllegalArgumentException" "java/lang/IllegalArgumentException" :: xDs.map (fun Y => Cond.declares (Bundle.initS Y)) := by decide +kernel
theorem at_a_ot : ∀ w ∈ vx_atS RX3 59 "java/lang/IllegalArgumentException" xNm, vx_ot w = true := by decide +kernel
theorem at_s_good : ∀ w ∈ (vx_atS RX3 69 "java/lang/IllegalStateException" xNm).filter goodWord, w ∈ WS := by
  intro w hw
  refine ws_in ?_ (List.mem_filter.mp hw).2
  revert w
  decide +kernel
theorem at_s_rest : ∀ w ∈ (vx_atS RX3 69 "java/lang/IllegalStateException" xNm).filter (fun w => !goodWord w), w ∈ Cond.castable "java/lang/IllegalStateException" "java/lang/IllegalStateException" :: xDs.map (fun Y => Cond.declares (Bundle.initS Y)) := by decide +kernel
theorem at_s_ot : ∀ w ∈ vx_atS RX3 69 "java/lang/IllegalStateException" xNm, vx_ot w = true := by decide +kernel
theorem at_b_good : ∀ w ∈ (vx_atS RX3 185 "java/lang/IndexOutOfBoundsException" xNm).filter goodWord, w ∈ WS := by
  intro w hw
  refine ws_in ?_ (List.mem_filter.mp hw).2
  revert w
  decide +kernel
theorem at_b_rest : ∀ w ∈ (vx_atS RX3 185 "java/lang/IndexOutOfBoundsException" xNm).filter (fun w => !goodWord w), w ∈ Cond.castable "java/lang/IndexOutOfBoundsException" "java/lang/IndexOutOfBoundsException" :: xDs.map (fun Y => Cond.declares (Bundle.initS Y)) := by decide +kernel
theorem at_b_ot : ∀ w ∈ vx_atS RX3 185 "java/lang/IndexOutOfBoundsException" xNm, vx_ot w = true := by decide +kernel
section
variable {p : Program} {l : Launch} {e : Env} {R : Room} {s : State} {m : MethodId} {args : Array Value} {below : List Frame} {meth : Method} {c : Code} {cells slots : Nat} {Q : State → Prop}
variable {cc : ByteArray} {pc : Nat} {ls : Array Slot} {rest st0 : List Value} {A : Nat → Prop} {b nL : Nat} {E : String}
theorem z_throw_a (hx : p.tables.exec = Jvm.exec) (hb : c.code = cc) (hst : l.stackTraces = false) (hown : s.vm.findClass RX3 = some m.cls) (hT : ∀ w ∈ WS, w.before args s = true) (hX : zX D ks s) (hex : ∀ x ∈ c.exceptionTable.toList, False) (hlk : meth.locks = false) (hml : c.maxLocals = nL) (hsz : ls.size = nL) {ik is : Nat} {text : String} (hq : (is, text) ∈ xStr) (hcl : Cond.classLink RX3 ik "java/lang/IllegalArgumentException" ∈ WS)
    (d0 : decode cc pc = .ok (.new ik, 3)) (d3 : decode cc (pc + 3) = .ok (.dup, 1)) (d4 : decode cc (pc + 4) = .ok (.ldc is, 2)) (d6 : decode cc (pc + 6) = .ok (.invokespecial 59, 3)) (d9 : decode cc (pc + 9) = .ok (.athrow, 1))
    (hf : 5 < R.frames) (hlo : (rest.map fun v => v.category).sum + 82 ≤ R.locals) (hc : 1 ≤ R.cells) (hs : 6 ≤ R.slots) :
    W p l e R s m args below meth c s.heap [] 0 0 (vx_MQ below zQF (zXC "java/lang/IllegalArgumentException") args s 1 6 (fun _ => False)) (F0 m pc ls rest) := by
  obtain ⟨sa, hstr⟩ := hX.2.1.1 _ hq
  refine vx_throwS (cls := "java/lang/IllegalArgumentException") (names := xNm) (A := fun q => s.heap.size ≤ q) hx hb hst hown (by decide +kernel) (by decide +kernel) (hT _ hcl) (hT _ in_IllegalArgumentException) hstr (vx_hat (B := Cond.castable "java/lang/IllegalArgumentException" "java/lang/IllegalArgumentException" :: xDs.map (fun Y => Cond.declares (Bundle.initS Y))) (fun w hw => hT w (at_a_good w hw)) at_a_rest (vx_c (va_Nw.use rfl hX.2.1.2.1.1) (fun w hw => by obtain ⟨Y, hY, rfl⟩ := List.mem_map.mp hw; exact va_Nw.use rfl (hX.2.1.2.2.2 Y hY)))) ?_ hX.2.2.1 hX.2.2.2 va_S.rf (hsz.trans hml.symm) d0 d3 d4 d6 d9 (fun x hx => (hex x hx).elim) hf hlo (by omega) (by omega) hlk ?_ (fun _ h => nomatch h) (by omega) (by omega)
  · intro w hw
    rcases List.mem_cons.mp hw with rfl | hw
    · rfl
    · rcases List.mem_cons.mp hw with rfl | hw
      · rfl
      · exact at_a_ot w hw
  · intro t _ hz hk
    exact ⟨rfl, hz, hk⟩
theorem z_throw_s (hx : p.tables.exec = Jvm.exec) (hb : c.code = cc) (hst : l.stackTraces = false) (hown : s.vm.findClass RX3 = some m.cls) (hT : ∀ w ∈ WS, w.before args s = true) (hX : zX D ks s) (hex : ∀ x ∈ c.exceptionTable.toList, False) (hlk : meth.locks = false) (hml : c.maxLocals = nL) (hsz : ls.size = nL) {ik is : Nat} {text : String} (hq : (is, text) ∈ xStr) (hcl : Cond.classLink RX3 ik "java/lang/IllegalStateException" ∈ WS)
    (d0 : decode cc pc = .ok (.new ik, 3)) (d3 : decode cc (pc + 3) = .ok (.dup, 1)) (d4 : decode cc (pc + 4) = .ok (.ldc is, 2)) (d6 : decode cc (pc + 6) = .ok (.invokespecial 69, 3)) (d9 : decode cc (pc + 9) = .ok (.athrow, 1))
    (hf : 5 < R.frames) (hlo : (rest.map fun v => v.category).sum + 82 ≤ R.locals) (hc : 1 ≤ R.cells) (hs : 6 ≤ R.slots) :
    W p l e R s m args below meth c s.heap [] 0 0 (vx_MQ below zQF (zXC "java/lang/IllegalStateException") args s 1 6 (fun _ => False)) (F0 m pc ls rest) := by
  obtain ⟨sa, hstr⟩ := hX.2.1.1 _ hq
  refine vx_throwS (cls := "java/lang/IllegalStateException") (names := xNm) (A := fun q => s.heap.size ≤ q) hx hb hst hown (by decide +kernel) (by decide +kernel) (hT _ hcl) (hT _ in_IllegalStateException) hstr (vx_hat (B := Cond.castable "java/lang/IllegalStateException" "java/lang/IllegalStateException" :: xDs.map (fun Y => Cond.declares (Bundle.initS Y))) (fun w hw => hT w (at_s_good w hw)) at_s_rest (vx_c (va_Nw.use rfl hX.2.1.2.1.2.1) (fun w hw => by obtain ⟨Y, hY, rfl⟩ := List.mem_map.mp hw; exact va_Nw.use rfl (hX.2.1.2.2.2 Y hY)))) ?_ hX.2.2.1 hX.2.2.2 va_S.rf (hsz.trans hml.symm) d0 d3 d4 d6 d9 (fun x hx => (hex x hx).elim) hf hlo (by omega) (by omega) hlk ?_ (fun _ h => nomatch h) (by omega) (by omega)
  · intro w hw
    rcases List.mem_cons.mp hw with rfl | hw
    · rfl
    · rcases List.mem_cons.mp hw with rfl | hw
      · rfl
      · exact at_s_ot w hw
  · intro t _ hz hk
    exact ⟨rfl, hz, hk⟩
theorem z_throw_b (hx : p.tables.exec = Jvm.exec) (hb : c.code = cc) (hst : l.stackTraces = false) (hown : s.vm.findClass RX3 = some m.cls) (hT : ∀ w ∈ WS, w.before args s = true) (hX : zX D ks s) (hex : ∀ x ∈ c.exceptionTable.toList, False) (hlk : meth.locks = false) (hml : c.maxLocals = nL) (hsz : ls.size = nL) {ik is : Nat} {text : String} (hq : (is, text) ∈ xStr) (hcl : Cond.classLink RX3 ik "java/lang/IndexOutOfBoundsException" ∈ WS)
    (d0 : decode cc pc = .ok (.new ik, 3)) (d3 : decode cc (pc + 3) = .ok (.dup, 1)) (d4 : decode cc (pc + 4) = .ok (.ldc is, 2)) (d6 : decode cc (pc + 6) = .ok (.invokespecial 185, 3)) (d9 : decode cc (pc + 9) = .ok (.athrow, 1))
    (hf : 5 < R.frames) (hlo : (rest.map fun v => v.category).sum + 82 ≤ R.locals) (hc : 1 ≤ R.cells) (hs : 6 ≤ R.slots) :
    W p l e R s m args below meth c s.heap [] 0 0 (vx_MQ below zQF (zXC "java/lang/IndexOutOfBoundsException") args s 1 6 (fun _ => False)) (F0 m pc ls rest) := by
  obtain ⟨sa, hstr⟩ := hX.2.1.1 _ hq
  refine vx_throwS (cls := "java/lang/IndexOutOfBoundsException") (names := xNm) (A := fun q => s.heap.size ≤ q) hx hb hst hown (by decide +kernel) (by decide +kernel) (hT _ hcl) (hT _ in_IndexOutOfBoundsException) hstr (vx_hat (B := Cond.castable "java/lang/IndexOutOfBoundsException" "java/lang/IndexOutOfBoundsException" :: xDs.map (fun Y => Cond.declares (Bundle.initS Y))) (fun w hw => hT w (at_b_good w hw)) at_b_rest (vx_c (va_Nw.use rfl hX.2.1.2.1.2.2) (fun w hw => by obtain ⟨Y, hY, rfl⟩ := List.mem_map.mp hw; exact va_Nw.use rfl (hX.2.1.2.2.2 Y hY)))) ?_ hX.2.2.1 hX.2.2.2 va_S.rf (hsz.trans hml.symm) d0 d3 d4 d6 d9 (fun x hx => (hex x hx).elim) hf hlo (by omega) (by omega) hlk ?_ (fun _ h => nomatch h) (by omega) (by omega)
  · intro w hw
    rcases List.mem_cons.mp hw with rfl | hw
    · rfl
    · rcases List.mem_cons.mp hw with rfl | hw
      · rfl
      · exact at_b_ot w hw
  · intro t _ hz hk
    exact ⟨rfl, hz, hk⟩
/-- a call in between: it goes on to the caller -/
theorem z_thru {H0 : Heap} (hr : vx_Run p l e R s m args below meth c s.heap [] 0 0 1 6 (F0 m pc ls st0) rest (zQF #[]) (zXC E) (fun _ => False)) (hex : ∀ x ∈ c.exceptionTable.toList, False) (hlk : meth.locks = false) : W p l e R s m args below meth c s.heap [] 0 0 (vx_MQ below zQF (zXC E) args s 1 6 (fun _ => False)) (F0 m pc ls st0) := by
  intro T hT X
  rcases hr T hT X with ⟨_, _, _, _, _, _, _, _, _, _, h, _⟩ | ⟨q, st₀, t, T', L, E', ce, h0, X', hL, e1, e2, ⟨hE, hz, hk⟩, hce, hcv, hcl, st⟩
  · exact h.elim
  · subst hE
    have X2 := Stand.forget (locs := []) X' (fun z h => (hL z h).elim)
    obtain ⟨t2, a1, b1⟩ := vx_out (locs := []) (Qc := zQF) (XC := zXC E') (free := fun _ => False) (mc := 1) (ms := 6) (pc := pc) (ls := ls) (rest := rest) (H := T'.heap) (fun x hx => (hex x hx).elim) hlk (by rw [e1]; exact hce) hcv hcl (fun u hu _ => ⟨rfl, by rw [hu, e1, ← h0]; exact hz, fun q h => by rw [hu, e1, ← h0]; exact hk q (by rw [h0]; exact h)⟩) (fun _ h => nomatch h) (by omega) (by omega) T' rfl X2
    exact ⟨t2, st.trans a1, b1⟩
theorem z_preX {As : List Value} {P : Heap → Prop} (hX : zX D ks s) (hP : P s.heap) : PreS s s.heap (zPX D ks As P) As := ⟨zPX.blind, fun U hU hW => ⟨rfl, by rw [hU]; exact hP, hX.warm hW hU⟩⟩
theorem z_preXV {As : List Value} {P : Heap → Prop} {C : String} (hX : zX D ks s) (hP : P s.heap) {ci : Nat} {T : u_T} {N : Nat} {fs : List Value} (hat : va_at D vwCl (b, .inr (ci, fs)) s.heap) (hc : vwCl[ci]? = some (C, T, N)) : PreV s s.heap C b (zPX D ks (.ref b :: As) P) As := ⟨zPX.blind, z_recv hX.1 hat hc, fun U hU hW => ⟨rfl, by rw [hU]; exact hP, hX.warm hW hU⟩⟩
theorem z_runXV {own : String} {index n2 k : Nat} {y : MethodName} {cy : ByteArray} {ret2 : Option FieldType} {fr lo : Nat} {As : List Value} {Pc : Array Value → State → Prop} {H : Heap} {locs : List Loc} (F : zFx p m c cc nL s args own) (hM : vx_Met l y (Cond.code y cy n2 ret2 :: WS) (zRm fr lo 1 6) Pc zQF (zXC E) 1 6 (fun _ => False)) (w : zcV own index y cy n2 ret2 k) (hp : PreV s H y.cls b Pc As) (hn : As.length = k) (hR : fr + 1 ≤ R.frames ∧ 8 + (n2 + 11) + lo ≤ R.locals) (hsz : ls.size = nL) (hst : st0 = As.reverse ++ .ref b :: rest) (hW : (rest.map fun v => v.category).sum ≤ 8) (hdg : decode cc pc = .ok (.invokevirtual index, 3)) (hf : cells + 1 ≤ R.cells ∧ slots + 6 ≤ R.slots) :
    vx_Run p l e R s m args below meth c H locs cells slots 1 6 (F0 m pc ls st0) rest (zQF #[]) (zXC E) (fun _ => False) :=
  vx_runV F hM ⟨callB_of k F.2.2.2.2 (z_good w.2.2.2.2.1) rfl rfl rfl (F.2.2.2.2 _ w.2.2.2.1) (F.2.2.2.2 _ w.1) w.2.2.2.2.2 hR, F.2.2.2.2 _ w.2.1, F.2.2.2.2 _ w.2.2.1⟩ hp rfl hn hsz hst (lv_room hW) hdg hf
end
set_option maxHeartbeats 4000000 in
set_option maxRecDepth 100000 in
theorem c_X3_knownPolicy_bad (l : Launch) (hst : l.stackTraces = false) (hI : zIn Rs np ng) (q : Int32) (hq : ¬ ∃ j, j < np ∧ q = nI j) : zMX l yX3_knownPolicy cX3_knownPolicy 3 ((some (.object "ProfitsOffice$Policy"))) 6 (82) D ks [.ref (ad 13), .int q] (zP D Rs ad (gS ks ad np ng G MI MJ XI XJ)) "java/lang/IndexOutOfBoundsException" := by
  refine zMX.of (by decide +kernel) (Nat.le_of_ble_eq_true rfl) ?_
  intro p e s m below meth c ls hx hb hr hml hown hlk hT hP hX hex hl
  have hK := hX.1
  have hl : lv_has ls 3 [(0, .ref (ad 13)), (1, .int q)] := hl
  refine lv_iload_n hx hb dX3_knownPolicy_0 rfl (lv_at hl 1 rfl) ?_
  refine lv_if_lt (tgt := 13) hx hb dX3_knownPolicy_1 (by decide) (fun c_1 => ?_) (fun c_1 => ?_)
  · exact z_throw_b hx hb hst hown hT hX hex hlk hml hl.1 (text := "there is no such policy") (by decide) cl_X3_181 dX3_knownPolicy_13 dX3_knownPolicy_16 dX3_knownPolicy_17 dX3_knownPolicy_19 dX3_knownPolicy_22 (Nat.le_of_ble_eq_true rfl) (Nat.le_of_ble_eq_true rfl) (Nat.le_of_ble_eq_true rfl) (Nat.le_of_ble_eq_true rfl)
  · refine lv_iload_n hx hb dX3_knownPolicy_4 rfl (lv_at hl 1 rfl) ?_
    refine lv_aload_n hx hb dX3_knownPolicy_5 rfl (lv_at hl 0 rfl) ?_
    refine gf_X3_11 hx hb hT hown hK (hP.at (hI.1 13 (by decide)) rfl) rfl dX3_knownPolicy_6 ?_
    refine z_plen hx hb hK (hP.at (hI.1 14 (by decide)) rfl) (v := 30) rfl dX3_knownPolicy_9 ?_
    refine lv_icmp_lt (tgt := 23) hx hb dX3_knownPolicy_10 (by decide) (fun c_2 => ?_) (fun c_2 => ?_)
    · refine lv_aload_n hx hb dX3_knownPolicy_23 rfl (lv_at hl 0 rfl) ?_
      refine gf_X3_11 hx hb hT hown hK (hP.at (hI.1 13 (by decide)) rfl) rfl dX3_knownPolicy_24 ?_
      refine lv_iload_n hx hb dX3_knownPolicy_27 rfl (lv_at hl 1 rfl) ?_
      refine z_pald hx hb hK (hP.at (hI.1 14 (by decide)) rfl) (z_vpin c_1 (Int32.not_le.mpr c_2) rfl) dX3_knownPolicy_28 ?_
      have hno : ¬ q.toNatClampNeg < np := fun h => hq (by obtain ⟨j, hj, rfl⟩ := vp_in_of (z_vpin c_1 (Int32.not_le.mpr c_2) rfl : vp_in q 30) (by decide); rw [nI_clamp (by omega)] at h; exact ⟨j, h, rfl⟩)
      rw [show rPol ad np q.toNatClampNeg = none from if_neg hno]
      show W _ _ _ _ _ _ _ _ _ _ _ _ _ _ _ (F0 m 29 ls [.null])
      refine lv_astore_nN (lv' := [(2, .null), (0, .ref (ad 13)), (1, .int q)]) hx hb dX3_knownPolicy_29 rfl hl (by decide) rfl (fun ls hl => ?_)
      refine lv_aload_nN hx hb dX3_knownPolicy_30 rfl (lv_at hl 0 rfl) ?_
      refine lv_ifnonnullN hx hb dX3_knownPolicy_31 ?_
      exact z_throw_b hx hb hst hown hT hX hex hlk hml hl.1 (text := "there is no such policy") (by decide) cl_X3_181 dX3_knownPolicy_34 dX3_knownPolicy_37 dX3_knownPolicy_38 dX3_knownPolicy_40 dX3_knownPolicy_43 (Nat.le_of_ble_eq_true rfl) (Nat.le_of_ble_eq_true rfl) (Nat.le_of_ble_eq_true rfl) (Nat.le_of_ble_eq_true rfl)
    · exact z_throw_b hx hb hst hown hT hX hex hlk hml hl.1 (text := "there is no such policy") (by decide) cl_X3_181 dX3_knownPolicy_13 dX3_knownPolicy_16 dX3_knownPolicy_17 dX3_knownPolicy_19 dX3_knownPolicy_22 (Nat.le_of_ble_eq_true rfl) (Nat.le_of_ble_eq_true rfl) (Nat.le_of_ble_eq_true rfl) (Nat.le_of_ble_eq_true rfl)
set_option maxHeartbeats 4000000 in
set_option maxRecDepth 100000 in
theorem c_X3_checkSurrenderable_no (l : Launch) (hst : l.stackTraces = false) (hI : zIn Rs np ng) (j : Nat) (hj : j < np) (hN : np ≤ 30) (hG : G j < ng) (hno : ¬ (XI 15 j = 0 ∧ 1 ≤ XI 10 2 - XI 11 (G j))) : zMX l yX3_checkSurrenderable cX3_checkSurrenderable 2 ((none : Option FieldType)) 6 (82) D ks [.ref (ad 13), .ref (ad (22 + 4 * j))] (zP D Rs ad (gS ks ad np ng G MI MJ XI XJ)) "java/lang/IllegalStateException" := by
  refine zMX.of (by decide +kernel) (Nat.le_of_ble_eq_true rfl) ?_
  intro p e s m below meth c ls hx hb hr hml hown hlk hT hP hX hex hl
  have hK := hX.1
  have hl : lv_has ls 2 [(0, .ref (ad 13)), (1, .ref (ad (22 + 4 * j)))] := hl
  refine lv_aload_n hx hb dX3_checkSurrenderable_0 rfl (lv_at hl 1 rfl) ?_
  refine z_backR1 (z_runVN ⟨hx, hb, hml, hown, hT⟩ hK (rest := []) (As := []) (c_X2_isInForce (MI := MI) (MJ := MJ) (XI := XI) (XJ := XJ) l hI j (hj)) k_X3_143 (z_preRV hK hP (hP.at (hI.2.2 j hj).1 gS_2) rfl) rfl ⟨Nat.le_of_ble_eq_true rfl, Nat.le_of_ble_eq_true rfl⟩ hl.1 rfl (Nat.le_of_ble_eq_true rfl) dX3_checkSurrenderable_1 ⟨Nat.le_of_ble_eq_true rfl, Nat.le_of_ble_eq_true rfl⟩) ?_
  refine lv_if_eq (tgt := 16) hx hb dX3_checkSurrenderable_4 (by decide) (fun c_1 => ?_) (fun c_1 => ?_)
  · exact z_throw_s hx hb hst hown hT hX hex hlk hml hl.1 (text := "the policy has not been in force for a year, or is not any more") (by decide) cl_X3_65 dX3_checkSurrenderable_16 dX3_checkSurrenderable_19 dX3_checkSurrenderable_20 dX3_checkSurrenderable_22 dX3_checkSurrenderable_25 (Nat.le_of_ble_eq_true rfl) (Nat.le_of_ble_eq_true rfl) (Nat.le_of_ble_eq_true rfl) (Nat.le_of_ble_eq_true rfl)
  · refine lv_aload_n hx hb dX3_checkSurrenderable_7 rfl (lv_at hl 0 rfl) ?_
    refine lv_aload_n hx hb dX3_checkSurrenderable_8 rfl (lv_at hl 1 rfl) ?_
    refine z_backR1 (z_runV ⟨hx, hb, hml, hown, hT⟩ (rest := []) (As := [.ref (ad (22 + 4 * j))]) (c_X3_yearsRun (MI := MI) (MJ := MJ) (XI := XI) (XJ := XJ) l hI j (hj) (hG)) k_X3_186 (z_preRV hK hP (hP.at (hI.1 13 (by decide)) rfl) rfl) rfl ⟨Nat.le_of_ble_eq_true rfl, Nat.le_of_ble_eq_true rfl⟩ hl.1 rfl (Nat.le_of_ble_eq_true rfl) dX3_checkSurrenderable_9 ⟨Nat.le_of_ble_eq_true rfl, Nat.le_of_ble_eq_true rfl⟩) ?_
    refine lv_iconst (v := 1) hx hb dX3_checkSurrenderable_12 (by decide) ?_
    refine lv_icmp_ge (tgt := 26) hx hb dX3_checkSurrenderable_13 (by decide) (fun c_2 => ?_) (fun c_2 => ?_)
    · exact absurd ⟨Decidable.byContradiction (fun h9 => c_1 (if_neg h9)), c_2⟩ hno
    · exact z_throw_s hx hb hst hown hT hX hex hlk hml hl.1 (text := "the policy has not been in force for a year, or is not any more") (by decide) cl_X3_65 dX3_checkSurrenderable_16 dX3_checkSurrenderable_19 dX3_checkSurrenderable_20 dX3_checkSurrenderable_22 dX3_checkSurrenderable_25 (Nat.le_of_ble_eq_true rfl) (Nat.le_of_ble_eq_true rfl) (Nat.le_of_ble_eq_true rfl) (Nat.le_of_ble_eq_true rfl)
set_option maxHeartbeats 4000000 in
set_option maxRecDepth 100000 in
theorem c_X3_stateOf_bad (l : Launch) (hst : l.stackTraces = false) (hI : zIn Rs np ng) (q : Int32) (hq : ¬ ∃ j, j < np ∧ q = nI j) : zMX l yX3_stateOf cX3_stateOf 2 ((some .int)) 7 (104) D ks [.ref (ad 13), .int q] (zP D Rs ad (gS ks ad np ng G MI MJ XI XJ)) "java/lang/IndexOutOfBoundsException" := by
  refine zMX.of (by decide +kernel) (Nat.le_of_ble_eq_true rfl) ?_
  intro p e s m below meth c ls hx hb hr hml hown hlk hT hP hX hex hl
  have hK := hX.1
  have hl : lv_has ls 2 [(0, .ref (ad 13)), (1, .int q)] := hl
  refine lv_aload_n hx hb dX3_stateOf_0 rfl (lv_at hl 0 rfl) ?_
  refine lv_iload_n hx hb dX3_stateOf_1 rfl (lv_at hl 1 rfl) ?_
  exact z_thru (H0 := s.heap) (z_runXV ⟨hx, hb, hml, hown, hT⟩ (rest := []) (As := [.int q]) (c_X3_knownPolicy_bad l hst hI q (hq)) k_X3_77 (z_preXV hX hP (hP.at (hI.1 13 (by decide)) rfl) rfl) rfl ⟨Nat.le_of_ble_eq_true rfl, Nat.le_of_ble_eq_true rfl⟩ hl.1 rfl (Nat.le_of_ble_eq_true rfl) dX3_stateOf_2 ⟨Nat.le_of_ble_eq_true rfl, Nat.le_of_ble_eq_true rfl⟩) hex hlk
set_option maxHeartbeats 4000000 in
set_option maxRecDepth 100000 in
theorem c_X3_bonuses_bad (l : Launch) (hst : l.stackTraces = false) (hI : zIn Rs np ng) (q : Int32) (hq : ¬ ∃ j, j < np ∧ q = nI j) : zMX l yX3_bonuses cX3_bonuses 2 ((some .int)) 7 (104) D ks [.ref (ad 13), .int q] (zP D Rs ad (gS ks ad np ng G MI MJ XI XJ)) "java/lang/IndexOutOfBoundsException" := by
  refine zMX.of (by decide +kernel) (Nat.le_of_ble_eq_true rfl) ?_
  intro p e s m below meth c ls hx hb hr hml hown hlk hT hP hX hex hl
  have hK := hX.1
  have hl : lv_has ls 2 [(0, .ref (ad 13)), (1, .int q)] := hl
  refine lv_aload_n hx hb dX3_bonuses_0 rfl (lv_at hl 0 rfl) ?_
  refine lv_iload_n hx hb dX3_bonuses_1 rfl (lv_at hl 1 rfl) ?_
  exact z_thru (H0 := s.heap) (z_runXV ⟨hx, hb, hml, hown, hT⟩ (rest := []) (As := [.int q]) (c_X3_knownPolicy_bad l hst hI q (hq)) k_X3_77 (z_preXV hX hP (hP.at (hI.1 13 (by decide)) rfl) rfl) rfl ⟨Nat.le_of_ble_eq_true rfl, Nat.le_of_ble_eq_true rfl⟩ hl.1 rfl (Nat.le_of_ble_eq_true rfl) dX3_bonuses_2 ⟨Nat.le_of_ble_eq_true rfl, Nat.le_of_ble_eq_true rfl⟩) hex hlk
set_option maxHeartbeats 4000000 in
set_option maxRecDepth 100000 in
theorem c_X3_shareOf_bad (l : Launch) (hst : l.stackTraces = false) (hI : zIn Rs np ng) (q : Int32) (hq : ¬ ∃ j, j < np ∧ q = nI j) : zMX l yX3_shareOf cX3_shareOf 2 ((some .int)) 7 (104) D ks [.ref (ad 13), .int q] (zP D Rs ad (gS ks ad np ng G MI MJ XI XJ)) "java/lang/IndexOutOfBoundsException" := by
  refine zMX.of (by decide +kernel) (Nat.le_of_ble_eq_true rfl) ?_
  intro p e s m below meth c ls hx hb hr hml hown hlk hT hP hX hex hl
  have hK := hX.1
  have hl : lv_has ls 2 [(0, .ref (ad 13)), (1, .int q)] := hl
  refine lv_aload_n hx hb dX3_shareOf_0 rfl (lv_at hl 0 rfl) ?_
  refine lv_iload_n hx hb dX3_shareOf_1 rfl (lv_at hl 1 rfl) ?_
  exact z_thru (H0 := s.heap) (z_runXV ⟨hx, hb, hml, hown, hT⟩ (rest := []) (As := [.int q]) (c_X3_knownPolicy_bad l hst hI q (hq)) k_X3_77 (z_preXV hX hP (hP.at (hI.1 13 (by decide)) rfl) rfl) rfl ⟨Nat.le_of_ble_eq_true rfl, Nat.le_of_ble_eq_true rfl⟩ hl.1 rfl (Nat.le_of_ble_eq_true rfl) dX3_shareOf_2 ⟨Nat.le_of_ble_eq_true rfl, Nat.le_of_ble_eq_true rfl⟩) hex hlk
set_option maxHeartbeats 4000000 in
set_option maxRecDepth 100000 in
theorem c_X3_shareAlone_bad (l : Launch) (hst : l.stackTraces = false) (hI : zIn Rs np ng) (q : Int32) (hq : ¬ ∃ j, j < np ∧ q = nI j) : zMX l yX3_shareAlone cX3_shareAlone 3 ((some .int)) 7 (104) D ks [.ref (ad 13), .int q] (zP D Rs ad (gS ks ad np ng G MI MJ XI XJ)) "java/lang/IndexOutOfBoundsException" := by
  refine zMX.of (by decide +kernel) (Nat.le_of_ble_eq_true rfl) ?_
  intro p e s m below meth c ls hx hb hr hml hown hlk hT hP hX hex hl
  have hK := hX.1
  have hl : lv_has ls 3 [(0, .ref (ad 13)), (1, .int q)] := hl
  refine lv_aload_n hx hb dX3_shareAlone_0 rfl (lv_at hl 0 rfl) ?_
  refine lv_iload_n hx hb dX3_shareAlone_1 rfl (lv_at hl 1 rfl) ?_
  exact z_thru (H0 := s.heap) (z_runXV ⟨hx, hb, hml, hown, hT⟩ (rest := []) (As := [.int q]) (c_X3_knownPolicy_bad l hst hI q (hq)) k_X3_77 (z_preXV hX hP (hP.at (hI.1 13 (by decide)) rfl) rfl) rfl ⟨Nat.le_of_ble_eq_true rfl, Nat.le_of_ble_eq_true rfl⟩ hl.1 rfl (Nat.le_of_ble_eq_true rfl) dX3_shareAlone_2 ⟨Nat.le_of_ble_eq_true rfl, Nat.le_of_ble_eq_true rfl⟩) hex hlk
set_option maxHeartbeats 4000000 in
set_option maxRecDepth 100000 in
theorem c_X3_paid_bad (l : Launch) (hst : l.stackTraces = false) (hI : zIn Rs np ng) (q : Int32) (hq : ¬ ∃ j, j < np ∧ q = nI j) : zMX l yX3_paid cX3_paid 2 ((some .int)) 7 (104) D ks [.ref (ad 13), .int q] (zP D Rs ad (gS ks ad np ng G MI MJ XI XJ)) "java/lang/IndexOutOfBoundsException" := by
  refine zMX.of (by decide +kernel) (Nat.le_of_ble_eq_true rfl) ?_
  intro p e s m below meth c ls hx hb hr hml hown hlk hT hP hX hex hl
  have hK := hX.1
  have hl : lv_has ls 2 [(0, .ref (ad 13)), (1, .int q)] := hl
  refine lv_aload_n hx hb dX3_paid_0 rfl (lv_at hl 0 rfl) ?_
  refine lv_iload_n hx hb dX3_paid_1 rfl (lv_at hl 1 rfl) ?_
  exact z_thru (H0 := s.heap) (z_runXV ⟨hx, hb, hml, hown, hT⟩ (rest := []) (As := [.int q]) (c_X3_knownPolicy_bad l hst hI q (hq)) k_X3_77 (z_preXV hX hP (hP.at (hI.1 13 (by decide)) rfl) rfl) rfl ⟨Nat.le_of_ble_eq_true rfl, Nat.le_of_ble_eq_true rfl⟩ hl.1 rfl (Nat.le_of_ble_eq_true rfl) dX3_paid_2 ⟨Nat.le_of_ble_eq_true rfl, Nat.le_of_ble_eq_true rfl⟩) hex hlk
set_option maxHeartbeats 4000000 in
set_option maxRecDepth 100000 in
theorem c_X3_worth_bad (l : Launch) (hst : l.stackTraces = false) (hI : zIn Rs np ng) (q : Int32) (hq : ¬ ∃ j, j < np ∧ q = nI j) : zMX l yX3_worth cX3_worth 3 ((some .int)) 7 (104) D ks [.ref (ad 13), .int q] (zP D Rs ad (gS ks ad np ng G MI MJ XI XJ)) "java/lang/IndexOutOfBoundsException" := by
  refine zMX.of (by decide +kernel) (Nat.le_of_ble_eq_true rfl) ?_
  intro p e s m below meth c ls hx hb hr hml hown hlk hT hP hX hex hl
  have hK := hX.1
  have hl : lv_has ls 3 [(0, .ref (ad 13)), (1, .int q)] := hl
  refine lv_aload_n hx hb dX3_worth_0 rfl (lv_at hl 0 rfl) ?_
  refine lv_iload_n hx hb dX3_worth_1 rfl (lv_at hl 1 rfl) ?_
  exact z_thru (H0 := s.heap) (z_runXV ⟨hx, hb, hml, hown, hT⟩ (rest := []) (As := [.int q]) (c_X3_knownPolicy_bad l hst hI q (hq)) k_X3_77 (z_preXV hX hP (hP.at (hI.1 13 (by decide)) rfl) rfl) rfl ⟨Nat.le_of_ble_eq_true rfl, Nat.le_of_ble_eq_true rfl⟩ hl.1 rfl (Nat.le_of_ble_eq_true rfl) dX3_worth_2 ⟨Nat.le_of_ble_eq_true rfl, Nat.le_of_ble_eq_true rfl⟩) hex hlk
set_option maxHeartbeats 4000000 in
set_option maxRecDepth 100000 in
theorem c_X3_surrender_bad (l : Launch) (hst : l.stackTraces = false) (hI : zIn Rs np ng) (q : Int32) (hq : ¬ ∃ j, j < np ∧ q = nI j) : zMX l yX3_surrender cX3_surrender 5 ((some .int)) 7 (104) D ks [.ref (ad 13), .int q] (zP D Rs ad (gS ks ad np ng G MI MJ XI XJ)) "java/lang/IndexOutOfBoundsException" := by
  refine zMX.of (by decide +kernel) (Nat.le_of_ble_eq_true rfl) ?_
  intro p e s m below meth c ls hx hb hr hml hown hlk hT hP hX hex hl
  have hK := hX.1
  have hl : lv_has ls 5 [(0, .ref (ad 13)), (1, .int q)] := hl
  refine lv_aload_n hx hb dX3_surrender_0 rfl (lv_at hl 0 rfl) ?_
  refine lv_iload_n hx hb dX3_surrender_1 rfl (lv_at hl 1 rfl) ?_
  exact z_thru (H0 := s.heap) (z_runXV ⟨hx, hb, hml, hown, hT⟩ (rest := []) (As := [.int q]) (c_X3_knownPolicy_bad l hst hI q (hq)) k_X3_77 (z_preXV hX hP (hP.at (hI.1 13 (by decide)) rfl) rfl) rfl ⟨Nat.le_of_ble_eq_true rfl, Nat.le_of_ble_eq_true rfl⟩ hl.1 rfl (Nat.le_of_ble_eq_true rfl) dX3_surrender_2 ⟨Nat.le_of_ble_eq_true rfl, Nat.le_of_ble_eq_true rfl⟩) hex hlk
set_option maxHeartbeats 4000000 in
set_option maxRecDepth 100000 in
theorem c_X3_worth_no (l : Launch) (hst : l.stackTraces = false) (hI : zIn Rs np ng) (j : Nat) (hj : j < np) (hN : np ≤ 30) (hG : G j < ng) (hno : ¬ (XI 15 j = 0 ∧ 1 ≤ XI 10 2 - XI 11 (G j))) : zMX l yX3_worth cX3_worth 3 ((some .int)) 7 (103) D ks [.ref (ad 13), .int (nI j)] (zP D Rs ad (gS ks ad np ng G MI MJ XI XJ)) "java/lang/IllegalStateException" := by
  refine zMX.of (by decide +kernel) (Nat.le_of_ble_eq_true rfl) ?_
  intro p e s m below meth c ls hx hb hr hml hown hlk hT hP hX hex hl
  have hK := hX.1
  have hl : lv_has ls 3 [(0, .ref (ad 13)), (1, .int (nI j))] := hl
  refine lv_aload_n hx hb dX3_worth_0 rfl (lv_at hl 0 rfl) ?_
  refine lv_iload_n hx hb dX3_worth_1 rfl (lv_at hl 1 rfl) ?_
  refine z_backR1 (z_runV ⟨hx, hb, hml, hown, hT⟩ (rest := []) (As := [.int (nI j)]) (c_X3_knownPolicy_ok (MI := MI) (MJ := MJ) (XI := XI) (XJ := XJ) l hI j (hj) (hN)) k_X3_77 (z_preRV hK hP (hP.at (hI.1 13 (by decide)) rfl) rfl) rfl ⟨Nat.le_of_ble_eq_true rfl, Nat.le_of_ble_eq_true rfl⟩ hl.1 rfl (Nat.le_of_ble_eq_true rfl) dX3_worth_2 ⟨Nat.le_of_ble_eq_true rfl, Nat.le_of_ble_eq_true rfl⟩) ?_
  refine lv_astore_n (lv' := [(2, .ref (ad (22 + 4 * j))), (0, .ref (ad 13)), (1, .int (nI j))]) hx hb dX3_worth_5 rfl hl (by decide) rfl (fun ls hl => ?_)
  refine lv_aload_n hx hb dX3_worth_6 rfl (lv_at hl 1 rfl) ?_
  refine lv_aload_n hx hb dX3_worth_7 rfl (lv_at hl 0 rfl) ?_
  exact z_thru (H0 := s.heap) (z_runXV ⟨hx, hb, hml, hown, hT⟩ (rest := []) (As := [.ref (ad (22 + 4 * j))]) (c_X3_checkSurrenderable_no l hst hI j (hj) (hN) (hG) (hno)) k_X3_81 (z_preXV hX hP (hP.at (hI.1 13 (by decide)) rfl) rfl) rfl ⟨Nat.le_of_ble_eq_true rfl, Nat.le_of_ble_eq_true rfl⟩ hl.1 rfl (Nat.le_of_ble_eq_true rfl) dX3_worth_8 ⟨Nat.le_of_ble_eq_true rfl, Nat.le_of_ble_eq_true rfl⟩) hex hlk
set_option maxHeartbeats 4000000 in
set_option maxRecDepth 100000 in
theorem c_X3_surrender_no (l : Launch) (hst : l.stackTraces = false) (hI : zIn Rs np ng) (j : Nat) (hj : j < np) (hN : np ≤ 30) (hG : G j < ng) (hno : ¬ (XI 15 j = 0 ∧ 1 ≤ XI 10 2 - XI 11 (G j))) : zMX l yX3_surrender cX3_surrender 5 ((some .int)) 7 (103) D ks [.ref (ad 13), .int (nI j)] (zP D Rs ad (gS ks ad np ng G MI MJ XI XJ)) "java/lang/IllegalStateException" := by
  refine zMX.of (by decide +kernel) (Nat.le_of_ble_eq_true rfl) ?_
  intro p e s m below meth c ls hx hb hr hml hown hlk hT hP hX hex hl
  have hK := hX.1
  have hl : lv_has ls 5 [(0, .ref (ad 13)), (1, .int (nI j))] := hl
  refine lv_aload_n hx hb dX3_surrender_0 rfl (lv_at hl 0 rfl) ?_
  refine lv_iload_n hx hb dX3_surrender_1 rfl (lv_at hl 1 rfl) ?_
  refine z_backR1 (z_runV ⟨hx, hb, hml, hown, hT⟩ (rest := []) (As := [.int (nI j)]) (c_X3_knownPolicy_ok (MI := MI) (MJ := MJ) (XI := XI) (XJ := XJ) l hI j (hj) (hN)) k_X3_77 (z_preRV hK hP (hP.at (hI.1 13 (by decide)) rfl) rfl) rfl ⟨Nat.le_of_ble_eq_true rfl, Nat.le_of_ble_eq_true rfl⟩ hl.1 rfl (Nat.le_of_ble_eq_true rfl) dX3_surrender_2 ⟨Nat.le_of_ble_eq_true rfl, Nat.le_of_ble_eq_true rfl⟩) ?_
  refine lv_astore_n (lv' := [(2, .ref (ad (22 + 4 * j))), (0, .ref (ad 13)), (1, .int (nI j))]) hx hb dX3_surrender_5 rfl hl (by decide) rfl (fun ls hl => ?_)
  refine lv_aload_n hx hb dX3_surrender_6 rfl (lv_at hl 1 rfl) ?_
  refine lv_aload_n hx hb dX3_surrender_7 rfl (lv_at hl 0 rfl) ?_
  exact z_thru (H0 := s.heap) (z_runXV ⟨hx, hb, hml, hown, hT⟩ (rest := []) (As := [.ref (ad (22 + 4 * j))]) (c_X3_checkSurrenderable_no l hst hI j (hj) (hN) (hG) (hno)) k_X3_81 (z_preXV hX hP (hP.at (hI.1 13 (by decide)) rfl) rfl) rfl ⟨Nat.le_of_ble_eq_true rfl, Nat.le_of_ble_eq_true rfl⟩ hl.1 rfl (Nat.le_of_ble_eq_true rfl) dX3_surrender_8 ⟨Nat.le_of_ble_eq_true rfl, Nat.le_of_ble_eq_true rfl⟩) hex hlk
set_option maxHeartbeats 4000000 in
set_option maxRecDepth 100000 in
theorem c_X3_setRates_bad (l : Launch) (hst : l.stackTraces = false) (hI : zIn Rs np ng) (bo : Int32) (ch : Int32) (hq : fIn bo 0 200 = 0 ∨ fIn ch 0 100 = 0) : zMX l yX3_setRates cX3_setRates 4 ((some .int)) 6 (82) D ks [.ref (ad 13), .int bo, .int ch] (zP D Rs ad (gS ks ad np ng G MI MJ XI XJ)) "java/lang/IllegalArgumentException" := by
  refine zMX.of (by decide +kernel) (Nat.le_of_ble_eq_true rfl) ?_
  intro p e s m below meth c ls hx hb hr hml hown hlk hT hP hX hex hl
  have hK := hX.1
  have hl : lv_has ls 4 [(0, .ref (ad 13)), (1, .int bo), (2, .int ch)] := hl
  refine lv_iload_n hx hb dX3_setRates_0 rfl (lv_at hl 1 rfl) ?_
  refine lv_iconst (v := 0) hx hb dX3_setRates_1 (by decide) ?_
  refine lv_sipush (v := 200) hx hb dX3_setRates_2 (by decide) ?_
  refine z_backR1 (z_runS ⟨hx, hb, hml, hown, hT⟩ (rest := []) (As := [.int bo, .int 0, .int 200]) (c_X3_isWithin l D ks bo 0 200 ) k_X3_50 (z_preR hK trivial) rfl ⟨Nat.le_of_ble_eq_true rfl, Nat.le_of_ble_eq_true rfl⟩ hl.1 rfl (Nat.le_of_ble_eq_true rfl) dX3_setRates_5 ⟨Nat.le_of_ble_eq_true rfl, Nat.le_of_ble_eq_true rfl⟩) ?_
  refine lv_if_eq (tgt := 21) hx hb dX3_setRates_8 (by decide) (fun c_1 => ?_) (fun c_1 => ?_)
  · exact z_throw_a hx hb hst hown hT hX hex hlk hml hl.1 (text := "bonus or charge is out of range") (by decide) cl_X3_55 dX3_setRates_21 dX3_setRates_24 dX3_setRates_25 dX3_setRates_27 dX3_setRates_30 (Nat.le_of_ble_eq_true rfl) (Nat.le_of_ble_eq_true rfl) (Nat.le_of_ble_eq_true rfl) (Nat.le_of_ble_eq_true rfl)
  · refine lv_iload_n hx hb dX3_setRates_11 rfl (lv_at hl 2 rfl) ?_
    refine lv_iconst (v := 0) hx hb dX3_setRates_12 (by decide) ?_
    refine lv_bipush (v := 100) hx hb dX3_setRates_13 (by decide) ?_
    refine z_backR1 (z_runS ⟨hx, hb, hml, hown, hT⟩ (rest := []) (As := [.int ch, .int 0, .int 100]) (c_X3_isWithin l D ks ch 0 100 ) k_X3_50 (z_preR hK trivial) rfl ⟨Nat.le_of_ble_eq_true rfl, Nat.le_of_ble_eq_true rfl⟩ hl.1 rfl (Nat.le_of_ble_eq_true rfl) dX3_setRates_15 ⟨Nat.le_of_ble_eq_true rfl, Nat.le_of_ble_eq_true rfl⟩) ?_
    refine lv_if_ne (tgt := 31) hx hb dX3_setRates_18 (by decide) (fun c_2 => ?_) (fun c_2 => ?_)
    · exact absurd hq (not_or.mpr ⟨c_1, c_2⟩)
    · exact z_throw_a hx hb hst hown hT hX hex hlk hml hl.1 (text := "bonus or charge is out of range") (by decide) cl_X3_55 dX3_setRates_21 dX3_setRates_24 dX3_setRates_25 dX3_setRates_27 dX3_setRates_30 (Nat.le_of_ble_eq_true rfl) (Nat.le_of_ble_eq_true rfl) (Nat.le_of_ble_eq_true rfl) (Nat.le_of_ble_eq_true rfl)
set_option maxHeartbeats 4000000 in
set_option maxRecDepth 100000 in
theorem c_X3_setScale_bad (l : Launch) (hst : l.stackTraces = false) (hI : zIn Rs np ng) (sc : Int32) (sp : Int32) (fl : Int32) (hq : fIn sc 500 1500 = 0 ∨ fIn sp 0 1000 = 0 ∨ fIn fl 0 1000 = 0) : zMX l yX3_setScale cX3_setScale 5 ((some .int)) 6 (82) D ks [.ref (ad 13), .int sc, .int sp, .int fl] (zP D Rs ad (gS ks ad np ng G MI MJ XI XJ)) "java/lang/IllegalArgumentException" := by
  refine zMX.of (by decide +kernel) (Nat.le_of_ble_eq_true rfl) ?_
  intro p e s m below meth c ls hx hb hr hml hown hlk hT hP hX hex hl
  have hK := hX.1
  have hl : lv_has ls 5 [(0, .ref (ad 13)), (1, .int sc), (2, .int sp), (3, .int fl)] := hl
  refine lv_iload_n hx hb dX3_setScale_0 rfl (lv_at hl 1 rfl) ?_
  refine lv_sipush (v := 500) hx hb dX3_setScale_1 (by decide) ?_
  refine lv_sipush (v := 1500) hx hb dX3_setScale_4 (by decide) ?_
  refine z_backR1 (z_runS ⟨hx, hb, hml, hown, hT⟩ (rest := []) (As := [.int sc, .int 500, .int 1500]) (c_X3_isWithin l D ks sc 500 1500 ) k_X3_50 (z_preR hK trivial) rfl ⟨Nat.le_of_ble_eq_true rfl, Nat.le_of_ble_eq_true rfl⟩ hl.1 rfl (Nat.le_of_ble_eq_true rfl) dX3_setScale_7 ⟨Nat.le_of_ble_eq_true rfl, Nat.le_of_ble_eq_true rfl⟩) ?_
  refine lv_if_eq (tgt := 35) hx hb dX3_setScale_10 (by decide) (fun c_1 => ?_) (fun c_1 => ?_)
  · exact z_throw_a hx hb hst hown hT hX hex hlk hml hl.1 (text := "scale, step or floor is out of range") (by decide) cl_X3_55 dX3_setScale_35 dX3_setScale_38 dX3_setScale_39 dX3_setScale_41 dX3_setScale_44 (Nat.le_of_ble_eq_true rfl) (Nat.le_of_ble_eq_true rfl) (Nat.le_of_ble_eq_true rfl) (Nat.le_of_ble_eq_true rfl)
  · refine lv_iload_n hx hb dX3_setScale_13 rfl (lv_at hl 2 rfl) ?_
    refine lv_iconst (v := 0) hx hb dX3_setScale_14 (by decide) ?_
    refine lv_sipush (v := 1000) hx hb dX3_setScale_15 (by decide) ?_
    refine z_backR1 (z_runS ⟨hx, hb, hml, hown, hT⟩ (rest := []) (As := [.int sp, .int 0, .int 1000]) (c_X3_isWithin l D ks sp 0 1000 ) k_X3_50 (z_preR hK trivial) rfl ⟨Nat.le_of_ble_eq_true rfl, Nat.le_of_ble_eq_true rfl⟩ hl.1 rfl (Nat.le_of_ble_eq_true rfl) dX3_setScale_18 ⟨Nat.le_of_ble_eq_true rfl, Nat.le_of_ble_eq_true rfl⟩) ?_
    refine lv_if_eq (tgt := 35) hx hb dX3_setScale_21 (by decide) (fun c_2 => ?_) (fun c_2 => ?_)
    · exact z_throw_a hx hb hst hown hT hX hex hlk hml hl.1 (text := "scale, step or floor is out of range") (by decide) cl_X3_55 dX3_setScale_35 dX3_setScale_38 dX3_setScale_39 dX3_setScale_41 dX3_setScale_44 (Nat.le_of_ble_eq_true rfl) (Nat.le_of_ble_eq_true rfl) (Nat.le_of_ble_eq_true rfl) (Nat.le_of_ble_eq_true rfl)
    · refine lv_iload_n hx hb dX3_setScale_24 rfl (lv_at hl 3 rfl) ?_
      refine lv_iconst (v := 0) hx hb dX3_setScale_25 (by decide) ?_
      refine lv_sipush (v := 1000) hx hb dX3_setScale_26 (by decide) ?_
      refine z_backR1 (z_runS ⟨hx, hb, hml, hown, hT⟩ (rest := []) (As := [.int fl, .int 0, .int 1000]) (c_X3_isWithin l D ks fl 0 1000 ) k_X3_50 (z_preR hK trivial) rfl ⟨Nat.le_of_ble_eq_true rfl, Nat.le_of_ble_eq_true rfl⟩ hl.1 rfl (Nat.le_of_ble_eq_true rfl) dX3_setScale_29 ⟨Nat.le_of_ble_eq_true rfl, Nat.le_of_ble_eq_true rfl⟩) ?_
      refine lv_if_ne (tgt := 45) hx hb dX3_setScale_32 (by decide) (fun c_3 => ?_) (fun c_3 => ?_)
      · exact absurd hq (not_or.mpr ⟨c_1, not_or.mpr ⟨c_2, c_3⟩⟩)
      · exact z_throw_a hx hb hst hown hT hX hex hlk hml hl.1 (text := "scale, step or floor is out of range") (by decide) cl_X3_55 dX3_setScale_35 dX3_setScale_38 dX3_setScale_39 dX3_setScale_41 dX3_setScale_44 (Nat.le_of_ble_eq_true rfl) (Nat.le_of_ble_eq_true rfl) (Nat.le_of_ble_eq_true rfl) (Nat.le_of_ble_eq_true rfl)
set_option maxHeartbeats 4000000 in
set_option maxRecDepth 100000 in
theorem c_X3_endow_bad (l : Launch) (hst : l.stackTraces = false) (hI : zIn Rs np ng) (am : Int32) (hq : fIn am (-1000000) 1000000 = 0) : zMX l yX3_endow cX3_endow 2 ((some .long)) 6 (82) D ks [.ref (ad 13), .int am] (zP D Rs ad (gS ks ad np ng G MI MJ XI XJ)) "java/lang/IllegalArgumentException" := by
  refine zMX.of (by decide +kernel) (Nat.le_of_ble_eq_true rfl) ?_
  intro p e s m below meth c ls hx hb hr hml hown hlk hT hP hX hex hl
  have hK := hX.1
  have hl : lv_has ls 2 [(0, .ref (ad 13)), (1, .int am)] := hl
  refine lv_iload_n hx hb dX3_endow_0 rfl (lv_at hl 1 rfl) ?_
  refine lv_ldc (v := (-1000000)) hx hb hown (hT _ ki_X3_97) dX3_endow_1 ?_
  refine lv_ldc (v := 1000000) hx hb hown (hT _ ki_X3_98) dX3_endow_3 ?_
  refine z_backR1 (z_runS ⟨hx, hb, hml, hown, hT⟩ (rest := []) (As := [.int am, .int (-1000000), .int 1000000]) (c_X3_isWithin l D ks am (-1000000) 1000000 ) k_X3_50 (z_preR hK trivial) rfl ⟨Nat.le_of_ble_eq_true rfl, Nat.le_of_ble_eq_true rfl⟩ hl.1 rfl (Nat.le_of_ble_eq_true rfl) dX3_endow_5 ⟨Nat.le_of_ble_eq_true rfl, Nat.le_of_ble_eq_true rfl⟩) ?_
  refine lv_if_ne (tgt := 21) hx hb dX3_endow_8 (by decide) (fun c_1 => ?_) (fun c_1 => ?_)
  · exact absurd hq (c_1)
  · exact z_throw_a hx hb hst hown hT hX hex hlk hml hl.1 (text := "amount is out of range") (by decide) cl_X3_55 dX3_endow_11 dX3_endow_14 dX3_endow_15 dX3_endow_17 dX3_endow_20 (Nat.le_of_ble_eq_true rfl) (Nat.le_of_ble_eq_true rfl) (Nat.le_of_ble_eq_true rfl) (Nat.le_of_ble_eq_true rfl)
set_option maxHeartbeats 4000000 in
set_option maxRecDepth 100000 in
theorem c_X3_run_bad (l : Launch) (hst : l.stackTraces = false) (hI : zIn Rs np ng) (rt : Int32) (hq : fIn rt (-200) 200 = 0) : zMX l yX3_run cX3_run 5 ((some .int)) 6 (82) D ks [.ref (ad 13), .int rt] (zP D Rs ad (gS ks ad np ng G MI MJ XI XJ)) "java/lang/IllegalArgumentException" := by
  refine zMX.of (by decide +kernel) (Nat.le_of_ble_eq_true rfl) ?_
  intro p e s m below meth c ls hx hb hr hml hown hlk hT hP hX hex hl
  have hK := hX.1
  have hl : lv_has ls 5 [(0, .ref (ad 13)), (1, .int rt)] := hl
  refine lv_iload_n hx hb dX3_run_0 rfl (lv_at hl 1 rfl) ?_
  refine lv_sipush (v := (-200)) hx hb dX3_run_1 (by decide) ?_
  refine lv_sipush (v := 200) hx hb dX3_run_4 (by decide) ?_
  refine z_backR1 (z_runS ⟨hx, hb, hml, hown, hT⟩ (rest := []) (As := [.int rt, .int (-200), .int 200]) (c_X3_isWithin l D ks rt (-200) 200 ) k_X3_50 (z_preR hK trivial) rfl ⟨Nat.le_of_ble_eq_true rfl, Nat.le_of_ble_eq_true rfl⟩ hl.1 rfl (Nat.le_of_ble_eq_true rfl) dX3_run_7 ⟨Nat.le_of_ble_eq_true rfl, Nat.le_of_ble_eq_true rfl⟩) ?_
  refine lv_if_ne (tgt := 23) hx hb dX3_run_10 (by decide) (fun c_1 => ?_) (fun c_1 => ?_)
  · exact absurd hq (c_1)
  · exact z_throw_a hx hb hst hown hT hX hex hlk hml hl.1 (text := "rate is out of range") (by decide) cl_X3_55 dX3_run_13 dX3_run_16 dX3_run_17 dX3_run_19 dX3_run_22 (Nat.le_of_ble_eq_true rfl) (Nat.le_of_ble_eq_true rfl) (Nat.le_of_ble_eq_true rfl) (Nat.le_of_ble_eq_true rfl)
set_option maxHeartbeats 4000000 in
set_option maxRecDepth 100000 in
theorem c_X3_generation_bad (l : Launch) (hst : l.stackTraces = false) (hI : zIn Rs np ng) (y : Int32) (te : Int32) (hq : fIn y 0 40 = 0 ∨ fIn te 2 20 = 0) : zMX l yX3_generation cX3_generation 4 ((some .int)) 6 (82) D ks [.ref (ad 13), .int y, .int te] (zP D Rs ad (gS ks ad np ng G MI MJ XI XJ)) "java/lang/IllegalArgumentException" := by
  refine zMX.of (by decide +kernel) (Nat.le_of_ble_eq_true rfl) ?_
  intro p e s m below meth c ls hx hb hr hml hown hlk hT hP hX hex hl
  have hK := hX.1
  have hl : lv_has ls 4 [(0, .ref (ad 13)), (1, .int y), (2, .int te)] := hl
  refine lv_iload_n hx hb dX3_generation_0 rfl (lv_at hl 1 rfl) ?_
  refine lv_iconst (v := 0) hx hb dX3_generation_1 (by decide) ?_
  refine lv_bipush (v := 40) hx hb dX3_generation_2 (by decide) ?_
  refine z_backR1 (z_runS ⟨hx, hb, hml, hown, hT⟩ (rest := []) (As := [.int y, .int 0, .int 40]) (c_X3_isWithin l D ks y 0 40 ) k_X3_50 (z_preR hK trivial) rfl ⟨Nat.le_of_ble_eq_true rfl, Nat.le_of_ble_eq_true rfl⟩ hl.1 rfl (Nat.le_of_ble_eq_true rfl) dX3_generation_4 ⟨Nat.le_of_ble_eq_true rfl, Nat.le_of_ble_eq_true rfl⟩) ?_
  refine lv_if_eq (tgt := 17) hx hb dX3_generation_7 (by decide) (fun c_1 => ?_) (fun c_1 => ?_)
  · exact z_throw_a hx hb hst hown hT hX hex hlk hml hl.1 (text := "year or term is out of range") (by decide) cl_X3_55 dX3_generation_17 dX3_generation_20 dX3_generation_21 dX3_generation_23 dX3_generation_26 (Nat.le_of_ble_eq_true rfl) (Nat.le_of_ble_eq_true rfl) (Nat.le_of_ble_eq_true rfl) (Nat.le_of_ble_eq_true rfl)
  · refine lv_iload_n hx hb dX3_generation_10 rfl (lv_at hl 2 rfl) ?_
    refine z_backR1 (z_runS ⟨hx, hb, hml, hown, hT⟩ (rest := []) (As := [.int te]) (c_X3_isTerm l D ks te ) k_X3_46 (z_preR hK trivial) rfl ⟨Nat.le_of_ble_eq_true rfl, Nat.le_of_ble_eq_true rfl⟩ hl.1 rfl (Nat.le_of_ble_eq_true rfl) dX3_generation_11 ⟨Nat.le_of_ble_eq_true rfl, Nat.le_of_ble_eq_true rfl⟩) ?_
    refine lv_if_ne (tgt := 27) hx hb dX3_generation_14 (by decide) (fun c_2 => ?_) (fun c_2 => ?_)
    · exact absurd hq (not_or.mpr ⟨c_1, c_2⟩)
    · exact z_throw_a hx hb hst hown hT hX hex hlk hml hl.1 (text := "year or term is out of range") (by decide) cl_X3_55 dX3_generation_17 dX3_generation_20 dX3_generation_21 dX3_generation_23 dX3_generation_26 (Nat.le_of_ble_eq_true rfl) (Nat.le_of_ble_eq_true rfl) (Nat.le_of_ble_eq_true rfl) (Nat.le_of_ble_eq_true rfl)
set_option maxHeartbeats 4000000 in
set_option maxRecDepth 100000 in
theorem c_X3_lastRatio_bad (l : Launch) (hst : l.stackTraces = false) (hI : zIn Rs np ng) (te : Int32) (hq : fIn te 2 20 = 0) : zMX l yX3_lastRatio cX3_lastRatio 2 ((some .int)) 6 (82) D ks [.ref (ad 13), .int te] (zP D Rs ad (gS ks ad np ng G MI MJ XI XJ)) "java/lang/IllegalArgumentException" := by
  refine zMX.of (by decide +kernel) (Nat.le_of_ble_eq_true rfl) ?_
  intro p e s m below meth c ls hx hb hr hml hown hlk hT hP hX hex hl
  have hK := hX.1
  have hl : lv_has ls 2 [(0, .ref (ad 13)), (1, .int te)] := hl
  refine lv_iload_n hx hb dX3_lastRatio_0 rfl (lv_at hl 1 rfl) ?_
  refine z_backR1 (z_runS ⟨hx, hb, hml, hown, hT⟩ (rest := []) (As := [.int te]) (c_X3_isTerm l D ks te ) k_X3_46 (z_preR hK trivial) rfl ⟨Nat.le_of_ble_eq_true rfl, Nat.le_of_ble_eq_true rfl⟩ hl.1 rfl (Nat.le_of_ble_eq_true rfl) dX3_lastRatio_1 ⟨Nat.le_of_ble_eq_true rfl, Nat.le_of_ble_eq_true rfl⟩) ?_
  refine lv_if_ne (tgt := 17) hx hb dX3_lastRatio_4 (by decide) (fun c_1 => ?_) (fun c_1 => ?_)
  · exact absurd hq (c_1)
  · exact z_throw_a hx hb hst hown hT hX hex hlk hml hl.1 (text := "term is out of range") (by decide) cl_X3_55 dX3_lastRatio_7 dX3_lastRatio_10 dX3_lastRatio_11 dX3_lastRatio_13 dX3_lastRatio_16 (Nat.le_of_ble_eq_true rfl) (Nat.le_of_ble_eq_true rfl) (Nat.le_of_ble_eq_true rfl) (Nat.le_of_ble_eq_true rfl)
set_option maxHeartbeats 4000000 in
set_option maxRecDepth 100000 in
theorem c_X3_begin_bad (l : Launch) (hst : l.stackTraces = false) (hI : zIn Rs np ng) (te : Int32) (pr : Int32) (su : Int32) (hq : fIn te 2 20 = 0 ∨ fIn pr 1 1000 = 0 ∨ fIn su 0 100000 = 0) : zMX l yX3_begin cX3_begin 5 ((some .int)) 6 (82) D ks [.ref (ad 13), .int te, .int pr, .int su] (zP D Rs ad (gS ks ad np ng G MI MJ XI XJ)) "java/lang/IllegalArgumentException" := by
  refine zMX.of (by decide +kernel) (Nat.le_of_ble_eq_true rfl) ?_
  intro p e s m below meth c ls hx hb hr hml hown hlk hT hP hX hex hl
  have hK := hX.1
  have hl : lv_has ls 5 [(0, .ref (ad 13)), (1, .int te), (2, .int pr), (3, .int su)] := hl
  refine lv_iload_n hx hb dX3_begin_0 rfl (lv_at hl 1 rfl) ?_
  refine z_backR1 (z_runS ⟨hx, hb, hml, hown, hT⟩ (rest := []) (As := [.int te]) (c_X3_isTerm l D ks te ) k_X3_46 (z_preR hK trivial) rfl ⟨Nat.le_of_ble_eq_true rfl, Nat.le_of_ble_eq_true rfl⟩ hl.1 rfl (Nat.le_of_ble_eq_true rfl) dX3_begin_1 ⟨Nat.le_of_ble_eq_true rfl, Nat.le_of_ble_eq_true rfl⟩) ?_
  refine lv_if_eq (tgt := 28) hx hb dX3_begin_4 (by decide) (fun c_1 => ?_) (fun c_1 => ?_)
  · exact z_throw_a hx hb hst hown hT hX hex hlk hml hl.1 (text := "term, premium or sum is out of range") (by decide) cl_X3_55 dX3_begin_28 dX3_begin_31 dX3_begin_32 dX3_begin_34 dX3_begin_37 (Nat.le_of_ble_eq_true rfl) (Nat.le_of_ble_eq_true rfl) (Nat.le_of_ble_eq_true rfl) (Nat.le_of_ble_eq_true rfl)
  · refine lv_iload_n hx hb dX3_begin_7 rfl (lv_at hl 2 rfl) ?_
    refine lv_iconst (v := 1) hx hb dX3_begin_8 (by decide) ?_
    refine lv_sipush (v := 1000) hx hb dX3_begin_9 (by decide) ?_
    refine z_backR1 (z_runS ⟨hx, hb, hml, hown, hT⟩ (rest := []) (As := [.int pr, .int 1, .int 1000]) (c_X3_isWithin l D ks pr 1 1000 ) k_X3_50 (z_preR hK trivial) rfl ⟨Nat.le_of_ble_eq_true rfl, Nat.le_of_ble_eq_true rfl⟩ hl.1 rfl (Nat.le_of_ble_eq_true rfl) dX3_begin_12 ⟨Nat.le_of_ble_eq_true rfl, Nat.le_of_ble_eq_true rfl⟩) ?_
    refine lv_if_eq (tgt := 28) hx hb dX3_begin_15 (by decide) (fun c_2 => ?_) (fun c_2 => ?_)
    · exact z_throw_a hx hb hst hown hT hX hex hlk hml hl.1 (text := "term, premium or sum is out of range") (by decide) cl_X3_55 dX3_begin_28 dX3_begin_31 dX3_begin_32 dX3_begin_34 dX3_begin_37 (Nat.le_of_ble_eq_true rfl) (Nat.le_of_ble_eq_true rfl) (Nat.le_of_ble_eq_true rfl) (Nat.le_of_ble_eq_true rfl)
    · refine lv_iload_n hx hb dX3_begin_18 rfl (lv_at hl 3 rfl) ?_
      refine lv_iconst (v := 0) hx hb dX3_begin_19 (by decide) ?_
      refine lv_ldc (v := 100000) hx hb hown (hT _ ki_X3_54) dX3_begin_20 ?_
      refine z_backR1 (z_runS ⟨hx, hb, hml, hown, hT⟩ (rest := []) (As := [.int su, .int 0, .int 100000]) (c_X3_isWithin l D ks su 0 100000 ) k_X3_50 (z_preR hK trivial) rfl ⟨Nat.le_of_ble_eq_true rfl, Nat.le_of_ble_eq_true rfl⟩ hl.1 rfl (Nat.le_of_ble_eq_true rfl) dX3_begin_22 ⟨Nat.le_of_ble_eq_true rfl, Nat.le_of_ble_eq_true rfl⟩) ?_
      refine lv_if_ne (tgt := 38) hx hb dX3_begin_25 (by decide) (fun c_3 => ?_) (fun c_3 => ?_)
      · exact absurd hq (not_or.mpr ⟨c_1, not_or.mpr ⟨c_2, c_3⟩⟩)
      · exact z_throw_a hx hb hst hown hT hX hex hlk hml hl.1 (text := "term, premium or sum is out of range") (by decide) cl_X3_55 dX3_begin_28 dX3_begin_31 dX3_begin_32 dX3_begin_34 dX3_begin_37 (Nat.le_of_ble_eq_true rfl) (Nat.le_of_ble_eq_true rfl) (Nat.le_of_ble_eq_true rfl) (Nat.le_of_ble_eq_true rfl)
set_option maxHeartbeats 4000000 in
set_option maxRecDepth 100000 in
theorem c_X3_run_late (l : Launch) (hst : l.stackTraces = false) (hI : zIn Rs np ng) (rt : Int32) (h0 : fIn rt (-200) 200 = 1) (hy : 40 ≤ XI 10 2) : zMX l yX3_run cX3_run 5 ((some .int)) 6 (82) D ks [.ref (ad 13), .int rt] (zP D Rs ad (gS ks ad np ng G MI MJ XI XJ)) "java/lang/IllegalStateException" := by
  refine zMX.of (by decide +kernel) (Nat.le_of_ble_eq_true rfl) ?_
  intro p e s m below meth c ls hx hb hr hml hown hlk hT hP hX hex hl
  have hK := hX.1
  have hl : lv_has ls 5 [(0, .ref (ad 13)), (1, .int rt)] := hl
  refine lv_iload_n hx hb dX3_run_0 rfl (lv_at hl 1 rfl) ?_
  refine lv_sipush (v := (-200)) hx hb dX3_run_1 (by decide) ?_
  refine lv_sipush (v := 200) hx hb dX3_run_4 (by decide) ?_
  refine z_backR1 (z_runS ⟨hx, hb, hml, hown, hT⟩ (rest := []) (As := [.int rt, .int (-200), .int 200]) (c_X3_isWithin l D ks rt (-200) 200 ) k_X3_50 (z_preR hK trivial) rfl ⟨Nat.le_of_ble_eq_true rfl, Nat.le_of_ble_eq_true rfl⟩ hl.1 rfl (Nat.le_of_ble_eq_true rfl) dX3_run_7 ⟨Nat.le_of_ble_eq_true rfl, Nat.le_of_ble_eq_true rfl⟩) ?_
  refine lv_if_ne (tgt := 23) hx hb dX3_run_10 (by decide) (fun c_1 => ?_) (fun c_1 => ?_)
  · refine lv_aload_n hx hb dX3_run_23 rfl (lv_at hl 0 rfl) ?_
    refine gf_X3_110 hx hb hT hown hK (hP.at (hI.1 13 (by decide)) rfl) rfl dX3_run_24 ?_
    refine lv_bipush (v := 40) hx hb dX3_run_27 (by decide) ?_
    refine lv_icmp_lt (tgt := 42) hx hb dX3_run_29 (by decide) (fun c_2 => ?_) (fun c_2 => ?_)
    · exact absurd c_2 (Int32.not_lt.mpr hy)
    · exact z_throw_s hx hb hst hown hT hX hex hlk hml hl.1 (text := "it is the year 40") (by decide) cl_X3_65 dX3_run_32 dX3_run_35 dX3_run_36 dX3_run_38 dX3_run_41 (Nat.le_of_ble_eq_true rfl) (Nat.le_of_ble_eq_true rfl) (Nat.le_of_ble_eq_true rfl) (Nat.le_of_ble_eq_true rfl)
  · exact absurd ((h0).symm.trans c_1) (by decide)
set_option maxHeartbeats 4000000 in
set_option maxRecDepth 100000 in
theorem c_X3_begin_full (l : Launch) (hst : l.stackTraces = false) (hI : zIn Rs np ng) (te : Int32) (pr : Int32) (su : Int32) (hf : XI 10 0 = 30) (h0 : fIn te 2 20 = 1) (h1 : fIn pr 1 1000 = 1) (h2 : fIn su 0 100000 = 1) : zMX l yX3_begin cX3_begin 5 ((some .int)) 6 (82) D ks [.ref (ad 13), .int te, .int pr, .int su] (zP D Rs ad (gS ks ad np ng G MI MJ XI XJ)) "java/lang/IllegalStateException" := by
  refine zMX.of (by decide +kernel) (Nat.le_of_ble_eq_true rfl) ?_
  intro p e s m below meth c ls hx hb hr hml hown hlk hT hP hX hex hl
  have hK := hX.1
  have hl : lv_has ls 5 [(0, .ref (ad 13)), (1, .int te), (2, .int pr), (3, .int su)] := hl
  refine lv_iload_n hx hb dX3_begin_0 rfl (lv_at hl 1 rfl) ?_
  refine z_backR1 (z_runS ⟨hx, hb, hml, hown, hT⟩ (rest := []) (As := [.int te]) (c_X3_isTerm l D ks te ) k_X3_46 (z_preR hK trivial) rfl ⟨Nat.le_of_ble_eq_true rfl, Nat.le_of_ble_eq_true rfl⟩ hl.1 rfl (Nat.le_of_ble_eq_true rfl) dX3_begin_1 ⟨Nat.le_of_ble_eq_true rfl, Nat.le_of_ble_eq_true rfl⟩) ?_
  refine lv_if_eq (tgt := 28) hx hb dX3_begin_4 (by decide) (fun c_1 => ?_) (fun c_1 => ?_)
  · exact absurd ((h0).symm.trans c_1) (by decide)
  · refine lv_iload_n hx hb dX3_begin_7 rfl (lv_at hl 2 rfl) ?_
    refine lv_iconst (v := 1) hx hb dX3_begin_8 (by decide) ?_
    refine lv_sipush (v := 1000) hx hb dX3_begin_9 (by decide) ?_
    refine z_backR1 (z_runS ⟨hx, hb, hml, hown, hT⟩ (rest := []) (As := [.int pr, .int 1, .int 1000]) (c_X3_isWithin l D ks pr 1 1000 ) k_X3_50 (z_preR hK trivial) rfl ⟨Nat.le_of_ble_eq_true rfl, Nat.le_of_ble_eq_true rfl⟩ hl.1 rfl (Nat.le_of_ble_eq_true rfl) dX3_begin_12 ⟨Nat.le_of_ble_eq_true rfl, Nat.le_of_ble_eq_true rfl⟩) ?_
    refine lv_if_eq (tgt := 28) hx hb dX3_begin_15 (by decide) (fun c_2 => ?_) (fun c_2 => ?_)
    · exact absurd ((h1).symm.trans c_2) (by decide)
    · refine lv_iload_n hx hb dX3_begin_18 rfl (lv_at hl 3 rfl) ?_
      refine lv_iconst (v := 0) hx hb dX3_begin_19 (by decide) ?_
      refine lv_ldc (v := 100000) hx hb hown (hT _ ki_X3_54) dX3_begin_20 ?_
      refine z_backR1 (z_runS ⟨hx, hb, hml, hown, hT⟩ (rest := []) (As := [.int su, .int 0, .int 100000]) (c_X3_isWithin l D ks su 0 100000 ) k_X3_50 (z_preR hK trivial) rfl ⟨Nat.le_of_ble_eq_true rfl, Nat.le_of_ble_eq_true rfl⟩ hl.1 rfl (Nat.le_of_ble_eq_true rfl) dX3_begin_22 ⟨Nat.le_of_ble_eq_true rfl, Nat.le_of_ble_eq_true rfl⟩) ?_
      refine lv_if_ne (tgt := 38) hx hb dX3_begin_25 (by decide) (fun c_3 => ?_) (fun c_3 => ?_)
      · refine lv_aload_n hx hb dX3_begin_38 rfl (lv_at hl 0 rfl) ?_
        refine gf_X3_62 hx hb hT hown hK (hP.at (hI.1 13 (by decide)) rfl) rfl dX3_begin_39 ?_
        refine lv_istore (lv' := [(4, .int (XI 10 0)), (0, .ref (ad 13)), (1, .int te), (2, .int pr), (3, .int su)]) hx hb dX3_begin_42 hl (by decide) rfl (fun ls hl => ?_)
        refine lv_iload hx hb dX3_begin_44 (lv_at hl 0 rfl) ?_
        refine lv_if_lt (tgt := 59) hx hb dX3_begin_46 (by decide) (fun c_4 => ?_) (fun c_4 => ?_)
        · exact z_throw_s hx hb hst hown hT hX hex hlk hml hl.1 (text := "there are 30 policies") (by decide) cl_X3_65 dX3_begin_59 dX3_begin_62 dX3_begin_63 dX3_begin_65 dX3_begin_68 (Nat.le_of_ble_eq_true rfl) (Nat.le_of_ble_eq_true rfl) (Nat.le_of_ble_eq_true rfl) (Nat.le_of_ble_eq_true rfl)
        · refine lv_iload hx hb dX3_begin_49 (lv_at hl 0 rfl) ?_
          refine lv_aload_n hx hb dX3_begin_51 rfl (lv_at hl 1 rfl) ?_
          refine gf_X3_11 hx hb hT hown hK (hP.at (hI.1 13 (by decide)) rfl) rfl dX3_begin_52 ?_
          refine z_plen hx hb hK (hP.at (hI.1 14 (by decide)) rfl) (v := 30) rfl dX3_begin_55 ?_
          refine lv_icmp_lt (tgt := 69) hx hb dX3_begin_56 (by decide) (fun c_5 => ?_) (fun c_5 => ?_)
          · exact absurd c_5 (by rw [hf]; decide)
          · exact z_throw_s hx hb hst hown hT hX hex hlk hml hl.1 (text := "there are 30 policies") (by decide) cl_X3_65 dX3_begin_59 dX3_begin_62 dX3_begin_63 dX3_begin_65 dX3_begin_68 (Nat.le_of_ble_eq_true rfl) (Nat.le_of_ble_eq_true rfl) (Nat.le_of_ble_eq_true rfl) (Nat.le_of_ble_eq_true rfl)
      · exact absurd ((h2).symm.trans c_3) (by decide)
end ZT
