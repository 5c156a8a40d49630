/-! THE CLAIM OUT OF ONE WALK OF THE LAW'S BODY. Your part is whole_start (and what it stands on); all else here is the same for every law, but numbers. -/
def R_law : String := "ProfitsOfficeLaw"
def lw_P (b : Addr) (xs : List Int32) (args : Array Value) (s : State) : Prop := args = #[.ref b] ∧ s.IntsAt b xs ∧ xs.length ≤ 260 ∧ (Jvm.Cond.and given_1 narrow_1).before args s = true
def lw_Q (_ : Array Value) (s : State) (o : Outcome) (t : State) : Prop := o = .returned (some (.int 1)) ∧ Framed s o t [] 659795 7122083
def lw_Z (below : List Frame) (a : Array Value) (s : State) : State → Prop := fun t => ∃ o, t.status = .running ∧ Ended t below o ∧ lw_Q a s o t
/-- the law's own end, with 1 on the stack, nothing written that was there before, its room as the claim has it -/
theorem lw_ret {p : Program} {l : Launch} {e : Env} {s : State} {m : MethodId} {below : List Frame} {meth : Method} {c : Code} {b : Nat} (hx : p.tables.exec = Jvm.exec) (hb : c.code = code) (hr : meth.sig.returnType = ret) (hlocks : meth.locks = false) {pc : Nat} {H : Heap} {ls : Array Slot} (hdg : decode code pc = .ok (.ireturn, 1)) : W p l e room_1 s m #[Value.ref b] below meth c H [] 659795 7122083 (lw_Z below #[Value.ref b] s) (F0 m pc ls [.int 1]) := by
  intro T hT X
  obtain ⟨fs, hret, hrun, hended, hW, hframe⟩ := X.leave (v := some (.int 1)) (hlocks := hlocks) (fun h => by rw [hr] at h; cases h)
  have hmeth' : T.vm.method? m = some meth := X.method'
  refine ⟨T.setFrames fs, ?_, .returned (some (.int 1)), hrun, hended, rfl, ⟨_, rfl⟩, hW, hframe⟩
  jvm_step X.here [X.here.top, hx, hb, hdg, hmeth', hr, ret, narrow_b1]
  (try refine ⟨rfl, ?_⟩); (try refine ⟨rfl, ?_⟩)
  first | (intro acts; rw [hret _ acts rfl rfl rfl]) | rw [hret _ _ rfl rfl rfl]
  exact Steps.refl _
/-- what holds at the law's entry: the machine, the code, the tables' words (any of lw_tbl by 'hts w (by decide +kernel)'), the script of L ints xs at the cell b, what the Statement gives of the start (any of its parts by flat_of_before) -/
def lw_At (p : Program) (s : State) (m : MethodId) (meth : Method) (c : Code) (b L : Nat) (xs : Nat → Int32) : Prop :=
  p.tables.exec = Jvm.exec ∧ c.code = code ∧ meth.sig.returnType = ret ∧ c.maxLocals = 13 ∧ s.vm.findClass R_law = some m.cls ∧ (∀ w ∈ lw_tbl, w.before #[Value.ref b] s = true) ∧ va_X b L xs s s.heap ∧ b < s.heap.size ∧ meth.locks = false ∧ (Jvm.Cond.and given_1 narrow_1).before #[Value.ref b] s = true
/-! the law: its start -/
section ZLA
variable {p : Program} {l : Launch} {e : Env} {R : Room} {s : State} {m : MethodId} {args : Array Value} {below : List Frame} {meth : Method} {c : Code} {H : Heap} {locs : List Loc} {cells slots : Nat} {Q : State → Prop}
theorem law_T (hts : ∀ w ∈ lw_tbl, w.before args s = true) : ∀ w ∈ WS, w.before args s = true := fun w hw => hts w (List.mem_filter.mp hw).1
theorem law_AO (hts : ∀ w ∈ lw_tbl, w.before args s = true) : va_AO RX2 s ∧ va_AO RX1 s := ⟨va_AO.of (hts (.arrayOver (.object RX2)) (by decide +kernel)), va_AO.of (hts (.arrayOver (.object RX1)) (by decide +kernel))⟩
theorem law_K (hts : ∀ w ∈ lw_tbl, w.before args s = true) : ∃ (D : va_G) (ks : Nat → ClassId), zK D ks s := by
  have hT := law_T hts
  obtain ⟨c0, i0, h0⟩ := u_known hT ly_X0 (hT _ mk_X0)
  obtain ⟨c1, i1, h1⟩ := u_known hT ly_X1 (hT _ mk_X1)
  obtain ⟨c2, i2, h2⟩ := u_known hT ly_X2 (hT _ mk_X2)
  obtain ⟨c3, i3, h3⟩ := u_known hT ly_X3 (hT _ mk_X3)
  obtain ⟨k1, a1, m1, p1, q1, r1⟩ := Cond.arrayClass_spec (hT _ ac_long)
  obtain ⟨m2, k2, a2, f2, -, p2, q2, r2⟩ := Cond.arrayOver_spec (hts (.arrayOver (.object RX1)) (by decide +kernel))
  obtain ⟨m3, k3, a3, f3, -, p3, q3, r3⟩ := Cond.arrayOver_spec (hts (.arrayOver (.object RX2)) (by decide +kernel))
  refine ⟨(fun c => match c with | 0 => c0 | 1 => c1 | 2 => c2 | _ => c3, fun c => match c with | 0 => i0 | 1 => i1 | 2 => i2 | _ => i3), fun k => match k with | 0 => k1 | 1 => k1 | 2 => k2 | _ => k3, ⟨fun c q hq => ?_, fun k q hq => ?_⟩, fun w hw => va_Nw.of (ns_tab w hw) (hts w (ns_tbl w hw))⟩
  · match c with
    | 0 => cases hq; exact h0
    | 1 => cases hq; exact h1
    | 2 => cases hq; exact h2
    | 3 => cases hq; exact h3
    | n + 4 => simp at hq
  · match k with
    | 0 => cases hq; exact ⟨fun n z => ⟨(fun k h => by cases h), a1, q1, m1, r1⟩, p1⟩
    | 1 => cases hq; exact ⟨fun n z => ⟨(fun k h => by cases h), a1, q1, m1, r1⟩, p1⟩
    | 2 => cases hq; exact ⟨fun n z => ⟨(fun k h => by cases h), a2, p2, m2, q2⟩, a2, m2, p2, q2, f2, r2⟩
    | 3 => cases hq; exact ⟨fun n z => ⟨(fun k h => by cases h), a3, p3, m3, q3⟩, a3, m3, p3, q3, f3, r3⟩
    | n + 4 => simp [zT] at hq
theorem str_tbl : ∀ q ∈ xStr, Cond.stringRef RX3 q.1 q.2 ∈ lw_tbl := by decide +kernel
theorem str_nar : ∀ q ∈ xStr, Cond.exactly (Term.string RX3 q.1) "java/lang/String" ∈ flatC (Jvm.Cond.and given_1 narrow_1) := by decide +kernel
theorem ds_tbl : ∀ Y ∈ xDs, Cond.declares (Bundle.initS Y) ∈ lw_tbl := by decide +kernel
theorem law_Z (hts : ∀ w ∈ lw_tbl, w.before args s = true) (hgv : (Jvm.Cond.and given_1 narrow_1).before args s = true) : zZ s := by
  have hs := flat_of_before _ hgv
  refine ⟨fun q hq => ?_, ⟨va_Nw.of rfl (hts _ (by decide +kernel)), va_Nw.of rfl (hts _ (by decide +kernel)), va_Nw.of rfl (hts _ (by decide +kernel))⟩, ⟨trivial, trivial⟩, fun Y hY => va_Nw.of rfl (hts _ (ds_tbl Y hY))⟩
  obtain ⟨a, -, -, -, h, -⟩ := Cond.exactly_spec (hs _ (str_nar q hq))
  exact ⟨a, vk_R.of (hts _ (str_tbl q hq)) h⟩
theorem law_Un (hts : ∀ w ∈ lw_tbl, w.before args s = true) (hgv : (Jvm.Cond.and given_1 narrow_1).before args s = true) : zUn (fun q => s.heap.size ≤ q) s s.heap := by
  have hs := flat_of_before _ hgv
  exact ⟨vx_Zqof (hts _ (by decide +kernel)) (hts _ (by decide +kernel)) (hs _ (by decide +kernel)) (fun a h q => absurd q (by omega)), vx_Zqof (hts _ (by decide +kernel)) (hts _ (by decide +kernel)) (hs _ (by decide +kernel)) (fun a h q => absurd q (by omega))⟩
/-- the state that a call is given, for one that may throw -/
theorem law_X {D : va_G} {ks : Nat → ClassId} (hK : zK D ks s) (hZ : zZ s) (hUn : zUn (fun q => s.heap.size ≤ q) s s.heap) (hS : va_S (fun q => s.heap.size ≤ q) s.heap H locs) {U : State} (hU : U.heap = H) (hW : s.WarmedH U.vm) : zX D ks U := by
  refine ⟨hK.warm hW, hZ.warm hW, ?_⟩
  rw [hU]
  have h1 : zUn (fun q => s.heap.size ≤ q) U s.heap := zUn.moved hW.alike hUn
  have h2 : zUn (fun q => s.heap.size ≤ q) U H := h1.kept (fun a h3 h4 => hS.2.1 a h3 h4)
  exact h2.narrow (fun q h3 => Nat.le_trans hS.1 h3)
theorem z_preY {D : va_G} {ks : Nat → ClassId} {As : List Value} {P : Heap → Prop} (hK : zK D ks s) (hZ : zZ s) (hUn : zUn (fun q => s.heap.size ≤ q) s s.heap) (hS : va_S (fun q => s.heap.size ≤ q) s.heap H locs) (hP : P H) : PreS s H (zPY D ks H.size As P) As :=
  ⟨zPY.blind, fun U hU hW => ⟨rfl, by rw [hU], by rw [hU]; exact hP, law_X hK hZ hUn hS hU hW⟩⟩
theorem z_runY {cc : ByteArray} {nL pc : Nat} {ls : Array Slot} {st0 rest : List Value} {y : MethodName} {cy : ByteArray} {n2 k index fr lo mc ms : Nat} {hh : List (Nat × Nat × Nat × Nat)} {D : va_G} {ks : Nat → ClassId} {sz : Nat} {As : List Value} {P : Heap → Prop} {v : Int32} {B : Heap → Prop} {A1 : Nat → Prop}
    (F : zFx p m c cc nL s args RL) (hM : zMY l y cy n2 hh fr lo mc ms D ks sz As P v B A1) (hc : Cond.codeWith y cy n2 (some .int) hh ∈ WS) (hl : Cond.methodLink RL index y ∈ WS) (hst : Cond.static y ∈ WS) (hi : Cond.initialized y.cls ∈ WS) (hd : zcD y k) (hp : PreS s H (zPY D ks sz As P) As) (hn : As.length = k) (hR : fr + 1 ≤ R.frames ∧ 8 + (n2 + 11) + lo ≤ R.locals) (hsz : ls.size = nL) (hstk : st0 = As.reverse ++ rest) (hW : (rest.map fun v => v.category).sum ≤ 8) (hdg : decode cc pc = .ok (.invokestatic index, 3)) (hf : cells + mc ≤ R.cells ∧ slots + ms ≤ R.slots) :
    va_Run p l e R s m args below meth c H locs cells slots mc ms (F0 m pc ls st0) rest (zQW (some (.int v)) B A1 As.toArray) A1 := by
  refine vx_runSW (g := F0 m pc ls st0) F hM (vx_cwSW k F.2.2.2.2 (fun w hw => ?_) rfl rfl rfl hd hR) hp rfl hn hsz hstk (lv_room hW) hdg hf
  have h : w ∈ WS := by
    unfold va_wsS at hw
    rcases List.mem_append.mp hw with h | h
    · simp only [List.mem_cons, List.not_mem_nil, or_false] at h
      rcases h with rfl | rfl | rfl
      · exact hl
      · exact hst
      · exact hi
    · rcases List.mem_cons.mp h with rfl | h
      · exact hc
      · exact h
  exact ⟨h, ws_good h⟩
end ZLA
