/-! contracts and calls -/
section ZC
def zRm (fr lo mc ms : Nat) : Room := { frames := fr, cells := mc, slots := ms, locals := lo }
/-- a method that changes no cell: what it answers -/
def zQR (v : Option Value) : Array Value → State → Outcome → State → Prop := fun _ st oc t => oc = .returned v ∧ t.heap = st.heap
def zQW (v : Option Value) (B : Heap → Prop) (A : Nat → Prop) : Array Value → State → Outcome → State → Prop := fun _ st oc t => oc = .returned v ∧ B t.heap ∧ va_F A st t
def zPR (D : va_G) (ks : Nat → ClassId) (As : List Value) (P : Heap → Prop) : Array Value → State → Prop := va_Pc As (fun U => P U.heap ∧ zK D ks U)
def zPW (D : va_G) (ks : Nat → ClassId) (sz : Nat) (As : List Value) (P : Heap → Prop) : Array Value → State → Prop := va_Pc As (fun U => U.heap.size = sz ∧ P U.heap ∧ zK D ks U)
def zMR (l : Launch) (y : MethodName) (cc : ByteArray) (n : Nat) (ret : Option FieldType) (fr lo : Nat) (D : va_G) (ks : Nat → ClassId) (As : List Value) (P : Heap → Prop) (v : Option Value) : Prop :=
  Met l y (Cond.code y cc n ret :: WS) (zRm fr lo 0 0) (zPR D ks As P) (zQR v) 0 0 (fun _ => False)
def zMW (l : Launch) (y : MethodName) (cc : ByteArray) (n : Nat) (ret : Option FieldType) (fr lo mc ms : Nat) (D : va_G) (ks : Nat → ClassId) (sz : Nat) (As : List Value) (P : Heap → Prop) (v : Option Value) (B : Heap → Prop) (A : Nat → Prop) : Prop :=
  Met l y (Cond.code y cc n ret :: WS) (zRm fr lo mc ms) (zPW D ks sz As P) (zQW v B A) mc ms A
theorem zPR.blind {D : va_G} {ks : Nat → ClassId} {As : List Value} {P : Heap → Prop} : FrameBlind (zPR D ks As P) := fun a U g mk q => ⟨q.1, q.2.1, q.2.2.calling⟩
theorem zPW.blind {D : va_G} {ks : Nat → ClassId} {sz : Nat} {As : List Value} {P : Heap → Prop} : FrameBlind (zPW D ks sz As P) := fun a U g mk q => ⟨q.1, q.2.1, q.2.2.1, q.2.2.2.calling⟩
theorem z_good {y : MethodName} {cy : ByteArray} {n : Nat} {ret : Option FieldType} (hc : Cond.code y cy n ret ∈ WS) : GoodIn WS (Cond.code y cy n ret :: WS) := by
  intro w hw
  have h : w ∈ WS := by
    rcases List.mem_cons.mp hw with rfl | h
    · exact hc
    · exact h
  exact ⟨h, ws_good h⟩
abbrev zcD (y : MethodName) (k : Nat) : Prop := y.cls ≠ "java/lang/invoke/MethodHandle" ∧ y.cls ≠ "java/lang/invoke/VarHandle" ∧ (parseMethodDescriptor y.desc).map (fun d => d.parameters.length) = some k
def zcS (own : String) (index : Nat) (y : MethodName) (cy : ByteArray) (n : Nat) (ret : Option FieldType) (k : Nat) : Prop := Cond.methodLink own index y ∈ WS ∧ Cond.static y ∈ WS ∧ Cond.initialized y.cls ∈ WS ∧ Cond.code y cy n ret ∈ WS ∧ zcD y k
def zcV (own : String) (index : Nat) (y : MethodName) (cy : ByteArray) (n : Nat) (ret : Option FieldType) (k : Nat) : Prop := Cond.methodLink own index y ∈ WS ∧ Cond.instanceMethod y ∈ WS ∧ Cond.selects y.cls y y ∈ WS ∧ Cond.initialized y.cls ∈ WS ∧ Cond.code y cy n ret ∈ WS ∧ zcD y k
def zcI (own : String) (index : Nat) (y : MethodName) (cy : ByteArray) (n : Nat) (k : Nat) : Prop := Cond.methodLink own index y ∈ WS ∧ Cond.instanceMethod y ∈ WS ∧ Cond.initialized y.cls ∈ WS ∧ Cond.code y cy n none ∈ WS ∧ zcD y k ∧ y.name = "<init>"
def zcSN (own : String) (index : Nat) (y : MethodName) (cy : ByteArray) (n : Nat) (ret : Option FieldType) (k : Nat) : Prop := Cond.methodLinkNest own index y "ProfitsOffice" ∈ NS ∧ Cond.static y ∈ WS ∧ Cond.initialized y.cls ∈ WS ∧ Cond.code y cy n ret ∈ WS ∧ zcD y k
def zcVN (own : String) (index : Nat) (y : MethodName) (cy : ByteArray) (n : Nat) (ret : Option FieldType) (k : Nat) : Prop := Cond.methodLinkNest own index y "ProfitsOffice" ∈ NS ∧ Cond.instanceMethod y ∈ WS ∧ Cond.selects y.cls y y ∈ WS ∧ Cond.initialized y.cls ∈ WS ∧ Cond.code y cy n ret ∈ WS ∧ zcD y k
def zcIN (own : String) (index : Nat) (y : MethodName) (cy : ByteArray) (n : Nat) (k : Nat) : Prop := Cond.methodLinkNest own index y "ProfitsOffice" ∈ NS ∧ Cond.instanceMethod y ∈ WS ∧ Cond.initialized y.cls ∈ WS ∧ Cond.code y cy n none ∈ WS ∧ zcD y k ∧ y.name = "<init>"
section ZCB
variable {l : Launch} {y : MethodName} {cc : ByteArray} {n : Nat} {ret : Option FieldType} {fr lo mc ms : Nat} {D : va_G} {ks : Nat → ClassId} {As : List Value} {P : Heap → Prop} {v : Option Value} {B : Heap → Prop} {A : Nat → Prop} {sz : Nat}
theorem zMR.of (hy : plainName y.cls = true) (hn : (lg_sl As).length ≤ n)
    (body : ∀ (p : Program) (e : Env) (s : State) (m : MethodId) (below : List Frame) (meth : Method) (c : Code) (ls : Array Slot), p.tables.exec = Jvm.exec → c.code = cc → meth.sig.returnType = ret → c.maxLocals = n → s.vm.findClass y.cls = some m.cls → meth.locks = false → (∀ w ∈ WS, w.before As.toArray s = true) → P s.heap → zK D ks s → lv_has ls n (lv_args 0 As) →
      W p l e (zRm fr lo 0 0) s m As.toArray below meth c s.heap [] 0 0 (MQ below (zQR v) As.toArray s 0 0 (fun _ => False)) (F0 m 0 ls [])) : zMR l y cc n ret fr lo D ks As P v := by
  refine Met.ofW (cc := cc) (maxL := n) (ret := ret) hy rfl ?_
  intro p e s m args below meth c s₁ B hml hv
  obtain ⟨rfl, hP, hK⟩ := hv
  rw [lg_entry_eq]
  exact body p e s m below meth c _ B.exec B.bytes B.returns hml (findClass_of_methodNamed B.named) B.notSynchronized (fun w hw => atoms_spec (ws := Cond.code y cc n ret :: WS) B.pre w (List.mem_cons_of_mem _ hw)) hP hK (lv_entry As hn)
theorem zMW.of (hy : plainName y.cls = true) (hn : (lg_sl As).length ≤ n)
    (body : ∀ (p : Program) (e : Env) (s : State) (m : MethodId) (below : List Frame) (meth : Method) (c : Code) (ls : Array Slot), p.tables.exec = Jvm.exec → c.code = cc → meth.sig.returnType = ret → c.maxLocals = n → s.vm.findClass y.cls = some m.cls → meth.locks = false → (∀ w ∈ WS, w.before As.toArray s = true) → s.heap.size = sz → P s.heap → zK D ks s → lv_has ls n (lv_args 0 As) → (y.name = "<init>" → meth.name = "<init>") →
      W p l e (zRm fr lo mc ms) s m As.toArray below meth c s.heap [] 0 0 (MQ below (zQW v B A) As.toArray s mc ms A) (F0 m 0 ls [])) : zMW l y cc n ret fr lo mc ms D ks sz As P v B A := by
  refine Met.ofW (cc := cc) (maxL := n) (ret := ret) hy rfl ?_
  intro p e s m args below meth c s₁ B hml hv
  obtain ⟨rfl, hsz, hP, hK⟩ := hv
  rw [lg_entry_eq]
  exact body p e s m below meth c _ B.exec B.bytes B.returns hml (findClass_of_methodNamed B.named) B.notSynchronized (fun w hw => atoms_spec (ws := Cond.code y cc n ret :: WS) B.pre w (List.mem_cons_of_mem _ hw)) hsz hP hK (lv_entry As hn) (fun h => (name_of_methodNamed B.named B.method).1.trans h)
end ZCB
theorem zMR.ofF {l : Launch} {y : MethodName} {cc : ByteArray} {n : Nat} {ret : Option FieldType} {fr lo : Nat} {D : va_G} {ks : Nat → ClassId} {As : List Value} {P : Heap → Prop} {v : Option Value} (hy : plainFor y = true) (hn : (lg_sl As).length ≤ n)
    (body : ∀ (p : Program) (e : Env) (s : State) (m : MethodId) (below : List Frame) (meth : Method) (c : Code) (ls : Array Slot), p.tables.exec = Jvm.exec → c.code = cc → meth.sig.returnType = ret → c.maxLocals = n → s.vm.findClass y.cls = some m.cls → meth.locks = false → (∀ w ∈ WS, w.before As.toArray s = true) → P s.heap → zK D ks s → lv_has ls n (lv_args 0 As) →
      W p l e (zRm fr lo 0 0) s m As.toArray below meth c s.heap [] 0 0 (MQ below (zQR v) As.toArray s 0 0 (fun _ => False)) (F0 m 0 ls [])) : zMR l y cc n ret fr lo D ks As P v := by
  unfold zMR Met
  refine MetFree.of_bodySF (code := cc) (maxLocals := n) (ret := ret) hy ?_ ?_
  · intro args s m h hn
    obtain ⟨meth, c, h1, h2, h3, h4, h5, h6, -, -⟩ := Cond.code_spec hn (atoms_spec (ws := Cond.code y cc n ret :: WS) h _ List.mem_cons_self)
    exact ⟨meth, c, h1, h2, h3, h4, h5, h6⟩
  · intro p e s m args below meth c s₁ B hml hv _
    obtain ⟨rfl, hP, hK⟩ := hv
    have hh0 : s₁.heap = s.heap := by rw [B.state]; rfl
    rw [lg_entry_eq]
    obtain ⟨t, a1, o, b1, b2, b3⟩ := body p e s m below meth c _ B.exec B.bytes B.returns hml (findClass_of_methodNamed B.named) B.notSynchronized (fun w hw => atoms_spec (ws := Cond.code y cc n ret :: WS) B.pre w (List.mem_cons_of_mem _ hw)) hP hK (lv_entry As hn) s₁ hh0 (Stand.of_body B)
    exact ⟨t, o, a1, b1, b2, ⟨b3.1, b3.2⟩⟩
section ZCR
variable {p : Program} {l : Launch} {e : Env} {R : Room} {s : State} {m : MethodId} {args : Array Value} {below : List Frame} {meth : Method} {c : Code} {H : Heap} {locs : List Loc} {cells slots : Nat} {Q : State → Prop}
variable {cc : ByteArray} {pc : Nat} {ls : Array Slot} {rest st0 : List Value} {D : va_G} {ks : Nat → ClassId} {A : Nat → Prop} {b : Nat}
variable {own : String} {index : Nat} {y : MethodName} {cy : ByteArray} {n2 nL : Nat} {ret2 : Option FieldType} {fr lo mc ms : Nat} {As : List Value} {P : Heap → Prop} {v : Option Value} {B : Heap → Prop} {A1 : Nat → Prop} {k : Nat}
/-! ends -/
theorem zR_l {x v : Int64} (hx : p.tables.exec = Jvm.exec) (hb : c.code = cc) (hr : meth.sig.returnType = some .long) (hlk : meth.locks = false) (hdg : decode cc pc = .ok (.lreturn, 1)) (hv : x = v) : W p l e R s m args below meth c s.heap [] 0 0 (MQ below (zQR (some (.long v))) args s 0 0 (fun _ => False)) (F0 m pc ls [.long x]) :=
  W.lret hx hb hr (fun t ht _ => ⟨by rw [hv], ht⟩) (fun _ h => nomatch h) hdg hlk
theorem zR_i {x v : Int32} (hx : p.tables.exec = Jvm.exec) (hb : c.code = cc) (hr : meth.sig.returnType = some .int) (hlk : meth.locks = false) (hdg : decode cc pc = .ok (.ireturn, 1)) (hv : x = v) : W p l e R s m args below meth c s.heap [] 0 0 (MQ below (zQR (some (.int v))) args s 0 0 (fun _ => False)) (F0 m pc ls [.int x]) :=
  W.iret hx hb hr (fun t ht _ => ⟨by rw [hv], ht⟩) (fun _ h => nomatch h) hdg hlk
theorem zR_z {x v : Int32} (hx : p.tables.exec = Jvm.exec) (hb : c.code = cc) (hr : meth.sig.returnType = some .boolean) (hlk : meth.locks = false) (hdg : decode cc pc = .ok (.ireturn, 1)) (hn : narrow .boolean (.int x) = .int x) (hv : x = v) : W p l e R s m args below meth c s.heap [] 0 0 (MQ below (zQR (some (.int v))) args s 0 0 (fun _ => False)) (F0 m pc ls [.int x]) :=
  W.zret hx hb hr hn (fun t ht _ => ⟨by rw [hv], ht⟩) (fun _ h => nomatch h) hdg hlk
theorem zR_v (hx : p.tables.exec = Jvm.exec) (hb : c.code = cc) (hr : meth.sig.returnType = none) (hlk : meth.locks = false) (hdg : decode cc pc = .ok (.return_, 1)) : W p l e R s m args below meth c s.heap [] 0 0 (MQ below (zQR none) args s 0 0 (fun _ => False)) (F0 m pc ls []) :=
  W.vret hx hb hr (fun t ht _ => ⟨rfl, ht⟩) (fun _ h => nomatch h) hdg hlk
theorem zR_a {x v : Value} {C : String} (hx : p.tables.exec = Jvm.exec) (hb : c.code = cc) (hr : meth.sig.returnType = some (.object C)) (hlk : meth.locks = false) (hdg : decode cc pc = .ok (.areturn, 1)) (hq : x = .null ∨ ∃ a, x = .ref a) (hv : x = v) : W p l e R s m args below meth c s.heap [] 0 0 (MQ below (zQR (some v)) args s 0 0 (fun _ => False)) (F0 m pc ls [x]) :=
  W.aret hx hb hr (Or.inl ⟨_, rfl⟩) hq (fun t ht _ => ⟨by rw [hv], ht⟩) (fun _ h => nomatch h) hdg hlk
theorem zW_l {x v : Int64} (hx : p.tables.exec = Jvm.exec) (hb : c.code = cc) (hr : meth.sig.returnType = some .long) (hlk : meth.locks = false) (hS : va_S A s.heap H locs) (hc : cells ≤ mc) (hs : slots ≤ ms) (hdg : decode cc pc = .ok (.lreturn, 1)) (hv : x = v) (hB : B H) : W p l e R s m args below meth c H locs cells slots (MQ below (zQW (some (.long v)) B A) args s mc ms A) (F0 m pc ls [.long x]) :=
  W.widen hc hs (W.lret hx hb hr (fun t ht _ => ⟨by rw [hv], by rw [ht]; exact hB, hS.F ht⟩) hS.2.2 hdg hlk)
theorem zW_i {x v : Int32} (hx : p.tables.exec = Jvm.exec) (hb : c.code = cc) (hr : meth.sig.returnType = some .int) (hlk : meth.locks = false) (hS : va_S A s.heap H locs) (hc : cells ≤ mc) (hs : slots ≤ ms) (hdg : decode cc pc = .ok (.ireturn, 1)) (hv : x = v) (hB : B H) : W p l e R s m args below meth c H locs cells slots (MQ below (zQW (some (.int v)) B A) args s mc ms A) (F0 m pc ls [.int x]) :=
  W.widen hc hs (W.iret hx hb hr (fun t ht _ => ⟨by rw [hv], by rw [ht]; exact hB, hS.F ht⟩) hS.2.2 hdg hlk)
theorem zW_z {x v : Int32} (hx : p.tables.exec = Jvm.exec) (hb : c.code = cc) (hr : meth.sig.returnType = some .boolean) (hlk : meth.locks = false) (hS : va_S A s.heap H locs) (hc : cells ≤ mc) (hs : slots ≤ ms) (hdg : decode cc pc = .ok (.ireturn, 1)) (hn : narrow .boolean (.int x) = .int x) (hv : x = v) (hB : B H) : W p l e R s m args below meth c H locs cells slots (MQ below (zQW (some (.int v)) B A) args s mc ms A) (F0 m pc ls [.int x]) :=
  W.widen hc hs (W.zret hx hb hr hn (fun t ht _ => ⟨by rw [hv], by rw [ht]; exact hB, hS.F ht⟩) hS.2.2 hdg hlk)
theorem zW_v (hx : p.tables.exec = Jvm.exec) (hb : c.code = cc) (hr : meth.sig.returnType = none) (hlk : meth.locks = false) (hS : va_S A s.heap H locs) (hc : cells ≤ mc) (hs : slots ≤ ms) (hdg : decode cc pc = .ok (.return_, 1)) (hB : B H) : W p l e R s m args below meth c H locs cells slots (MQ below (zQW none B A) args s mc ms A) (F0 m pc ls []) :=
  W.widen hc hs (W.vret hx hb hr (fun t ht _ => ⟨rfl, by rw [ht]; exact hB, hS.F ht⟩) hS.2.2 hdg hlk)
/-! behind a call -/
theorem z_backR1 {val : Value} {a : Array Value} (hr : va_Run p l e R s m args below meth c H locs cells slots 0 0 (F0 m pc ls st0) rest (zQR (some val) a) (fun _ => False))
    (kk : W p l e R s m args below meth c H locs cells slots Q (F0 m (pc + 3) ls (val :: rest))) : W p l e R s m args below meth c H locs cells slots Q (F0 m pc ls st0) := by
  intro T hT X
  obtain ⟨v, st₀, t, T', L, h0, X', hL, e1, e2, ⟨hv, hh⟩, st⟩ := hr T hT X
  cases hv
  obtain ⟨t2, a1, b1⟩ := kk T' (by rw [e1, hh, h0]) (Stand.forget X' (fun q h => (hL q h).elim))
  exact ⟨t2, st t2 a1, b1⟩
theorem z_backR0 {a : Array Value} (hr : va_Run p l e R s m args below meth c H locs cells slots 0 0 (F0 m pc ls st0) rest (zQR none a) (fun _ => False))
    (kk : W p l e R s m args below meth c H locs cells slots Q (F0 m (pc + 3) ls rest)) : W p l e R s m args below meth c H locs cells slots Q (F0 m pc ls st0) := by
  intro T hT X
  obtain ⟨v, st₀, t, T', L, h0, X', hL, e1, e2, ⟨hv, hh⟩, st⟩ := hr T hT X
  cases hv
  obtain ⟨t2, a1, b1⟩ := kk T' (by rw [e1, hh, h0]) (Stand.forget X' (fun q h => (hL q h).elim))
  exact ⟨t2, st t2 a1, b1⟩
theorem z_keep {st₀ t T' : State} {L : List Loc} (h0 : st₀.heap = H) (e1 : T'.heap = t.heap) (hS : va_S A s.heap H locs) (hA : ∀ q, A1 q → A q) (hL : ∀ q ∈ L, A1 q.base) (hF : va_F A1 st₀ t) : va_S A s.heap T'.heap (locs ++ L) := by
  obtain ⟨hz, hk⟩ := hF
  rw [h0] at hz hk
  refine ⟨Nat.le_trans hS.1 (by rw [e1]; exact hz), fun q h1 h2 => ?_, fun q hq => ?_⟩
  · rw [e1, hk q (Nat.lt_of_lt_of_le h1 hS.1) (fun z => h2 (hA q z))]
    exact hS.2.1 q h1 h2
  · rcases List.mem_append.mp hq with h | h
    · exact hS.2.2 q h
    · exact hA _ (hL q h)
theorem z_backW1 {val : Value} {a : Array Value} (hr : va_Run p l e R s m args below meth c H locs cells slots mc ms (F0 m pc ls st0) rest (zQW (some val) B A1 a) A1) (hS : va_S A s.heap H locs) (hA : ∀ q, A1 q → A q)
    (kk : ∀ (H1 : Heap) (locs1 : List Loc), B H1 → H.size ≤ H1.size → (∀ q : Nat, q < H.size → ¬ A1 q → H1[q]? = H[q]?) → va_S A s.heap H1 locs1 → W p l e R s m args below meth c H1 locs1 (cells + mc) (slots + ms) Q (F0 m (pc + 3) ls (val :: rest))) : W p l e R s m args below meth c H locs cells slots Q (F0 m pc ls st0) := by
  intro T hT X
  obtain ⟨v, st₀, t, T', L, h0, X', hL, e1, e2, ⟨hv, hB, hF⟩, st⟩ := hr T hT X
  cases hv
  obtain ⟨t2, a1, b1⟩ := kk T'.heap (locs ++ L) (by rw [e1]; exact hB) (by rw [e1, ← h0]; exact hF.1) (fun q h1 h2 => by rw [e1, ← h0]; exact hF.2 q (by rw [h0]; exact h1) h2) (z_keep h0 e1 hS hA hL hF) T' rfl X'
  exact ⟨t2, st t2 a1, b1⟩
theorem z_backW0 {a : Array Value} (hr : va_Run p l e R s m args below meth c H locs cells slots mc ms (F0 m pc ls st0) rest (zQW none B A1 a) A1) (hS : va_S A s.heap H locs) (hA : ∀ q, A1 q → A q)
    (kk : ∀ (H1 : Heap) (locs1 : List Loc), B H1 → H.size ≤ H1.size → (∀ q : Nat, q < H.size → ¬ A1 q → H1[q]? = H[q]?) → va_S A s.heap H1 locs1 → W p l e R s m args below meth c H1 locs1 (cells + mc) (slots + ms) Q (F0 m (pc + 3) ls rest)) : W p l e R s m args below meth c H locs cells slots Q (F0 m pc ls st0) := by
  intro T hT X
  obtain ⟨v, st₀, t, T', L, h0, X', hL, e1, e2, ⟨hv, hB, hF⟩, st⟩ := hr T hT X
  cases hv
  obtain ⟨t2, a1, b1⟩ := kk T'.heap (locs ++ L) (by rw [e1]; exact hB) (by rw [e1, ← h0]; exact hF.1) (fun q h1 h2 => by rw [e1, ← h0]; exact hF.2 q (by rw [h0]; exact h1) h2) (z_keep h0 e1 hS hA hL hF) T' rfl X'
  exact ⟨t2, st t2 a1, b1⟩
/-! runs -/
abbrev zFx (p : Program) (m : MethodId) (c : Code) (cc : ByteArray) (nL : Nat) (s : State) (args : Array Value) (own : String) : Prop := CallFix p m c cc nL s args WS own
variable {Pc : Array Value → State → Prop} {Qc : Array Value → State → Outcome → State → Prop} {free : Addr → Prop}
theorem z_runS (F : zFx p m c cc nL s args own) (hM : Met l y (Cond.code y cy n2 ret2 :: WS) (zRm fr lo mc ms) Pc Qc mc ms free) (w : zcS own index y cy n2 ret2 k) (hp : PreS s H Pc As) (hn : As.length = k) (hR : fr + 1 ≤ R.frames ∧ 8 + (n2 + 11) + lo ≤ R.locals) (hsz : ls.size = nL) (hst : st0 = As.reverse ++ rest) (hW : (rest.map fun v => v.category).sum ≤ 8) (hdg : decode cc pc = .ok (.invokestatic index, 3)) (hf : cells + mc ≤ R.cells ∧ slots + ms ≤ R.slots) :
    va_Run p l e R s m args below meth c H locs cells slots mc ms (F0 m pc ls st0) rest (Qc As.toArray) free :=
  va_runS F hM ⟨callB_of k F.2.2.2.2 (z_good w.2.2.2.1) rfl rfl rfl (F.2.2.2.2 _ w.2.2.1) (F.2.2.2.2 _ w.1) w.2.2.2.2 hR, F.2.2.2.2 _ w.2.1⟩ hp rfl hn hsz hst (lv_room hW) hdg hf
theorem z_runSN (F : zFx p m c cc nL s args own) (hK : zK D ks s) (hM : Met l y (Cond.code y cy n2 ret2 :: WS) (zRm fr lo mc ms) Pc Qc mc ms free) (w : zcSN own index y cy n2 ret2 k) (hp : PreS s H Pc As) (hn : As.length = k) (hR : fr + 1 ≤ R.frames ∧ 8 + (n2 + 11) + lo ≤ R.locals) (hsz : ls.size = nL) (hst : st0 = As.reverse ++ rest) (hW : (rest.map fun v => v.category).sum ≤ 8) (hdg : decode cc pc = .ok (.invokestatic index, 3)) (hf : cells + mc ≤ R.cells ∧ slots + ms ≤ R.slots) :
    va_Run p l e R s m args below meth c H locs cells slots mc ms (F0 m pc ls st0) rest (Qc As.toArray) free :=
  va_runSN F hM ⟨va_cnB k F.2.2.2.2 (z_good w.2.2.2.1) rfl rfl rfl (hK.2 _ w.1) (F.2.2.2.2 _ w.2.2.1) w.2.2.2.2 hR, F.2.2.2.2 _ w.2.1, trivial⟩ hp rfl hn hsz hst (lv_room hW) hdg hf
theorem z_runV (F : zFx p m c cc nL s args own) (hM : Met l y (Cond.code y cy n2 ret2 :: WS) (zRm fr lo mc ms) Pc Qc mc ms free) (w : zcV own index y cy n2 ret2 k) (hp : PreV s H y.cls b Pc As) (hn : As.length = k) (hR : fr + 1 ≤ R.frames ∧ 8 + (n2 + 11) + lo ≤ R.locals) (hsz : ls.size = nL) (hst : st0 = As.reverse ++ .ref b :: rest) (hW : (rest.map fun v => v.category).sum ≤ 8) (hdg : decode cc pc = .ok (.invokevirtual index, 3)) (hf : cells + mc ≤ R.cells ∧ slots + ms ≤ R.slots) :
    va_Run p l e R s m args below meth c H locs cells slots mc ms (F0 m pc ls st0) rest (Qc (Value.ref b :: As).toArray) free :=
  va_runV F hM ⟨callB_of k F.2.2.2.2 (z_good w.2.2.2.2.1) rfl rfl rfl (F.2.2.2.2 _ w.2.2.2.1) (F.2.2.2.2 _ w.1) w.2.2.2.2.2 hR, F.2.2.2.2 _ w.2.1, F.2.2.2.2 _ w.2.2.1⟩ hp rfl hn hsz hst (lv_room hW) hdg hf
theorem z_runVN (F : zFx p m c cc nL s args own) (hK : zK D ks s) (hM : Met l y (Cond.code y cy n2 ret2 :: WS) (zRm fr lo mc ms) Pc Qc mc ms free) (w : zcVN own index y cy n2 ret2 k) (hp : PreV s H y.cls b Pc As) (hn : As.length = k) (hR : fr + 1 ≤ R.frames ∧ 8 + (n2 + 11) + lo ≤ R.locals) (hsz : ls.size = nL) (hst : st0 = As.reverse ++ .ref b :: rest) (hW : (rest.map fun v => v.category).sum ≤ 8) (hdg : decode cc pc = .ok (.invokevirtual index, 3)) (hf : cells + mc ≤ R.cells ∧ slots + ms ≤ R.slots) :
    va_Run p l e R s m args below meth c H locs cells slots mc ms (F0 m pc ls st0) rest (Qc (Value.ref b :: As).toArray) free :=
  va_runVN F hM ⟨va_cnB k F.2.2.2.2 (z_good w.2.2.2.2.1) rfl rfl rfl (hK.2 _ w.1) (F.2.2.2.2 _ w.2.2.2.1) w.2.2.2.2.2 hR, F.2.2.2.2 _ w.2.1, F.2.2.2.2 _ w.2.2.1⟩ hp rfl hn hsz hst (lv_room hW) hdg hf
theorem z_runI (F : zFx p m c cc nL s args own) (hM : Met l y (Cond.code y cy n2 none :: WS) (zRm fr lo mc ms) Pc Qc mc ms free) (w : zcI own index y cy n2 k) (hp : PreS s H Pc (.ref b :: As)) (hn : As.length = k) (hR : fr + 1 ≤ R.frames ∧ 8 + (n2 + 11) + lo ≤ R.locals) (hsz : ls.size = nL) (hst : st0 = As.reverse ++ .ref b :: rest) (hW : (rest.map fun v => v.category).sum ≤ 8) (hdg : decode cc pc = .ok (.invokespecial index, 3)) (hf : cells + mc ≤ R.cells ∧ slots + ms ≤ R.slots) :
    va_Run p l e R s m args below meth c H locs cells slots mc ms (F0 m pc ls st0) rest (Qc (Value.ref b :: As).toArray) free :=
  va_runI F hM ⟨callB_of k F.2.2.2.2 (z_good w.2.2.2.1) rfl rfl rfl (F.2.2.2.2 _ w.2.2.1) (F.2.2.2.2 _ w.1) w.2.2.2.2.1 hR, w.2.2.2.2.2, F.2.2.2.2 _ w.2.1⟩ hp rfl hn hsz hst (lv_room hW) hdg hf
theorem z_runIN (F : zFx p m c cc nL s args own) (hK : zK D ks s) (hM : Met l y (Cond.code y cy n2 none :: WS) (zRm fr lo mc ms) Pc Qc mc ms free) (w : zcIN own index y cy n2 k) (hp : PreS s H Pc (.ref b :: As)) (hn : As.length = k) (hR : fr + 1 ≤ R.frames ∧ 8 + (n2 + 11) + lo ≤ R.locals) (hsz : ls.size = nL) (hst : st0 = As.reverse ++ .ref b :: rest) (hW : (rest.map fun v => v.category).sum ≤ 8) (hdg : decode cc pc = .ok (.invokespecial index, 3)) (hf : cells + mc ≤ R.cells ∧ slots + ms ≤ R.slots) :
    va_Run p l e R s m args below meth c H locs cells slots mc ms (F0 m pc ls st0) rest (Qc (Value.ref b :: As).toArray) free :=
  va_runIN F hM ⟨va_cnB k F.2.2.2.2 (z_good w.2.2.2.1) rfl rfl rfl (hK.2 _ w.1) (F.2.2.2.2 _ w.2.2.1) w.2.2.2.2.1 hR, w.2.2.2.2.2, F.2.2.2.2 _ w.2.1⟩ hp rfl hn hsz hst (lv_room hW) hdg hf
/-! what a call's start wants -/
theorem z_preR (hK : zK D ks s) (hP : P H) : PreS s H (zPR D ks As P) As := ⟨zPR.blind, fun U hU hW => ⟨rfl, by rw [hU]; exact hP, hK.warm hW⟩⟩
theorem z_preW (hK : zK D ks s) (hP : P H) : PreS s H (zPW D ks H.size As P) As := ⟨zPW.blind, fun U hU hW => ⟨rfl, by rw [hU], by rw [hU]; exact hP, hK.warm hW⟩⟩
theorem z_recv {C : String} (hK : zK D ks s) {ci : Nat} {T : u_T} {N : Nat} {fs : List Value} (hat : va_at D vwCl (b, .inr (ci, fs)) H) (hc : vwCl[ci]? = some (C, T, N)) : ∃ cell : Cell, H[b]? = some cell ∧ cell.vm.isStatics = false ∧ s.vm.findClass C = some cell.cls := va_recv hK.1 (z1P hat) hc (q0 := 0) rfl
theorem z_preRV {C : String} (hK : zK D ks s) (hP : P H) {ci : Nat} {T : u_T} {N : Nat} {fs : List Value} (hat : va_at D vwCl (b, .inr (ci, fs)) H) (hc : vwCl[ci]? = some (C, T, N)) : PreV s H C b (zPR D ks (.ref b :: As) P) As := ⟨zPR.blind, z_recv hK hat hc, fun U hU hW => ⟨rfl, by rw [hU]; exact hP, hK.warm hW⟩⟩
theorem z_preWV {C : String} (hK : zK D ks s) (hP : P H) {ci : Nat} {T : u_T} {N : Nat} {fs : List Value} (hat : va_at D vwCl (b, .inr (ci, fs)) H) (hc : vwCl[ci]? = some (C, T, N)) : PreV s H C b (zPW D ks H.size (.ref b :: As) P) As := ⟨zPW.blind, z_recv hK hat hc, fun U hU hW => ⟨rfl, by rw [hU], by rw [hU]; exact hP, hK.warm hW⟩⟩
end ZCR
end ZC
