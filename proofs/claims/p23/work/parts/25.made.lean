/-! what is made: funds, generations, policies -/
section ZB1
variable {D : va_G} {ks : Nat → ClassId} {ad : Nat → Nat} {np ng : Nat} {G : Nat → Nat} {MI : Nat → Nat → Int32} {MJ : Nat → Nat → Int64} {XI : Nat → Nat → Int32} {XJ : Nat → Nat → Int64} {Rs : List Nat}
theorem zP.push {g : Nat → va_E} {H : Heap} {q r : Nat} {e : va_E} (h : zP D Rs ad g H) (hq : va_at D vwCl (q, e) H) (hr : r ∉ Rs) : zP D (r :: Rs) (va_up ad r q) (va_up g r e) H := by
  intro x hx
  by_cases hxr : x = r
  · subst hxr
    rw [va_up_self, va_up_self]
    exact hq
  · rw [va_up_ne _ _ hxr, va_up_ne _ _ hxr]
    exact h x ((List.mem_cons.mp hx).resolve_left hxr)
theorem zD.push {A : Nat → Prop} {q r : Nat} (h : zD A Rs ad) (hr : r ∉ Rs) (hq : ∀ x ∈ Rs, ad x ≠ q) (hA : A q) : zD A (r :: Rs) (va_up ad r q) := by
  refine ⟨List.nodup_cons.mpr ⟨hr, h.1⟩, ?_, ?_⟩
  · intro x hx y hy e
    by_cases hxr : x = r <;> by_cases hyr : y = r
    · rw [hxr, hyr]
    · subst hxr
      rw [va_up_self, va_up_ne _ _ hyr] at e
      exact absurd e.symm (hq y ((List.mem_cons.mp hy).resolve_left hyr))
    · subst hyr
      rw [va_up_self, va_up_ne _ _ hxr] at e
      exact absurd e (hq x ((List.mem_cons.mp hx).resolve_left hxr))
    · rw [va_up_ne _ _ hxr, va_up_ne _ _ hyr] at e
      exact h.2.1 x ((List.mem_cons.mp hx).resolve_left hxr) y ((List.mem_cons.mp hy).resolve_left hyr) e
  · intro x hx
    by_cases hxr : x = r
    · subst hxr; rw [va_up_self]; exact hA
    · rw [va_up_ne _ _ hxr]; exact h.2.2 x ((List.mem_cons.mp hx).resolve_left hxr)
theorem zD.weak {A B : Nat → Prop} (h : zD A Rs ad) (hAB : ∀ q, A q → B q) : zD B Rs ad := ⟨h.1, h.2.1, fun r hr => hAB _ (h.2.2 r hr)⟩
theorem zA_cons {r q sz sz2 : Nat} (hs : sz ≤ sz2) (hq : sz ≤ q) : ∀ x, zA (r :: Rs) (va_up ad r q) sz2 x → zA Rs ad sz x := by
  rintro x (⟨y, hy, rfl⟩ | h)
  · by_cases hyr : y = r
    · subst hyr; rw [va_up_self]; exact Or.inr hq
    · rw [va_up_ne _ _ hyr]; exact Or.inl ⟨y, (List.mem_cons.mp hy).resolve_left hyr, rfl⟩
  · exact Or.inr (Nat.le_trans hs h)
section
variable {p : Program} {l : Launch} {e : Env} {R : Room} {s : State} {m : MethodId} {args : Array Value} {below : List Frame} {meth : Method} {c : Code} {H : Heap} {locs : List Loc} {cells slots : Nat} {Q : State → Prop}
variable {cc : ByteArray} {pc : Nat} {ls : Array Slot} {rest st0 : List Value} {A A1 : Nat → Prop} {g : Nat → va_E}
theorem z_new (hx : p.tables.exec = Jvm.exec) (hb : c.code = cc) (hT : ∀ w ∈ WS, w.before args s = true) {own C : String} {T : u_T} {N ci index : Nat} (hown : s.vm.findClass own = some m.cls) (hK : zK D ks s) (hin : ∀ w ∈ u_ws C T N, w ∈ WS) (ty : Nat → FieldType) (hty : ∀ k, k < N → parseFieldDescriptor (T k).2.2.1 = some (ty k)) (hcl : Cond.classLink own index C ∈ WS) (hinst : Cond.instantiable C N ∈ WS) (hini : Cond.initialized C ∈ WS)
    (hP : zP D Rs ad g H) (hD : zD A Rs ad) (hS : va_S A s.heap H locs) (hA : ∀ q : Nat, s.heap.size ≤ q → A q) (hc : vwCl[ci]? = some (C, T, N)) {fs : List Value} (hfs : ∀ j, j < N → defaultValue (ty j) = vp_V fs j) {r : Nat} (hr : r ∉ Rs) (hcells : cells + 1 ≤ R.cells) (hslots : slots + N ≤ R.slots) (hdg : decode cc pc = .ok (.new index, 3))
    (kk : ∀ (q : Nat) (H1 : Heap), zP D (r :: Rs) (va_up ad r q) (va_up g r (.inr (ci, fs))) H1 → zD A (r :: Rs) (va_up ad r q) → s.heap.size ≤ q → va_S A s.heap H1 locs → W p l e R s m args below meth c H1 locs (cells + 1) (slots + N) Q (F0 m (pc + 3) ls (.ref q :: rest))) : W p l e R s m args below meth c H locs cells slots Q (F0 m pc ls rest) := by
  have hKn := hK.1.1 ci _ hc
  refine W.newcK hx hb hown (hT _ hcl) (hT _ hinst) (hT _ hini) rfl hdg hcells hslots hKn.2.1 rfl fun H1 kC hkC e1 z1 o1 => ?_
  refine kk H.size H1 (zP.push (fun x hx => (hP x hx).kept (o1 _ (hP.lt hx))) ⟨_, hc, (u_born ty hT hin hKn hkC e1 hty).to hfs⟩ hr) (hD.push hr (fun x hx => Nat.ne_of_lt (hP.lt hx)) (hA _ hS.1)) hS.1 ⟨Nat.le_trans hS.1 (by omega), fun x h1 h2 => (o1 x (Nat.lt_of_lt_of_le h1 hS.1)).trans (hS.2.1 x h1 h2), hS.2.2⟩
/-- Object's constructor -/
theorem z_obj (hx : p.tables.exec = Jvm.exec) (hb : c.code = cc) (hT : ∀ w ∈ WS, w.before args s = true) {own : String} {idx nL a : Nat} (hown : s.vm.findClass own = some m.cls) (hl : Cond.methodLink own idx objectInit ∈ WS) (hml : c.maxLocals = nL) (hsz : ls.size = nL) (hdg : decode cc pc = .ok (.invokespecial idx, 3)) (hf : 1 ≤ R.frames) (hlo : (rest.map fun v => v.category).sum + 12 ≤ R.locals)
    (kk : W p l e R s m args below meth c H locs cells slots Q (F0 m (pc + 3) ls rest)) : W p l e R s m args below meth c H locs cells slots Q (F0 m pc ls (.ref a :: rest)) :=
  W.objInit hx hb hown (hT _ hl) (hT _ im_objectInit) (hT _ co_objectInit) rfl (hsz.trans hml.symm) rfl hdg hf (by show 2 * 0 + _ + 12 ≤ _; omega) kk
def zQA (B : Nat → Heap → Prop) (A : Nat → Prop) : Array Value → State → Outcome → State → Prop := fun _ st oc t => ∃ q : Nat, oc = .returned (some (.ref q)) ∧ B q t.heap ∧ va_F A st t
theorem z_backA {mc ms : Nat} {B : Nat → Heap → Prop} {a : Array Value} (hr : va_Run p l e R s m args below meth c H locs cells slots mc ms (F0 m pc ls st0) rest (zQA B A1 a) A1) (hS : va_S A s.heap H locs) (hA : ∀ q, A1 q → A q)
    (kk : ∀ (q : Nat) (H1 : Heap) (locs1 : List Loc), B q H1 → H.size ≤ H1.size → va_S A s.heap H1 locs1 → W p l e R s m args below meth c H1 locs1 (cells + mc) (slots + ms) Q (F0 m (pc + 3) ls (.ref q :: rest))) : W p l e R s m args below meth c H locs cells slots Q (F0 m pc ls st0) := by
  intro T hT X
  obtain ⟨v, st₀, t, T', L, h0, X', hL, e1, e2, ⟨q, hv, hB, hF⟩, st⟩ := hr T hT X
  cases hv
  obtain ⟨t2, a1, b1⟩ := kk q T'.heap (locs ++ L) (by rw [e1]; exact hB) (by rw [e1, ← h0]; exact hF.1) (z_keep h0 e1 hS hA hL hF) T' rfl X'
  exact ⟨t2, st t2 a1, b1⟩
theorem zA_a {mc ms : Nat} {B : Nat → Heap → Prop} {C : String} {q : Nat} (hx : p.tables.exec = Jvm.exec) (hb : c.code = cc) (hr : meth.sig.returnType = some (.object C)) (hlk : meth.locks = false) (hS : va_S A s.heap H locs) (hc : cells ≤ mc) (hs : slots ≤ ms) (hdg : decode cc pc = .ok (.areturn, 1)) (hB : B q H) : W p l e R s m args below meth c H locs cells slots (MQ below (zQA B A) args s mc ms A) (F0 m pc ls [.ref q]) :=
  W.widen hc hs (W.aret hx hb hr (Or.inl ⟨_, rfl⟩) (Or.inr ⟨_, rfl⟩) (fun t ht _ => ⟨q, rfl, by rw [ht]; exact hB, hS.F ht⟩) hS.2.2 hdg hlk)
end
theorem zMA.of {l : Launch} {y : MethodName} {cc : ByteArray} {n : Nat} {ret : Option FieldType} {fr lo mc ms : Nat} {As : List Value} {P : Heap → Prop} {Qc : Array Value → State → Outcome → State → Prop} {A : Nat → Prop} {sz : Nat} (hy : plainName y.cls = true) (hn : (lg_sl As).length ≤ n)
    (body : ∀ (p : Program) (e : Env) (s : State) (m : MethodId) (below : List Frame) (meth : Method) (c : Code) (ls : Array Slot), p.tables.exec = Jvm.exec → c.code = cc → meth.sig.returnType = ret → c.maxLocals = n → s.vm.findClass y.cls = some m.cls → meth.locks = false → (∀ w ∈ WS, w.before As.toArray s = true) → s.heap.size = sz → P s.heap → zK D ks s → lv_has ls n (lv_args 0 As) →
      W p l e (zRm fr lo mc ms) s m As.toArray below meth c s.heap [] 0 0 (MQ below Qc As.toArray s mc ms A) (F0 m 0 ls [])) : Met l y (Cond.code y cc n ret :: WS) (zRm fr lo mc ms) (zPW D ks sz As P) Qc mc ms A := by
  refine Met.ofW (cc := cc) (maxL := n) (ret := ret) hy rfl ?_
  intro p e s m args below meth c s₁ B hml hv
  obtain ⟨rfl, hsz, hP, hK⟩ := hv
  rw [lg_entry_eq]
  exact body p e s m below meth c _ B.exec B.bytes B.returns hml (findClass_of_methodNamed B.named) B.notSynchronized (fun w hw => atoms_spec (ws := Cond.code y cc n ret :: WS) B.pre w (List.mem_cons_of_mem _ hw)) hsz hP hK (lv_entry As hn)
section
variable {p : Program} {l : Launch} {e : Env} {R : Room} {s : State} {m : MethodId} {args : Array Value} {below : List Frame} {meth : Method} {c : Code} {H : Heap} {locs : List Loc} {cells slots : Nat} {Q : State → Prop}
variable {cc : ByteArray} {pc : Nat} {ls : Array Slot} {rest : List Value} {A : Nat → Prop} {g : Nat → va_E}
theorem pa_X3_62 {a : Nat} (hx : p.tables.exec = Jvm.exec) (hb : c.code = cc) (hT : ∀ w ∈ WS, w.before args s = true) (hown : s.vm.findClass RX3 = some m.cls) (hK : zK D ks s) (hP : zP D Rs ad g H) (hD : zD A Rs ad) (hS : va_S A s.heap H locs) {r : Nat} (hr : r ∈ Rs) (har : ad r = a) {fs : List Value} {v : Int32} (he : g r = .inr (3, fs)) (hl : 4 < fs.length) (hdg : decode cc pc = .ok (.putfield 62, 3)) (kk : ∀ (H1 : Heap) (locs1 : List Loc), zP D Rs ad (va_up g r (.inr (3, fs.set 4 (.int v)))) H1 → va_S A s.heap H1 locs1 → W p l e R s m args below meth c H1 locs1 cells slots Q (F0 m (pc + 3) ls rest)) : W p l e R s m args below meth c H locs cells slots Q (F0 m pc ls (.int v :: .ref a :: rest)) := by
  subst har
  exact pg_X3_62 hx hb hT hown hK hP hD hS hr he hl hdg kk
theorem pa_X3_205 {a : Nat} (hx : p.tables.exec = Jvm.exec) (hb : c.code = cc) (hT : ∀ w ∈ WS, w.before args s = true) (hown : s.vm.findClass RX3 = some m.cls) (hK : zK D ks s) (hP : zP D Rs ad g H) (hD : zD A Rs ad) (hS : va_S A s.heap H locs) {r : Nat} (hr : r ∈ Rs) (har : ad r = a) {fs : List Value} {v : Int32} (he : g r = .inr (3, fs)) (hl : 5 < fs.length) (hdg : decode cc pc = .ok (.putfield 205, 3)) (kk : ∀ (H1 : Heap) (locs1 : List Loc), zP D Rs ad (va_up g r (.inr (3, fs.set 5 (.int v)))) H1 → va_S A s.heap H1 locs1 → W p l e R s m args below meth c H1 locs1 cells slots Q (F0 m (pc + 3) ls rest)) : W p l e R s m args below meth c H locs cells slots Q (F0 m pc ls (.int v :: .ref a :: rest)) := by
  subst har
  exact pg_X3_205 hx hb hT hown hK hP hD hS hr he hl hdg kk
theorem pa_X3_208 {a : Nat} (hx : p.tables.exec = Jvm.exec) (hb : c.code = cc) (hT : ∀ w ∈ WS, w.before args s = true) (hown : s.vm.findClass RX3 = some m.cls) (hK : zK D ks s) (hP : zP D Rs ad g H) (hD : zD A Rs ad) (hS : va_S A s.heap H locs) {r : Nat} (hr : r ∈ Rs) (har : ad r = a) {fs : List Value} {v : Int64} (he : g r = .inr (1, fs)) (hl : 3 < fs.length) (hdg : decode cc pc = .ok (.putfield 208, 3)) (kk : ∀ (H1 : Heap) (locs1 : List Loc), zP D Rs ad (va_up g r (.inr (1, fs.set 3 (.long v)))) H1 → va_S A s.heap H1 locs1 → W p l e R s m args below meth c H1 locs1 cells slots Q (F0 m (pc + 3) ls rest)) : W p l e R s m args below meth c H locs cells slots Q (F0 m pc ls (.long v :: .ref a :: rest)) := by
  subst har
  exact pg_X3_208 hx hb hT hown hK hP hD hS hr he hl hdg kk
theorem pa_X1_7 {a : Nat} (hx : p.tables.exec = Jvm.exec) (hb : c.code = cc) (hT : ∀ w ∈ WS, w.before args s = true) (hown : s.vm.findClass RX1 = some m.cls) (hK : zK D ks s) (hin : meth.name = "<init>") (hP : zP D Rs ad g H) (hD : zD A Rs ad) (hS : va_S A s.heap H locs) {r : Nat} (hr : r ∈ Rs) (har : ad r = a) {fs : List Value} {v : Int32} (he : g r = .inr (1, fs)) (hl : 0 < fs.length) (hdg : decode cc pc = .ok (.putfield 7, 3)) (kk : ∀ (H1 : Heap) (locs1 : List Loc), zP D Rs ad (va_up g r (.inr (1, fs.set 0 (.int v)))) H1 → va_S A s.heap H1 locs1 → W p l e R s m args below meth c H1 locs1 cells slots Q (F0 m (pc + 3) ls rest)) : W p l e R s m args below meth c H locs cells slots Q (F0 m pc ls (.int v :: .ref a :: rest)) := by
  subst har
  exact pg_X1_7 hx hb hT hown hK hin hP hD hS hr he hl hdg kk
theorem pa_X1_13 {a : Nat} (hx : p.tables.exec = Jvm.exec) (hb : c.code = cc) (hT : ∀ w ∈ WS, w.before args s = true) (hown : s.vm.findClass RX1 = some m.cls) (hK : zK D ks s) (hin : meth.name = "<init>") (hP : zP D Rs ad g H) (hD : zD A Rs ad) (hS : va_S A s.heap H locs) {r : Nat} (hr : r ∈ Rs) (har : ad r = a) {fs : List Value} {v : Int32} (he : g r = .inr (1, fs)) (hl : 1 < fs.length) (hdg : decode cc pc = .ok (.putfield 13, 3)) (kk : ∀ (H1 : Heap) (locs1 : List Loc), zP D Rs ad (va_up g r (.inr (1, fs.set 1 (.int v)))) H1 → va_S A s.heap H1 locs1 → W p l e R s m args below meth c H1 locs1 cells slots Q (F0 m (pc + 3) ls rest)) : W p l e R s m args below meth c H locs cells slots Q (F0 m pc ls (.int v :: .ref a :: rest)) := by
  subst har
  exact pg_X1_13 hx hb hT hown hK hin hP hD hS hr he hl hdg kk
theorem pa_X1_19 {a : Nat} (hx : p.tables.exec = Jvm.exec) (hb : c.code = cc) (hT : ∀ w ∈ WS, w.before args s = true) (hown : s.vm.findClass RX1 = some m.cls) (hK : zK D ks s) (hin : meth.name = "<init>") (hP : zP D Rs ad g H) (hD : zD A Rs ad) (hS : va_S A s.heap H locs) {r : Nat} (hr : r ∈ Rs) (har : ad r = a) {fs : List Value} {v : Nat} (he : g r = .inr (1, fs)) (hl : 2 < fs.length) (hdg : decode cc pc = .ok (.putfield 19, 3)) (kk : ∀ (H1 : Heap) (locs1 : List Loc), zP D Rs ad (va_up g r (.inr (1, fs.set 2 (.ref v)))) H1 → va_S A s.heap H1 locs1 → W p l e R s m args below meth c H1 locs1 cells slots Q (F0 m (pc + 3) ls rest)) : W p l e R s m args below meth c H locs cells slots Q (F0 m pc ls (.ref v :: .ref a :: rest)) := by
  subst har
  exact pg_X1_19 hx hb hT hown hK hin hP hD hS hr he hl hdg kk
theorem pa_X2_9 {a : Nat} (hx : p.tables.exec = Jvm.exec) (hb : c.code = cc) (hT : ∀ w ∈ WS, w.before args s = true) (hown : s.vm.findClass RX2 = some m.cls) (hK : zK D ks s) (hin : meth.name = "<init>") (hP : zP D Rs ad g H) (hD : zD A Rs ad) (hS : va_S A s.heap H locs) {r : Nat} (hr : r ∈ Rs) (har : ad r = a) {fs : List Value} {v : Nat} (he : g r = .inr (2, fs)) (hl : 0 < fs.length) (hdg : decode cc pc = .ok (.putfield 9, 3)) (kk : ∀ (H1 : Heap) (locs1 : List Loc), zP D Rs ad (va_up g r (.inr (2, fs.set 0 (.ref v)))) H1 → va_S A s.heap H1 locs1 → W p l e R s m args below meth c H1 locs1 cells slots Q (F0 m (pc + 3) ls rest)) : W p l e R s m args below meth c H locs cells slots Q (F0 m pc ls (.ref v :: .ref a :: rest)) := by
  subst har
  exact pg_X2_9 hx hb hT hown hK hin hP hD hS hr he hl hdg kk
theorem pa_X2_15 {a : Nat} (hx : p.tables.exec = Jvm.exec) (hb : c.code = cc) (hT : ∀ w ∈ WS, w.before args s = true) (hown : s.vm.findClass RX2 = some m.cls) (hK : zK D ks s) (hin : meth.name = "<init>") (hP : zP D Rs ad g H) (hD : zD A Rs ad) (hS : va_S A s.heap H locs) {r : Nat} (hr : r ∈ Rs) (har : ad r = a) {fs : List Value} {v : Int32} (he : g r = .inr (2, fs)) (hl : 1 < fs.length) (hdg : decode cc pc = .ok (.putfield 15, 3)) (kk : ∀ (H1 : Heap) (locs1 : List Loc), zP D Rs ad (va_up g r (.inr (2, fs.set 1 (.int v)))) H1 → va_S A s.heap H1 locs1 → W p l e R s m args below meth c H1 locs1 cells slots Q (F0 m (pc + 3) ls rest)) : W p l e R s m args below meth c H locs cells slots Q (F0 m pc ls (.int v :: .ref a :: rest)) := by
  subst har
  exact pg_X2_15 hx hb hT hown hK hin hP hD hS hr he hl hdg kk
theorem pa_X2_19 {a : Nat} (hx : p.tables.exec = Jvm.exec) (hb : c.code = cc) (hT : ∀ w ∈ WS, w.before args s = true) (hown : s.vm.findClass RX2 = some m.cls) (hK : zK D ks s) (hin : meth.name = "<init>") (hP : zP D Rs ad g H) (hD : zD A Rs ad) (hS : va_S A s.heap H locs) {r : Nat} (hr : r ∈ Rs) (har : ad r = a) {fs : List Value} {v : Int32} (he : g r = .inr (2, fs)) (hl : 2 < fs.length) (hdg : decode cc pc = .ok (.putfield 19, 3)) (kk : ∀ (H1 : Heap) (locs1 : List Loc), zP D Rs ad (va_up g r (.inr (2, fs.set 2 (.int v)))) H1 → va_S A s.heap H1 locs1 → W p l e R s m args below meth c H1 locs1 cells slots Q (F0 m (pc + 3) ls rest)) : W p l e R s m args below meth c H locs cells slots Q (F0 m pc ls (.int v :: .ref a :: rest)) := by
  subst har
  exact pg_X2_19 hx hb hT hown hK hin hP hD hS hr he hl hdg kk
theorem pa_X2_25 {a : Nat} (hx : p.tables.exec = Jvm.exec) (hb : c.code = cc) (hT : ∀ w ∈ WS, w.before args s = true) (hown : s.vm.findClass RX2 = some m.cls) (hK : zK D ks s) (hin : meth.name = "<init>") (hP : zP D Rs ad g H) (hD : zD A Rs ad) (hS : va_S A s.heap H locs) {r : Nat} (hr : r ∈ Rs) (har : ad r = a) {fs : List Value} {v : Nat} (he : g r = .inr (2, fs)) (hl : 3 < fs.length) (hdg : decode cc pc = .ok (.putfield 25, 3)) (kk : ∀ (H1 : Heap) (locs1 : List Loc), zP D Rs ad (va_up g r (.inr (2, fs.set 3 (.ref v)))) H1 → va_S A s.heap H1 locs1 → W p l e R s m args below meth c H1 locs1 cells slots Q (F0 m (pc + 3) ls rest)) : W p l e R s m args below meth c H locs cells slots Q (F0 m pc ls (.ref v :: .ref a :: rest)) := by
  subst har
  exact pg_X2_25 hx hb hT hown hK hin hP hD hS hr he hl hdg kk
theorem pa_X2_29 {a : Nat} (hx : p.tables.exec = Jvm.exec) (hb : c.code = cc) (hT : ∀ w ∈ WS, w.before args s = true) (hown : s.vm.findClass RX2 = some m.cls) (hK : zK D ks s) (hP : zP D Rs ad g H) (hD : zD A Rs ad) (hS : va_S A s.heap H locs) {r : Nat} (hr : r ∈ Rs) (har : ad r = a) {fs : List Value} {v : Int32} (he : g r = .inr (2, fs)) (hl : 5 < fs.length) (hdg : decode cc pc = .ok (.putfield 29, 3)) (kk : ∀ (H1 : Heap) (locs1 : List Loc), zP D Rs ad (va_up g r (.inr (2, fs.set 5 (.int v)))) H1 → va_S A s.heap H1 locs1 → W p l e R s m args below meth c H1 locs1 cells slots Q (F0 m (pc + 3) ls rest)) : W p l e R s m args below meth c H locs cells slots Q (F0 m pc ls (.int v :: .ref a :: rest)) := by
  subst har
  exact pg_X2_29 hx hb hT hown hK hP hD hS hr he hl hdg kk
theorem pa_X2_34 {a : Nat} (hx : p.tables.exec = Jvm.exec) (hb : c.code = cc) (hT : ∀ w ∈ WS, w.before args s = true) (hown : s.vm.findClass RX2 = some m.cls) (hK : zK D ks s) (hP : zP D Rs ad g H) (hD : zD A Rs ad) (hS : va_S A s.heap H locs) {r : Nat} (hr : r ∈ Rs) (har : ad r = a) {fs : List Value} {v : Int64} (he : g r = .inr (2, fs)) (hl : 6 < fs.length) (hdg : decode cc pc = .ok (.putfield 34, 3)) (kk : ∀ (H1 : Heap) (locs1 : List Loc), zP D Rs ad (va_up g r (.inr (2, fs.set 6 (.long v)))) H1 → va_S A s.heap H1 locs1 → W p l e R s m args below meth c H1 locs1 cells slots Q (F0 m (pc + 3) ls rest)) : W p l e R s m args below meth c H locs cells slots Q (F0 m pc ls (.long v :: .ref a :: rest)) := by
  subst har
  exact pg_X2_34 hx hb hT hown hK hP hD hS hr he hl hdg kk
theorem pa_gast {a b : Nat} (hx : p.tables.exec = Jvm.exec) (hb : c.code = cc) (hK : zK D ks s) (hP : zP D Rs ad g H) (hD : zD A Rs ad) (hS : va_S A s.heap H locs) {r q : Nat} (hr : r ∈ Rs) (har : ad r = a) {f : Nat → Option Nat} (he : g r = .inl (ks 2, 30, .inr (.inr (.inr (.inr f))))) (hq : q ∈ Rs) (hbq : ad q = b) {vs : List Value} (hv : g q = .inr (1, vs)) {j : Nat} (hj : j < 30) (hdg : decode cc pc = .ok (.aastore, 1))
    (kk : ∀ (H1 : Heap) (locs1 : List Loc), zP D Rs ad (va_up g r (.inl (ks 2, 30, .inr (.inr (.inr (.inr (va_up f j (some b)))))))) H1 → va_S A s.heap H1 locs1 → W p l e R s m args below meth c H1 locs1 cells slots Q (F0 m (pc + 1) ls rest)) : W p l e R s m args below meth c H locs cells slots Q (F0 m pc ls (.ref b :: .int (nI j) :: .ref a :: rest)) := by
  subst har; subst hbq
  exact z_gast hx hb hK hP hD hS hr he hq hv (vp_in_nI hj (by decide)) hdg (by rw [nI_clamp (by omega)]; exact kk)
theorem pa_past {a b : Nat} (hx : p.tables.exec = Jvm.exec) (hb : c.code = cc) (hK : zK D ks s) (hP : zP D Rs ad g H) (hD : zD A Rs ad) (hS : va_S A s.heap H locs) {r q : Nat} (hr : r ∈ Rs) (har : ad r = a) {f : Nat → Option Nat} (he : g r = .inl (ks 3, 30, .inr (.inr (.inr (.inr f))))) (hq : q ∈ Rs) (hbq : ad q = b) {vs : List Value} (hv : g q = .inr (2, vs)) {j : Nat} (hj : j < 30) (hdg : decode cc pc = .ok (.aastore, 1))
    (kk : ∀ (H1 : Heap) (locs1 : List Loc), zP D Rs ad (va_up g r (.inl (ks 3, 30, .inr (.inr (.inr (.inr (va_up f j (some b)))))))) H1 → va_S A s.heap H1 locs1 → W p l e R s m args below meth c H1 locs1 cells slots Q (F0 m (pc + 1) ls rest)) : W p l e R s m args below meth c H locs cells slots Q (F0 m pc ls (.ref b :: .int (nI j) :: .ref a :: rest)) := by
  subst har; subst hbq
  exact z_past hx hb hK hP hD hS hr he hq hv (vp_in_nI hj (by decide)) hdg (by rw [nI_clamp (by omega)]; exact kk)
end
set_option maxHeartbeats 4000000 in
set_option maxRecDepth 100000 in
theorem c_X0_init (l : Launch) (a : Nat) : zMR l yX0_init cX0_init 1 none 1 12 D ks [.ref a] (fun _ => True) none := by
  refine zMR.of (by decide +kernel) (Nat.le_of_ble_eq_true rfl) ?_
  intro p e s m below meth c ls hx hb hr hml hown hlk hT hP hK hl
  have hl : lv_has ls 1 [(0, .ref a)] := hl
  refine lv_aload_n hx hb dX0_init_0 rfl (lv_at hl 0 rfl) ?_
  refine z_obj hx hb hT hown ml_X0_1 hml hl.1 dX0_init_1 (Nat.le_of_ble_eq_true rfl) (Nat.le_of_ble_eq_true rfl) ?_
  exact zR_v hx hb hr hlk dX0_init_4
set_option maxHeartbeats 4000000 in
set_option maxRecDepth 100000 in
theorem c_X1_init (l : Launch) (hD0 : zD (fun _ => True) Rs ad) {g : Nat → va_E} (r rN : Nat) (hr1 : r ∈ Rs) (hrN : rN ∉ Rs) (he : g r = .inr (1, [.int 0, .int 0, .null, .long 0])) (b t : Int32) (sz : Nat) :
    Met l yX1_init (Cond.code yX1_init cX1_init 3 none :: WS) (zRm 2 32 1 1) (zPW D ks sz [.ref (ad r), .int b, .int t] (zP D Rs ad g)) (zQW none (fun H => ∃ qf : Nat, sz ≤ qf ∧ zP D (rN :: Rs) (va_up ad rN qf) (va_up (va_up g r (.inr (1, [.int b, .int t, .ref qf, .long 0]))) rN (.inr (0, [.long 0]))) H ∧ zD (zA Rs ad sz) (rN :: Rs) (va_up ad rN qf)) (zA Rs ad sz)) 1 1 (zA Rs ad sz) := by
  refine Met.ofW (cc := cX1_init) (maxL := 3) (ret := none) (by decide +kernel) rfl ?_
  intro p e s m args below meth c s₁ B hml hv
  obtain ⟨rfl, hsz, hP, hK⟩ := hv
  rw [lg_entry_eq]
  have hx := B.exec
  have hb := B.bytes
  have hr := B.returns
  have hown : s.vm.findClass RX1 = some m.cls := findClass_of_methodNamed B.named
  have hlk := B.notSynchronized
  have hin : meth.name = "<init>" := (name_of_methodNamed B.named B.method).1
  have hT : ∀ w ∈ WS, w.before #[.ref (ad r), .int b, .int t] s = true := fun w hw => atoms_spec (ws := Cond.code yX1_init cX1_init 3 none :: WS) B.pre w (List.mem_cons_of_mem _ hw)
  have hl := lv_entry [.ref (ad r), .int b, .int t] (n := 3) (Nat.le_of_ble_eq_true rfl)
  generalize (lg_sl ([.ref (ad r), .int b, .int t]) ++ List.replicate (3 - (lg_sl ([.ref (ad r), .int b, .int t])).length) Slot.unset).toArray = ls at hl ⊢
  have hl : lv_has ls 3 [(0, .ref (ad r)), (1, .int b), (2, .int t)] := hl
  subst hsz
  have hD := hD0.self (sz := s.heap.size)
  have hA : ∀ q : Nat, s.heap.size ≤ q → zA Rs ad s.heap.size q := fun q h => Or.inr h
  have hS : va_S (zA Rs ad s.heap.size) s.heap s.heap [] := va_S.rf
  refine lv_aload_n hx hb dX1_init_0 rfl (lv_at hl 0 rfl) ?_
  refine z_obj hx hb hT hown ml_X1_1 hml hl.1 dX1_init_1 (Nat.le_of_ble_eq_true rfl) (Nat.le_of_ble_eq_true rfl) ?_
  refine lv_aload_n hx hb dX1_init_4 rfl (lv_at hl 0 rfl) ?_
  refine lv_iload_n hx hb dX1_init_5 rfl (lv_at hl 1 rfl) ?_
  refine pa_X1_7 hx hb hT hown hK hin hP hD hS hr1 rfl he (Nat.le_of_ble_eq_true rfl) dX1_init_6 (fun H locs hP hS => ?_)
  refine lv_aload_n hx hb dX1_init_9 rfl (lv_at hl 0 rfl) ?_
  refine lv_iload_n hx hb dX1_init_10 rfl (lv_at hl 2 rfl) ?_
  refine pa_X1_13 hx hb hT hown hK hin hP hD hS hr1 rfl (va_up_self _ _ _) (Nat.le_of_ble_eq_true rfl) dX1_init_11 (fun H locs hP hS => ?_)
  rw [bx_uu] at hP
  refine lv_aload_n hx hb dX1_init_14 rfl (lv_at hl 0 rfl) ?_
  refine z_new (ci := 0) (fs := [.long 0]) (r := rN) hx hb hT hown hK ly_X0 tyX0 tyX0_ok cl_X1_16 mk_X0 in_X0 hP hD hS hA rfl (fun j hj => by rcases (show j = 0 by omega) with rfl; rfl) hrN (Nat.le_of_ble_eq_true rfl) (Nat.le_of_ble_eq_true rfl) dX1_init_15 (fun qf H hP hD hqf hS => ?_)
  refine lv_dup hx hb dX1_init_18 rfl ?_
  refine z_backR0 (z_runIN ⟨hx, hb, hml, hown, hT⟩ hK (rest := [.ref qf, .ref (ad r)]) (As := []) (c_X0_init l qf) k_X1_18 (z_preR hK trivial) rfl ⟨Nat.le_of_ble_eq_true rfl, Nat.le_of_ble_eq_true rfl⟩ hl.1 rfl (Nat.le_of_ble_eq_true rfl) dX1_init_19 ⟨Nat.le_of_ble_eq_true rfl, Nat.le_of_ble_eq_true rfl⟩) ?_
  have hne : r ≠ rN := fun h => hrN (h ▸ hr1)
  refine pa_X1_19 hx hb hT hown hK hin hP hD hS (List.mem_cons_of_mem _ hr1) (va_up_ne _ _ hne) ((va_up_ne _ _ hne).trans (va_up_self _ _ _)) (Nat.le_of_ble_eq_true rfl) dX1_init_22 (fun H locs hP hS => ?_)
  refine zW_v hx hb hr hlk hS (Nat.le_of_ble_eq_true rfl) (Nat.le_of_ble_eq_true rfl) dX1_init_25 ⟨qf, hqf, hP.cast (fun x hx => ?_), hD⟩
  by_cases h1 : x = rN
  · subst h1
    rw [va_up_self, va_up_ne _ _ (Ne.symm hne), va_up_self]
  · by_cases h2 : x = r
    · subst h2
      rw [va_up_ne _ _ h1, va_up_self, va_up_self]; rfl
    · rw [va_up_ne _ _ h1, va_up_ne _ _ h2, va_up_ne _ _ h2, va_up_ne _ _ h1, va_up_ne _ _ h2]
set_option maxHeartbeats 4000000 in
set_option maxRecDepth 100000 in
theorem c_X2_init (l : Launch) (hD0 : zD (fun _ => True) Rs ad) {g : Nat → va_E} (r rN a : Nat) (hr1 : r ∈ Rs) (har : ad r = a) (hrN : rN ∉ Rs) (he : g r = .inr (2, [.null, .int 0, .int 0, .null, .long 0, .int 0, .long 0])) (gq : Nat) (pr su : Int32) (sz : Nat) :
    Met l yX2_init (Cond.code yX2_init cX2_init 4 none :: WS) (zRm 2 32 1 1) (zPW D ks sz [.ref a, .ref gq, .int pr, .int su] (zP D Rs ad g)) (zQW none (fun H => ∃ qf : Nat, sz ≤ qf ∧ zP D (rN :: Rs) (va_up ad rN qf) (va_up (va_up g r (.inr (2, [.ref gq, .int pr, .int su, .ref qf, .long 0, .int 0, .long (-1)]))) rN (.inr (0, [.long 0]))) H ∧ zD (zA Rs ad sz) (rN :: Rs) (va_up ad rN qf)) (zA Rs ad sz)) 1 1 (zA Rs ad sz) := by
  subst har
  refine Met.ofW (cc := cX2_init) (maxL := 4) (ret := none) (by decide +kernel) rfl ?_
  intro p e s m args below meth c s₁ B hml hv
  obtain ⟨rfl, hsz, hP, hK⟩ := hv
  rw [lg_entry_eq]
  have hx := B.exec
  have hb := B.bytes
  have hr := B.returns
  have hown : s.vm.findClass RX2 = some m.cls := findClass_of_methodNamed B.named
  have hlk := B.notSynchronized
  have hin : meth.name = "<init>" := (name_of_methodNamed B.named B.method).1
  have hT : ∀ w ∈ WS, w.before #[.ref (ad r), .ref gq, .int pr, .int su] s = true := fun w hw => atoms_spec (ws := Cond.code yX2_init cX2_init 4 none :: WS) B.pre w (List.mem_cons_of_mem _ hw)
  have hl := lv_entry [.ref (ad r), .ref gq, .int pr, .int su] (n := 4) (Nat.le_of_ble_eq_true rfl)
  generalize (lg_sl ([.ref (ad r), .ref gq, .int pr, .int su]) ++ List.replicate (4 - (lg_sl ([.ref (ad r), .ref gq, .int pr, .int su])).length) Slot.unset).toArray = ls at hl ⊢
  have hl : lv_has ls 4 [(0, .ref (ad r)), (1, .ref gq), (2, .int pr), (3, .int su)] := hl
  subst hsz
  have hD := hD0.self (sz := s.heap.size)
  have hA : ∀ q : Nat, s.heap.size ≤ q → zA Rs ad s.heap.size q := fun q h => Or.inr h
  have hS : va_S (zA Rs ad s.heap.size) s.heap s.heap [] := va_S.rf
  refine lv_aload_n hx hb dX2_init_0 rfl (lv_at hl 0 rfl) ?_
  refine z_obj hx hb hT hown ml_X2_3 hml hl.1 dX2_init_1 (Nat.le_of_ble_eq_true rfl) (Nat.le_of_ble_eq_true rfl) ?_
  refine lv_aload_n hx hb dX2_init_4 rfl (lv_at hl 0 rfl) ?_
  refine lv_aload_n hx hb dX2_init_5 rfl (lv_at hl 1 rfl) ?_
  refine pa_X2_9 hx hb hT hown hK hin hP hD hS hr1 rfl he (Nat.le_of_ble_eq_true rfl) dX2_init_6 (fun H locs hP hS => ?_)
  refine lv_aload_n hx hb dX2_init_9 rfl (lv_at hl 0 rfl) ?_
  refine lv_iload_n hx hb dX2_init_10 rfl (lv_at hl 2 rfl) ?_
  refine pa_X2_15 hx hb hT hown hK hin hP hD hS hr1 rfl (va_up_self _ _ _) (Nat.le_of_ble_eq_true rfl) dX2_init_11 (fun H locs hP hS => ?_)
  rw [bx_uu] at hP
  refine lv_aload_n hx hb dX2_init_14 rfl (lv_at hl 0 rfl) ?_
  refine lv_iload_n hx hb dX2_init_15 rfl (lv_at hl 3 rfl) ?_
  refine pa_X2_19 hx hb hT hown hK hin hP hD hS hr1 rfl (va_up_self _ _ _) (Nat.le_of_ble_eq_true rfl) dX2_init_16 (fun H locs hP hS => ?_)
  rw [bx_uu] at hP
  refine lv_aload_n hx hb dX2_init_19 rfl (lv_at hl 0 rfl) ?_
  refine z_new (ci := 0) (fs := [.long 0]) (r := rN) hx hb hT hown hK ly_X0 tyX0 tyX0_ok cl_X2_22 mk_X0 in_X0 hP hD hS hA rfl (fun j hj => by rcases (show j = 0 by omega) with rfl; rfl) hrN (Nat.le_of_ble_eq_true rfl) (Nat.le_of_ble_eq_true rfl) dX2_init_20 (fun qf H hP hD hqf hS => ?_)
  refine lv_dup hx hb dX2_init_23 rfl ?_
  refine z_backR0 (z_runIN ⟨hx, hb, hml, hown, hT⟩ hK (rest := [.ref qf, .ref (ad r)]) (As := []) (c_X0_init l qf) k_X2_24 (z_preR hK trivial) rfl ⟨Nat.le_of_ble_eq_true rfl, Nat.le_of_ble_eq_true rfl⟩ hl.1 rfl (Nat.le_of_ble_eq_true rfl) dX2_init_24 ⟨Nat.le_of_ble_eq_true rfl, Nat.le_of_ble_eq_true rfl⟩) ?_
  have hne : r ≠ rN := fun h => hrN (h ▸ hr1)
  refine pa_X2_25 hx hb hT hown hK hin hP hD hS (List.mem_cons_of_mem _ hr1) (va_up_ne _ _ hne) ((va_up_ne _ _ hne).trans (va_up_self _ _ _)) (Nat.le_of_ble_eq_true rfl) dX2_init_27 (fun H locs hP hS => ?_)
  refine lv_aload_n hx hb dX2_init_30 rfl (lv_at hl 0 rfl) ?_
  refine lv_iconst (v := 0) hx hb dX2_init_31 (by decide) ?_
  refine pa_X2_29 hx hb hT hown hK hP hD hS (List.mem_cons_of_mem _ hr1) (va_up_ne _ _ hne) (va_up_self _ _ _) (Nat.le_of_ble_eq_true rfl) dX2_init_32 (fun H locs hP hS => ?_)
  rw [bx_uu] at hP
  refine lv_aload_n hx hb dX2_init_35 rfl (lv_at hl 0 rfl) ?_
  refine lv_ldc2 (v := (-1)) hx hb hown (hT _ kl_X2_32) dX2_init_36 ?_
  refine pa_X2_34 hx hb hT hown hK hP hD hS (List.mem_cons_of_mem _ hr1) (va_up_ne _ _ hne) (va_up_self _ _ _) (Nat.le_of_ble_eq_true rfl) dX2_init_39 (fun H locs hP hS => ?_)
  rw [bx_uu] at hP
  refine zW_v hx hb hr hlk hS (Nat.le_of_ble_eq_true rfl) (Nat.le_of_ble_eq_true rfl) dX2_init_42 ⟨qf, hqf, hP.cast (fun x hx => ?_), hD⟩
  by_cases h1 : x = rN
  · subst h1
    rw [va_up_self, va_up_ne _ _ (Ne.symm hne), va_up_self]
  · by_cases h2 : x = r
    · subst h2
      rw [va_up_ne _ _ h1, va_up_self, va_up_self]; rfl
    · rw [va_up_ne _ _ h1, va_up_ne _ _ h2, va_up_ne _ _ h2, va_up_ne _ _ h1, va_up_ne _ _ h2]
end ZB1
