/-! the law's own methods: a call caught -/
section ZLW
variable {D : va_G} {ks : Nat → ClassId} {ad : Nat → Nat} {np ng : Nat} {G : Nat → Nat} {MI : Nat → Nat → Int32} {MJ : Nat → Nat → Int64} {XI : Nat → Nat → Int32} {XJ : Nat → Nat → Int64} {Rs : List Nat}
def zPY (D : va_G) (ks : Nat → ClassId) (sz : Nat) (As : List Value) (P : Heap → Prop) : Array Value → State → Prop := va_Pc As (fun U => U.heap.size = sz ∧ P U.heap ∧ zX D ks U)
theorem zPY.blind {D : va_G} {ks : Nat → ClassId} {sz : Nat} {As : List Value} {P : Heap → Prop} : FrameBlind (zPY D ks sz As P) := fun a U g mk q => ⟨q.1, q.2.1, q.2.2.1, q.2.2.2.calling⟩
def zMY (l : Launch) (y : MethodName) (cc : ByteArray) (n : Nat) (hh : List (Nat × Nat × Nat × Nat)) (fr lo mc ms : Nat) (D : va_G) (ks : Nat → ClassId) (sz : Nat) (As : List Value) (P : Heap → Prop) (v : Int32) (B : Heap → Prop) (A : Nat → Prop) : Prop :=
  Met l y (Cond.codeWith y cc n (some .int) hh :: WS) (zRm fr lo mc ms) (zPY D ks sz As P) (zQW (some (.int v)) B A) mc ms A
theorem zMY.of {l : Launch} {y : MethodName} {cc : ByteArray} {n : Nat} {hh : List (Nat × Nat × Nat × Nat)} {fr lo mc ms : Nat} {As : List Value} {P : Heap → Prop} {v : Int32} {B : Heap → Prop} {A : Nat → Prop} {sz : Nat} (hy : plainName y.cls = true) (hn : (lg_sl As).length ≤ n)
    (body : ∀ (p : Program) (e : Env) (s : State) (m : MethodId) (below : List Frame) (meth : Method) (c : Code) (ls : Array Slot), p.tables.exec = Jvm.exec → c.code = cc → meth.sig.returnType = some .int → c.maxLocals = n → s.vm.findClass y.cls = some m.cls → meth.locks = false → (∀ w ∈ WS, w.before As.toArray s = true) → c.exceptionTable.toList = tableOf hh → s.heap.size = sz → P s.heap → zX D ks s → lv_has ls n (lv_args 0 As) →
      W p l e (zRm fr lo mc ms) s m As.toArray below meth c s.heap [] 0 0 (MQ below (zQW (some (.int v)) B A) As.toArray s mc ms A) (F0 m 0 ls [])) : zMY l y cc n hh fr lo mc ms D ks sz As P v B A := by
  unfold zMY Met
  refine MetFree.of_bodyS (code := cc) (maxLocals := n) (ret := some .int) hy ?_ ?_
  · intro args s m h hn
    obtain ⟨m9, meth, c, hn9, h1, h2, h3, h4, -, h5, h6, -⟩ := Cond.codeWith_spec (atoms_spec (ws := Cond.codeWith y cc n (some .int) hh :: WS) h _ List.mem_cons_self)
    cases hn.symm.trans hn9
    exact ⟨meth, c, h1, h2, h3, h4, h5, h6⟩
  · intro p e s m args below meth c s₁ B hml hv _
    have htb := vx_table (x := y) B (atoms_spec (ws := Cond.codeWith y cc n (some .int) hh :: WS) B.pre _ List.mem_cons_self)
    obtain ⟨rfl, hsz, hP, hX⟩ := hv
    have hh0 : s₁.heap = s.heap := by rw [B.state]; rfl
    rw [lg_entry_eq]
    obtain ⟨t, a1, o, b1, b2, b3⟩ := body p e s m below meth c _ B.exec B.bytes B.returns hml (findClass_of_methodNamed B.named) B.notSynchronized (fun w hw => atoms_spec (ws := Cond.codeWith y cc n (some .int) hh :: WS) B.pre w (List.mem_cons_of_mem _ hw)) htb hsz hP hX (lv_entry As hn) s₁ hh0 (Stand.of_body B)
    exact ⟨t, o, a1, b1, b2, ⟨b3.1, b3.2⟩⟩
section
variable {p : Program} {l : Launch} {e : Env} {R : Room} {s : State} {m : MethodId} {args : Array Value} {below : List Frame} {meth : Method} {c : Code} {H : Heap} {locs : List Loc} {cells slots : Nat} {Q : State → Prop}
variable {cc : ByteArray} {pc : Nat} {ls : Array Slot} {rest st0 : List Value} {A : Nat → Prop} {g : Nat → va_E} {E : String}
theorem z_caught (hr : vx_Run p l e R s m args below meth c s.heap [] 0 0 1 6 (F0 m pc ls st0) rest (zQF #[]) (zXC E) (fun _ => False))
    (kx : ∀ (ce : Cell) (q9 : Nat) (H1 : Heap), s.heap.size ≤ H1.size → (∀ q : Nat, q < s.heap.size → H1[q]? = s.heap[q]?) → H1[q9]? = some ce → ce.vm = .none → s.vm.findClass E = some ce.cls → vx_W p l e R s m args below meth c H1 [] 1 6 Q (F0 m pc ls rest) q9) : W p l e R s m args below meth c s.heap [] 0 0 Q (F0 m pc ls st0) := by
  intro T hT X
  rcases hr T hT X with ⟨_, _, _, _, _, _, _, _, _, _, h, _⟩ | ⟨q, st₀, t, T', L, E', ce, h0, X', hL, e1, e2, ⟨hE, hz, hk⟩, hce, hcv, hcl, st⟩
  · exact h.elim
  · subst hE
    have X2 := Stand.forget (locs := []) X' (fun z h => (hL z h).elim)
    obtain ⟨t2, a1, b1⟩ := kx ce q T'.heap (by rw [e1, ← h0]; exact hz) (fun q h => by rw [e1, ← h0]; exact hk q (by rw [h0]; exact h)) (by rw [e1]; exact hce) hcv hcl T' rfl X2
    exact ⟨t2, st.trans a1, b1⟩
end
end ZLW
