/-! the law's own methods: a call caught -/
section ZLW
variable {D : va_G} {ks : Nat → ClassId} {ad : Nat → Nat} {np ng : Nat} {G : Nat → Nat} {MI : Nat → Nat → Int32} {MJ : Nat → Nat → Int64} {XI : Nat → Nat → Int32} {XJ : Nat → Nat → Int64} {Rs : List Nat}
def zPY (D : va_G) (ks : Nat → ClassId) (sz : Nat) (As : List Value) (P : Heap → Prop) : Array Value → State → Prop := va_Pc As (fun U => U.heap.size = sz ∧ P U.heap ∧ zX D ks U)
theorem zPY.blind {D : va_G} {ks : Nat → ClassId} {sz : Nat} {As : List Value} {P : Heap → Prop} : FrameBlind (zPY D ks sz As P) := fun a U g mk q => ⟨q.1, q.2.1, q.2.2.1, q.2.2.2.calling⟩
def zMY (l : Launch) (y : MethodName) (cc : ByteArray) (n : Nat) (hh : List (Nat × Nat × Nat × Nat)) (fr lo mc ms : Nat) (D : va_G) (ks : Nat → ClassId) (sz : Nat) (As : List Value) (P : Heap → Prop) (v : Int32) (B : Heap → Prop) (A : Nat → Prop) : Prop :=
  Met l y (Cond.codeWith y cc n (some .int) hh :: WS) (zRm fr lo mc ms) (zPY D ks sz As P) (zQW (some (.int v)) B A) mc ms A
theorem zMY.of {l : Launch} {y : MethodName} {cc : ByteArray} {n : Nat} {hh : List (Nat × Nat × Nat × Nat)} {fr lo mc ms : Nat} {As : List Value} {P : Heap → Prop} {v : Int32} {B : Heap → Prop} {A : Nat → Prop} {sz : Nat} (hy : plainName y.cls = true) (hn : (lg_sl As).length ≤ n)
    (body : ∀ (p : Program) (e : Env) (s : State) (m : MethodId) (below : List Frame) (meth : Method) (c : Code) (ls : Array Slot), p.tables.exec = Jvm.exec → c.code = cc → meth.sig.returnType = some .int → c.maxLocals = n → s.vm.findClass y.cls = some m.cls → meth.locks = false → (∀ w ∈ WS, w.before As.toArray s = true) → c.exceptionTable.toList = tableOf hh → s.heap.size = sz → P s.heap → zX D ks s → lv_has ls n (lv_args 0 As) →
      W p l e (zRm fr lo mc ms) s m As.toArray below meth c s.heap [] 0 0 (MQ below (zQW (some (.int v)) B A) As.toArray s mc ms A) (F0 m 0 ls [])) : zMY l y cc n hh fr lo mc ms D ks sz As P v B A := by
  unfold zMY Met
  refine MetFree.of_bodyS (code := cc) (maxLocals := n) (ret := some .int) hy ?_ ?_
  · intro args s m h hn
    obtain ⟨m9, meth, c, hn9, h1, h2, h3, h4, -, h5, h6, -⟩ := Cond.codeWith_spec (atoms_spec (ws := Cond.codeWith y cc n (some .int) hh :: WS) h _ List.mem_cons_self)
    cases hn.symm.trans hn9
    exact ⟨meth, c, h1, h2, h3, h4, h5, h6⟩
  · intro p e s m args below meth c s₁ B hml hv _
    have htb := vx_table (x := y) B (atoms_spec (ws := Cond.codeWith y cc n (some .int) hh :: WS) B.pre _ List.mem_cons_self)
    obtain ⟨rfl, hsz, hP, hX⟩ := hv
    have hh0 : s₁.heap = s.heap := by rw [B.state]; rfl
    rw [lg_entry_eq]
    obtain ⟨t, a1, o, b1, b2, b3⟩ := body p e s m below meth c _ B.exec B.bytes B.returns hml (findClass_of_methodNamed B.named) B.notSynchronized (fun w hw => atoms_spec (ws := Cond.codeWith y cc n (some .int) hh :: WS) B.pre w (List.mem_cons_of_mem _ hw)) htb hsz hP hX (lv_entry As hn) s₁ hh0 (Stand.of_body B)
    exact ⟨t, o, a1, b1, b2, ⟨b3.1, b3.2⟩⟩
section
variable {p : Program} {l : Launch} {e : Env} {R : Room} {s : State} {m : MethodId} {args : Array Value} {below : List Frame} {meth : Method} {c : Code} {H : Heap} {locs : List Loc} {cells slots : Nat} {Q : State → Prop}
variable {cc : ByteArray} {pc : Nat} {ls : Array Slot} {rest st0 : List Value} {A : Nat → Prop} {g : Nat → va_E} {E : String}
theorem z_caught (hr : vx_Run p l e R s m args below meth c s.heap [] 0 0 1 6 (F0 m pc ls st0) rest (zQF #[]) (zXC E) (fun _ => False))
    (kx : ∀ (ce : Cell) (q9 : Nat) (H1 : Heap), s.heap.size ≤ H1.size → (∀ q : Nat, q < s.heap.size → H1[q]? = s.heap[q]?) → H1[q9]? = some ce → ce.vm = .none → s.vm.findClass E = some ce.cls → vx_W p l e R s m args below meth c H1 [] 1 6 Q (F0 m pc ls rest) q9) : W p l e R s m args below meth c s.heap [] 0 0 Q (F0 m pc ls st0) := by
  intro T hT X
  rcases hr T hT X with ⟨_, _, _, _, _, _, _, _, _, _, h, _⟩ | ⟨q, st₀, t, T', L, E', ce, h0, X', hL, e1, e2, ⟨hE, hz, hk⟩, hce, hcv, hcl, st⟩
  · exact h.elim
  · subst hE
    have X2 := Stand.forget (locs := []) X' (fun z h => (hL z h).elim)
    obtain ⟨t2, a1, b1⟩ := kx ce q T'.heap (by rw [e1, ← h0]; exact hz) (fun q h => by rw [e1, ← h0]; exact hk q (by rw [h0]; exact h)) (by rw [e1]; exact hce) hcv hcl T' rfl X2
    exact ⟨t2, st.trans a1, b1⟩
end
set_option maxHeartbeats 4000000 in
set_option maxRecDepth 100000 in
theorem w_stateOf (l : Launch) (hD0 : zD (fun _ => True) Rs ad) (hI : zIn Rs np ng) {p0 : Int32} {v : Int32} {fr lo : Nat} (hM : zMR l yX3_stateOf cX3_stateOf 2 (some .int) fr lo D ks [.ref (ad 13), .int p0] (zP D Rs ad (gS ks ad np ng G MI MJ XI XJ)) (some (.int v))) (sz : Nat) : zMY l yL_stateOf cL_stateOf 4 [(0, 9, 12, 21)] (fr + 1) (8 + (2 + 11) + lo) 0 0 D ks sz [.ref (ad 13), .int p0, .ref (ad 12)] (zP D Rs ad (gS ks ad np ng G MI MJ XI XJ)) 0 (zP D Rs ad (gS ks ad np ng G MI (u2 MJ 3 0 (Int32.toInt64 v)) XI XJ)) (zA Rs ad sz) := by
  refine zMY.of (by decide +kernel) (Nat.le_of_ble_eq_true rfl) ?_
  intro p e s m below meth c ls hx hb hr hml hown hlk hT htb hsz hP hX hl
  have hK := hX.1
  subst hsz
  have hD := hD0.self (sz := s.heap.size)
  have hA : ∀ q : Nat, s.heap.size ≤ q → zA Rs ad s.heap.size q := fun q h => Or.inr h
  have hS : va_S (zA Rs ad s.heap.size) s.heap s.heap [] := va_S.rf
  have hl : lv_has ls 4 [(0, .ref (ad 13)), (1, .int p0), (2, .ref (ad 12))] := hl
  refine lv_aload_n hx hb dL_stateOf_0 rfl (lv_at hl 2 rfl) ?_
  refine lv_iconst (v := nI 0) hx hb dL_stateOf_1 (by decide) ?_
  refine lv_aload_n hx hb dL_stateOf_2 rfl (lv_at hl 0 rfl) ?_
  refine lv_iload_n hx hb dL_stateOf_3 rfl (lv_at hl 1 rfl) ?_
  refine z_backR1 (z_runV ⟨hx, hb, hml, hown, hT⟩ (rest := [.int (nI 0), .ref (ad 12)]) (As := [.int p0]) hM k_L_37 (z_preRV hK hP (hP.at (hI.1 13 (by decide)) rfl) rfl) rfl ⟨Nat.le_refl _, Nat.le_refl _⟩ hl.1 rfl (Nat.le_of_ble_eq_true rfl) dL_stateOf_4 ⟨Nat.le_of_ble_eq_true rfl, Nat.le_of_ble_eq_true rfl⟩) ?_
  refine lv_i2l (v := Int32.toInt64 v) hx hb dL_stateOf_7 rfl ?_
  refine as_12N (j := 0) hx hb hK hP hD hS (hI.1 12 (by decide)) (by decide) dL_stateOf_8 (fun H locs hP hS => ?_)
  refine lv_goto (tgt := 15) hx hb dL_stateOf_9 (by decide) ?_
  refine lv_iconst (v := 0) hx hb dL_stateOf_15 (by decide) ?_
  exact zW_i hx hb hr hlk hS (by simp) (by simp) dL_stateOf_16 rfl hP
set_option maxHeartbeats 4000000 in
set_option maxRecDepth 100000 in
theorem w_stateOf_x1 (l : Launch) (hD0 : zD (fun _ => True) Rs ad) (hI : zIn Rs np ng) {p0 : Int32} {fr lo : Nat} (hM : zMX l yX3_stateOf cX3_stateOf 2 (some .int) fr lo D ks [.ref (ad 13), .int p0] (zP D Rs ad (gS ks ad np ng G MI MJ XI XJ)) "java/lang/IndexOutOfBoundsException") (sz : Nat) : zMY l yL_stateOf cL_stateOf 4 [(0, 9, 12, 21)] (fr + 1) (8 + (2 + 11) + lo) 1 6 D ks sz [.ref (ad 13), .int p0, .ref (ad 12)] (zP D Rs ad (gS ks ad np ng G MI MJ XI XJ)) 1 (zP D Rs ad (gS ks ad np ng G MI MJ XI XJ)) (zA Rs ad sz) := by
  refine zMY.of (by decide +kernel) (Nat.le_of_ble_eq_true rfl) ?_
  intro p e s m below meth c ls hx hb hr hml hown hlk hT htb hsz hP hX hl
  have hK := hX.1
  subst hsz
  have hD := hD0.self (sz := s.heap.size)
  have hA : ∀ q : Nat, s.heap.size ≤ q → zA Rs ad s.heap.size q := fun q h => Or.inr h
  have hS : va_S (zA Rs ad s.heap.size) s.heap s.heap [] := va_S.rf
  have hl : lv_has ls 4 [(0, .ref (ad 13)), (1, .int p0), (2, .ref (ad 12))] := hl
  refine lv_aload_n hx hb dL_stateOf_0 rfl (lv_at hl 2 rfl) ?_
  refine lv_iconst (v := nI 0) hx hb dL_stateOf_1 (by decide) ?_
  refine lv_aload_n hx hb dL_stateOf_2 rfl (lv_at hl 0 rfl) ?_
  refine lv_iload_n hx hb dL_stateOf_3 rfl (lv_at hl 1 rfl) ?_
  refine z_caught (E := "java/lang/IndexOutOfBoundsException") (z_runXV ⟨hx, hb, hml, hown, hT⟩ (rest := [.int (nI 0), .ref (ad 12)]) (As := [.int p0]) hM k_L_37 (z_preXV hX hP (hP.at (hI.1 13 (by decide)) rfl) rfl) rfl ⟨Nat.le_refl _, Nat.le_refl _⟩ hl.1 rfl (Nat.le_of_ble_eq_true rfl) dL_stateOf_4 ⟨Nat.le_of_ble_eq_true rfl, Nat.le_of_ble_eq_true rfl⟩) (fun ce q9 H1 hz hk hce hcv hcl => ?_)
  refine vx_catch (name := "java/lang/IndexOutOfBoundsException") hown [] ⟨0, 9, 12, 21⟩ [] (htb.trans rfl) (fun z hz => nomatch hz) rfl (by decide) (hT _ cl_L_21) (va_Nw.use rfl hX.2.1.2.1.2.2) hce hcv hcl ?_
  refine lv_astore_n (lv' := [(3, .ref q9), (0, .ref (ad 13)), (1, .int p0), (2, .ref (ad 12))]) hx hb dL_stateOf_12 rfl hl (by decide) rfl (fun ls hl => ?_)
  refine lv_iconst (v := 1) hx hb dL_stateOf_13 (by decide) ?_
  exact zW_i hx hb hr hlk ⟨hz, fun q h _ => hk q h, fun _ h => nomatch h⟩ (Nat.le_of_ble_eq_true rfl) (Nat.le_of_ble_eq_true rfl) dL_stateOf_14 rfl (fun r hr => (hP r hr).kept (hk _ (hP.lt hr)))
set_option maxHeartbeats 4000000 in
set_option maxRecDepth 100000 in
theorem w_bonuses (l : Launch) (hD0 : zD (fun _ => True) Rs ad) (hI : zIn Rs np ng) {p0 : Int32} {v : Int32} {fr lo : Nat} (hM : zMR l yX3_bonuses cX3_bonuses 2 (some .int) fr lo D ks [.ref (ad 13), .int p0] (zP D Rs ad (gS ks ad np ng G MI MJ XI XJ)) (some (.int v))) (sz : Nat) : zMY l yL_bonuses cL_bonuses 4 [(0, 9, 12, 21)] (fr + 1) (8 + (2 + 11) + lo) 0 0 D ks sz [.ref (ad 13), .int p0, .ref (ad 12)] (zP D Rs ad (gS ks ad np ng G MI MJ XI XJ)) 0 (zP D Rs ad (gS ks ad np ng G MI (u2 MJ 3 0 (Int32.toInt64 v)) XI XJ)) (zA Rs ad sz) := by
  refine zMY.of (by decide +kernel) (Nat.le_of_ble_eq_true rfl) ?_
  intro p e s m below meth c ls hx hb hr hml hown hlk hT htb hsz hP hX hl
  have hK := hX.1
  subst hsz
  have hD := hD0.self (sz := s.heap.size)
  have hA : ∀ q : Nat, s.heap.size ≤ q → zA Rs ad s.heap.size q := fun q h => Or.inr h
  have hS : va_S (zA Rs ad s.heap.size) s.heap s.heap [] := va_S.rf
  have hl : lv_has ls 4 [(0, .ref (ad 13)), (1, .int p0), (2, .ref (ad 12))] := hl
  refine lv_aload_n hx hb dL_bonuses_0 rfl (lv_at hl 2 rfl) ?_
  refine lv_iconst (v := nI 0) hx hb dL_bonuses_1 (by decide) ?_
  refine lv_aload_n hx hb dL_bonuses_2 rfl (lv_at hl 0 rfl) ?_
  refine lv_iload_n hx hb dL_bonuses_3 rfl (lv_at hl 1 rfl) ?_
  refine z_backR1 (z_runV ⟨hx, hb, hml, hown, hT⟩ (rest := [.int (nI 0), .ref (ad 12)]) (As := [.int p0]) hM k_L_40 (z_preRV hK hP (hP.at (hI.1 13 (by decide)) rfl) rfl) rfl ⟨Nat.le_refl _, Nat.le_refl _⟩ hl.1 rfl (Nat.le_of_ble_eq_true rfl) dL_bonuses_4 ⟨Nat.le_of_ble_eq_true rfl, Nat.le_of_ble_eq_true rfl⟩) ?_
  refine lv_i2l (v := Int32.toInt64 v) hx hb dL_bonuses_7 rfl ?_
  refine as_12N (j := 0) hx hb hK hP hD hS (hI.1 12 (by decide)) (by decide) dL_bonuses_8 (fun H locs hP hS => ?_)
  refine lv_goto (tgt := 15) hx hb dL_bonuses_9 (by decide) ?_
  refine lv_iconst (v := 0) hx hb dL_bonuses_15 (by decide) ?_
  exact zW_i hx hb hr hlk hS (by simp) (by simp) dL_bonuses_16 rfl hP
set_option maxHeartbeats 4000000 in
set_option maxRecDepth 100000 in
theorem w_bonuses_x1 (l : Launch) (hD0 : zD (fun _ => True) Rs ad) (hI : zIn Rs np ng) {p0 : Int32} {fr lo : Nat} (hM : zMX l yX3_bonuses cX3_bonuses 2 (some .int) fr lo D ks [.ref (ad 13), .int p0] (zP D Rs ad (gS ks ad np ng G MI MJ XI XJ)) "java/lang/IndexOutOfBoundsException") (sz : Nat) : zMY l yL_bonuses cL_bonuses 4 [(0, 9, 12, 21)] (fr + 1) (8 + (2 + 11) + lo) 1 6 D ks sz [.ref (ad 13), .int p0, .ref (ad 12)] (zP D Rs ad (gS ks ad np ng G MI MJ XI XJ)) 1 (zP D Rs ad (gS ks ad np ng G MI MJ XI XJ)) (zA Rs ad sz) := by
  refine zMY.of (by decide +kernel) (Nat.le_of_ble_eq_true rfl) ?_
  intro p e s m below meth c ls hx hb hr hml hown hlk hT htb hsz hP hX hl
  have hK := hX.1
  subst hsz
  have hD := hD0.self (sz := s.heap.size)
  have hA : ∀ q : Nat, s.heap.size ≤ q → zA Rs ad s.heap.size q := fun q h => Or.inr h
  have hS : va_S (zA Rs ad s.heap.size) s.heap s.heap [] := va_S.rf
  have hl : lv_has ls 4 [(0, .ref (ad 13)), (1, .int p0), (2, .ref (ad 12))] := hl
  refine lv_aload_n hx hb dL_bonuses_0 rfl (lv_at hl 2 rfl) ?_
  refine lv_iconst (v := nI 0) hx hb dL_bonuses_1 (by decide) ?_
  refine lv_aload_n hx hb dL_bonuses_2 rfl (lv_at hl 0 rfl) ?_
  refine lv_iload_n hx hb dL_bonuses_3 rfl (lv_at hl 1 rfl) ?_
  refine z_caught (E := "java/lang/IndexOutOfBoundsException") (z_runXV ⟨hx, hb, hml, hown, hT⟩ (rest := [.int (nI 0), .ref (ad 12)]) (As := [.int p0]) hM k_L_40 (z_preXV hX hP (hP.at (hI.1 13 (by decide)) rfl) rfl) rfl ⟨Nat.le_refl _, Nat.le_refl _⟩ hl.1 rfl (Nat.le_of_ble_eq_true rfl) dL_bonuses_4 ⟨Nat.le_of_ble_eq_true rfl, Nat.le_of_ble_eq_true rfl⟩) (fun ce q9 H1 hz hk hce hcv hcl => ?_)
  refine vx_catch (name := "java/lang/IndexOutOfBoundsException") hown [] ⟨0, 9, 12, 21⟩ [] (htb.trans rfl) (fun z hz => nomatch hz) rfl (by decide) (hT _ cl_L_21) (va_Nw.use rfl hX.2.1.2.1.2.2) hce hcv hcl ?_
  refine lv_astore_n (lv' := [(3, .ref q9), (0, .ref (ad 13)), (1, .int p0), (2, .ref (ad 12))]) hx hb dL_bonuses_12 rfl hl (by decide) rfl (fun ls hl => ?_)
  refine lv_iconst (v := 1) hx hb dL_bonuses_13 (by decide) ?_
  exact zW_i hx hb hr hlk ⟨hz, fun q h _ => hk q h, fun _ h => nomatch h⟩ (Nat.le_of_ble_eq_true rfl) (Nat.le_of_ble_eq_true rfl) dL_bonuses_14 rfl (fun r hr => (hP r hr).kept (hk _ (hP.lt hr)))
set_option maxHeartbeats 4000000 in
set_option maxRecDepth 100000 in
theorem w_shareOf (l : Launch) (hD0 : zD (fun _ => True) Rs ad) (hI : zIn Rs np ng) {p0 : Int32} {v : Int32} {fr lo : Nat} (hM : zMR l yX3_shareOf cX3_shareOf 2 (some .int) fr lo D ks [.ref (ad 13), .int p0] (zP D Rs ad (gS ks ad np ng G MI MJ XI XJ)) (some (.int v))) (sz : Nat) : zMY l yL_shareOf cL_shareOf 4 [(0, 9, 12, 21)] (fr + 1) (8 + (2 + 11) + lo) 0 0 D ks sz [.ref (ad 13), .int p0, .ref (ad 12)] (zP D Rs ad (gS ks ad np ng G MI MJ XI XJ)) 0 (zP D Rs ad (gS ks ad np ng G MI (u2 MJ 3 0 (Int32.toInt64 v)) XI XJ)) (zA Rs ad sz) := by
  refine zMY.of (by decide +kernel) (Nat.le_of_ble_eq_true rfl) ?_
  intro p e s m below meth c ls hx hb hr hml hown hlk hT htb hsz hP hX hl
  have hK := hX.1
  subst hsz
  have hD := hD0.self (sz := s.heap.size)
  have hA : ∀ q : Nat, s.heap.size ≤ q → zA Rs ad s.heap.size q := fun q h => Or.inr h
  have hS : va_S (zA Rs ad s.heap.size) s.heap s.heap [] := va_S.rf
  have hl : lv_has ls 4 [(0, .ref (ad 13)), (1, .int p0), (2, .ref (ad 12))] := hl
  refine lv_aload_n hx hb dL_shareOf_0 rfl (lv_at hl 2 rfl) ?_
  refine lv_iconst (v := nI 0) hx hb dL_shareOf_1 (by decide) ?_
  refine lv_aload_n hx hb dL_shareOf_2 rfl (lv_at hl 0 rfl) ?_
  refine lv_iload_n hx hb dL_shareOf_3 rfl (lv_at hl 1 rfl) ?_
  refine z_backR1 (z_runV ⟨hx, hb, hml, hown, hT⟩ (rest := [.int (nI 0), .ref (ad 12)]) (As := [.int p0]) hM k_L_43 (z_preRV hK hP (hP.at (hI.1 13 (by decide)) rfl) rfl) rfl ⟨Nat.le_refl _, Nat.le_refl _⟩ hl.1 rfl (Nat.le_of_ble_eq_true rfl) dL_shareOf_4 ⟨Nat.le_of_ble_eq_true rfl, Nat.le_of_ble_eq_true rfl⟩) ?_
  refine lv_i2l (v := Int32.toInt64 v) hx hb dL_shareOf_7 rfl ?_
  refine as_12N (j := 0) hx hb hK hP hD hS (hI.1 12 (by decide)) (by decide) dL_shareOf_8 (fun H locs hP hS => ?_)
  refine lv_goto (tgt := 15) hx hb dL_shareOf_9 (by decide) ?_
  refine lv_iconst (v := 0) hx hb dL_shareOf_15 (by decide) ?_
  exact zW_i hx hb hr hlk hS (by simp) (by simp) dL_shareOf_16 rfl hP
set_option maxHeartbeats 4000000 in
set_option maxRecDepth 100000 in
theorem w_shareOf_x1 (l : Launch) (hD0 : zD (fun _ => True) Rs ad) (hI : zIn Rs np ng) {p0 : Int32} {fr lo : Nat} (hM : zMX l yX3_shareOf cX3_shareOf 2 (some .int) fr lo D ks [.ref (ad 13), .int p0] (zP D Rs ad (gS ks ad np ng G MI MJ XI XJ)) "java/lang/IndexOutOfBoundsException") (sz : Nat) : zMY l yL_shareOf cL_shareOf 4 [(0, 9, 12, 21)] (fr + 1) (8 + (2 + 11) + lo) 1 6 D ks sz [.ref (ad 13), .int p0, .ref (ad 12)] (zP D Rs ad (gS ks ad np ng G MI MJ XI XJ)) 1 (zP D Rs ad (gS ks ad np ng G MI MJ XI XJ)) (zA Rs ad sz) := by
  refine zMY.of (by decide +kernel) (Nat.le_of_ble_eq_true rfl) ?_
  intro p e s m below meth c ls hx hb hr hml hown hlk hT htb hsz hP hX hl
  have hK := hX.1
  subst hsz
  have hD := hD0.self (sz := s.heap.size)
  have hA : ∀ q : Nat, s.heap.size ≤ q → zA Rs ad s.heap.size q := fun q h => Or.inr h
  have hS : va_S (zA Rs ad s.heap.size) s.heap s.heap [] := va_S.rf
  have hl : lv_has ls 4 [(0, .ref (ad 13)), (1, .int p0), (2, .ref (ad 12))] := hl
  refine lv_aload_n hx hb dL_shareOf_0 rfl (lv_at hl 2 rfl) ?_
  refine lv_iconst (v := nI 0) hx hb dL_shareOf_1 (by decide) ?_
  refine lv_aload_n hx hb dL_shareOf_2 rfl (lv_at hl 0 rfl) ?_
  refine lv_iload_n hx hb dL_shareOf_3 rfl (lv_at hl 1 rfl) ?_
  refine z_caught (E := "java/lang/IndexOutOfBoundsException") (z_runXV ⟨hx, hb, hml, hown, hT⟩ (rest := [.int (nI 0), .ref (ad 12)]) (As := [.int p0]) hM k_L_43 (z_preXV hX hP (hP.at (hI.1 13 (by decide)) rfl) rfl) rfl ⟨Nat.le_refl _, Nat.le_refl _⟩ hl.1 rfl (Nat.le_of_ble_eq_true rfl) dL_shareOf_4 ⟨Nat.le_of_ble_eq_true rfl, Nat.le_of_ble_eq_true rfl⟩) (fun ce q9 H1 hz hk hce hcv hcl => ?_)
  refine vx_catch (name := "java/lang/IndexOutOfBoundsException") hown [] ⟨0, 9, 12, 21⟩ [] (htb.trans rfl) (fun z hz => nomatch hz) rfl (by decide) (hT _ cl_L_21) (va_Nw.use rfl hX.2.1.2.1.2.2) hce hcv hcl ?_
  refine lv_astore_n (lv' := [(3, .ref q9), (0, .ref (ad 13)), (1, .int p0), (2, .ref (ad 12))]) hx hb dL_shareOf_12 rfl hl (by decide) rfl (fun ls hl => ?_)
  refine lv_iconst (v := 1) hx hb dL_shareOf_13 (by decide) ?_
  exact zW_i hx hb hr hlk ⟨hz, fun q h _ => hk q h, fun _ h => nomatch h⟩ (Nat.le_of_ble_eq_true rfl) (Nat.le_of_ble_eq_true rfl) dL_shareOf_14 rfl (fun r hr => (hP r hr).kept (hk _ (hP.lt hr)))
set_option maxHeartbeats 4000000 in
set_option maxRecDepth 100000 in
theorem w_shareAlone (l : Launch) (hD0 : zD (fun _ => True) Rs ad) (hI : zIn Rs np ng) {p0 : Int32} {v : Int32} {fr lo : Nat} (hM : zMR l yX3_shareAlone cX3_shareAlone 3 (some .int) fr lo D ks [.ref (ad 13), .int p0] (zP D Rs ad (gS ks ad np ng G MI MJ XI XJ)) (some (.int v))) (sz : Nat) : zMY l yL_shareAlone cL_shareAlone 4 [(0, 9, 12, 21)] (fr + 1) (8 + (3 + 11) + lo) 0 0 D ks sz [.ref (ad 13), .int p0, .ref (ad 12)] (zP D Rs ad (gS ks ad np ng G MI MJ XI XJ)) 0 (zP D Rs ad (gS ks ad np ng G MI (u2 MJ 3 0 (Int32.toInt64 v)) XI XJ)) (zA Rs ad sz) := by
  refine zMY.of (by decide +kernel) (Nat.le_of_ble_eq_true rfl) ?_
  intro p e s m below meth c ls hx hb hr hml hown hlk hT htb hsz hP hX hl
  have hK := hX.1
  subst hsz
  have hD := hD0.self (sz := s.heap.size)
  have hA : ∀ q : Nat, s.heap.size ≤ q → zA Rs ad s.heap.size q := fun q h => Or.inr h
  have hS : va_S (zA Rs ad s.heap.size) s.heap s.heap [] := va_S.rf
  have hl : lv_has ls 4 [(0, .ref (ad 13)), (1, .int p0), (2, .ref (ad 12))] := hl
  refine lv_aload_n hx hb dL_shareAlone_0 rfl (lv_at hl 2 rfl) ?_
  refine lv_iconst (v := nI 0) hx hb dL_shareAlone_1 (by decide) ?_
  refine lv_aload_n hx hb dL_shareAlone_2 rfl (lv_at hl 0 rfl) ?_
  refine lv_iload_n hx hb dL_shareAlone_3 rfl (lv_at hl 1 rfl) ?_
  refine z_backR1 (z_runV ⟨hx, hb, hml, hown, hT⟩ (rest := [.int (nI 0), .ref (ad 12)]) (As := [.int p0]) hM k_L_46 (z_preRV hK hP (hP.at (hI.1 13 (by decide)) rfl) rfl) rfl ⟨Nat.le_refl _, Nat.le_refl _⟩ hl.1 rfl (Nat.le_of_ble_eq_true rfl) dL_shareAlone_4 ⟨Nat.le_of_ble_eq_true rfl, Nat.le_of_ble_eq_true rfl⟩) ?_
  refine lv_i2l (v := Int32.toInt64 v) hx hb dL_shareAlone_7 rfl ?_
  refine as_12N (j := 0) hx hb hK hP hD hS (hI.1 12 (by decide)) (by decide) dL_shareAlone_8 (fun H locs hP hS => ?_)
  refine lv_goto (tgt := 15) hx hb dL_shareAlone_9 (by decide) ?_
  refine lv_iconst (v := 0) hx hb dL_shareAlone_15 (by decide) ?_
  exact zW_i hx hb hr hlk hS (by simp) (by simp) dL_shareAlone_16 rfl hP
set_option maxHeartbeats 4000000 in
set_option maxRecDepth 100000 in
theorem w_shareAlone_x1 (l : Launch) (hD0 : zD (fun _ => True) Rs ad) (hI : zIn Rs np ng) {p0 : Int32} {fr lo : Nat} (hM : zMX l yX3_shareAlone cX3_shareAlone 3 (some .int) fr lo D ks [.ref (ad 13), .int p0] (zP D Rs ad (gS ks ad np ng G MI MJ XI XJ)) "java/lang/IndexOutOfBoundsException") (sz : Nat) : zMY l yL_shareAlone cL_shareAlone 4 [(0, 9, 12, 21)] (fr + 1) (8 + (3 + 11) + lo) 1 6 D ks sz [.ref (ad 13), .int p0, .ref (ad 12)] (zP D Rs ad (gS ks ad np ng G MI MJ XI XJ)) 1 (zP D Rs ad (gS ks ad np ng G MI MJ XI XJ)) (zA Rs ad sz) := by
  refine zMY.of (by decide +kernel) (Nat.le_of_ble_eq_true rfl) ?_
  intro p e s m below meth c ls hx hb hr hml hown hlk hT htb hsz hP hX hl
  have hK := hX.1
  subst hsz
  have hD := hD0.self (sz := s.heap.size)
  have hA : ∀ q : Nat, s.heap.size ≤ q → zA Rs ad s.heap.size q := fun q h => Or.inr h
  have hS : va_S (zA Rs ad s.heap.size) s.heap s.heap [] := va_S.rf
  have hl : lv_has ls 4 [(0, .ref (ad 13)), (1, .int p0), (2, .ref (ad 12))] := hl
  refine lv_aload_n hx hb dL_shareAlone_0 rfl (lv_at hl 2 rfl) ?_
  refine lv_iconst (v := nI 0) hx hb dL_shareAlone_1 (by decide) ?_
  refine lv_aload_n hx hb dL_shareAlone_2 rfl (lv_at hl 0 rfl) ?_
  refine lv_iload_n hx hb dL_shareAlone_3 rfl (lv_at hl 1 rfl) ?_
  refine z_caught (E := "java/lang/IndexOutOfBoundsException") (z_runXV ⟨hx, hb, hml, hown, hT⟩ (rest := [.int (nI 0), .ref (ad 12)]) (As := [.int p0]) hM k_L_46 (z_preXV hX hP (hP.at (hI.1 13 (by decide)) rfl) rfl) rfl ⟨Nat.le_refl _, Nat.le_refl _⟩ hl.1 rfl (Nat.le_of_ble_eq_true rfl) dL_shareAlone_4 ⟨Nat.le_of_ble_eq_true rfl, Nat.le_of_ble_eq_true rfl⟩) (fun ce q9 H1 hz hk hce hcv hcl => ?_)
  refine vx_catch (name := "java/lang/IndexOutOfBoundsException") hown [] ⟨0, 9, 12, 21⟩ [] (htb.trans rfl) (fun z hz => nomatch hz) rfl (by decide) (hT _ cl_L_21) (va_Nw.use rfl hX.2.1.2.1.2.2) hce hcv hcl ?_
  refine lv_astore_n (lv' := [(3, .ref q9), (0, .ref (ad 13)), (1, .int p0), (2, .ref (ad 12))]) hx hb dL_shareAlone_12 rfl hl (by decide) rfl (fun ls hl => ?_)
  refine lv_iconst (v := 1) hx hb dL_shareAlone_13 (by decide) ?_
  exact zW_i hx hb hr hlk ⟨hz, fun q h _ => hk q h, fun _ h => nomatch h⟩ (Nat.le_of_ble_eq_true rfl) (Nat.le_of_ble_eq_true rfl) dL_shareAlone_14 rfl (fun r hr => (hP r hr).kept (hk _ (hP.lt hr)))
set_option maxHeartbeats 4000000 in
set_option maxRecDepth 100000 in
theorem w_generation (l : Launch) (hD0 : zD (fun _ => True) Rs ad) (hI : zIn Rs np ng) {p0 p1 : Int32} {v : Int32} {fr lo : Nat} (hM : zMR l yX3_generation cX3_generation 4 (some .int) fr lo D ks [.ref (ad 13), .int p0, .int p1] (zP D Rs ad (gS ks ad np ng G MI MJ XI XJ)) (some (.int v))) (sz : Nat) : zMY l yL_generation cL_generation 5 [(0, 10, 13, 13)] (fr + 1) (8 + (4 + 11) + lo) 0 0 D ks sz [.ref (ad 13), .int p0, .int p1, .ref (ad 12)] (zP D Rs ad (gS ks ad np ng G MI MJ XI XJ)) 0 (zP D Rs ad (gS ks ad np ng G MI (u2 MJ 3 0 (Int32.toInt64 v)) XI XJ)) (zA Rs ad sz) := by
  refine zMY.of (by decide +kernel) (Nat.le_of_ble_eq_true rfl) ?_
  intro p e s m below meth c ls hx hb hr hml hown hlk hT htb hsz hP hX hl
  have hK := hX.1
  subst hsz
  have hD := hD0.self (sz := s.heap.size)
  have hA : ∀ q : Nat, s.heap.size ≤ q → zA Rs ad s.heap.size q := fun q h => Or.inr h
  have hS : va_S (zA Rs ad s.heap.size) s.heap s.heap [] := va_S.rf
  have hl : lv_has ls 5 [(0, .ref (ad 13)), (1, .int p0), (2, .int p1), (3, .ref (ad 12))] := hl
  refine lv_aload_n hx hb dL_generation_0 rfl (lv_at hl 3 rfl) ?_
  refine lv_iconst (v := nI 0) hx hb dL_generation_1 (by decide) ?_
  refine lv_aload_n hx hb dL_generation_2 rfl (lv_at hl 0 rfl) ?_
  refine lv_iload_n hx hb dL_generation_3 rfl (lv_at hl 1 rfl) ?_
  refine lv_iload_n hx hb dL_generation_4 rfl (lv_at hl 2 rfl) ?_
  refine z_backR1 (z_runV ⟨hx, hb, hml, hown, hT⟩ (rest := [.int (nI 0), .ref (ad 12)]) (As := [.int p0, .int p1]) hM k_L_49 (z_preRV hK hP (hP.at (hI.1 13 (by decide)) rfl) rfl) rfl ⟨Nat.le_refl _, Nat.le_refl _⟩ hl.1 rfl (Nat.le_of_ble_eq_true rfl) dL_generation_5 ⟨Nat.le_of_ble_eq_true rfl, Nat.le_of_ble_eq_true rfl⟩) ?_
  refine lv_i2l (v := Int32.toInt64 v) hx hb dL_generation_8 rfl ?_
  refine as_12N (j := 0) hx hb hK hP hD hS (hI.1 12 (by decide)) (by decide) dL_generation_9 (fun H locs hP hS => ?_)
  refine lv_goto (tgt := 17) hx hb dL_generation_10 (by decide) ?_
  refine lv_iconst (v := 0) hx hb dL_generation_17 (by decide) ?_
  exact zW_i hx hb hr hlk hS (by simp) (by simp) dL_generation_18 rfl hP
set_option maxHeartbeats 4000000 in
set_option maxRecDepth 100000 in
theorem w_generation_x1 (l : Launch) (hD0 : zD (fun _ => True) Rs ad) (hI : zIn Rs np ng) {p0 p1 : Int32} {fr lo : Nat} (hM : zMX l yX3_generation cX3_generation 4 (some .int) fr lo D ks [.ref (ad 13), .int p0, .int p1] (zP D Rs ad (gS ks ad np ng G MI MJ XI XJ)) "java/lang/IllegalArgumentException") (sz : Nat) : zMY l yL_generation cL_generation 5 [(0, 10, 13, 13)] (fr + 1) (8 + (4 + 11) + lo) 1 6 D ks sz [.ref (ad 13), .int p0, .int p1, .ref (ad 12)] (zP D Rs ad (gS ks ad np ng G MI MJ XI XJ)) 1 (zP D Rs ad (gS ks ad np ng G MI MJ XI XJ)) (zA Rs ad sz) := by
  refine zMY.of (by decide +kernel) (Nat.le_of_ble_eq_true rfl) ?_
  intro p e s m below meth c ls hx hb hr hml hown hlk hT htb hsz hP hX hl
  have hK := hX.1
  subst hsz
  have hD := hD0.self (sz := s.heap.size)
  have hA : ∀ q : Nat, s.heap.size ≤ q → zA Rs ad s.heap.size q := fun q h => Or.inr h
  have hS : va_S (zA Rs ad s.heap.size) s.heap s.heap [] := va_S.rf
  have hl : lv_has ls 5 [(0, .ref (ad 13)), (1, .int p0), (2, .int p1), (3, .ref (ad 12))] := hl
  refine lv_aload_n hx hb dL_generation_0 rfl (lv_at hl 3 rfl) ?_
  refine lv_iconst (v := nI 0) hx hb dL_generation_1 (by decide) ?_
  refine lv_aload_n hx hb dL_generation_2 rfl (lv_at hl 0 rfl) ?_
  refine lv_iload_n hx hb dL_generation_3 rfl (lv_at hl 1 rfl) ?_
  refine lv_iload_n hx hb dL_generation_4 rfl (lv_at hl 2 rfl) ?_
  refine z_caught (E := "java/lang/IllegalArgumentException") (z_runXV ⟨hx, hb, hml, hown, hT⟩ (rest := [.int (nI 0), .ref (ad 12)]) (As := [.int p0, .int p1]) hM k_L_49 (z_preXV hX hP (hP.at (hI.1 13 (by decide)) rfl) rfl) rfl ⟨Nat.le_refl _, Nat.le_refl _⟩ hl.1 rfl (Nat.le_of_ble_eq_true rfl) dL_generation_5 ⟨Nat.le_of_ble_eq_true rfl, Nat.le_of_ble_eq_true rfl⟩) (fun ce q9 H1 hz hk hce hcv hcl => ?_)
  refine vx_catch (name := "java/lang/IllegalArgumentException") hown [] ⟨0, 10, 13, 13⟩ [] (htb.trans rfl) (fun z hz => nomatch hz) rfl (by decide) (hT _ cl_L_13) (va_Nw.use rfl hX.2.1.2.1.1) hce hcv hcl ?_
  refine lv_astore (lv' := [(4, .ref q9), (0, .ref (ad 13)), (1, .int p0), (2, .int p1), (3, .ref (ad 12))]) hx hb dL_generation_13 hl (by decide) rfl (fun ls hl => ?_)
  refine lv_iconst (v := 1) hx hb dL_generation_15 (by decide) ?_
  exact zW_i hx hb hr hlk ⟨hz, fun q h _ => hk q h, fun _ h => nomatch h⟩ (Nat.le_of_ble_eq_true rfl) (Nat.le_of_ble_eq_true rfl) dL_generation_16 rfl (fun r hr => (hP r hr).kept (hk _ (hP.lt hr)))
set_option maxHeartbeats 4000000 in
set_option maxRecDepth 100000 in
theorem w_paid (l : Launch) (hD0 : zD (fun _ => True) Rs ad) (hI : zIn Rs np ng) {p0 : Int32} {v : Int32} {fr lo : Nat} (hM : zMR l yX3_paid cX3_paid 2 (some .int) fr lo D ks [.ref (ad 13), .int p0] (zP D Rs ad (gS ks ad np ng G MI MJ XI XJ)) (some (.int v))) (sz : Nat) : zMY l yL_paid cL_paid 4 [(0, 9, 12, 21)] (fr + 1) (8 + (2 + 11) + lo) 0 0 D ks sz [.ref (ad 13), .int p0, .ref (ad 12)] (zP D Rs ad (gS ks ad np ng G MI MJ XI XJ)) 0 (zP D Rs ad (gS ks ad np ng G MI (u2 MJ 3 0 (Int32.toInt64 v)) XI XJ)) (zA Rs ad sz) := by
  refine zMY.of (by decide +kernel) (Nat.le_of_ble_eq_true rfl) ?_
  intro p e s m below meth c ls hx hb hr hml hown hlk hT htb hsz hP hX hl
  have hK := hX.1
  subst hsz
  have hD := hD0.self (sz := s.heap.size)
  have hA : ∀ q : Nat, s.heap.size ≤ q → zA Rs ad s.heap.size q := fun q h => Or.inr h
  have hS : va_S (zA Rs ad s.heap.size) s.heap s.heap [] := va_S.rf
  have hl : lv_has ls 4 [(0, .ref (ad 13)), (1, .int p0), (2, .ref (ad 12))] := hl
  refine lv_aload_n hx hb dL_paid_0 rfl (lv_at hl 2 rfl) ?_
  refine lv_iconst (v := nI 0) hx hb dL_paid_1 (by decide) ?_
  refine lv_aload_n hx hb dL_paid_2 rfl (lv_at hl 0 rfl) ?_
  refine lv_iload_n hx hb dL_paid_3 rfl (lv_at hl 1 rfl) ?_
  refine z_backR1 (z_runV ⟨hx, hb, hml, hown, hT⟩ (rest := [.int (nI 0), .ref (ad 12)]) (As := [.int p0]) hM k_L_52 (z_preRV hK hP (hP.at (hI.1 13 (by decide)) rfl) rfl) rfl ⟨Nat.le_refl _, Nat.le_refl _⟩ hl.1 rfl (Nat.le_of_ble_eq_true rfl) dL_paid_4 ⟨Nat.le_of_ble_eq_true rfl, Nat.le_of_ble_eq_true rfl⟩) ?_
  refine lv_i2l (v := Int32.toInt64 v) hx hb dL_paid_7 rfl ?_
  refine as_12N (j := 0) hx hb hK hP hD hS (hI.1 12 (by decide)) (by decide) dL_paid_8 (fun H locs hP hS => ?_)
  refine lv_goto (tgt := 15) hx hb dL_paid_9 (by decide) ?_
  refine lv_iconst (v := 0) hx hb dL_paid_15 (by decide) ?_
  exact zW_i hx hb hr hlk hS (by simp) (by simp) dL_paid_16 rfl hP
set_option maxHeartbeats 4000000 in
set_option maxRecDepth 100000 in
theorem w_paid_x1 (l : Launch) (hD0 : zD (fun _ => True) Rs ad) (hI : zIn Rs np ng) {p0 : Int32} {fr lo : Nat} (hM : zMX l yX3_paid cX3_paid 2 (some .int) fr lo D ks [.ref (ad 13), .int p0] (zP D Rs ad (gS ks ad np ng G MI MJ XI XJ)) "java/lang/IndexOutOfBoundsException") (sz : Nat) : zMY l yL_paid cL_paid 4 [(0, 9, 12, 21)] (fr + 1) (8 + (2 + 11) + lo) 1 6 D ks sz [.ref (ad 13), .int p0, .ref (ad 12)] (zP D Rs ad (gS ks ad np ng G MI MJ XI XJ)) 1 (zP D Rs ad (gS ks ad np ng G MI MJ XI XJ)) (zA Rs ad sz) := by
  refine zMY.of (by decide +kernel) (Nat.le_of_ble_eq_true rfl) ?_
  intro p e s m below meth c ls hx hb hr hml hown hlk hT htb hsz hP hX hl
  have hK := hX.1
  subst hsz
  have hD := hD0.self (sz := s.heap.size)
  have hA : ∀ q : Nat, s.heap.size ≤ q → zA Rs ad s.heap.size q := fun q h => Or.inr h
  have hS : va_S (zA Rs ad s.heap.size) s.heap s.heap [] := va_S.rf
  have hl : lv_has ls 4 [(0, .ref (ad 13)), (1, .int p0), (2, .ref (ad 12))] := hl
  refine lv_aload_n hx hb dL_paid_0 rfl (lv_at hl 2 rfl) ?_
  refine lv_iconst (v := nI 0) hx hb dL_paid_1 (by decide) ?_
  refine lv_aload_n hx hb dL_paid_2 rfl (lv_at hl 0 rfl) ?_
  refine lv_iload_n hx hb dL_paid_3 rfl (lv_at hl 1 rfl) ?_
  refine z_caught (E := "java/lang/IndexOutOfBoundsException") (z_runXV ⟨hx, hb, hml, hown, hT⟩ (rest := [.int (nI 0), .ref (ad 12)]) (As := [.int p0]) hM k_L_52 (z_preXV hX hP (hP.at (hI.1 13 (by decide)) rfl) rfl) rfl ⟨Nat.le_refl _, Nat.le_refl _⟩ hl.1 rfl (Nat.le_of_ble_eq_true rfl) dL_paid_4 ⟨Nat.le_of_ble_eq_true rfl, Nat.le_of_ble_eq_true rfl⟩) (fun ce q9 H1 hz hk hce hcv hcl => ?_)
  refine vx_catch (name := "java/lang/IndexOutOfBoundsException") hown [] ⟨0, 9, 12, 21⟩ [] (htb.trans rfl) (fun z hz => nomatch hz) rfl (by decide) (hT _ cl_L_21) (va_Nw.use rfl hX.2.1.2.1.2.2) hce hcv hcl ?_
  refine lv_astore_n (lv' := [(3, .ref q9), (0, .ref (ad 13)), (1, .int p0), (2, .ref (ad 12))]) hx hb dL_paid_12 rfl hl (by decide) rfl (fun ls hl => ?_)
  refine lv_iconst (v := 1) hx hb dL_paid_13 (by decide) ?_
  exact zW_i hx hb hr hlk ⟨hz, fun q h _ => hk q h, fun _ h => nomatch h⟩ (Nat.le_of_ble_eq_true rfl) (Nat.le_of_ble_eq_true rfl) dL_paid_14 rfl (fun r hr => (hP r hr).kept (hk _ (hP.lt hr)))
set_option maxHeartbeats 4000000 in
set_option maxRecDepth 100000 in
theorem w_worth (l : Launch) (hD0 : zD (fun _ => True) Rs ad) (hI : zIn Rs np ng) {p0 : Int32} {v : Int32} {fr lo : Nat} (hM : zMR l yX3_worth cX3_worth 3 (some .int) fr lo D ks [.ref (ad 13), .int p0] (zP D Rs ad (gS ks ad np ng G MI MJ XI XJ)) (some (.int v))) (sz : Nat) : zMY l yL_worth cL_worth 4 [(0, 9, 12, 21), (0, 9, 15, 15)] (fr + 1) (8 + (3 + 11) + lo) 0 0 D ks sz [.ref (ad 13), .int p0, .ref (ad 12)] (zP D Rs ad (gS ks ad np ng G MI MJ XI XJ)) 0 (zP D Rs ad (gS ks ad np ng G MI (u2 MJ 3 0 (Int32.toInt64 v)) XI XJ)) (zA Rs ad sz) := by
  refine zMY.of (by decide +kernel) (Nat.le_of_ble_eq_true rfl) ?_
  intro p e s m below meth c ls hx hb hr hml hown hlk hT htb hsz hP hX hl
  have hK := hX.1
  subst hsz
  have hD := hD0.self (sz := s.heap.size)
  have hA : ∀ q : Nat, s.heap.size ≤ q → zA Rs ad s.heap.size q := fun q h => Or.inr h
  have hS : va_S (zA Rs ad s.heap.size) s.heap s.heap [] := va_S.rf
  have hl : lv_has ls 4 [(0, .ref (ad 13)), (1, .int p0), (2, .ref (ad 12))] := hl
  refine lv_aload_n hx hb dL_worth_0 rfl (lv_at hl 2 rfl) ?_
  refine lv_iconst (v := nI 0) hx hb dL_worth_1 (by decide) ?_
  refine lv_aload_n hx hb dL_worth_2 rfl (lv_at hl 0 rfl) ?_
  refine lv_iload_n hx hb dL_worth_3 rfl (lv_at hl 1 rfl) ?_
  refine z_backR1 (z_runV ⟨hx, hb, hml, hown, hT⟩ (rest := [.int (nI 0), .ref (ad 12)]) (As := [.int p0]) hM k_L_55 (z_preRV hK hP (hP.at (hI.1 13 (by decide)) rfl) rfl) rfl ⟨Nat.le_refl _, Nat.le_refl _⟩ hl.1 rfl (Nat.le_of_ble_eq_true rfl) dL_worth_4 ⟨Nat.le_of_ble_eq_true rfl, Nat.le_of_ble_eq_true rfl⟩) ?_
  refine lv_i2l (v := Int32.toInt64 v) hx hb dL_worth_7 rfl ?_
  refine as_12N (j := 0) hx hb hK hP hD hS (hI.1 12 (by decide)) (by decide) dL_worth_8 (fun H locs hP hS => ?_)
  refine lv_goto (tgt := 18) hx hb dL_worth_9 (by decide) ?_
  refine lv_iconst (v := 0) hx hb dL_worth_18 (by decide) ?_
  exact zW_i hx hb hr hlk hS (by simp) (by simp) dL_worth_19 rfl hP
set_option maxHeartbeats 4000000 in
set_option maxRecDepth 100000 in
theorem w_worth_x1 (l : Launch) (hD0 : zD (fun _ => True) Rs ad) (hI : zIn Rs np ng) {p0 : Int32} {fr lo : Nat} (hM : zMX l yX3_worth cX3_worth 3 (some .int) fr lo D ks [.ref (ad 13), .int p0] (zP D Rs ad (gS ks ad np ng G MI MJ XI XJ)) "java/lang/IndexOutOfBoundsException") (sz : Nat) : zMY l yL_worth cL_worth 4 [(0, 9, 12, 21), (0, 9, 15, 15)] (fr + 1) (8 + (3 + 11) + lo) 1 6 D ks sz [.ref (ad 13), .int p0, .ref (ad 12)] (zP D Rs ad (gS ks ad np ng G MI MJ XI XJ)) 1 (zP D Rs ad (gS ks ad np ng G MI MJ XI XJ)) (zA Rs ad sz) := by
  refine zMY.of (by decide +kernel) (Nat.le_of_ble_eq_true rfl) ?_
  intro p e s m below meth c ls hx hb hr hml hown hlk hT htb hsz hP hX hl
  have hK := hX.1
  subst hsz
  have hD := hD0.self (sz := s.heap.size)
  have hA : ∀ q : Nat, s.heap.size ≤ q → zA Rs ad s.heap.size q := fun q h => Or.inr h
  have hS : va_S (zA Rs ad s.heap.size) s.heap s.heap [] := va_S.rf
  have hl : lv_has ls 4 [(0, .ref (ad 13)), (1, .int p0), (2, .ref (ad 12))] := hl
  refine lv_aload_n hx hb dL_worth_0 rfl (lv_at hl 2 rfl) ?_
  refine lv_iconst (v := nI 0) hx hb dL_worth_1 (by decide) ?_
  refine lv_aload_n hx hb dL_worth_2 rfl (lv_at hl 0 rfl) ?_
  refine lv_iload_n hx hb dL_worth_3 rfl (lv_at hl 1 rfl) ?_
  refine z_caught (E := "java/lang/IndexOutOfBoundsException") (z_runXV ⟨hx, hb, hml, hown, hT⟩ (rest := [.int (nI 0), .ref (ad 12)]) (As := [.int p0]) hM k_L_55 (z_preXV hX hP (hP.at (hI.1 13 (by decide)) rfl) rfl) rfl ⟨Nat.le_refl _, Nat.le_refl _⟩ hl.1 rfl (Nat.le_of_ble_eq_true rfl) dL_worth_4 ⟨Nat.le_of_ble_eq_true rfl, Nat.le_of_ble_eq_true rfl⟩) (fun ce q9 H1 hz hk hce hcv hcl => ?_)
  refine vx_catch (name := "java/lang/IndexOutOfBoundsException") hown [] ⟨0, 9, 12, 21⟩ [⟨0, 9, 15, 15⟩] (htb.trans rfl) (fun z hz => nomatch hz) rfl (by decide) (hT _ cl_L_21) (va_Nw.use rfl hX.2.1.2.1.2.2) hce hcv hcl ?_
  refine lv_astore_n (lv' := [(3, .ref q9), (0, .ref (ad 13)), (1, .int p0), (2, .ref (ad 12))]) hx hb dL_worth_12 rfl hl (by decide) rfl (fun ls hl => ?_)
  refine lv_iconst (v := 1) hx hb dL_worth_13 (by decide) ?_
  exact zW_i hx hb hr hlk ⟨hz, fun q h _ => hk q h, fun _ h => nomatch h⟩ (Nat.le_of_ble_eq_true rfl) (Nat.le_of_ble_eq_true rfl) dL_worth_14 rfl (fun r hr => (hP r hr).kept (hk _ (hP.lt hr)))
set_option maxHeartbeats 4000000 in
set_option maxRecDepth 100000 in
theorem w_worth_x2 (l : Launch) (hD0 : zD (fun _ => True) Rs ad) (hI : zIn Rs np ng) {p0 : Int32} {fr lo : Nat} (hM : zMX l yX3_worth cX3_worth 3 (some .int) fr lo D ks [.ref (ad 13), .int p0] (zP D Rs ad (gS ks ad np ng G MI MJ XI XJ)) "java/lang/IllegalStateException") (sz : Nat) : zMY l yL_worth cL_worth 4 [(0, 9, 12, 21), (0, 9, 15, 15)] (fr + 1) (8 + (3 + 11) + lo) 1 6 D ks sz [.ref (ad 13), .int p0, .ref (ad 12)] (zP D Rs ad (gS ks ad np ng G MI MJ XI XJ)) 2 (zP D Rs ad (gS ks ad np ng G MI MJ XI XJ)) (zA Rs ad sz) := by
  refine zMY.of (by decide +kernel) (Nat.le_of_ble_eq_true rfl) ?_
  intro p e s m below meth c ls hx hb hr hml hown hlk hT htb hsz hP hX hl
  have hK := hX.1
  subst hsz
  have hD := hD0.self (sz := s.heap.size)
  have hA : ∀ q : Nat, s.heap.size ≤ q → zA Rs ad s.heap.size q := fun q h => Or.inr h
  have hS : va_S (zA Rs ad s.heap.size) s.heap s.heap [] := va_S.rf
  have hl : lv_has ls 4 [(0, .ref (ad 13)), (1, .int p0), (2, .ref (ad 12))] := hl
  refine lv_aload_n hx hb dL_worth_0 rfl (lv_at hl 2 rfl) ?_
  refine lv_iconst (v := nI 0) hx hb dL_worth_1 (by decide) ?_
  refine lv_aload_n hx hb dL_worth_2 rfl (lv_at hl 0 rfl) ?_
  refine lv_iload_n hx hb dL_worth_3 rfl (lv_at hl 1 rfl) ?_
  refine z_caught (E := "java/lang/IllegalStateException") (z_runXV ⟨hx, hb, hml, hown, hT⟩ (rest := [.int (nI 0), .ref (ad 12)]) (As := [.int p0]) hM k_L_55 (z_preXV hX hP (hP.at (hI.1 13 (by decide)) rfl) rfl) rfl ⟨Nat.le_refl _, Nat.le_refl _⟩ hl.1 rfl (Nat.le_of_ble_eq_true rfl) dL_worth_4 ⟨Nat.le_of_ble_eq_true rfl, Nat.le_of_ble_eq_true rfl⟩) (fun ce q9 H1 hz hk hce hcv hcl => ?_)
  refine vx_catch (name := "java/lang/IllegalStateException") hown [⟨0, 9, 12, 21⟩] ⟨0, 9, 15, 15⟩ [] (htb.trans rfl) (fun z hz => by rcases List.mem_singleton.mp hz with rfl; exact Or.inr ⟨by decide, _, hT _ cl_L_21, hX.2.1.2.2.1.2⟩) rfl (by decide) (hT _ cl_L_15) (va_Nw.use rfl hX.2.1.2.1.2.1) hce hcv hcl ?_
  refine lv_astore_n (lv' := [(3, .ref q9), (0, .ref (ad 13)), (1, .int p0), (2, .ref (ad 12))]) hx hb dL_worth_15 rfl hl (by decide) rfl (fun ls hl => ?_)
  refine lv_iconst (v := 2) hx hb dL_worth_16 (by decide) ?_
  exact zW_i hx hb hr hlk ⟨hz, fun q h _ => hk q h, fun _ h => nomatch h⟩ (Nat.le_of_ble_eq_true rfl) (Nat.le_of_ble_eq_true rfl) dL_worth_17 rfl (fun r hr => (hP r hr).kept (hk _ (hP.lt hr)))
set_option maxHeartbeats 4000000 in
set_option maxRecDepth 100000 in
theorem w_lastRatio (l : Launch) (hD0 : zD (fun _ => True) Rs ad) (hI : zIn Rs np ng) {p0 : Int32} {v : Int32} {fr lo : Nat} (hM : zMR l yX3_lastRatio cX3_lastRatio 2 (some .int) fr lo D ks [.ref (ad 13), .int p0] (zP D Rs ad (gS ks ad np ng G MI MJ XI XJ)) (some (.int v))) (sz : Nat) : zMY l yL_lastRatio cL_lastRatio 4 [(0, 9, 12, 13)] (fr + 1) (8 + (2 + 11) + lo) 0 0 D ks sz [.ref (ad 13), .int p0, .ref (ad 12)] (zP D Rs ad (gS ks ad np ng G MI MJ XI XJ)) 0 (zP D Rs ad (gS ks ad np ng G MI (u2 MJ 3 0 (Int32.toInt64 v)) XI XJ)) (zA Rs ad sz) := by
  refine zMY.of (by decide +kernel) (Nat.le_of_ble_eq_true rfl) ?_
  intro p e s m below meth c ls hx hb hr hml hown hlk hT htb hsz hP hX hl
  have hK := hX.1
  subst hsz
  have hD := hD0.self (sz := s.heap.size)
  have hA : ∀ q : Nat, s.heap.size ≤ q → zA Rs ad s.heap.size q := fun q h => Or.inr h
  have hS : va_S (zA Rs ad s.heap.size) s.heap s.heap [] := va_S.rf
  have hl : lv_has ls 4 [(0, .ref (ad 13)), (1, .int p0), (2, .ref (ad 12))] := hl
  refine lv_aload_n hx hb dL_lastRatio_0 rfl (lv_at hl 2 rfl) ?_
  refine lv_iconst (v := nI 0) hx hb dL_lastRatio_1 (by decide) ?_
  refine lv_aload_n hx hb dL_lastRatio_2 rfl (lv_at hl 0 rfl) ?_
  refine lv_iload_n hx hb dL_lastRatio_3 rfl (lv_at hl 1 rfl) ?_
  refine z_backR1 (z_runV ⟨hx, hb, hml, hown, hT⟩ (rest := [.int (nI 0), .ref (ad 12)]) (As := [.int p0]) hM k_L_58 (z_preRV hK hP (hP.at (hI.1 13 (by decide)) rfl) rfl) rfl ⟨Nat.le_refl _, Nat.le_refl _⟩ hl.1 rfl (Nat.le_of_ble_eq_true rfl) dL_lastRatio_4 ⟨Nat.le_of_ble_eq_true rfl, Nat.le_of_ble_eq_true rfl⟩) ?_
  refine lv_i2l (v := Int32.toInt64 v) hx hb dL_lastRatio_7 rfl ?_
  refine as_12N (j := 0) hx hb hK hP hD hS (hI.1 12 (by decide)) (by decide) dL_lastRatio_8 (fun H locs hP hS => ?_)
  refine lv_goto (tgt := 15) hx hb dL_lastRatio_9 (by decide) ?_
  refine lv_iconst (v := 0) hx hb dL_lastRatio_15 (by decide) ?_
  exact zW_i hx hb hr hlk hS (by simp) (by simp) dL_lastRatio_16 rfl hP
set_option maxHeartbeats 4000000 in
set_option maxRecDepth 100000 in
theorem w_lastRatio_x1 (l : Launch) (hD0 : zD (fun _ => True) Rs ad) (hI : zIn Rs np ng) {p0 : Int32} {fr lo : Nat} (hM : zMX l yX3_lastRatio cX3_lastRatio 2 (some .int) fr lo D ks [.ref (ad 13), .int p0] (zP D Rs ad (gS ks ad np ng G MI MJ XI XJ)) "java/lang/IllegalArgumentException") (sz : Nat) : zMY l yL_lastRatio cL_lastRatio 4 [(0, 9, 12, 13)] (fr + 1) (8 + (2 + 11) + lo) 1 6 D ks sz [.ref (ad 13), .int p0, .ref (ad 12)] (zP D Rs ad (gS ks ad np ng G MI MJ XI XJ)) 1 (zP D Rs ad (gS ks ad np ng G MI MJ XI XJ)) (zA Rs ad sz) := by
  refine zMY.of (by decide +kernel) (Nat.le_of_ble_eq_true rfl) ?_
  intro p e s m below meth c ls hx hb hr hml hown hlk hT htb hsz hP hX hl
  have hK := hX.1
  subst hsz
  have hD := hD0.self (sz := s.heap.size)
  have hA : ∀ q : Nat, s.heap.size ≤ q → zA Rs ad s.heap.size q := fun q h => Or.inr h
  have hS : va_S (zA Rs ad s.heap.size) s.heap s.heap [] := va_S.rf
  have hl : lv_has ls 4 [(0, .ref (ad 13)), (1, .int p0), (2, .ref (ad 12))] := hl
  refine lv_aload_n hx hb dL_lastRatio_0 rfl (lv_at hl 2 rfl) ?_
  refine lv_iconst (v := nI 0) hx hb dL_lastRatio_1 (by decide) ?_
  refine lv_aload_n hx hb dL_lastRatio_2 rfl (lv_at hl 0 rfl) ?_
  refine lv_iload_n hx hb dL_lastRatio_3 rfl (lv_at hl 1 rfl) ?_
  refine z_caught (E := "java/lang/IllegalArgumentException") (z_runXV ⟨hx, hb, hml, hown, hT⟩ (rest := [.int (nI 0), .ref (ad 12)]) (As := [.int p0]) hM k_L_58 (z_preXV hX hP (hP.at (hI.1 13 (by decide)) rfl) rfl) rfl ⟨Nat.le_refl _, Nat.le_refl _⟩ hl.1 rfl (Nat.le_of_ble_eq_true rfl) dL_lastRatio_4 ⟨Nat.le_of_ble_eq_true rfl, Nat.le_of_ble_eq_true rfl⟩) (fun ce q9 H1 hz hk hce hcv hcl => ?_)
  refine vx_catch (name := "java/lang/IllegalArgumentException") hown [] ⟨0, 9, 12, 13⟩ [] (htb.trans rfl) (fun z hz => nomatch hz) rfl (by decide) (hT _ cl_L_13) (va_Nw.use rfl hX.2.1.2.1.1) hce hcv hcl ?_
  refine lv_astore_n (lv' := [(3, .ref q9), (0, .ref (ad 13)), (1, .int p0), (2, .ref (ad 12))]) hx hb dL_lastRatio_12 rfl hl (by decide) rfl (fun ls hl => ?_)
  refine lv_iconst (v := 1) hx hb dL_lastRatio_13 (by decide) ?_
  exact zW_i hx hb hr hlk ⟨hz, fun q h _ => hk q h, fun _ h => nomatch h⟩ (Nat.le_of_ble_eq_true rfl) (Nat.le_of_ble_eq_true rfl) dL_lastRatio_14 rfl (fun r hr => (hP r hr).kept (hk _ (hP.lt hr)))
set_option maxHeartbeats 4000000 in
set_option maxRecDepth 100000 in
theorem w_surrender (l : Launch) (hD0 : zD (fun _ => True) Rs ad) (hI : zIn Rs np ng) {p0 : Int32} {v : Int32} {fr lo mc ms : Nat} {MI' : Nat → Nat → Int32} {MJ' : Nat → Nat → Int64} {XI' : Nat → Nat → Int32} {XJ' : Nat → Nat → Int64} (sz : Nat) (hM : zMW l yX3_surrender cX3_surrender 5 (some .int) fr lo mc ms D ks sz [.ref (ad 13), .int p0] (zP D Rs ad (gS ks ad np ng G MI MJ XI XJ)) (some (.int v)) (zP D Rs ad (gS ks ad np ng G MI' MJ' XI' XJ')) (zA Rs ad sz)) : zMY l yL_surrender cL_surrender 4 [(0, 9, 12, 21), (0, 9, 15, 15)] (fr + 1) (8 + (5 + 11) + lo) mc ms D ks sz [.ref (ad 13), .int p0, .ref (ad 12)] (zP D Rs ad (gS ks ad np ng G MI MJ XI XJ)) 0 (zP D Rs ad (gS ks ad np ng G MI' (u2 MJ' 3 0 (Int32.toInt64 v)) XI' XJ')) (zA Rs ad sz) := by
  refine zMY.of (by decide +kernel) (Nat.le_of_ble_eq_true rfl) ?_
  intro p e s m below meth c ls hx hb hr hml hown hlk hT htb hsz hP hX hl
  have hK := hX.1
  subst hsz
  have hD := hD0.self (sz := s.heap.size)
  have hA : ∀ q : Nat, s.heap.size ≤ q → zA Rs ad s.heap.size q := fun q h => Or.inr h
  have hS : va_S (zA Rs ad s.heap.size) s.heap s.heap [] := va_S.rf
  have hl : lv_has ls 4 [(0, .ref (ad 13)), (1, .int p0), (2, .ref (ad 12))] := hl
  refine lv_aload_n hx hb dL_surrender_0 rfl (lv_at hl 2 rfl) ?_
  refine lv_iconst (v := nI 0) hx hb dL_surrender_1 (by decide) ?_
  refine lv_aload_n hx hb dL_surrender_2 rfl (lv_at hl 0 rfl) ?_
  refine lv_iload_n hx hb dL_surrender_3 rfl (lv_at hl 1 rfl) ?_
  refine z_backW1 (z_runV ⟨hx, hb, hml, hown, hT⟩ (rest := [.int (nI 0), .ref (ad 12)]) (As := [.int p0]) hM k_L_17 (z_preWV hK hP (hP.at (hI.1 13 (by decide)) rfl) rfl) rfl ⟨Nat.le_refl _, Nat.le_refl _⟩ hl.1 rfl (Nat.le_of_ble_eq_true rfl) dL_surrender_4 ⟨by simp [zRm], by simp [zRm]⟩) hS (fun _ h => h) (fun H locs hP hz hk2 hS => ?_)
  refine lv_i2l (v := Int32.toInt64 v) hx hb dL_surrender_7 rfl ?_
  refine as_12N (j := 0) hx hb hK hP hD hS (hI.1 12 (by decide)) (by decide) dL_surrender_8 (fun H locs hP hS => ?_)
  refine lv_goto (tgt := 18) hx hb dL_surrender_9 (by decide) ?_
  refine lv_iconst (v := 0) hx hb dL_surrender_18 (by decide) ?_
  exact zW_i hx hb hr hlk hS (by simp) (by simp) dL_surrender_19 rfl hP
set_option maxHeartbeats 4000000 in
set_option maxRecDepth 100000 in
theorem w_surrender_x1 (l : Launch) (hD0 : zD (fun _ => True) Rs ad) (hI : zIn Rs np ng) {p0 : Int32} {fr lo : Nat} (hM : zMX l yX3_surrender cX3_surrender 5 (some .int) fr lo D ks [.ref (ad 13), .int p0] (zP D Rs ad (gS ks ad np ng G MI MJ XI XJ)) "java/lang/IndexOutOfBoundsException") (sz : Nat) : zMY l yL_surrender cL_surrender 4 [(0, 9, 12, 21), (0, 9, 15, 15)] (fr + 1) (8 + (5 + 11) + lo) 1 6 D ks sz [.ref (ad 13), .int p0, .ref (ad 12)] (zP D Rs ad (gS ks ad np ng G MI MJ XI XJ)) 1 (zP D Rs ad (gS ks ad np ng G MI MJ XI XJ)) (zA Rs ad sz) := by
  refine zMY.of (by decide +kernel) (Nat.le_of_ble_eq_true rfl) ?_
  intro p e s m below meth c ls hx hb hr hml hown hlk hT htb hsz hP hX hl
  have hK := hX.1
  subst hsz
  have hD := hD0.self (sz := s.heap.size)
  have hA : ∀ q : Nat, s.heap.size ≤ q → zA Rs ad s.heap.size q := fun q h => Or.inr h
  have hS : va_S (zA Rs ad s.heap.size) s.heap s.heap [] := va_S.rf
  have hl : lv_has ls 4 [(0, .ref (ad 13)), (1, .int p0), (2, .ref (ad 12))] := hl
  refine lv_aload_n hx hb dL_surrender_0 rfl (lv_at hl 2 rfl) ?_
  refine lv_iconst (v := nI 0) hx hb dL_surrender_1 (by decide) ?_
  refine lv_aload_n hx hb dL_surrender_2 rfl (lv_at hl 0 rfl) ?_
  refine lv_iload_n hx hb dL_surrender_3 rfl (lv_at hl 1 rfl) ?_
  refine z_caught (E := "java/lang/IndexOutOfBoundsException") (z_runXV ⟨hx, hb, hml, hown, hT⟩ (rest := [.int (nI 0), .ref (ad 12)]) (As := [.int p0]) hM k_L_17 (z_preXV hX hP (hP.at (hI.1 13 (by decide)) rfl) rfl) rfl ⟨Nat.le_refl _, Nat.le_refl _⟩ hl.1 rfl (Nat.le_of_ble_eq_true rfl) dL_surrender_4 ⟨Nat.le_of_ble_eq_true rfl, Nat.le_of_ble_eq_true rfl⟩) (fun ce q9 H1 hz hk hce hcv hcl => ?_)
  refine vx_catch (name := "java/lang/IndexOutOfBoundsException") hown [] ⟨0, 9, 12, 21⟩ [⟨0, 9, 15, 15⟩] (htb.trans rfl) (fun z hz => nomatch hz) rfl (by decide) (hT _ cl_L_21) (va_Nw.use rfl hX.2.1.2.1.2.2) hce hcv hcl ?_
  refine lv_astore_n (lv' := [(3, .ref q9), (0, .ref (ad 13)), (1, .int p0), (2, .ref (ad 12))]) hx hb dL_surrender_12 rfl hl (by decide) rfl (fun ls hl => ?_)
  refine lv_iconst (v := 1) hx hb dL_surrender_13 (by decide) ?_
  exact zW_i hx hb hr hlk ⟨hz, fun q h _ => hk q h, fun _ h => nomatch h⟩ (Nat.le_of_ble_eq_true rfl) (Nat.le_of_ble_eq_true rfl) dL_surrender_14 rfl (fun r hr => (hP r hr).kept (hk _ (hP.lt hr)))
set_option maxHeartbeats 4000000 in
set_option maxRecDepth 100000 in
theorem w_surrender_x2 (l : Launch) (hD0 : zD (fun _ => True) Rs ad) (hI : zIn Rs np ng) {p0 : Int32} {fr lo : Nat} (hM : zMX l yX3_surrender cX3_surrender 5 (some .int) fr lo D ks [.ref (ad 13), .int p0] (zP D Rs ad (gS ks ad np ng G MI MJ XI XJ)) "java/lang/IllegalStateException") (sz : Nat) : zMY l yL_surrender cL_surrender 4 [(0, 9, 12, 21), (0, 9, 15, 15)] (fr + 1) (8 + (5 + 11) + lo) 1 6 D ks sz [.ref (ad 13), .int p0, .ref (ad 12)] (zP D Rs ad (gS ks ad np ng G MI MJ XI XJ)) 2 (zP D Rs ad (gS ks ad np ng G MI MJ XI XJ)) (zA Rs ad sz) := by
  refine zMY.of (by decide +kernel) (Nat.le_of_ble_eq_true rfl) ?_
  intro p e s m below meth c ls hx hb hr hml hown hlk hT htb hsz hP hX hl
  have hK := hX.1
  subst hsz
  have hD := hD0.self (sz := s.heap.size)
  have hA : ∀ q : Nat, s.heap.size ≤ q → zA Rs ad s.heap.size q := fun q h => Or.inr h
  have hS : va_S (zA Rs ad s.heap.size) s.heap s.heap [] := va_S.rf
  have hl : lv_has ls 4 [(0, .ref (ad 13)), (1, .int p0), (2, .ref (ad 12))] := hl
  refine lv_aload_n hx hb dL_surrender_0 rfl (lv_at hl 2 rfl) ?_
  refine lv_iconst (v := nI 0) hx hb dL_surrender_1 (by decide) ?_
  refine lv_aload_n hx hb dL_surrender_2 rfl (lv_at hl 0 rfl) ?_
  refine lv_iload_n hx hb dL_surrender_3 rfl (lv_at hl 1 rfl) ?_
  refine z_caught (E := "java/lang/IllegalStateException") (z_runXV ⟨hx, hb, hml, hown, hT⟩ (rest := [.int (nI 0), .ref (ad 12)]) (As := [.int p0]) hM k_L_17 (z_preXV hX hP (hP.at (hI.1 13 (by decide)) rfl) rfl) rfl ⟨Nat.le_refl _, Nat.le_refl _⟩ hl.1 rfl (Nat.le_of_ble_eq_true rfl) dL_surrender_4 ⟨Nat.le_of_ble_eq_true rfl, Nat.le_of_ble_eq_true rfl⟩) (fun ce q9 H1 hz hk hce hcv hcl => ?_)
  refine vx_catch (name := "java/lang/IllegalStateException") hown [⟨0, 9, 12, 21⟩] ⟨0, 9, 15, 15⟩ [] (htb.trans rfl) (fun z hz => by rcases List.mem_singleton.mp hz with rfl; exact Or.inr ⟨by decide, _, hT _ cl_L_21, hX.2.1.2.2.1.2⟩) rfl (by decide) (hT _ cl_L_15) (va_Nw.use rfl hX.2.1.2.1.2.1) hce hcv hcl ?_
  refine lv_astore_n (lv' := [(3, .ref q9), (0, .ref (ad 13)), (1, .int p0), (2, .ref (ad 12))]) hx hb dL_surrender_15 rfl hl (by decide) rfl (fun ls hl => ?_)
  refine lv_iconst (v := 2) hx hb dL_surrender_16 (by decide) ?_
  exact zW_i hx hb hr hlk ⟨hz, fun q h _ => hk q h, fun _ h => nomatch h⟩ (Nat.le_of_ble_eq_true rfl) (Nat.le_of_ble_eq_true rfl) dL_surrender_17 rfl (fun r hr => (hP r hr).kept (hk _ (hP.lt hr)))
set_option maxHeartbeats 4000000 in
set_option maxRecDepth 100000 in
theorem w_setRates (l : Launch) (hD0 : zD (fun _ => True) Rs ad) (hI : zIn Rs np ng) {p0 p1 : Int32} {v : Int32} {fr lo mc ms : Nat} {MI' : Nat → Nat → Int32} {MJ' : Nat → Nat → Int64} {XI' : Nat → Nat → Int32} {XJ' : Nat → Nat → Int64} (sz : Nat) (hM : zMW l yX3_setRates cX3_setRates 4 (some .int) fr lo mc ms D ks sz [.ref (ad 13), .int p0, .int p1] (zP D Rs ad (gS ks ad np ng G MI MJ XI XJ)) (some (.int v)) (zP D Rs ad (gS ks ad np ng G MI' MJ' XI' XJ')) (zA Rs ad sz)) : zMY l yL_setRates cL_setRates 5 [(0, 10, 13, 13)] (fr + 1) (8 + (4 + 11) + lo) mc ms D ks sz [.ref (ad 13), .int p0, .int p1, .ref (ad 12)] (zP D Rs ad (gS ks ad np ng G MI MJ XI XJ)) 0 (zP D Rs ad (gS ks ad np ng G MI' (u2 MJ' 3 0 (Int32.toInt64 v)) XI' XJ')) (zA Rs ad sz) := by
  refine zMY.of (by decide +kernel) (Nat.le_of_ble_eq_true rfl) ?_
  intro p e s m below meth c ls hx hb hr hml hown hlk hT htb hsz hP hX hl
  have hK := hX.1
  subst hsz
  have hD := hD0.self (sz := s.heap.size)
  have hA : ∀ q : Nat, s.heap.size ≤ q → zA Rs ad s.heap.size q := fun q h => Or.inr h
  have hS : va_S (zA Rs ad s.heap.size) s.heap s.heap [] := va_S.rf
  have hl : lv_has ls 5 [(0, .ref (ad 13)), (1, .int p0), (2, .int p1), (3, .ref (ad 12))] := hl
  refine lv_aload_n hx hb dL_setRates_0 rfl (lv_at hl 3 rfl) ?_
  refine lv_iconst (v := nI 0) hx hb dL_setRates_1 (by decide) ?_
  refine lv_aload_n hx hb dL_setRates_2 rfl (lv_at hl 0 rfl) ?_
  refine lv_iload_n hx hb dL_setRates_3 rfl (lv_at hl 1 rfl) ?_
  refine lv_iload_n hx hb dL_setRates_4 rfl (lv_at hl 2 rfl) ?_
  refine z_backW1 (z_runV ⟨hx, hb, hml, hown, hT⟩ (rest := [.int (nI 0), .ref (ad 12)]) (As := [.int p0, .int p1]) hM k_L_23 (z_preWV hK hP (hP.at (hI.1 13 (by decide)) rfl) rfl) rfl ⟨Nat.le_refl _, Nat.le_refl _⟩ hl.1 rfl (Nat.le_of_ble_eq_true rfl) dL_setRates_5 ⟨by simp [zRm], by simp [zRm]⟩) hS (fun _ h => h) (fun H locs hP hz hk2 hS => ?_)
  refine lv_i2l (v := Int32.toInt64 v) hx hb dL_setRates_8 rfl ?_
  refine as_12N (j := 0) hx hb hK hP hD hS (hI.1 12 (by decide)) (by decide) dL_setRates_9 (fun H locs hP hS => ?_)
  refine lv_goto (tgt := 17) hx hb dL_setRates_10 (by decide) ?_
  refine lv_iconst (v := 0) hx hb dL_setRates_17 (by decide) ?_
  exact zW_i hx hb hr hlk hS (by simp) (by simp) dL_setRates_18 rfl hP
set_option maxHeartbeats 4000000 in
set_option maxRecDepth 100000 in
theorem w_setRates_x1 (l : Launch) (hD0 : zD (fun _ => True) Rs ad) (hI : zIn Rs np ng) {p0 p1 : Int32} {fr lo : Nat} (hM : zMX l yX3_setRates cX3_setRates 4 (some .int) fr lo D ks [.ref (ad 13), .int p0, .int p1] (zP D Rs ad (gS ks ad np ng G MI MJ XI XJ)) "java/lang/IllegalArgumentException") (sz : Nat) : zMY l yL_setRates cL_setRates 5 [(0, 10, 13, 13)] (fr + 1) (8 + (4 + 11) + lo) 1 6 D ks sz [.ref (ad 13), .int p0, .int p1, .ref (ad 12)] (zP D Rs ad (gS ks ad np ng G MI MJ XI XJ)) 1 (zP D Rs ad (gS ks ad np ng G MI MJ XI XJ)) (zA Rs ad sz) := by
  refine zMY.of (by decide +kernel) (Nat.le_of_ble_eq_true rfl) ?_
  intro p e s m below meth c ls hx hb hr hml hown hlk hT htb hsz hP hX hl
  have hK := hX.1
  subst hsz
  have hD := hD0.self (sz := s.heap.size)
  have hA : ∀ q : Nat, s.heap.size ≤ q → zA Rs ad s.heap.size q := fun q h => Or.inr h
  have hS : va_S (zA Rs ad s.heap.size) s.heap s.heap [] := va_S.rf
  have hl : lv_has ls 5 [(0, .ref (ad 13)), (1, .int p0), (2, .int p1), (3, .ref (ad 12))] := hl
  refine lv_aload_n hx hb dL_setRates_0 rfl (lv_at hl 3 rfl) ?_
  refine lv_iconst (v := nI 0) hx hb dL_setRates_1 (by decide) ?_
  refine lv_aload_n hx hb dL_setRates_2 rfl (lv_at hl 0 rfl) ?_
  refine lv_iload_n hx hb dL_setRates_3 rfl (lv_at hl 1 rfl) ?_
  refine lv_iload_n hx hb dL_setRates_4 rfl (lv_at hl 2 rfl) ?_
  refine z_caught (E := "java/lang/IllegalArgumentException") (z_runXV ⟨hx, hb, hml, hown, hT⟩ (rest := [.int (nI 0), .ref (ad 12)]) (As := [.int p0, .int p1]) hM k_L_23 (z_preXV hX hP (hP.at (hI.1 13 (by decide)) rfl) rfl) rfl ⟨Nat.le_refl _, Nat.le_refl _⟩ hl.1 rfl (Nat.le_of_ble_eq_true rfl) dL_setRates_5 ⟨Nat.le_of_ble_eq_true rfl, Nat.le_of_ble_eq_true rfl⟩) (fun ce q9 H1 hz hk hce hcv hcl => ?_)
  refine vx_catch (name := "java/lang/IllegalArgumentException") hown [] ⟨0, 10, 13, 13⟩ [] (htb.trans rfl) (fun z hz => nomatch hz) rfl (by decide) (hT _ cl_L_13) (va_Nw.use rfl hX.2.1.2.1.1) hce hcv hcl ?_
  refine lv_astore (lv' := [(4, .ref q9), (0, .ref (ad 13)), (1, .int p0), (2, .int p1), (3, .ref (ad 12))]) hx hb dL_setRates_13 hl (by decide) rfl (fun ls hl => ?_)
  refine lv_iconst (v := 1) hx hb dL_setRates_15 (by decide) ?_
  exact zW_i hx hb hr hlk ⟨hz, fun q h _ => hk q h, fun _ h => nomatch h⟩ (Nat.le_of_ble_eq_true rfl) (Nat.le_of_ble_eq_true rfl) dL_setRates_16 rfl (fun r hr => (hP r hr).kept (hk _ (hP.lt hr)))
set_option maxHeartbeats 4000000 in
set_option maxRecDepth 100000 in
theorem w_setScale (l : Launch) (hD0 : zD (fun _ => True) Rs ad) (hI : zIn Rs np ng) {p0 p1 p2 : Int32} {v : Int32} {fr lo mc ms : Nat} {MI' : Nat → Nat → Int32} {MJ' : Nat → Nat → Int64} {XI' : Nat → Nat → Int32} {XJ' : Nat → Nat → Int64} (sz : Nat) (hM : zMW l yX3_setScale cX3_setScale 5 (some .int) fr lo mc ms D ks sz [.ref (ad 13), .int p0, .int p1, .int p2] (zP D Rs ad (gS ks ad np ng G MI MJ XI XJ)) (some (.int v)) (zP D Rs ad (gS ks ad np ng G MI' MJ' XI' XJ')) (zA Rs ad sz)) : zMY l yL_setScale cL_setScale 6 [(0, 12, 15, 13)] (fr + 1) (8 + (5 + 11) + lo) mc ms D ks sz [.ref (ad 13), .int p0, .int p1, .int p2, .ref (ad 12)] (zP D Rs ad (gS ks ad np ng G MI MJ XI XJ)) 0 (zP D Rs ad (gS ks ad np ng G MI' (u2 MJ' 3 0 (Int32.toInt64 v)) XI' XJ')) (zA Rs ad sz) := by
  refine zMY.of (by decide +kernel) (Nat.le_of_ble_eq_true rfl) ?_
  intro p e s m below meth c ls hx hb hr hml hown hlk hT htb hsz hP hX hl
  have hK := hX.1
  subst hsz
  have hD := hD0.self (sz := s.heap.size)
  have hA : ∀ q : Nat, s.heap.size ≤ q → zA Rs ad s.heap.size q := fun q h => Or.inr h
  have hS : va_S (zA Rs ad s.heap.size) s.heap s.heap [] := va_S.rf
  have hl : lv_has ls 6 [(0, .ref (ad 13)), (1, .int p0), (2, .int p1), (3, .int p2), (4, .ref (ad 12))] := hl
  refine lv_aload hx hb dL_setScale_0 (lv_at hl 4 rfl) ?_
  refine lv_iconst (v := nI 0) hx hb dL_setScale_2 (by decide) ?_
  refine lv_aload_n hx hb dL_setScale_3 rfl (lv_at hl 0 rfl) ?_
  refine lv_iload_n hx hb dL_setScale_4 rfl (lv_at hl 1 rfl) ?_
  refine lv_iload_n hx hb dL_setScale_5 rfl (lv_at hl 2 rfl) ?_
  refine lv_iload_n hx hb dL_setScale_6 rfl (lv_at hl 3 rfl) ?_
  refine z_backW1 (z_runV ⟨hx, hb, hml, hown, hT⟩ (rest := [.int (nI 0), .ref (ad 12)]) (As := [.int p0, .int p1, .int p2]) hM k_L_27 (z_preWV hK hP (hP.at (hI.1 13 (by decide)) rfl) rfl) rfl ⟨Nat.le_refl _, Nat.le_refl _⟩ hl.1 rfl (Nat.le_of_ble_eq_true rfl) dL_setScale_7 ⟨by simp [zRm], by simp [zRm]⟩) hS (fun _ h => h) (fun H locs hP hz hk2 hS => ?_)
  refine lv_i2l (v := Int32.toInt64 v) hx hb dL_setScale_10 rfl ?_
  refine as_12N (j := 0) hx hb hK hP hD hS (hI.1 12 (by decide)) (by decide) dL_setScale_11 (fun H locs hP hS => ?_)
  refine lv_goto (tgt := 19) hx hb dL_setScale_12 (by decide) ?_
  refine lv_iconst (v := 0) hx hb dL_setScale_19 (by decide) ?_
  exact zW_i hx hb hr hlk hS (by simp) (by simp) dL_setScale_20 rfl hP
set_option maxHeartbeats 4000000 in
set_option maxRecDepth 100000 in
theorem w_setScale_x1 (l : Launch) (hD0 : zD (fun _ => True) Rs ad) (hI : zIn Rs np ng) {p0 p1 p2 : Int32} {fr lo : Nat} (hM : zMX l yX3_setScale cX3_setScale 5 (some .int) fr lo D ks [.ref (ad 13), .int p0, .int p1, .int p2] (zP D Rs ad (gS ks ad np ng G MI MJ XI XJ)) "java/lang/IllegalArgumentException") (sz : Nat) : zMY l yL_setScale cL_setScale 6 [(0, 12, 15, 13)] (fr + 1) (8 + (5 + 11) + lo) 1 6 D ks sz [.ref (ad 13), .int p0, .int p1, .int p2, .ref (ad 12)] (zP D Rs ad (gS ks ad np ng G MI MJ XI XJ)) 1 (zP D Rs ad (gS ks ad np ng G MI MJ XI XJ)) (zA Rs ad sz) := by
  refine zMY.of (by decide +kernel) (Nat.le_of_ble_eq_true rfl) ?_
  intro p e s m below meth c ls hx hb hr hml hown hlk hT htb hsz hP hX hl
  have hK := hX.1
  subst hsz
  have hD := hD0.self (sz := s.heap.size)
  have hA : ∀ q : Nat, s.heap.size ≤ q → zA Rs ad s.heap.size q := fun q h => Or.inr h
  have hS : va_S (zA Rs ad s.heap.size) s.heap s.heap [] := va_S.rf
  have hl : lv_has ls 6 [(0, .ref (ad 13)), (1, .int p0), (2, .int p1), (3, .int p2), (4, .ref (ad 12))] := hl
  refine lv_aload hx hb dL_setScale_0 (lv_at hl 4 rfl) ?_
  refine lv_iconst (v := nI 0) hx hb dL_setScale_2 (by decide) ?_
  refine lv_aload_n hx hb dL_setScale_3 rfl (lv_at hl 0 rfl) ?_
  refine lv_iload_n hx hb dL_setScale_4 rfl (lv_at hl 1 rfl) ?_
  refine lv_iload_n hx hb dL_setScale_5 rfl (lv_at hl 2 rfl) ?_
  refine lv_iload_n hx hb dL_setScale_6 rfl (lv_at hl 3 rfl) ?_
  refine z_caught (E := "java/lang/IllegalArgumentException") (z_runXV ⟨hx, hb, hml, hown, hT⟩ (rest := [.int (nI 0), .ref (ad 12)]) (As := [.int p0, .int p1, .int p2]) hM k_L_27 (z_preXV hX hP (hP.at (hI.1 13 (by decide)) rfl) rfl) rfl ⟨Nat.le_refl _, Nat.le_refl _⟩ hl.1 rfl (Nat.le_of_ble_eq_true rfl) dL_setScale_7 ⟨Nat.le_of_ble_eq_true rfl, Nat.le_of_ble_eq_true rfl⟩) (fun ce q9 H1 hz hk hce hcv hcl => ?_)
  refine vx_catch (name := "java/lang/IllegalArgumentException") hown [] ⟨0, 12, 15, 13⟩ [] (htb.trans rfl) (fun z hz => nomatch hz) rfl (by decide) (hT _ cl_L_13) (va_Nw.use rfl hX.2.1.2.1.1) hce hcv hcl ?_
  refine lv_astore (lv' := [(5, .ref q9), (0, .ref (ad 13)), (1, .int p0), (2, .int p1), (3, .int p2), (4, .ref (ad 12))]) hx hb dL_setScale_15 hl (by decide) rfl (fun ls hl => ?_)
  refine lv_iconst (v := 1) hx hb dL_setScale_17 (by decide) ?_
  exact zW_i hx hb hr hlk ⟨hz, fun q h _ => hk q h, fun _ h => nomatch h⟩ (Nat.le_of_ble_eq_true rfl) (Nat.le_of_ble_eq_true rfl) dL_setScale_18 rfl (fun r hr => (hP r hr).kept (hk _ (hP.lt hr)))
set_option maxHeartbeats 4000000 in
set_option maxRecDepth 100000 in
theorem w_endow (l : Launch) (hD0 : zD (fun _ => True) Rs ad) (hI : zIn Rs np ng) {p0 : Int32} {v : Int64} {fr lo mc ms : Nat} {MI' : Nat → Nat → Int32} {MJ' : Nat → Nat → Int64} {XI' : Nat → Nat → Int32} {XJ' : Nat → Nat → Int64} (sz : Nat) (hM : zMW l yX3_endow cX3_endow 2 (some .long) fr lo mc ms D ks sz [.ref (ad 13), .int p0] (zP D Rs ad (gS ks ad np ng G MI MJ XI XJ)) (some (.long v)) (zP D Rs ad (gS ks ad np ng G MI' MJ' XI' XJ')) (zA Rs ad sz)) : zMY l yL_endow cL_endow 4 [(0, 8, 11, 13)] (fr + 1) (8 + (2 + 11) + lo) mc ms D ks sz [.ref (ad 13), .int p0, .ref (ad 12)] (zP D Rs ad (gS ks ad np ng G MI MJ XI XJ)) 0 (zP D Rs ad (gS ks ad np ng G MI' (u2 MJ' 3 0 v) XI' XJ')) (zA Rs ad sz) := by
  refine zMY.of (by decide +kernel) (Nat.le_of_ble_eq_true rfl) ?_
  intro p e s m below meth c ls hx hb hr hml hown hlk hT htb hsz hP hX hl
  have hK := hX.1
  subst hsz
  have hD := hD0.self (sz := s.heap.size)
  have hA : ∀ q : Nat, s.heap.size ≤ q → zA Rs ad s.heap.size q := fun q h => Or.inr h
  have hS : va_S (zA Rs ad s.heap.size) s.heap s.heap [] := va_S.rf
  have hl : lv_has ls 4 [(0, .ref (ad 13)), (1, .int p0), (2, .ref (ad 12))] := hl
  refine lv_aload_n hx hb dL_endow_0 rfl (lv_at hl 2 rfl) ?_
  refine lv_iconst (v := nI 0) hx hb dL_endow_1 (by decide) ?_
  refine lv_aload_n hx hb dL_endow_2 rfl (lv_at hl 0 rfl) ?_
  refine lv_iload_n hx hb dL_endow_3 rfl (lv_at hl 1 rfl) ?_
  refine z_backW1 (z_runV ⟨hx, hb, hml, hown, hT⟩ (rest := [.int (nI 0), .ref (ad 12)]) (As := [.int p0]) hM k_L_30 (z_preWV hK hP (hP.at (hI.1 13 (by decide)) rfl) rfl) rfl ⟨Nat.le_refl _, Nat.le_refl _⟩ hl.1 rfl (Nat.le_of_ble_eq_true rfl) dL_endow_4 ⟨by simp [zRm], by simp [zRm]⟩) hS (fun _ h => h) (fun H locs hP hz hk2 hS => ?_)
  refine as_12N (j := 0) hx hb hK hP hD hS (hI.1 12 (by decide)) (by decide) dL_endow_7 (fun H locs hP hS => ?_)
  refine lv_goto (tgt := 14) hx hb dL_endow_8 (by decide) ?_
  refine lv_iconst (v := 0) hx hb dL_endow_14 (by decide) ?_
  exact zW_i hx hb hr hlk hS (by simp) (by simp) dL_endow_15 rfl hP
set_option maxHeartbeats 4000000 in
set_option maxRecDepth 100000 in
theorem w_endow_x1 (l : Launch) (hD0 : zD (fun _ => True) Rs ad) (hI : zIn Rs np ng) {p0 : Int32} {fr lo : Nat} (hM : zMX l yX3_endow cX3_endow 2 (some .long) fr lo D ks [.ref (ad 13), .int p0] (zP D Rs ad (gS ks ad np ng G MI MJ XI XJ)) "java/lang/IllegalArgumentException") (sz : Nat) : zMY l yL_endow cL_endow 4 [(0, 8, 11, 13)] (fr + 1) (8 + (2 + 11) + lo) 1 6 D ks sz [.ref (ad 13), .int p0, .ref (ad 12)] (zP D Rs ad (gS ks ad np ng G MI MJ XI XJ)) 1 (zP D Rs ad (gS ks ad np ng G MI MJ XI XJ)) (zA Rs ad sz) := by
  refine zMY.of (by decide +kernel) (Nat.le_of_ble_eq_true rfl) ?_
  intro p e s m below meth c ls hx hb hr hml hown hlk hT htb hsz hP hX hl
  have hK := hX.1
  subst hsz
  have hD := hD0.self (sz := s.heap.size)
  have hA : ∀ q : Nat, s.heap.size ≤ q → zA Rs ad s.heap.size q := fun q h => Or.inr h
  have hS : va_S (zA Rs ad s.heap.size) s.heap s.heap [] := va_S.rf
  have hl : lv_has ls 4 [(0, .ref (ad 13)), (1, .int p0), (2, .ref (ad 12))] := hl
  refine lv_aload_n hx hb dL_endow_0 rfl (lv_at hl 2 rfl) ?_
  refine lv_iconst (v := nI 0) hx hb dL_endow_1 (by decide) ?_
  refine lv_aload_n hx hb dL_endow_2 rfl (lv_at hl 0 rfl) ?_
  refine lv_iload_n hx hb dL_endow_3 rfl (lv_at hl 1 rfl) ?_
  refine z_caught (E := "java/lang/IllegalArgumentException") (z_runXV ⟨hx, hb, hml, hown, hT⟩ (rest := [.int (nI 0), .ref (ad 12)]) (As := [.int p0]) hM k_L_30 (z_preXV hX hP (hP.at (hI.1 13 (by decide)) rfl) rfl) rfl ⟨Nat.le_refl _, Nat.le_refl _⟩ hl.1 rfl (Nat.le_of_ble_eq_true rfl) dL_endow_4 ⟨Nat.le_of_ble_eq_true rfl, Nat.le_of_ble_eq_true rfl⟩) (fun ce q9 H1 hz hk hce hcv hcl => ?_)
  refine vx_catch (name := "java/lang/IllegalArgumentException") hown [] ⟨0, 8, 11, 13⟩ [] (htb.trans rfl) (fun z hz => nomatch hz) rfl (by decide) (hT _ cl_L_13) (va_Nw.use rfl hX.2.1.2.1.1) hce hcv hcl ?_
  refine lv_astore_n (lv' := [(3, .ref q9), (0, .ref (ad 13)), (1, .int p0), (2, .ref (ad 12))]) hx hb dL_endow_11 rfl hl (by decide) rfl (fun ls hl => ?_)
  refine lv_iconst (v := 1) hx hb dL_endow_12 (by decide) ?_
  exact zW_i hx hb hr hlk ⟨hz, fun q h _ => hk q h, fun _ h => nomatch h⟩ (Nat.le_of_ble_eq_true rfl) (Nat.le_of_ble_eq_true rfl) dL_endow_13 rfl (fun r hr => (hP r hr).kept (hk _ (hP.lt hr)))
set_option maxHeartbeats 4000000 in
set_option maxRecDepth 100000 in
theorem w_run (l : Launch) (hD0 : zD (fun _ => True) Rs ad) (hI : zIn Rs np ng) {p0 : Int32} {v : Int32} {fr lo mc ms : Nat} {MI' : Nat → Nat → Int32} {MJ' : Nat → Nat → Int64} {XI' : Nat → Nat → Int32} {XJ' : Nat → Nat → Int64} (sz : Nat) (hM : zMW l yX3_run cX3_run 5 (some .int) fr lo mc ms D ks sz [.ref (ad 13), .int p0] (zP D Rs ad (gS ks ad np ng G MI MJ XI XJ)) (some (.int v)) (zP D Rs ad (gS ks ad np ng G MI' MJ' XI' XJ')) (zA Rs ad sz)) : zMY l yL_run cL_run 4 [(0, 9, 12, 13), (0, 9, 15, 15)] (fr + 1) (8 + (5 + 11) + lo) mc ms D ks sz [.ref (ad 13), .int p0, .ref (ad 12)] (zP D Rs ad (gS ks ad np ng G MI MJ XI XJ)) 0 (zP D Rs ad (gS ks ad np ng G MI' (u2 MJ' 3 0 (Int32.toInt64 v)) XI' XJ')) (zA Rs ad sz) := by
  refine zMY.of (by decide +kernel) (Nat.le_of_ble_eq_true rfl) ?_
  intro p e s m below meth c ls hx hb hr hml hown hlk hT htb hsz hP hX hl
  have hK := hX.1
  subst hsz
  have hD := hD0.self (sz := s.heap.size)
  have hA : ∀ q : Nat, s.heap.size ≤ q → zA Rs ad s.heap.size q := fun q h => Or.inr h
  have hS : va_S (zA Rs ad s.heap.size) s.heap s.heap [] := va_S.rf
  have hl : lv_has ls 4 [(0, .ref (ad 13)), (1, .int p0), (2, .ref (ad 12))] := hl
  refine lv_aload_n hx hb dL_run_0 rfl (lv_at hl 2 rfl) ?_
  refine lv_iconst (v := nI 0) hx hb dL_run_1 (by decide) ?_
  refine lv_aload_n hx hb dL_run_2 rfl (lv_at hl 0 rfl) ?_
  refine lv_iload_n hx hb dL_run_3 rfl (lv_at hl 1 rfl) ?_
  refine z_backW1 (z_runV ⟨hx, hb, hml, hown, hT⟩ (rest := [.int (nI 0), .ref (ad 12)]) (As := [.int p0]) hM k_L_34 (z_preWV hK hP (hP.at (hI.1 13 (by decide)) rfl) rfl) rfl ⟨Nat.le_refl _, Nat.le_refl _⟩ hl.1 rfl (Nat.le_of_ble_eq_true rfl) dL_run_4 ⟨by simp [zRm], by simp [zRm]⟩) hS (fun _ h => h) (fun H locs hP hz hk2 hS => ?_)
  refine lv_i2l (v := Int32.toInt64 v) hx hb dL_run_7 rfl ?_
  refine as_12N (j := 0) hx hb hK hP hD hS (hI.1 12 (by decide)) (by decide) dL_run_8 (fun H locs hP hS => ?_)
  refine lv_goto (tgt := 18) hx hb dL_run_9 (by decide) ?_
  refine lv_iconst (v := 0) hx hb dL_run_18 (by decide) ?_
  exact zW_i hx hb hr hlk hS (by simp) (by simp) dL_run_19 rfl hP
set_option maxHeartbeats 4000000 in
set_option maxRecDepth 100000 in
theorem w_run_x1 (l : Launch) (hD0 : zD (fun _ => True) Rs ad) (hI : zIn Rs np ng) {p0 : Int32} {fr lo : Nat} (hM : zMX l yX3_run cX3_run 5 (some .int) fr lo D ks [.ref (ad 13), .int p0] (zP D Rs ad (gS ks ad np ng G MI MJ XI XJ)) "java/lang/IllegalArgumentException") (sz : Nat) : zMY l yL_run cL_run 4 [(0, 9, 12, 13), (0, 9, 15, 15)] (fr + 1) (8 + (5 + 11) + lo) 1 6 D ks sz [.ref (ad 13), .int p0, .ref (ad 12)] (zP D Rs ad (gS ks ad np ng G MI MJ XI XJ)) 1 (zP D Rs ad (gS ks ad np ng G MI MJ XI XJ)) (zA Rs ad sz) := by
  refine zMY.of (by decide +kernel) (Nat.le_of_ble_eq_true rfl) ?_
  intro p e s m below meth c ls hx hb hr hml hown hlk hT htb hsz hP hX hl
  have hK := hX.1
  subst hsz
  have hD := hD0.self (sz := s.heap.size)
  have hA : ∀ q : Nat, s.heap.size ≤ q → zA Rs ad s.heap.size q := fun q h => Or.inr h
  have hS : va_S (zA Rs ad s.heap.size) s.heap s.heap [] := va_S.rf
  have hl : lv_has ls 4 [(0, .ref (ad 13)), (1, .int p0), (2, .ref (ad 12))] := hl
  refine lv_aload_n hx hb dL_run_0 rfl (lv_at hl 2 rfl) ?_
  refine lv_iconst (v := nI 0) hx hb dL_run_1 (by decide) ?_
  refine lv_aload_n hx hb dL_run_2 rfl (lv_at hl 0 rfl) ?_
  refine lv_iload_n hx hb dL_run_3 rfl (lv_at hl 1 rfl) ?_
  refine z_caught (E := "java/lang/IllegalArgumentException") (z_runXV ⟨hx, hb, hml, hown, hT⟩ (rest := [.int (nI 0), .ref (ad 12)]) (As := [.int p0]) hM k_L_34 (z_preXV hX hP (hP.at (hI.1 13 (by decide)) rfl) rfl) rfl ⟨Nat.le_refl _, Nat.le_refl _⟩ hl.1 rfl (Nat.le_of_ble_eq_true rfl) dL_run_4 ⟨Nat.le_of_ble_eq_true rfl, Nat.le_of_ble_eq_true rfl⟩) (fun ce q9 H1 hz hk hce hcv hcl => ?_)
  refine vx_catch (name := "java/lang/IllegalArgumentException") hown [] ⟨0, 9, 12, 13⟩ [⟨0, 9, 15, 15⟩] (htb.trans rfl) (fun z hz => nomatch hz) rfl (by decide) (hT _ cl_L_13) (va_Nw.use rfl hX.2.1.2.1.1) hce hcv hcl ?_
  refine lv_astore_n (lv' := [(3, .ref q9), (0, .ref (ad 13)), (1, .int p0), (2, .ref (ad 12))]) hx hb dL_run_12 rfl hl (by decide) rfl (fun ls hl => ?_)
  refine lv_iconst (v := 1) hx hb dL_run_13 (by decide) ?_
  exact zW_i hx hb hr hlk ⟨hz, fun q h _ => hk q h, fun _ h => nomatch h⟩ (Nat.le_of_ble_eq_true rfl) (Nat.le_of_ble_eq_true rfl) dL_run_14 rfl (fun r hr => (hP r hr).kept (hk _ (hP.lt hr)))
set_option maxHeartbeats 4000000 in
set_option maxRecDepth 100000 in
theorem w_run_x2 (l : Launch) (hD0 : zD (fun _ => True) Rs ad) (hI : zIn Rs np ng) {p0 : Int32} {fr lo : Nat} (hM : zMX l yX3_run cX3_run 5 (some .int) fr lo D ks [.ref (ad 13), .int p0] (zP D Rs ad (gS ks ad np ng G MI MJ XI XJ)) "java/lang/IllegalStateException") (sz : Nat) : zMY l yL_run cL_run 4 [(0, 9, 12, 13), (0, 9, 15, 15)] (fr + 1) (8 + (5 + 11) + lo) 1 6 D ks sz [.ref (ad 13), .int p0, .ref (ad 12)] (zP D Rs ad (gS ks ad np ng G MI MJ XI XJ)) 2 (zP D Rs ad (gS ks ad np ng G MI MJ XI XJ)) (zA Rs ad sz) := by
  refine zMY.of (by decide +kernel) (Nat.le_of_ble_eq_true rfl) ?_
  intro p e s m below meth c ls hx hb hr hml hown hlk hT htb hsz hP hX hl
  have hK := hX.1
  subst hsz
  have hD := hD0.self (sz := s.heap.size)
  have hA : ∀ q : Nat, s.heap.size ≤ q → zA Rs ad s.heap.size q := fun q h => Or.inr h
  have hS : va_S (zA Rs ad s.heap.size) s.heap s.heap [] := va_S.rf
  have hl : lv_has ls 4 [(0, .ref (ad 13)), (1, .int p0), (2, .ref (ad 12))] := hl
  refine lv_aload_n hx hb dL_run_0 rfl (lv_at hl 2 rfl) ?_
  refine lv_iconst (v := nI 0) hx hb dL_run_1 (by decide) ?_
  refine lv_aload_n hx hb dL_run_2 rfl (lv_at hl 0 rfl) ?_
  refine lv_iload_n hx hb dL_run_3 rfl (lv_at hl 1 rfl) ?_
  refine z_caught (E := "java/lang/IllegalStateException") (z_runXV ⟨hx, hb, hml, hown, hT⟩ (rest := [.int (nI 0), .ref (ad 12)]) (As := [.int p0]) hM k_L_34 (z_preXV hX hP (hP.at (hI.1 13 (by decide)) rfl) rfl) rfl ⟨Nat.le_refl _, Nat.le_refl _⟩ hl.1 rfl (Nat.le_of_ble_eq_true rfl) dL_run_4 ⟨Nat.le_of_ble_eq_true rfl, Nat.le_of_ble_eq_true rfl⟩) (fun ce q9 H1 hz hk hce hcv hcl => ?_)
  refine vx_catch (name := "java/lang/IllegalStateException") hown [⟨0, 9, 12, 13⟩] ⟨0, 9, 15, 15⟩ [] (htb.trans rfl) (fun z hz => by rcases List.mem_singleton.mp hz with rfl; exact Or.inr ⟨by decide, _, hT _ cl_L_13, hX.2.1.2.2.1.1⟩) rfl (by decide) (hT _ cl_L_15) (va_Nw.use rfl hX.2.1.2.1.2.1) hce hcv hcl ?_
  refine lv_astore_n (lv' := [(3, .ref q9), (0, .ref (ad 13)), (1, .int p0), (2, .ref (ad 12))]) hx hb dL_run_15 rfl hl (by decide) rfl (fun ls hl => ?_)
  refine lv_iconst (v := 2) hx hb dL_run_16 (by decide) ?_
  exact zW_i hx hb hr hlk ⟨hz, fun q h _ => hk q h, fun _ h => nomatch h⟩ (Nat.le_of_ble_eq_true rfl) (Nat.le_of_ble_eq_true rfl) dL_run_17 rfl (fun r hr => (hP r hr).kept (hk _ (hP.lt hr)))
set_option maxHeartbeats 4000000 in
set_option maxRecDepth 100000 in
theorem w_begin (l : Launch) (hD0 : zD (fun _ => True) Rs ad) (hI : zIn Rs np ng) {p0 p1 p2 : Int32} {v : Int32} {fr lo mc ms np' ng' : Nat} {G' : Nat → Nat} {MI' : Nat → Nat → Int32} {MJ' : Nat → Nat → Int64} {XI' : Nat → Nat → Int32} {XJ' : Nat → Nat → Int64} (sz : Nat) (hM : zMW l yX3_begin cX3_begin 5 (some .int) fr lo mc ms D ks sz [.ref (ad 13), .int p0, .int p1, .int p2] (zP D Rs ad (gS ks ad np ng G MI MJ XI XJ)) (some (.int v)) (bW D ks ad Rs sz np' ng' G' MI' MJ' XI' XJ') (zA Rs ad sz)) : zMY l yL_begin cL_begin 6 [(0, 12, 15, 13), (0, 12, 19, 15)] (fr + 1) (8 + (5 + 11) + lo) mc ms D ks sz [.ref (ad 13), .int p0, .int p1, .int p2, .ref (ad 12)] (zP D Rs ad (gS ks ad np ng G MI MJ XI XJ)) 0 (bW D ks ad Rs sz np' ng' G' MI' (u2 MJ' 3 0 (Int32.toInt64 v)) XI' XJ') (zA Rs ad sz) := by
  refine zMY.of (by decide +kernel) (Nat.le_of_ble_eq_true rfl) ?_
  intro p e s m below meth c ls hx hb hr hml hown hlk hT htb hsz hP hX hl
  have hK := hX.1
  subst hsz
  have hD := hD0.self (sz := s.heap.size)
  have hA : ∀ q : Nat, s.heap.size ≤ q → zA Rs ad s.heap.size q := fun q h => Or.inr h
  have hS : va_S (zA Rs ad s.heap.size) s.heap s.heap [] := va_S.rf
  have hl : lv_has ls 6 [(0, .ref (ad 13)), (1, .int p0), (2, .int p1), (3, .int p2), (4, .ref (ad 12))] := hl
  refine lv_aload hx hb dL_begin_0 (lv_at hl 4 rfl) ?_
  refine lv_iconst (v := nI 0) hx hb dL_begin_2 (by decide) ?_
  refine lv_aload_n hx hb dL_begin_3 rfl (lv_at hl 0 rfl) ?_
  refine lv_iload_n hx hb dL_begin_4 rfl (lv_at hl 1 rfl) ?_
  refine lv_iload_n hx hb dL_begin_5 rfl (lv_at hl 2 rfl) ?_
  refine lv_iload_n hx hb dL_begin_6 rfl (lv_at hl 3 rfl) ?_
  refine z_backW1 (z_runV ⟨hx, hb, hml, hown, hT⟩ (rest := [.int (nI 0), .ref (ad 12)]) (As := [.int p0, .int p1, .int p2]) hM k_L_7 (z_preWV hK hP (hP.at (hI.1 13 (by decide)) rfl) rfl) rfl ⟨Nat.le_refl _, Nat.le_refl _⟩ hl.1 rfl (Nat.le_of_ble_eq_true rfl) dL_begin_7 ⟨by simp [zRm], by simp [zRm]⟩) hS (fun _ h => h) (fun H locs hB hz hk2 hS => ?_)
  obtain ⟨ad2, Rs2, hr2, hI2, hall2, hD2, hP⟩ := hB
  rw [← (hr2 12 (hI.1 12 (by decide))).2]
  refine lv_i2l (v := Int32.toInt64 v) hx hb dL_begin_10 rfl ?_
  refine as_12N (j := 0) hx hb hK hP hD2 hS (hI2.1 12 (by decide)) (by decide) dL_begin_11 (fun H locs hP hS => ?_)
  refine lv_goto (tgt := 23) hx hb dL_begin_12 (by decide) ?_
  refine lv_iconst (v := 0) hx hb dL_begin_23 (by decide) ?_
  exact zW_i hx hb hr hlk hS (by simp) (by simp) dL_begin_24 rfl ⟨ad2, Rs2, hr2, hI2, hall2, hD2, hP⟩
set_option maxHeartbeats 4000000 in
set_option maxRecDepth 100000 in
theorem w_begin_x1 (l : Launch) (hD0 : zD (fun _ => True) Rs ad) (hI : zIn Rs np ng) {p0 p1 p2 : Int32} {fr lo : Nat} (hM : zMX l yX3_begin cX3_begin 5 (some .int) fr lo D ks [.ref (ad 13), .int p0, .int p1, .int p2] (zP D Rs ad (gS ks ad np ng G MI MJ XI XJ)) "java/lang/IllegalArgumentException") (sz : Nat) : zMY l yL_begin cL_begin 6 [(0, 12, 15, 13), (0, 12, 19, 15)] (fr + 1) (8 + (5 + 11) + lo) 1 6 D ks sz [.ref (ad 13), .int p0, .int p1, .int p2, .ref (ad 12)] (zP D Rs ad (gS ks ad np ng G MI MJ XI XJ)) 1 (zP D Rs ad (gS ks ad np ng G MI MJ XI XJ)) (zA Rs ad sz) := by
  refine zMY.of (by decide +kernel) (Nat.le_of_ble_eq_true rfl) ?_
  intro p e s m below meth c ls hx hb hr hml hown hlk hT htb hsz hP hX hl
  have hK := hX.1
  subst hsz
  have hD := hD0.self (sz := s.heap.size)
  have hA : ∀ q : Nat, s.heap.size ≤ q → zA Rs ad s.heap.size q := fun q h => Or.inr h
  have hS : va_S (zA Rs ad s.heap.size) s.heap s.heap [] := va_S.rf
  have hl : lv_has ls 6 [(0, .ref (ad 13)), (1, .int p0), (2, .int p1), (3, .int p2), (4, .ref (ad 12))] := hl
  refine lv_aload hx hb dL_begin_0 (lv_at hl 4 rfl) ?_
  refine lv_iconst (v := nI 0) hx hb dL_begin_2 (by decide) ?_
  refine lv_aload_n hx hb dL_begin_3 rfl (lv_at hl 0 rfl) ?_
  refine lv_iload_n hx hb dL_begin_4 rfl (lv_at hl 1 rfl) ?_
  refine lv_iload_n hx hb dL_begin_5 rfl (lv_at hl 2 rfl) ?_
  refine lv_iload_n hx hb dL_begin_6 rfl (lv_at hl 3 rfl) ?_
  refine z_caught (E := "java/lang/IllegalArgumentException") (z_runXV ⟨hx, hb, hml, hown, hT⟩ (rest := [.int (nI 0), .ref (ad 12)]) (As := [.int p0, .int p1, .int p2]) hM k_L_7 (z_preXV hX hP (hP.at (hI.1 13 (by decide)) rfl) rfl) rfl ⟨Nat.le_refl _, Nat.le_refl _⟩ hl.1 rfl (Nat.le_of_ble_eq_true rfl) dL_begin_7 ⟨Nat.le_of_ble_eq_true rfl, Nat.le_of_ble_eq_true rfl⟩) (fun ce q9 H1 hz hk hce hcv hcl => ?_)
  refine vx_catch (name := "java/lang/IllegalArgumentException") hown [] ⟨0, 12, 15, 13⟩ [⟨0, 12, 19, 15⟩] (htb.trans rfl) (fun z hz => nomatch hz) rfl (by decide) (hT _ cl_L_13) (va_Nw.use rfl hX.2.1.2.1.1) hce hcv hcl ?_
  refine lv_astore (lv' := [(5, .ref q9), (0, .ref (ad 13)), (1, .int p0), (2, .int p1), (3, .int p2), (4, .ref (ad 12))]) hx hb dL_begin_15 hl (by decide) rfl (fun ls hl => ?_)
  refine lv_iconst (v := 1) hx hb dL_begin_17 (by decide) ?_
  exact zW_i hx hb hr hlk ⟨hz, fun q h _ => hk q h, fun _ h => nomatch h⟩ (Nat.le_of_ble_eq_true rfl) (Nat.le_of_ble_eq_true rfl) dL_begin_18 rfl (fun r hr => (hP r hr).kept (hk _ (hP.lt hr)))
set_option maxHeartbeats 4000000 in
set_option maxRecDepth 100000 in
theorem w_begin_x2 (l : Launch) (hD0 : zD (fun _ => True) Rs ad) (hI : zIn Rs np ng) {p0 p1 p2 : Int32} {fr lo : Nat} (hM : zMX l yX3_begin cX3_begin 5 (some .int) fr lo D ks [.ref (ad 13), .int p0, .int p1, .int p2] (zP D Rs ad (gS ks ad np ng G MI MJ XI XJ)) "java/lang/IllegalStateException") (sz : Nat) : zMY l yL_begin cL_begin 6 [(0, 12, 15, 13), (0, 12, 19, 15)] (fr + 1) (8 + (5 + 11) + lo) 1 6 D ks sz [.ref (ad 13), .int p0, .int p1, .int p2, .ref (ad 12)] (zP D Rs ad (gS ks ad np ng G MI MJ XI XJ)) 2 (zP D Rs ad (gS ks ad np ng G MI MJ XI XJ)) (zA Rs ad sz) := by
  refine zMY.of (by decide +kernel) (Nat.le_of_ble_eq_true rfl) ?_
  intro p e s m below meth c ls hx hb hr hml hown hlk hT htb hsz hP hX hl
  have hK := hX.1
  subst hsz
  have hD := hD0.self (sz := s.heap.size)
  have hA : ∀ q : Nat, s.heap.size ≤ q → zA Rs ad s.heap.size q := fun q h => Or.inr h
  have hS : va_S (zA Rs ad s.heap.size) s.heap s.heap [] := va_S.rf
  have hl : lv_has ls 6 [(0, .ref (ad 13)), (1, .int p0), (2, .int p1), (3, .int p2), (4, .ref (ad 12))] := hl
  refine lv_aload hx hb dL_begin_0 (lv_at hl 4 rfl) ?_
  refine lv_iconst (v := nI 0) hx hb dL_begin_2 (by decide) ?_
  refine lv_aload_n hx hb dL_begin_3 rfl (lv_at hl 0 rfl) ?_
  refine lv_iload_n hx hb dL_begin_4 rfl (lv_at hl 1 rfl) ?_
  refine lv_iload_n hx hb dL_begin_5 rfl (lv_at hl 2 rfl) ?_
  refine lv_iload_n hx hb dL_begin_6 rfl (lv_at hl 3 rfl) ?_
  refine z_caught (E := "java/lang/IllegalStateException") (z_runXV ⟨hx, hb, hml, hown, hT⟩ (rest := [.int (nI 0), .ref (ad 12)]) (As := [.int p0, .int p1, .int p2]) hM k_L_7 (z_preXV hX hP (hP.at (hI.1 13 (by decide)) rfl) rfl) rfl ⟨Nat.le_refl _, Nat.le_refl _⟩ hl.1 rfl (Nat.le_of_ble_eq_true rfl) dL_begin_7 ⟨Nat.le_of_ble_eq_true rfl, Nat.le_of_ble_eq_true rfl⟩) (fun ce q9 H1 hz hk hce hcv hcl => ?_)
  refine vx_catch (name := "java/lang/IllegalStateException") hown [⟨0, 12, 15, 13⟩] ⟨0, 12, 19, 15⟩ [] (htb.trans rfl) (fun z hz => by rcases List.mem_singleton.mp hz with rfl; exact Or.inr ⟨by decide, _, hT _ cl_L_13, hX.2.1.2.2.1.1⟩) rfl (by decide) (hT _ cl_L_15) (va_Nw.use rfl hX.2.1.2.1.2.1) hce hcv hcl ?_
  refine lv_astore (lv' := [(5, .ref q9), (0, .ref (ad 13)), (1, .int p0), (2, .int p1), (3, .int p2), (4, .ref (ad 12))]) hx hb dL_begin_19 hl (by decide) rfl (fun ls hl => ?_)
  refine lv_iconst (v := 2) hx hb dL_begin_21 (by decide) ?_
  exact zW_i hx hb hr hlk ⟨hz, fun q h _ => hk q h, fun _ h => nomatch h⟩ (Nat.le_of_ble_eq_true rfl) (Nat.le_of_ble_eq_true rfl) dL_begin_22 rfl (fun r hr => (hP r hr).kept (hk _ (hP.lt hr)))
end ZLW
